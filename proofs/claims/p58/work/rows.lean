section
-- ===== PART A: goes FIRST, ahead of the names: the tables' words, and 'selects' of the private methods out of them =====
/-- a private method of a class that the tables say can be made, by its rows of tables_1 -/
def lw_okq (q : MethodName × Nat) : Prop := (q.1.cls ≠ "java/lang/invoke/MethodHandle" ∧ q.1.cls ≠ "java/lang/invoke/VarHandle") ∧ Cond.instantiable q.1.cls q.2 ∈ tables_1 ∧ Cond.privateMethod q.1 ∈ tables_1 ∧ Cond.instanceMethod q.1 ∈ tables_1
theorem lw_p0 : lw_okq (⟨"ProphecyShop", "openShop", "()I"⟩, 13) := ⟨⟨by decide +kernel, by decide +kernel⟩, List.mem_of_getElem? (i := 35) (by decide +kernel), List.mem_of_getElem? (i := 450) (by decide +kernel), List.mem_of_getElem? (i := 451) (by decide +kernel)⟩
theorem lw_p1 : lw_okq (⟨"ProphecyShop$SetupReader", "readShop", "(LProphecyShop$Setup;)V"⟩, 6) := ⟨⟨by decide +kernel, by decide +kernel⟩, List.mem_of_getElem? (i := 57) (by decide +kernel), List.mem_of_getElem? (i := 486) (by decide +kernel), List.mem_of_getElem? (i := 487) (by decide +kernel)⟩
theorem lw_p2 : lw_okq (⟨"ProphecyShop$SetupReader", "readNames", "(Ljava/lang/String;LProphecyShop$Names;)V"⟩, 6) := ⟨⟨by decide +kernel, by decide +kernel⟩, List.mem_of_getElem? (i := 57) (by decide +kernel), List.mem_of_getElem? (i := 538) (by decide +kernel), List.mem_of_getElem? (i := 539) (by decide +kernel)⟩
theorem lw_p3 : lw_okq (⟨"ProphecyShop$SetupReader", "readCustomers", "(LProphecyShop$Setup;)V"⟩, 6) := ⟨⟨by decide +kernel, by decide +kernel⟩, List.mem_of_getElem? (i := 57) (by decide +kernel), List.mem_of_getElem? (i := 579) (by decide +kernel), List.mem_of_getElem? (i := 580) (by decide +kernel)⟩
theorem lw_p4 : lw_okq (⟨"ProphecyShop$SetupReader", "readOwls", "(LProphecyShop$Setup;)V"⟩, 6) := ⟨⟨by decide +kernel, by decide +kernel⟩, List.mem_of_getElem? (i := 57) (by decide +kernel), List.mem_of_getElem? (i := 589) (by decide +kernel), List.mem_of_getElem? (i := 590) (by decide +kernel)⟩
theorem lw_p5 : lw_okq (⟨"java/lang/Throwable", "fillInStackTrace", "(I)Ljava/lang/Throwable;"⟩, 6) := ⟨⟨by decide +kernel, by decide +kernel⟩, List.mem_of_getElem? (i := 713) (by decide +kernel), List.mem_of_getElem? (i := 711) (by decide +kernel), List.mem_of_getElem? (i := 712) (by decide +kernel)⟩
theorem lw_p6 : lw_okq (⟨"ProphecyShop", "prophecyWith", "(I)LProphecyShop$Prophecy;"⟩, 13) := ⟨⟨by decide +kernel, by decide +kernel⟩, List.mem_of_getElem? (i := 35) (by decide +kernel), List.mem_of_getElem? (i := 1164) (by decide +kernel), List.mem_of_getElem? (i := 1165) (by decide +kernel)⟩
theorem lw_p7 : lw_okq (⟨"ProphecyShop$Shop", "decideOverdue", "()V"⟩, 15) := ⟨⟨by decide +kernel, by decide +kernel⟩, List.mem_of_getElem? (i := 237) (by decide +kernel), List.mem_of_getElem? (i := 1510) (by decide +kernel), List.mem_of_getElem? (i := 1511) (by decide +kernel)⟩
theorem lw_p8 : lw_okq (⟨"ProphecyShop$Shop", "moveOwls", "()V"⟩, 15) := ⟨⟨by decide +kernel, by decide +kernel⟩, List.mem_of_getElem? (i := 237) (by decide +kernel), List.mem_of_getElem? (i := 1518) (by decide +kernel), List.mem_of_getElem? (i := 1519) (by decide +kernel)⟩
theorem lw_p9 : lw_okq (⟨"ProphecyShop$Shop", "addCoins", "(II)V"⟩, 15) := ⟨⟨by decide +kernel, by decide +kernel⟩, List.mem_of_getElem? (i := 237) (by decide +kernel), List.mem_of_getElem? (i := 1530) (by decide +kernel), List.mem_of_getElem? (i := 1531) (by decide +kernel)⟩
theorem lw_p10 : lw_okq (⟨"ProphecyShop$Shop", "handleFirstRequest", "()Z"⟩, 15) := ⟨⟨by decide +kernel, by decide +kernel⟩, List.mem_of_getElem? (i := 237) (by decide +kernel), List.mem_of_getElem? (i := 1534) (by decide +kernel), List.mem_of_getElem? (i := 1535) (by decide +kernel)⟩
theorem lw_p11 : lw_okq (⟨"ProphecyShop$Shop", "firstIdleOwl", "()I"⟩, 15) := ⟨⟨by decide +kernel, by decide +kernel⟩, List.mem_of_getElem? (i := 237) (by decide +kernel), List.mem_of_getElem? (i := 1541) (by decide +kernel), List.mem_of_getElem? (i := 1542) (by decide +kernel)⟩
theorem lw_p12 : lw_okq (⟨"ProphecyShop$Shop", "pay", "(LProphecyShop$Prophecy;I)V"⟩, 15) := ⟨⟨by decide +kernel, by decide +kernel⟩, List.mem_of_getElem? (i := 237) (by decide +kernel), List.mem_of_getElem? (i := 1546) (by decide +kernel), List.mem_of_getElem? (i := 1547) (by decide +kernel)⟩
theorem lw_p13 : lw_okq (⟨"ProphecyShop$Shop", "removeFirstRequest", "()V"⟩, 15) := ⟨⟨by decide +kernel, by decide +kernel⟩, List.mem_of_getElem? (i := 237) (by decide +kernel), List.mem_of_getElem? (i := 1558) (by decide +kernel), List.mem_of_getElem? (i := 1559) (by decide +kernel)⟩
theorem lw_p14 : lw_okq (⟨"ProphecyShop", "sellAny", "(IIIIIII)I"⟩, 13) := ⟨⟨by decide +kernel, by decide +kernel⟩, List.mem_of_getElem? (i := 35) (by decide +kernel), List.mem_of_getElem? (i := 1585) (by decide +kernel), List.mem_of_getElem? (i := 1586) (by decide +kernel)⟩
theorem lw_p15 : lw_okq (⟨"ProphecyShop$History", "forgetOldest", "()V"⟩, 2) := ⟨⟨by decide +kernel, by decide +kernel⟩, List.mem_of_getElem? (i := 379) (by decide +kernel), List.mem_of_getElem? (i := 1605) (by decide +kernel), List.mem_of_getElem? (i := 1606) (by decide +kernel)⟩
def lw_privs_1 : List (MethodName × Nat) := [(⟨"ProphecyShop", "openShop", "()I"⟩, 13), (⟨"ProphecyShop$SetupReader", "readShop", "(LProphecyShop$Setup;)V"⟩, 6), (⟨"ProphecyShop$SetupReader", "readNames", "(Ljava/lang/String;LProphecyShop$Names;)V"⟩, 6), (⟨"ProphecyShop$SetupReader", "readCustomers", "(LProphecyShop$Setup;)V"⟩, 6), (⟨"ProphecyShop$SetupReader", "readOwls", "(LProphecyShop$Setup;)V"⟩, 6), (⟨"java/lang/Throwable", "fillInStackTrace", "(I)Ljava/lang/Throwable;"⟩, 6), (⟨"ProphecyShop", "prophecyWith", "(I)LProphecyShop$Prophecy;"⟩, 13), (⟨"ProphecyShop$Shop", "decideOverdue", "()V"⟩, 15), (⟨"ProphecyShop$Shop", "moveOwls", "()V"⟩, 15), (⟨"ProphecyShop$Shop", "addCoins", "(II)V"⟩, 15), (⟨"ProphecyShop$Shop", "handleFirstRequest", "()Z"⟩, 15), (⟨"ProphecyShop$Shop", "firstIdleOwl", "()I"⟩, 15), (⟨"ProphecyShop$Shop", "pay", "(LProphecyShop$Prophecy;I)V"⟩, 15), (⟨"ProphecyShop$Shop", "removeFirstRequest", "()V"⟩, 15), (⟨"ProphecyShop", "sellAny", "(IIIIIII)I"⟩, 13), (⟨"ProphecyShop$History", "forgetOldest", "()V"⟩, 2)]
theorem lw_r1 : ∀ q ∈ lw_privs_1, lw_okq q := List.forall_mem_cons.mpr ⟨lw_p0, List.forall_mem_cons.mpr ⟨lw_p1, List.forall_mem_cons.mpr ⟨lw_p2, List.forall_mem_cons.mpr ⟨lw_p3, List.forall_mem_cons.mpr ⟨lw_p4, List.forall_mem_cons.mpr ⟨lw_p5, List.forall_mem_cons.mpr ⟨lw_p6, List.forall_mem_cons.mpr ⟨lw_p7, List.forall_mem_cons.mpr ⟨lw_p8, List.forall_mem_cons.mpr ⟨lw_p9, List.forall_mem_cons.mpr ⟨lw_p10, List.forall_mem_cons.mpr ⟨lw_p11, List.forall_mem_cons.mpr ⟨lw_p12, List.forall_mem_cons.mpr ⟨lw_p13, List.forall_mem_cons.mpr ⟨lw_p14, List.forall_mem_cons.mpr ⟨lw_p15, fun _ h => absurd h List.not_mem_nil⟩⟩⟩⟩⟩⟩⟩⟩⟩⟩⟩⟩⟩⟩⟩⟩
def lw_privs : List (MethodName × Nat) := lw_privs_1
def lw_tbl : List Cond := k2_sels lw_privs ++ tables_1
theorem lw_privs_ok : ∀ q ∈ lw_privs, lw_okq q := lw_r1
/-- the streams that the claim lets the run draw from -/
abbrev lw_cs : List Choice := [Jvm.Choice.named "NaN.bits"]
theorem lw_bits : nanBits ∈ lw_cs := by first | decide | exact List.mem_cons_self | simp [lw_cs, nanBits]

def RX0 : String := "ProphecyShop$History"
def TX0 : u_T := fun k => match k with
  | 0 => ("ProphecyShop$History", "before", "[LProphecyShop$Shop;", true)
  | _ => ("ProphecyShop$History", "count", "I", false)
def tyX0 : Nat → FieldType := fun k => match k with
  | 0 => .array (.object "ProphecyShop$Shop")
  | _ => .int
theorem nmX0 : ∀ a, a < 2 → ∀ b, b < 2 → a ≠ b → (TX0 a).2.1 ≠ (TX0 b).2.1 := by decide +kernel
theorem tyX0_ok : ∀ k, k < 2 → parseFieldDescriptor (TX0 k).2.2.1 = some (tyX0 k) := by decide +kernel
def RX1 : String := "ProphecyShop$Names"
def TX1 : u_T := fun k => match k with
  | 0 => ("ProphecyShop$Names", "codes", "[I", true)
  | _ => ("ProphecyShop$Names", "count", "I", false)
def tyX1 : Nat → FieldType := fun k => match k with
  | 0 => .array .int
  | _ => .int
theorem nmX1 : ∀ a, a < 2 → ∀ b, b < 2 → a ≠ b → (TX1 a).2.1 ≠ (TX1 b).2.1 := by decide +kernel
theorem tyX1_ok : ∀ k, k < 2 → parseFieldDescriptor (TX1 k).2.2.1 = some (tyX1 k) := by decide +kernel
def RX2 : String := "ProphecyShop$Owl"
def TX2 : u_T := fun k => match k with
  | 0 => ("ProphecyShop$Owl", "days", "I", false)
  | 1 => ("ProphecyShop$Owl", "coins", "I", false)
  | 2 => ("ProphecyShop$Owl", "customer", "I", false)
  | 3 => ("ProphecyShop$Owl", "flight", "I", false)
  | _ => ("ProphecyShop$Owl", "outward", "Z", false)
def tyX2 : Nat → FieldType := fun k => match k with
  | 0 => .int
  | 1 => .int
  | 2 => .int
  | 3 => .int
  | _ => .boolean
theorem nmX2 : ∀ a, a < 5 → ∀ b, b < 5 → a ≠ b → (TX2 a).2.1 ≠ (TX2 b).2.1 := by decide +kernel
theorem tyX2_ok : ∀ k, k < 5 → parseFieldDescriptor (TX2 k).2.2.1 = some (tyX2 k) := by decide +kernel
def RX3 : String := "ProphecyShop$Prophecy"
def TX3 : u_T := fun k => match k with
  | 0 => ("ProphecyShop$Prophecy", "customer", "I", false)
  | 1 => ("ProphecyShop$Prophecy", "kind", "I", false)
  | 2 => ("ProphecyShop$Prophecy", "event", "I", false)
  | 3 => ("ProphecyShop$Prophecy", "place", "I", false)
  | 4 => ("ProphecyShop$Prophecy", "first", "I", false)
  | 5 => ("ProphecyShop$Prophecy", "last", "I", false)
  | 6 => ("ProphecyShop$Prophecy", "price", "I", false)
  | 7 => ("ProphecyShop$Prophecy", "state", "I", false)
  | 8 => ("ProphecyShop$Prophecy", "decided", "I", false)
  | _ => ("ProphecyShop$Prophecy", "answer", "I", false)
def tyX3 : Nat → FieldType := fun k => match k with
  | 0 => .int
  | 1 => .int
  | 2 => .int
  | 3 => .int
  | 4 => .int
  | 5 => .int
  | 6 => .int
  | 7 => .int
  | 8 => .int
  | _ => .int
theorem nmX3 : ∀ a, a < 10 → ∀ b, b < 10 → a ≠ b → (TX3 a).2.1 ≠ (TX3 b).2.1 := by decide +kernel
theorem tyX3_ok : ∀ k, k < 10 → parseFieldDescriptor (TX3 k).2.2.1 = some (tyX3 k) := by decide +kernel
def RX5 : String := "ProphecyShop$Script"
def TX5 : u_T := fun k => match k with
  | 0 => ("ProphecyShop$Reader", "text", "LProphecyShop$Text;", true)
  | 1 => ("ProphecyShop$Reader", "kind", "I", false)
  | 2 => ("ProphecyShop$Reader", "start", "I", false)
  | 3 => ("ProphecyShop$Reader", "end", "I", false)
  | 4 => ("ProphecyShop$Reader", "error", "I", false)
  | 5 => ("ProphecyShop$Reader", "errorPosition", "I", false)
  | 6 => ("ProphecyShop$Script", "steps", "[LProphecyShop$Step;", true)
  | 7 => ("ProphecyShop$Script", "stepCount", "I", false)
  | 8 => ("ProphecyShop$Script", "commandCount", "I", false)
  | 9 => ("ProphecyShop$Script", "openRepeats", "[I", true)
  | _ => ("ProphecyShop$Script", "depth", "I", false)
def tyX5 : Nat → FieldType := fun k => match k with
  | 0 => .object "ProphecyShop$Text"
  | 1 => .int
  | 2 => .int
  | 3 => .int
  | 4 => .int
  | 5 => .int
  | 6 => .array (.object "ProphecyShop$Step")
  | 7 => .int
  | 8 => .int
  | 9 => .array .int
  | _ => .int
theorem nmX5 : ∀ a, a < 11 → ∀ b, b < 11 → a ≠ b → (TX5 a).2.1 ≠ (TX5 b).2.1 := by decide +kernel
theorem tyX5_ok : ∀ k, k < 11 → parseFieldDescriptor (TX5 k).2.2.1 = some (tyX5 k) := by decide +kernel
def RX6 : String := "ProphecyShop$Setup"
def TX6 : u_T := fun k => match k with
  | 0 => ("ProphecyShop$Setup", "cash", "I", false)
  | 1 => ("ProphecyShop$Setup", "rate", "I", false)
  | 2 => ("ProphecyShop$Setup", "grace", "I", false)
  | 3 => ("ProphecyShop$Setup", "percentage", "I", false)
  | 4 => ("ProphecyShop$Setup", "vaguePercentage", "I", false)
  | 5 => ("ProphecyShop$Setup", "events", "LProphecyShop$Names;", true)
  | 6 => ("ProphecyShop$Setup", "places", "LProphecyShop$Names;", true)
  | 7 => ("ProphecyShop$Setup", "customers", "LProphecyShop$Names;", true)
  | 8 => ("ProphecyShop$Setup", "purses", "[I", true)
  | 9 => ("ProphecyShop$Setup", "distances", "[I", true)
  | 10 => ("ProphecyShop$Setup", "speeds", "[I", true)
  | _ => ("ProphecyShop$Setup", "owlCount", "I", false)
def tyX6 : Nat → FieldType := fun k => match k with
  | 0 => .int
  | 1 => .int
  | 2 => .int
  | 3 => .int
  | 4 => .int
  | 5 => .object "ProphecyShop$Names"
  | 6 => .object "ProphecyShop$Names"
  | 7 => .object "ProphecyShop$Names"
  | 8 => .array .int
  | 9 => .array .int
  | 10 => .array .int
  | _ => .int
theorem nmX6 : ∀ a, a < 12 → ∀ b, b < 12 → a ≠ b → (TX6 a).2.1 ≠ (TX6 b).2.1 := by decide +kernel
theorem tyX6_ok : ∀ k, k < 12 → parseFieldDescriptor (TX6 k).2.2.1 = some (tyX6 k) := by decide +kernel
def RX7 : String := "ProphecyShop$SetupReader"
def TX7 : u_T := fun k => match k with
  | 0 => ("ProphecyShop$Reader", "text", "LProphecyShop$Text;", true)
  | 1 => ("ProphecyShop$Reader", "kind", "I", false)
  | 2 => ("ProphecyShop$Reader", "start", "I", false)
  | 3 => ("ProphecyShop$Reader", "end", "I", false)
  | 4 => ("ProphecyShop$Reader", "error", "I", false)
  | _ => ("ProphecyShop$Reader", "errorPosition", "I", false)
def tyX7 : Nat → FieldType := fun k => match k with
  | 0 => .object "ProphecyShop$Text"
  | 1 => .int
  | 2 => .int
  | 3 => .int
  | 4 => .int
  | _ => .int
theorem nmX7 : ∀ a, a < 6 → ∀ b, b < 6 → a ≠ b → (TX7 a).2.1 ≠ (TX7 b).2.1 := by decide +kernel
theorem tyX7_ok : ∀ k, k < 6 → parseFieldDescriptor (TX7 k).2.2.1 = some (tyX7 k) := by decide +kernel
def RX8 : String := "ProphecyShop$Shop"
def TX8 : u_T := fun k => match k with
  | 0 => ("ProphecyShop$Shop", "setup", "LProphecyShop$Setup;", false)
  | 1 => ("ProphecyShop$Shop", "day", "I", false)
  | 2 => ("ProphecyShop$Shop", "cash", "I", false)
  | 3 => ("ProphecyShop$Shop", "purses", "[I", true)
  | 4 => ("ProphecyShop$Shop", "sold", "[LProphecyShop$Prophecy;", true)
  | 5 => ("ProphecyShop$Shop", "soldCount", "I", false)
  | 6 => ("ProphecyShop$Shop", "owls", "[LProphecyShop$Owl;", true)
  | 7 => ("ProphecyShop$Shop", "queue", "[I", true)
  | 8 => ("ProphecyShop$Shop", "waiting", "I", false)
  | 9 => ("ProphecyShop$Shop", "notedEvents", "[I", true)
  | 10 => ("ProphecyShop$Shop", "notedPlaces", "[I", true)
  | 11 => ("ProphecyShop$Shop", "notedDays", "[I", true)
  | 12 => ("ProphecyShop$Shop", "notedCount", "I", false)
  | 13 => ("ProphecyShop$Shop", "handled", "I", false)
  | _ => ("ProphecyShop$Shop", "paidOut", "I", false)
def tyX8 : Nat → FieldType := fun k => match k with
  | 0 => .object "ProphecyShop$Setup"
  | 1 => .int
  | 2 => .int
  | 3 => .array .int
  | 4 => .array (.object "ProphecyShop$Prophecy")
  | 5 => .int
  | 6 => .array (.object "ProphecyShop$Owl")
  | 7 => .array .int
  | 8 => .int
  | 9 => .array .int
  | 10 => .array .int
  | 11 => .array .int
  | 12 => .int
  | 13 => .int
  | _ => .int
theorem nmX8 : ∀ a, a < 15 → ∀ b, b < 15 → a ≠ b → (TX8 a).2.1 ≠ (TX8 b).2.1 := by decide +kernel
theorem tyX8_ok : ∀ k, k < 15 → parseFieldDescriptor (TX8 k).2.2.1 = some (tyX8 k) := by decide +kernel
def RX9 : String := "ProphecyShop$Step"
def TX9 : u_T := fun k => match k with
  | 0 => ("ProphecyShop$Step", "act", "I", false)
  | 1 => ("ProphecyShop$Step", "customer", "I", false)
  | 2 => ("ProphecyShop$Step", "kind", "I", false)
  | 3 => ("ProphecyShop$Step", "event", "I", false)
  | 4 => ("ProphecyShop$Step", "place", "I", false)
  | 5 => ("ProphecyShop$Step", "delay", "I", false)
  | 6 => ("ProphecyShop$Step", "length", "I", false)
  | 7 => ("ProphecyShop$Step", "price", "I", false)
  | 8 => ("ProphecyShop$Step", "number", "I", false)
  | 9 => ("ProphecyShop$Step", "partner", "I", false)
  | _ => ("ProphecyShop$Step", "roundsLeft", "I", false)
def tyX9 : Nat → FieldType := fun k => match k with
  | 0 => .int
  | 1 => .int
  | 2 => .int
  | 3 => .int
  | 4 => .int
  | 5 => .int
  | 6 => .int
  | 7 => .int
  | 8 => .int
  | 9 => .int
  | _ => .int
theorem nmX9 : ∀ a, a < 11 → ∀ b, b < 11 → a ≠ b → (TX9 a).2.1 ≠ (TX9 b).2.1 := by decide +kernel
theorem tyX9_ok : ∀ k, k < 11 → parseFieldDescriptor (TX9 k).2.2.1 = some (tyX9 k) := by decide +kernel
def RX10 : String := "ProphecyShop$Text"
def TX10 : u_T := fun k => match k with
  | 0 => ("ProphecyShop$Text", "bytes", "[I", true)
  | _ => ("ProphecyShop$Text", "length", "I", false)
def tyX10 : Nat → FieldType := fun k => match k with
  | 0 => .array .int
  | _ => .int
theorem nmX10 : ∀ a, a < 2 → ∀ b, b < 2 → a ≠ b → (TX10 a).2.1 ≠ (TX10 b).2.1 := by decide +kernel
theorem tyX10_ok : ∀ k, k < 2 → parseFieldDescriptor (TX10 k).2.2.1 = some (tyX10 k) := by decide +kernel
def RX11 : String := "ProphecyShop"
def TX11 : u_T := fun k => match k with
  | 0 => ("ProphecyShop", "text", "LProphecyShop$Text;", true)
  | 1 => ("ProphecyShop", "setupReader", "LProphecyShop$SetupReader;", true)
  | 2 => ("ProphecyShop", "script", "LProphecyShop$Script;", true)
  | 3 => ("ProphecyShop", "setup", "LProphecyShop$Setup;", false)
  | 4 => ("ProphecyShop", "draft", "LProphecyShop$Setup;", false)
  | 5 => ("ProphecyShop", "shop", "LProphecyShop$Shop;", true)
  | 6 => ("ProphecyShop", "forecast", "LProphecyShop$Shop;", true)
  | 7 => ("ProphecyShop", "history", "LProphecyShop$History;", true)
  | 8 => ("ProphecyShop", "slots", "[LProphecyShop$Shop;", true)
  | 9 => ("ProphecyShop", "slotFilled", "[Z", true)
  | 10 => ("ProphecyShop", "latestError", "I", false)
  | 11 => ("ProphecyShop", "latestErrorPosition", "I", false)
  | _ => ("ProphecyShop", "output", "Ljava/lang/String;", false)
def tyX11 : Nat → FieldType := fun k => match k with
  | 0 => .object "ProphecyShop$Text"
  | 1 => .object "ProphecyShop$SetupReader"
  | 2 => .object "ProphecyShop$Script"
  | 3 => .object "ProphecyShop$Setup"
  | 4 => .object "ProphecyShop$Setup"
  | 5 => .object "ProphecyShop$Shop"
  | 6 => .object "ProphecyShop$Shop"
  | 7 => .object "ProphecyShop$History"
  | 8 => .array (.object "ProphecyShop$Shop")
  | 9 => .array .boolean
  | 10 => .int
  | 11 => .int
  | _ => .object "java/lang/String"
theorem nmX11 : ∀ a, a < 13 → ∀ b, b < 13 → a ≠ b → (TX11 a).2.1 ≠ (TX11 b).2.1 := by decide +kernel
theorem tyX11_ok : ∀ k, k < 13 → parseFieldDescriptor (TX11 k).2.2.1 = some (tyX11 k) := by decide +kernel
def RX12 : String := "ProphecyShopLaw$Own"
def TX12 : u_T := fun k => match k with
  | 0 => ("ProphecyShopLaw$Own", "cash", "I", false)
  | 1 => ("ProphecyShopLaw$Own", "rate", "I", false)
  | 2 => ("ProphecyShopLaw$Own", "grace", "I", false)
  | 3 => ("ProphecyShopLaw$Own", "percent", "I", false)
  | 4 => ("ProphecyShopLaw$Own", "vague", "I", false)
  | 5 => ("ProphecyShopLaw$Own", "day", "I", false)
  | 6 => ("ProphecyShopLaw$Own", "events", "I", false)
  | 7 => ("ProphecyShopLaw$Own", "places", "I", false)
  | 8 => ("ProphecyShopLaw$Own", "customers", "I", false)
  | 9 => ("ProphecyShopLaw$Own", "owls", "I", false)
  | 10 => ("ProphecyShopLaw$Own", "sold", "I", false)
  | 11 => ("ProphecyShopLaw$Own", "notes", "I", false)
  | 12 => ("ProphecyShopLaw$Own", "waiting", "I", false)
  | 13 => ("ProphecyShopLaw$Own", "handled", "I", false)
  | 14 => ("ProphecyShopLaw$Own", "paid", "I", false)
  | 15 => ("ProphecyShopLaw$Own", "purse", "[I", true)
  | 16 => ("ProphecyShopLaw$Own", "far", "[I", true)
  | 17 => ("ProphecyShopLaw$Own", "speed", "[I", true)
  | 18 => ("ProphecyShopLaw$Own", "days", "[I", true)
  | 19 => ("ProphecyShopLaw$Own", "coins", "[I", true)
  | 20 => ("ProphecyShopLaw$Own", "to", "[I", true)
  | 21 => ("ProphecyShopLaw$Own", "trip", "[I", true)
  | 22 => ("ProphecyShopLaw$Own", "who", "[I", true)
  | 23 => ("ProphecyShopLaw$Own", "event", "[I", true)
  | 24 => ("ProphecyShopLaw$Own", "place", "[I", true)
  | 25 => ("ProphecyShopLaw$Own", "from", "[I", true)
  | 26 => ("ProphecyShopLaw$Own", "until", "[I", true)
  | 27 => ("ProphecyShopLaw$Own", "price", "[I", true)
  | 28 => ("ProphecyShopLaw$Own", "state", "[I", true)
  | 29 => ("ProphecyShopLaw$Own", "decided", "[I", true)
  | 30 => ("ProphecyShopLaw$Own", "answer", "[I", true)
  | 31 => ("ProphecyShopLaw$Own", "line", "[I", true)
  | 32 => ("ProphecyShopLaw$Own", "denies", "[Z", true)
  | 33 => ("ProphecyShopLaw$Own", "noteCell", "[I", true)
  | _ => ("ProphecyShopLaw$Own", "noteDay", "[I", true)
def tyX12 : Nat → FieldType := fun k => match k with
  | 0 => .int
  | 1 => .int
  | 2 => .int
  | 3 => .int
  | 4 => .int
  | 5 => .int
  | 6 => .int
  | 7 => .int
  | 8 => .int
  | 9 => .int
  | 10 => .int
  | 11 => .int
  | 12 => .int
  | 13 => .int
  | 14 => .int
  | 15 => .array .int
  | 16 => .array .int
  | 17 => .array .int
  | 18 => .array .int
  | 19 => .array .int
  | 20 => .array .int
  | 21 => .array .int
  | 22 => .array .int
  | 23 => .array .int
  | 24 => .array .int
  | 25 => .array .int
  | 26 => .array .int
  | 27 => .array .int
  | 28 => .array .int
  | 29 => .array .int
  | 30 => .array .int
  | 31 => .array .int
  | 32 => .array .boolean
  | 33 => .array .int
  | _ => .array .int
theorem nmX12 : ∀ a, a < 35 → ∀ b, b < 35 → a ≠ b → (TX12 a).2.1 ≠ (TX12 b).2.1 := by decide +kernel
theorem tyX12_ok : ∀ k, k < 35 → parseFieldDescriptor (TX12 k).2.2.1 = some (tyX12 k) := by decide +kernel
def RJ0 : String := "java/lang/String"
def TJ0 : u_T := fun k => match k with
  | 0 => ("java/lang/String", "value", "[B", true)
  | 1 => ("java/lang/String", "coder", "B", true)
  | 2 => ("java/lang/String", "hash", "I", false)
  | _ => ("java/lang/String", "hashIsZero", "Z", false)
def tyJ0 : Nat → FieldType := fun k => match k with
  | 0 => .array .byte
  | 1 => .byte
  | 2 => .int
  | _ => .boolean
theorem nmJ0 : ∀ a, a < 4 → ∀ b, b < 4 → a ≠ b → (TJ0 a).2.1 ≠ (TJ0 b).2.1 := by decide +kernel
theorem tyJ0_ok : ∀ k, k < 4 → parseFieldDescriptor (TJ0 k).2.2.1 = some (tyJ0 k) := by decide +kernel
def RJ4 : String := "java/lang/StringBuilder"
def TJ4 : u_T := fun k => match k with
  | 0 => ("java/lang/AbstractStringBuilder", "value", "[B", false)
  | 1 => ("java/lang/AbstractStringBuilder", "coder", "B", false)
  | 2 => ("java/lang/AbstractStringBuilder", "maybeLatin1", "Z", false)
  | _ => ("java/lang/AbstractStringBuilder", "count", "I", false)
def tyJ4 : Nat → FieldType := fun k => match k with
  | 0 => .array .byte
  | 1 => .byte
  | 2 => .boolean
  | _ => .int
theorem nmJ4 : ∀ a, a < 4 → ∀ b, b < 4 → a ≠ b → (TJ4 a).2.1 ≠ (TJ4 b).2.1 := by decide +kernel
theorem tyJ4_ok : ∀ k, k < 4 → parseFieldDescriptor (TJ4 k).2.2.1 = some (tyJ4 k) := by decide +kernel
def RL : String := "ProphecyShopLaw"
abbrev vwCl : List vw_C := [(RJ0, TJ0, 4), (RJ4, TJ4, 4), (RX0, TX0, 2), (RX1, TX1, 2), (RX2, TX2, 5), (RX3, TX3, 10), (RX5, TX5, 11), (RX6, TX6, 12), (RX7, TX7, 6), (RX8, TX8, 15), (RX9, TX9, 11), (RX10, TX10, 2), (RX11, TX11, 13), (RX12, TX12, 35), (RJ0, TJ0, 2)]
theorem iwTJ0 : ∀ w ∈ u_ws RJ0 TJ0 4, w ∈ lw_tbl := by decide +kernel
theorem iwTJ4 : ∀ w ∈ u_ws RJ4 TJ4 4, w ∈ lw_tbl := by decide +kernel
theorem iwTX0 : ∀ w ∈ u_ws RX0 TX0 2, w ∈ lw_tbl := by decide +kernel
theorem iwTX1 : ∀ w ∈ u_ws RX1 TX1 2, w ∈ lw_tbl := by decide +kernel
theorem iwTX2 : ∀ w ∈ u_ws RX2 TX2 5, w ∈ lw_tbl := by decide +kernel
theorem iwTX3 : ∀ w ∈ u_ws RX3 TX3 10, w ∈ lw_tbl := by decide +kernel
theorem iwTX5 : ∀ w ∈ u_ws RX5 TX5 11, w ∈ lw_tbl := by decide +kernel
theorem iwTX6 : ∀ w ∈ u_ws RX6 TX6 12, w ∈ lw_tbl := by decide +kernel
theorem iwTX7 : ∀ w ∈ u_ws RX7 TX7 6, w ∈ lw_tbl := by decide +kernel
theorem iwTX8 : ∀ w ∈ u_ws RX8 TX8 15, w ∈ lw_tbl := by decide +kernel
theorem iwTX9 : ∀ w ∈ u_ws RX9 TX9 11, w ∈ lw_tbl := by decide +kernel
theorem iwTX10 : ∀ w ∈ u_ws RX10 TX10 2, w ∈ lw_tbl := by decide +kernel
theorem iwTX11 : ∀ w ∈ u_ws RX11 TX11 13, w ∈ lw_tbl := by decide +kernel
theorem iwTX12 : ∀ w ∈ u_ws RX12 TX12 35, w ∈ lw_tbl := by decide +kernel
/-- the String constants: class, entry, text, number among the old cells -/
def rStr : List (String × Nat × String × Nat) := [("ProphecyShop", 76, "", 0), ("ProphecyShop", 82, "shop 100 2 5 100 50; event rain; event war; place inn; place mill; place pass; customer ada 80 4; customer ben 300 9; customer cai 20 15; owl 3; owl 5;", 1), ("ProphecyShop$SetupReader", 57, "shop", 2), ("ProphecyShop$SetupReader", 24, "event", 3), ("ProphecyShop$SetupReader", 34, "place", 4), ("ProphecyShop$SetupReader", 104, "customer", 5), ("ProphecyShop$SetupReader", 113, "owl", 6), ("ProphecyShop", 349, "no change can be undone", 7), ("ProphecyShopLaw", 52, "c", 8), ("ProphecyShopLaw", 68, ":!", 9), ("ProphecyShopLaw", 70, ":", 10), ("ProphecyShopLaw", 72, "e", 11), ("ProphecyShopLaw", 80, "*", 12), ("ProphecyShopLaw", 82, "p", 13), ("ProphecyShop", 370, "no such number", 14), ("ProphecyShop", 227, "the prophecy is open", 15), ("ProphecyShop", 267, "no such state", 16), ("ProphecyShopLaw", 232, ",", 17), ("ProphecyShopLaw", 234, "", 18), ("ProphecyShop", 303, "the days are out of range", 19), ("ProphecyShop", 373, "a value is out of range", 20), ("ProphecyShop", 375, "not possible now", 21), ("ProphecyShopLaw", 360, "shop ", 22), ("ProphecyShopLaw", 365, "event ", 23), ("ProphecyShopLaw", 367, "place ", 24), ("ProphecyShopLaw", 372, "customer ", 25), ("ProphecyShopLaw", 380, "owl ", 26), ("ProphecyShop", 110, "the text would be too long", 27)]
/-- the statics: class, name, descriptor, value -/
def rSta : List (String × String × String × (Value ⊕ (Nat × Nat))) := [("java/lang/String", "COMPACT_STRINGS", "Z", .inl (.int 1)), ("java/lang/Integer", "DigitOnes", "[B", .inr (1, 200)), ("java/lang/Integer", "DigitTens", "[B", .inr (1, 201))]
/-- private methods of the abstract class, called on objects of the classes below it -/
def rSel : List Cond := [.selects "ProphecyShop$SetupReader" ⟨"ProphecyShop$Reader", "next", "()V"⟩ ⟨"ProphecyShop$Reader", "next", "()V"⟩, .selects "ProphecyShop$SetupReader" ⟨"ProphecyShop$Reader", "codeOfName", "()I"⟩ ⟨"ProphecyShop$Reader", "codeOfName", "()I"⟩, .selects "java/lang/StringBuilder" ⟨"java/lang/AbstractStringBuilder", "ensureCapacityInternal", "(I)V"⟩ ⟨"java/lang/AbstractStringBuilder", "ensureCapacityInternal", "(I)V"⟩, .selects "java/lang/StringBuilder" ⟨"java/lang/AbstractStringBuilder", "newCapacity", "(I)I"⟩ ⟨"java/lang/AbstractStringBuilder", "newCapacity", "(I)I"⟩, .selects "java/lang/StringBuilder" ⟨"java/lang/AbstractStringBuilder", "putStringAt", "(ILjava/lang/String;)V"⟩ ⟨"java/lang/AbstractStringBuilder", "putStringAt", "(ILjava/lang/String;)V"⟩, .selects "java/lang/StringBuilder" ⟨"java/lang/AbstractStringBuilder", "inflateIfNeededFor", "(Ljava/lang/String;)V"⟩ ⟨"java/lang/AbstractStringBuilder", "inflateIfNeededFor", "(Ljava/lang/String;)V"⟩]
def lw_T : List Cond := lw_tbl ++ rSel
/-- pairs of classes that are no casts -/
def rNc : List (String × String) := []
end
section
/-! ===== BEGIN words of one list among another's, by their places ===== -/
theorem goodIn_r {big : List Cond} (ws : List Cond) (ps : List Nat) (hp : ws = ps.filterMap (fun i => big[i]?)) (h : ws.all goodWord = true) : GoodIn big ws := by
  intro w hw
  have h1 := List.all_eq_true.mp h w hw
  rw [hp] at hw
  obtain ⟨i, -, hi⟩ := List.mem_filterMap.mp hw
  have hm : w ∈ big := by first | exact List.mem_of_getElem? hi | exact List.getElem?_mem hi
  exact ⟨hm, good_of_word h1⟩
theorem goodIn_app {big a b : List Cond} (ha : GoodIn big a) (hb : GoodIn big b) : GoodIn big (a ++ b) := fun w h => (List.mem_append.mp h).elim (ha w) (hb w)
theorem goodIn_ca {big a b : List Cond} {c : Cond} (ha : GoodIn big (c :: a)) (hb : GoodIn big b) : GoodIn big (c :: (a ++ b)) := fun w h => (List.mem_cons.mp h).elim (fun e => ha w (List.mem_cons.mpr (Or.inl e))) (fun h => (List.mem_append.mp h).elim (fun h => ha w (List.mem_cons.mpr (Or.inr h))) (hb w))
theorem goodIn_sub {big ws : List Cond} (hm : ∀ w ∈ ws, w ∈ big) (h : ws.all goodWord = true) : GoodIn big ws := fun w hw => ⟨hm w hw, good_of_word (List.all_eq_true.mp h w hw)⟩
/-! ===== END ===== -/
/-! ===== BEGIN exceptions that leave a method, and their catching by the caller (launches without stack traces) ===== -/
section VXA
/-! The laws vx_back, vx_callV, vx_callS, vx_callSW, vx_throw0, vx_throwS follow proofs of the library, with one case more: JvmDerived/Free/Laws.lean (Back.of_free), Shelf42/LK1.lean (callV, callS), Shelf/KitTraced.lean (throwNew0V, throwNewS). -/
/-- where a method has thrown q: the class by its name, the cell, what was written, the world -/
def vx_T (XC : String → State → State → Prop) (st : State) (q : Addr) (t : State) (mc ms : Nat) (free : Addr → Prop) : Prop :=
  ∃ (E : String) (ce : Cell) (L : List Loc), XC E st t ∧ t.heap[q]? = some ce ∧ ce.vm = .none ∧ st.vm.findClass E = some ce.cls ∧ st.WarmedH t.vm ∧ st.sameButNew ({ t with vm := st.vm } : State) L mc ms ∧ ∀ z ∈ L, free z.base
def vx_Q (Qc : Array Value → State → Outcome → State → Prop) (XC : String → State → State → Prop) (mc ms : Nat) (free : Addr → Prop) : Array Value → State → Outcome → State → Prop := fun a st o t =>
  (Qc a st o t ∧ ∃ L, FrameEnd st o t L mc ms ∧ ∀ q ∈ L, free q.base) ∨ ∃ q, o = .threw q ∧ vx_T XC st q t mc ms free
/-- a callee that returns or throws -/
def vx_Met (l : Launch) (y : MethodName) (ws : List Cond) (rm : Room) (Pc : Array Value → State → Prop) (Qc : Array Value → State → Outcome → State → Prop) (XC : String → State → State → Prop) (mc ms : Nat) (free : Addr → Prop) : Prop :=
  MetFree l y (headSpec ws rm) Pc (fun _ _ _ _ _ => True) (vx_Q Qc XC mc ms free)
def vx_Post (XC : String → State → State → Prop) (mc ms : Nat) (free : Addr → Prop) : Pt → Array Value → Addr → Pt → Prop := fun A a q B =>
  ∃ (g : JFrame) (mk : MethodId) (t : State) (L : List Loc) (E : String) (ce : Cell), B.U.heap = t.heap ∧ B.U.vm = t.vm ∧ XC E (A.U.calling g mk a) t ∧ t.heap[q]? = some ce ∧ ce.vm = .none ∧ A.U.vm.findClass E = some ce.cls ∧ B.locs = A.locs ++ L ∧ (∀ z ∈ L, free z.base) ∧ B.cells = A.cells + mc ∧ B.slots = A.slots + ms
def vx_Back (l : Launch) (R : Room) (p : Program) (e : Env) (below : List Frame) (s : State) (sargs : Array Value) (y : MethodName) (len W9 : Nat)
    (Pre : Pt → Array Value → Prop) (Post : Pt → Array Value → Option Value → Pt → Prop) (PostX : Pt → Array Value → Addr → Pt → Prop) : Prop :=
  ∀ (m : MethodId) (meth : Method) (c : Code) (A : Pt) (g : JFrame) (ig : Instr) (mk : MethodId) (a : Array Value),
    Stand p l e R s m sargs below meth c A.U A.locs A.cells A.slots → g.method = m → g.locals.size = c.maxLocals → decode c.code g.pc = .ok (ig, len) →
    2 * g.monitorRoom + (g.stack.map fun v => v.category).sum ≤ W9 → A.U.methodNamed? y = some mk → Pre A a →
    (∃ (v : Option Value) (B : Pt), Stand p l e R s m sargs below meth c B.U B.locs B.cells B.slots ∧ Post A a v B ∧
      Steps p.tables e below (doInvoke e (A.U.setTop g) [] mk a).1 (B.U.setTop { g with pc := g.pc + len, stack := v.toList ++ g.stack })) ∨
    (∃ (q : Addr) (B : Pt), Stand p l e R s m sargs below meth c B.U B.locs B.cells B.slots ∧ PostX A a q B ∧
      Steps p.tables e below (doInvoke e (A.U.setTop g) [] mk a).1 ((B.U.setTop g).pushFrame (.throwing q)))
section Payer
variable {l : Launch} {R : Room} {p : Program} {e : Env} {below : List Frame} {s : State} {sargs : Array Value} {y : MethodName} {len W9 : Nat}
theorem vx_back {ws : List Cond} {rm : Room} {Pc : Array Value → State → Prop} {Qc : Array Value → State → Outcome → State → Prop} {XC : String → State → State → Prop} {mc ms : Nat} {free : Addr → Prop} {bytes : ByteArray} {maxL : Nat} {ret : Option FieldType}
    (hM : vx_Met l y ws rm Pc Qc XC mc ms free) (hblind : FrameBlind Pc) (hrc : rm.cells = mc) (hrs : rm.slots = ms)
    (hframes : rm.frames + 1 ≤ R.frames) (hlocals : W9 + (maxL + 11) + rm.locals ≤ R.locals)
    (hws : ∀ w ∈ ws, ∀ a' U, s.WarmedH U.vm → w.before a' U = true) (hcode : Cond.code y bytes maxL ret ∈ ws) (hinit : ∀ a' U, s.WarmedH U.vm → (Cond.initialized y.cls).before a' U = true) :
    vx_Back l R p e below s sargs y len W9 (PreOf R mc ms Pc) (PostOf Qc mc ms free) (vx_Post XC mc ms free) := by
  intro m meth c A g ig mk a X hg hsize hdg hW hn hp
  have h1 : (headSpec ws rm).pre.before a A.U = true := atoms_intro fun w hw => hws w hw _ _ X.warmed
  have h2 : (Cond.code y bytes maxL ret).before a A.U = true := hws _ hcode _ _ X.warmed
  have h3 : (Cond.initialized y.cls).before a A.U = true := hinit _ _ X.warmed
  have h4 : A.cells + (headSpec ws rm).room.cells ≤ R.cells := by rw [show (headSpec ws rm).room.cells = mc from hrc]; exact hp.1
  have h5 : A.slots + (headSpec ws rm).room.slots ≤ R.slots := by rw [show (headSpec ws rm).room.slots = ms from hrs]; exact hp.2.1
  have hPc : Pc a (A.U.calling g mk a) := hblind _ _ _ _ hp.2.2
  obtain ⟨U, Ls, c0, s0⟩ := A
  dsimp only [Pt.U, Pt.locs, Pt.cells, Pt.slots] at h1 h2 h3 h4 h5 X hn hPc ⊢
  obtain ⟨methY, cY, hmY, hcY, -, hlY, -, -, -, -⟩ := Cond.code_spec hn h2
  obtain ⟨kY, hkY, -⟩ := className_of_methodNamed hn
  have hinitY : kY.init = .initialized := Cond.initialized_spec (findClass_of_methodNamed hn) hkY h3
  have h : At U g.method c below := by rw [hg]; exact X.here
  have hlocals9 : W9 + (maxL + 11) + (headSpec ws rm).room.locals ≤ R.locals := hlocals
  have happ : (headSpec ws rm).appliesLoose y e.platform (U.calling g mk a) = true :=
    Spec.appliesLoose_calling (g := g) h hdg hn hkY hinitY
      (X.room_calling (g := g) (R' := (headSpec ws rm).room) hsize hmY hcY hframes (by rw [hlY]; omega) h4 h5) h1
  obtain ⟨mid, hmid⟩ := h.above
  have hfr : (U.setTop g).frames = (.java g :: mid) ++ below := by rw [State.frames_setTop' g h.top, hmid]; rfl
  obtain ⟨o, s₂, hsteps, -, hend, hq⟩ := Steps.callFree hM p X.admits X.cas X.clock (acts := []) hfr happ hPc trivial
  have hq' : vx_Q Qc XC mc ms free a (U.calling g mk a) o s₂ := hq
  rw [State.frames_setTop' g h.top] at hend
  obtain ⟨g₀, hg0⟩ := Option.isSome_iff_exists.mp h.top
  obtain ⟨r, hr⟩ := State.topJava?_eq_some.mp hg0
  have hr' : (({ U with heap := s₂.heap, slotsUsed := s₂.slotsUsed } : State).setVm s₂.vm).frames = .java g₀ :: r := hr
  rcases hq' with ⟨hqc, L, hfe, hL⟩ | ⟨q, rfl, E, ce, L, hx, hce, hcv, hcl, hW₂, hsm, hL⟩
  · obtain ⟨⟨v, rfl⟩, hW₂, e2, q2, q3, q4, q5, q6⟩ := id hfe
    have e3 : s₂ = ({ (U.calling g mk a).setFrames s₂.frames with heap := s₂.heap, slotsUsed := s₂.slotsUsed } : State).setVm s₂.vm := by
      have : s₂ = ({ s₂ with vm := (U.calling g mk a).vm } : State).setVm s₂.vm := rfl
      rw [e2] at this
      exact this
    obtain ⟨c₂, i₂, len₂, hc₂, hd₂, hf₂⟩ := hend
    have hW' : U.WarmedH s₂.vm := hW₂
    have hcc : c₂ = c := by
      have h1 : s₂.code? g.method = U.code? g.method := by
        rw [State.code?_eq, State.code?_eq, hW'.alike.method?]
      exact Option.some.inj (hc₂.symm.trans (h1.trans h.code))
    subst hcc
    have hlen : len₂ = len := by rw [hdg] at hd₂; cases hd₂; rfl
    subst hlen
    have hs₂ : s₂ = (({ U with heap := s₂.heap, slotsUsed := s₂.slotsUsed } : State).setVm s₂.vm).setTop { g with pc := g.pc + len₂, stack := v.toList ++ g.stack } := by
      refine e3.trans ?_
      rw [hf₂, State.calling_eq h.top, State.setFrames_setFrames, State.setTop_of_frames _ hr', hr]
      rfl
    have hsame : U.sameButNew ({ U with heap := s₂.heap, slotsUsed := s₂.slotsUsed } : State) L mc ms := by
      refine ⟨?_, q2, q3, q4, q5, q6⟩
      obtain ⟨t, ht, -⟩ := State.frames_cons hr
      show ({ U with heap := s₂.heap, slotsUsed := s₂.slotsUsed } : State) = { U.setFrames U.frames with heap := s₂.heap, slotsUsed := s₂.slotsUsed }
      rw [State.setFrames_self ht]
    subst hg
    refine Or.inl ⟨v, ⟨(({ U with heap := s₂.heap, slotsUsed := s₂.slotsUsed } : State).setVm s₂.vm), Ls ++ L, c0 + mc, s0 + ms⟩,
      ⟨X.admits, X.cas, X.clock, X.frames, X.room, X.hears, X.method, X.code, (X.here.setHeapUsed s₂.heap s₂.slotsUsed).setVm hW'.alike, X.tail, State.WarmedH.trans X.warmed hW', X.limits, X.bytes, X.same.trans (hsame.setVm s.vm)⟩,
      ⟨g, mk, s₂, L, rfl, rfl, hqc, rfl, hL, rfl, rfl⟩, ?_⟩
    show Steps p.tables e below _ ((({ U with heap := s₂.heap, slotsUsed := s₂.slotsUsed } : State).setVm s₂.vm).setTop { g with pc := g.pc + len₂, stack := v.toList ++ g.stack })
    rw [← hs₂]
    exact hsteps
  · obtain ⟨e2, q2, q3, q4, q5, q6⟩ := id hsm
    have e3 : s₂ = ({ (U.calling g mk a).setFrames s₂.frames with heap := s₂.heap, slotsUsed := s₂.slotsUsed } : State).setVm s₂.vm := by
      have : s₂ = ({ s₂ with vm := (U.calling g mk a).vm } : State).setVm s₂.vm := rfl
      rw [e2] at this
      exact this
    have hf₂ : s₂.frames = .throwing q :: .java g :: U.frames.tail := hend
    have hW' : U.WarmedH s₂.vm := hW₂
    have hs₂ : s₂ = ((({ U with heap := s₂.heap, slotsUsed := s₂.slotsUsed } : State).setVm s₂.vm).setTop g).pushFrame (.throwing q) := by
      refine e3.trans ?_
      rw [hf₂, State.calling_eq h.top, State.setFrames_setFrames, State.pushFrame, State.frames_setTop _ hr', State.setTop_of_frames _ hr', State.setFrames_setFrames, hr]
      rfl
    have hsame : U.sameButNew ({ U with heap := s₂.heap, slotsUsed := s₂.slotsUsed } : State) L mc ms := by
      refine ⟨?_, q2, q3, q4, q5, q6⟩
      obtain ⟨t, ht, -⟩ := State.frames_cons hr
      show ({ U with heap := s₂.heap, slotsUsed := s₂.slotsUsed } : State) = { U.setFrames U.frames with heap := s₂.heap, slotsUsed := s₂.slotsUsed }
      rw [State.setFrames_self ht]
    subst hg
    refine Or.inr ⟨q, ⟨(({ U with heap := s₂.heap, slotsUsed := s₂.slotsUsed } : State).setVm s₂.vm), Ls ++ L, c0 + mc, s0 + ms⟩,
      ⟨X.admits, X.cas, X.clock, X.frames, X.room, X.hears, X.method, X.code, (X.here.setHeapUsed s₂.heap s₂.slotsUsed).setVm hW'.alike, X.tail, State.WarmedH.trans X.warmed hW', X.limits, X.bytes, X.same.trans (hsame.setVm s.vm)⟩,
      ⟨g, mk, s₂, L, E, ce, rfl, rfl, hx, hce, hcv, hcl, rfl, hL, rfl, rfl⟩, ?_⟩
    show Steps p.tables e below _ (((({ U with heap := s₂.heap, slotsUsed := s₂.slotsUsed } : State).setVm s₂.vm).setTop g).pushFrame (.throwing q))
    rw [← hs₂]
    exact hsteps
end Payer
section Calls
variable {p : Program} {l : Launch} {e : Env} {R : Room} {s : State} {m : MethodId} {args : Array Value} {below : List Frame} {meth : Method} {c : Code} {T : State} {locs : List Loc} {cells slots : Nat}
theorem vx_callV (X : Stand p l e R s m args below meth c T locs cells slots) (hexec : p.tables.exec = Jvm.exec) {own C : String} {index : Nat} {y : MethodName} {bytes : ByteArray} {maxL : Nat} {ret : Option FieldType}
    (hown : s.vm.findClass own = some m.cls) (hlink : (Cond.methodLink own index y).before args s = true) (hinst : (Cond.instanceMethod y).before args s = true) (hsel : (Cond.selects C y y).before args s = true)
    (hcode : (Cond.code y bytes maxL ret).before args s = true) (hy : y.cls ≠ "java/lang/invoke/MethodHandle" ∧ y.cls ≠ "java/lang/invoke/VarHandle")
    {W9 : Nat} {Pre : Pt → Array Value → Prop} {Post : Pt → Array Value → Option Value → Pt → Prop} {PostX : Pt → Array Value → Addr → Pt → Prop} (hK : vx_Back l R p e below s args y 3 W9 Pre Post PostX)
    {b : Addr} {cellB : Cell} (hcell : T.heap[b]? = some cellB) (hobj : cellB.vm.isStatics = false) (hcls : s.vm.findClass C = some cellB.cls)
    {g : JFrame} (hg : g.method = m) (hsize : g.locals.size = c.maxLocals) {argsL rest : List Value} (hlen : ∀ sig, parseMethodDescriptor y.desc = some sig → argsL.length = sig.parameters.length)
    (hstack : g.stack = argsL.reverse ++ .ref b :: rest) (hW : 2 * g.monitorRoom + (rest.map fun v => v.category).sum ≤ W9) (hdg : decode c.code g.pc = .ok (.invokevirtual index, 3))
    (hpre : ∀ vm₁, s.WarmedH vm₁ → Pre ⟨T.setVm vm₁, locs, cells, slots⟩ (Value.ref b :: argsL).toArray) :
    (∃ (v : Option Value) (vm₁ : Vm) (B : Pt), s.WarmedH vm₁ ∧ Stand p l e R s m args below meth c B.U B.locs B.cells B.slots ∧ Post ⟨T.setVm vm₁, locs, cells, slots⟩ (Value.ref b :: argsL).toArray v B ∧
      ∀ target, Steps p.tables e below (B.U.setTop { g with pc := g.pc + 3, stack := v.toList ++ rest }) target → Steps p.tables e below (T.setTop g) target) ∨
    (∃ (q : Addr) (vm₁ : Vm) (B : Pt), s.WarmedH vm₁ ∧ Stand p l e R s m args below meth c B.U B.locs B.cells B.slots ∧ PostX ⟨T.setVm vm₁, locs, cells, slots⟩ (Value.ref b :: argsL).toArray q B ∧
      Steps p.tables e below (T.setTop g) ((B.U.setTop { g with stack := rest }).pushFrame (.throwing q))) := by
  obtain ⟨mk, methM, hnamed, hmethM, hstM, habM⟩ := Cond.instanceMethod_spec hinst
  obtain ⟨methM', cM, hmethM', -, -, -, -, -, -, hsigM⟩ := Cond.code_spec hnamed hcode
  cases hmethM.symm.trans hmethM'
  obtain ⟨c2, r2, m2, q1, q2, q3, q4, kP, hkP, hkPi⟩ := Cond.selects_spec hsel
  cases hcls.symm.trans q1
  cases (State.methodFound?_of_named hnamed hy).symm.trans q2
  cases hnamed.symm.trans q3
  have hselP : selectMethod e.platform s.vm cellB.cls mk = .method mk := by rw [Launch.admits_selectMethod X.admits]; exact q4
  obtain ⟨vm₁, X₁, hstep₁⟩ := X.invokevirtual hexec hown hlink hnamed hmethM hstM hkP hkPi hy (a := b) (cell := cellB) hcell
    (fun z h => by rw [h] at hobj; cases hobj) hselP hmethM habM hkP hkPi (g := g) hg (argsL := argsL) (rest := rest) (hlen _ hsigM) hstack hdg
  rcases hK m meth c ⟨T.setVm vm₁, locs, cells, slots⟩ { g with stack := rest } (.invokevirtual index) mk (Value.ref b :: argsL).toArray X₁ hg hsize hdg hW (X₁.named hnamed) (hpre vm₁ X₁.warmed) with ⟨v, B, X', hpost, hsteps⟩ | ⟨q, B, X', hpost, hsteps⟩
  · exact Or.inl ⟨v, vm₁, B, X₁.warmed, X', hpost, fun target h => hstep₁ _ fun acts => by rw [doInvoke_state]; exact hsteps.trans h⟩
  · exact Or.inr ⟨q, vm₁, B, X₁.warmed, X', hpost, hstep₁ _ fun acts => by rw [doInvoke_state]; exact hsteps⟩
theorem vx_callS (X : Stand p l e R s m args below meth c T locs cells slots) (hexec : p.tables.exec = Jvm.exec) {own : String} {index : Nat} {y : MethodName} {bytes : ByteArray} {maxL : Nat} {ret : Option FieldType}
    (hown : s.vm.findClass own = some m.cls) (hlink : (Cond.methodLink own index y).before args s = true) (hstat : (Cond.static y).before args s = true) (hinit : (Cond.initialized y.cls).before args s = true)
    (hcode : (Cond.code y bytes maxL ret).before args s = true) (hy : y.cls ≠ "java/lang/invoke/MethodHandle" ∧ y.cls ≠ "java/lang/invoke/VarHandle")
    {W9 : Nat} {Pre : Pt → Array Value → Prop} {Post : Pt → Array Value → Option Value → Pt → Prop} {PostX : Pt → Array Value → Addr → Pt → Prop} (hK : vx_Back l R p e below s args y 3 W9 Pre Post PostX)
    {g : JFrame} (hg : g.method = m) (hsize : g.locals.size = c.maxLocals) {argsL rest : List Value} (hlen : ∀ sig, parseMethodDescriptor y.desc = some sig → argsL.length = sig.parameters.length)
    (hstack : g.stack = argsL.reverse ++ rest) (hW : 2 * g.monitorRoom + (rest.map fun v => v.category).sum ≤ W9) (hdg : decode c.code g.pc = .ok (.invokestatic index, 3))
    (hpre : ∀ vm₁, s.WarmedH vm₁ → Pre ⟨T.setVm vm₁, locs, cells, slots⟩ argsL.toArray) :
    (∃ (v : Option Value) (vm₁ : Vm) (B : Pt), s.WarmedH vm₁ ∧ Stand p l e R s m args below meth c B.U B.locs B.cells B.slots ∧ Post ⟨T.setVm vm₁, locs, cells, slots⟩ argsL.toArray v B ∧
      ∀ target, Steps p.tables e below (B.U.setTop { g with pc := g.pc + 3, stack := v.toList ++ rest }) target → Steps p.tables e below (T.setTop g) target) ∨
    (∃ (q : Addr) (vm₁ : Vm) (B : Pt), s.WarmedH vm₁ ∧ Stand p l e R s m args below meth c B.U B.locs B.cells B.slots ∧ PostX ⟨T.setVm vm₁, locs, cells, slots⟩ argsL.toArray q B ∧
      Steps p.tables e below (T.setTop g) ((B.U.setTop { g with stack := rest }).pushFrame (.throwing q))) := by
  obtain ⟨mk, hnamed⟩ := Cond.code_named hcode
  obtain ⟨methM, cM, hmethM, -, -, -, -, -, -, hsigM⟩ := Cond.code_spec hnamed hcode
  have hstatic : methM.isStatic = true := Cond.static_spec hnamed hmethM hstat
  obtain ⟨kP, hkP, -⟩ := className_of_methodNamed hnamed
  have hinitP : kP.init = .initialized := Cond.initialized_spec (findClass_of_methodNamed hnamed) hkP hinit
  obtain ⟨vm₁, X₁, hstep₁⟩ := X.invokestatic hexec hown hlink hnamed hmethM hstatic hkP hinitP hy (g := g) hg (argsL := argsL) (rest := rest) (hlen _ hsigM) hstack hdg
  rcases hK m meth c ⟨T.setVm vm₁, locs, cells, slots⟩ { g with stack := rest } (.invokestatic index) mk argsL.toArray X₁ hg hsize hdg hW (X₁.named hnamed) (hpre vm₁ X₁.warmed) with ⟨v, B, X', hpost, hsteps⟩ | ⟨q, B, X', hpost, hsteps⟩
  · exact Or.inl ⟨v, vm₁, B, X₁.warmed, X', hpost, fun target h => hstep₁ _ fun acts => by rw [doInvoke_state]; exact hsteps.trans h⟩
  · exact Or.inr ⟨q, vm₁, B, X₁.warmed, X', hpost, hstep₁ _ fun acts => by rw [doInvoke_state]; exact hsteps⟩
end Calls
theorem vx_cls {s : State} {T : State} {vm₁ : Vm} {E : String} {k : ClassId} (hW : s.WarmedH vm₁) (h : (T.setVm vm₁).vm.findClass E = some k) : s.vm.findClass E = some k := by
  have h1 : vm₁.findClass E = some k := h
  rw [hW.alike.findClass] at h1
  exact h1
/-- the method's frame g, with q thrown over it -/
def vx_W (p : Program) (l : Launch) (e : Env) (R : Room) (s : State) (m : MethodId) (args : Array Value) (below : List Frame) (meth : Method) (c : Code) (H : Heap) (locs : List Loc) (cells slots : Nat) (Q : State → Prop) (g : JFrame) (q : Addr) : Prop :=
  ∀ T : State, T.heap = H → Stand p l e R s m args below meth c T locs cells slots → ∃ t, Steps p.tables e below ((T.setTop g).pushFrame (.throwing q)) t ∧ Q t
def vx_Run (p : Program) (l : Launch) (e : Env) (R : Room) (s : State) (m : MethodId) (args : Array Value) (below : List Frame) (meth : Method) (c : Code) (H : Heap) (locs : List Loc) (cells slots mc ms : Nat) (g : JFrame) (rest : List Value) (Qa : State → Outcome → State → Prop) (XC : String → State → State → Prop) (free : Addr → Prop) : Prop :=
  ∀ T : State, T.heap = H → Stand p l e R s m args below meth c T locs cells slots →
    (∃ (v : Option Value) (st₀ t T' : State) (L : List Loc), st₀.heap = H ∧ Stand p l e R s m args below meth c T' (locs ++ L) (cells + mc) (slots + ms) ∧ (∀ q ∈ L, free q.base) ∧ T'.heap = t.heap ∧ T'.vm = t.vm ∧ Qa st₀ (.returned v) t ∧
      Goes p e below T g T' { g with pc := g.pc + 3, stack := v.toList ++ rest }) ∨
    (∃ (q : Addr) (st₀ t T' : State) (L : List Loc) (E : String) (ce : Cell), st₀.heap = H ∧ Stand p l e R s m args below meth c T' (locs ++ L) (cells + mc) (slots + ms) ∧ (∀ z ∈ L, free z.base) ∧ T'.heap = t.heap ∧ T'.vm = t.vm ∧ XC E st₀ t ∧ t.heap[q]? = some ce ∧ ce.vm = .none ∧ s.vm.findClass E = some ce.cls ∧
      Steps p.tables e below (T.setTop g) ((T'.setTop { g with stack := rest }).pushFrame (.throwing q)))
def vx_X {S : Type} (px : S → Prop) (B : String → S → State → Prop) (A : Nat → Prop) : String → State → State → Prop := fun E st t => ∃ u : S, px u ∧ B E u t ∧ va_F A st t
section Runs
variable {p : Program} {l : Launch} {e : Env} {R : Room} {s : State} {m : MethodId} {args : Array Value} {below : List Frame} {meth : Method} {c : Code} {H : Heap} {locs : List Loc} {cells slots : Nat}
variable {y : MethodName} {bytes cc : ByteArray} {maxL nL mc ms n index : Nat} {ret : Option FieldType} {ws : List Cond} {rm : Room} {Pc : Array Value → State → Prop} {Qc : Array Value → State → Outcome → State → Prop} {XC : String → State → State → Prop} {free : Addr → Prop} {Ts : List Cond} {own C : String} {b : Addr} {As rest : List Value} {g : JFrame}
theorem vx_callBack (cb : CallB R s args own index y bytes maxL ret ws rm mc ms n) (hM : vx_Met l y ws rm Pc Qc XC mc ms free) (hbl : FrameBlind Pc) : vx_Back l R p e below s args y 3 8 (PreOf R mc ms Pc) (PostOf Qc mc ms free) (vx_Post XC mc ms free) := by
  obtain ⟨hrc, hrs, hfr, hlo, hws, hcw, -, hini, -⟩ := cb
  exact vx_back (bytes := bytes) (maxL := maxL) (ret := ret) hM hbl hrc hrs hfr hlo hws hcw (fun a' U hW => word_at hW (Or.inl (by first | rfl | simp [Cond.onTables, Cond.keeps, Cond.steady])) hini)
theorem vx_runV (S : CallFix p m c cc nL s args Ts own) (hM : vx_Met l y ws rm Pc Qc XC mc ms free) (cw : CallW R s args own C index y bytes maxL ret ws rm mc ms n) (hp : PreV s H C b Pc As)
    (hg : g.method = m) (hn : As.length = n) (hsize : g.locals.size = nL) (hstack : g.stack = As.reverse ++ .ref b :: rest) (hW : 2 * g.monitorRoom + (rest.map fun v => v.category).sum ≤ 8) (hdg : decode cc g.pc = .ok (.invokevirtual index, 3)) (hf : cells + mc ≤ R.cells ∧ slots + ms ≤ R.slots) :
    vx_Run p l e R s m args below meth c H locs cells slots mc ms g rest (Qc (Value.ref b :: As).toArray) XC free := by
  have hK : vx_Back l R p e below s args y 3 8 (PreOf R mc ms Pc) (PostOf Qc mc ms free) (vx_Post XC mc ms free) := vx_callBack cw.1 hM hp.1
  obtain ⟨⟨-, -, -, -, -, -, hcode, -, hy, hlen, hl⟩, hin, hse⟩ := cw
  obtain ⟨hx, hb, hml, ho, -⟩ := S
  obtain ⟨-, ⟨cellB, hcB, hoB, hclB⟩, hPc⟩ := hp
  intro T hT X
  rcases vx_callV X hx (C := C) (bytes := bytes) (maxL := maxL) (ret := ret) ho hl hin hse hcode hy hK (by rw [hT]; exact hcB) hoB hclB hg (hsize.trans hml.symm) (argsL := As) (rest := rest) (fun sig h => hn.trans (hlen sig h)) hstack hW (by rw [hb]; exact hdg)
    (fun vm₁ hW₁ => ⟨hf.1, hf.2, hPc (T.setVm vm₁) hT hW₁⟩) with ⟨v, vm₁, ⟨U', l2, c2, s2⟩, hW₁, X', ⟨g', mk, t, L, e1, e2, hq, h1, hL, h2, h3⟩, st⟩ | ⟨q, vm₁, ⟨U', l2, c2, s2⟩, hW₁, X', ⟨g', mk, t, L, E, ce, e1, e2, hq, hce, hcv, hcl, h1, hL, h2, h3⟩, st⟩
  · dsimp only [Pt.U, Pt.locs, Pt.cells, Pt.slots] at X' e1 e2 h1 h2 h3 st
    subst h1; subst h2; subst h3
    exact Or.inl ⟨v, (T.setVm vm₁).calling g' mk (Value.ref b :: As).toArray, t, U', L, hT, X', hL, e1, e2, hq, st⟩
  · dsimp only [Pt.U, Pt.locs, Pt.cells, Pt.slots] at X' e1 e2 h1 h2 h3 st hcl
    subst h1; subst h2; subst h3
    exact Or.inr ⟨q, (T.setVm vm₁).calling g' mk (Value.ref b :: As).toArray, t, U', L, E, ce, hT, X', hL, e1, e2, hq, hce, hcv, vx_cls hW₁ hcl, st⟩
theorem vx_runS (S : CallFix p m c cc nL s args Ts own) (hM : vx_Met l y ws rm Pc Qc XC mc ms free) (cw : CallB R s args own index y bytes maxL ret ws rm mc ms n ∧ (Cond.static y).before args s = true) (hp : PreS s H Pc As)
    (hg : g.method = m) (hn : As.length = n) (hsize : g.locals.size = nL) (hstack : g.stack = As.reverse ++ rest) (hW : 2 * g.monitorRoom + (rest.map fun v => v.category).sum ≤ 8) (hdg : decode cc g.pc = .ok (.invokestatic index, 3)) (hf : cells + mc ≤ R.cells ∧ slots + ms ≤ R.slots) :
    vx_Run p l e R s m args below meth c H locs cells slots mc ms g rest (Qc As.toArray) XC free := by
  have hK : vx_Back l R p e below s args y 3 8 (PreOf R mc ms Pc) (PostOf Qc mc ms free) (vx_Post XC mc ms free) := vx_callBack cw.1 hM hp.1
  obtain ⟨⟨-, -, -, -, -, -, hcode, hini, hy, hlen, hl⟩, hstt⟩ := cw
  obtain ⟨hx, hb, hml, ho, -⟩ := S
  intro T hT X
  rcases vx_callS X hx (bytes := bytes) (maxL := maxL) (ret := ret) ho hl hstt hini hcode hy hK hg (hsize.trans hml.symm) (argsL := As) (rest := rest) (fun sig h => hn.trans (hlen sig h)) hstack hW (by rw [hb]; exact hdg)
    (fun vm₁ hW₁ => ⟨hf.1, hf.2, hp.2 (T.setVm vm₁) hT hW₁⟩) with ⟨v, vm₁, ⟨U', l2, c2, s2⟩, hW₁, X', ⟨g', mk, t, L, e1, e2, hq, h1, hL, h2, h3⟩, st⟩ | ⟨q, vm₁, ⟨U', l2, c2, s2⟩, hW₁, X', ⟨g', mk, t, L, E, ce, e1, e2, hq, hce, hcv, hcl, h1, hL, h2, h3⟩, st⟩
  · dsimp only [Pt.U, Pt.locs, Pt.cells, Pt.slots] at X' e1 e2 h1 h2 h3 st
    subst h1; subst h2; subst h3
    exact Or.inl ⟨v, (T.setVm vm₁).calling g' mk As.toArray, t, U', L, hT, X', hL, e1, e2, hq, st⟩
  · dsimp only [Pt.U, Pt.locs, Pt.cells, Pt.slots] at X' e1 e2 h1 h2 h3 st hcl
    subst h1; subst h2; subst h3
    exact Or.inr ⟨q, (T.setVm vm₁).calling g' mk As.toArray, t, U', L, E, ce, hT, X', hL, e1, e2, hq, hce, hcv, vx_cls hW₁ hcl, st⟩
end Runs
section Rows
variable {p : Program} {l : Launch} {e : Env} {R : Room} {s : State} {m : MethodId} {args : Array Value} {below : List Frame} {meth : Method} {c : Code} {H : Heap} {locs : List Loc} {cells slots : Nat} {Q : State → Prop}
variable {mc ms : Nat} {free : Addr → Prop} {A0 A1 : Nat → Prop} {H0 : Heap} {a : Array Value} {pc : Nat} {ls : Array Slot} {st0 rest : List Value}
theorem vx_keep {st₀ t T' : State} {L : List Loc} (h0 : st₀.heap = H) (e1 : T'.heap = t.heap) (hS : va_S A0 H0 H locs) (hA : ∀ q, q < H.size → A1 q → A0 q) (hf : ∀ q, free q → A0 q) (hL : ∀ q ∈ L, free q.base) (hF : va_F A1 st₀ t) :
    H.size ≤ T'.heap.size ∧ (∀ q : Nat, q < H.size → ¬ A1 q → T'.heap[q]? = H[q]?) ∧ va_S A0 H0 T'.heap (locs ++ L) := by
  obtain ⟨hz, hk⟩ := hF
  rw [h0] at hz hk
  exact ⟨by rw [e1]; exact hz, fun q h1 h2 => by rw [e1]; exact hk q h1 h2,
    ⟨Nat.le_trans hS.1 (by rw [e1]; exact hz), fun q h1 h2 => by rw [e1, hk q (Nat.lt_of_lt_of_le h1 hS.1) (fun z => h2 (hA q (Nat.lt_of_lt_of_le h1 hS.1) z))]; exact hS.2.1 q h1 h2, fun q hq => by
      rcases List.mem_append.mp hq with h | h
      · exact hS.2.2 q h
      · exact hf _ (hL q h)⟩⟩
theorem vx_calli {S SX : Type} {post : Int32 → S → Prop} {px : SX → Prop} {B : S → State → Prop} {BX : String → SX → State → Prop} {AX : Nat → Prop} (hr : vx_Run p l e R s m args below meth c H locs cells slots mc ms (F0 m pc ls st0) rest (va_Qi post B A1 a) (vx_X px BX AX) free) (hS : va_S A0 H0 H locs) (hA : ∀ q, q < H.size → A1 q → A0 q) (hf : ∀ q, free q → A0 q) (hAX : ∀ q, q < H.size → AX q → A0 q)
    (kx : ∀ (E : String) (ce : Cell) (q9 : Addr) (u : SX) (t : State) (H1 : Heap) (locs1 : List Loc), t.heap = H1 → s.vm.Alike t.vm → px u → BX E u t → H.size ≤ H1.size → (∀ q : Nat, q < H.size → ¬ AX q → H1[q]? = H[q]?) → va_S A0 H0 H1 locs1 → H1[q9]? = some ce → ce.vm = .none → s.vm.findClass E = some ce.cls → vx_W p l e R s m args below meth c H1 locs1 (cells + mc) (slots + ms) Q (F0 m pc ls rest) q9)
    (kk : ∀ (r : Int32) (u : S) (t : State) (H1 : Heap) (locs1 : List Loc), t.heap = H1 → s.vm.Alike t.vm → post r u → B u t → H.size ≤ H1.size → (∀ q : Nat, q < H.size → ¬ A1 q → H1[q]? = H[q]?) → va_S A0 H0 H1 locs1 → W p l e R s m args below meth c H1 locs1 (cells + mc) (slots + ms) Q (F0 m (pc + 3) ls (.int r :: rest))) : W p l e R s m args below meth c H locs cells slots Q (F0 m pc ls st0) := by
  intro T hT X
  rcases hr T hT X with ⟨v, st₀, t, T', L, h0, X', hL, e1, e2, ⟨⟨r, u, hv, hp, hb⟩, hF⟩, st⟩ | ⟨q, st₀, t, T', L, E, ce, h0, X', hL, e1, e2, ⟨u, hp, hb, hF⟩, hce, hcv, hcl, st⟩
  · cases hv
    obtain ⟨k1, k2, k3⟩ := vx_keep h0 e1 hS hA hf hL hF
    obtain ⟨t2, a1, b1⟩ := kk r u t T'.heap (locs ++ L) e1.symm (by rw [← e2]; exact X'.warmed.alike) hp hb k1 k2 k3 T' rfl X'
    exact ⟨t2, st t2 a1, b1⟩
  · obtain ⟨k1, k2, k3⟩ := vx_keep h0 e1 hS hAX hf hL hF
    obtain ⟨t2, a1, b1⟩ := kx E ce q u t T'.heap (locs ++ L) e1.symm (by rw [← e2]; exact X'.warmed.alike) hp hb k1 k2 k3 (by rw [e1]; exact hce) hcv hcl T' rfl X'
    exact ⟨t2, st.trans a1, b1⟩
theorem vx_calll {S SX : Type} {post : Int64 → S → Prop} {px : SX → Prop} {B : S → State → Prop} {BX : String → SX → State → Prop} {AX : Nat → Prop} (hr : vx_Run p l e R s m args below meth c H locs cells slots mc ms (F0 m pc ls st0) rest (va_Ql post B A1 a) (vx_X px BX AX) free) (hS : va_S A0 H0 H locs) (hA : ∀ q, q < H.size → A1 q → A0 q) (hf : ∀ q, free q → A0 q) (hAX : ∀ q, q < H.size → AX q → A0 q)
    (kx : ∀ (E : String) (ce : Cell) (q9 : Addr) (u : SX) (t : State) (H1 : Heap) (locs1 : List Loc), t.heap = H1 → s.vm.Alike t.vm → px u → BX E u t → H.size ≤ H1.size → (∀ q : Nat, q < H.size → ¬ AX q → H1[q]? = H[q]?) → va_S A0 H0 H1 locs1 → H1[q9]? = some ce → ce.vm = .none → s.vm.findClass E = some ce.cls → vx_W p l e R s m args below meth c H1 locs1 (cells + mc) (slots + ms) Q (F0 m pc ls rest) q9)
    (kk : ∀ (r : Int64) (u : S) (t : State) (H1 : Heap) (locs1 : List Loc), t.heap = H1 → s.vm.Alike t.vm → post r u → B u t → H.size ≤ H1.size → (∀ q : Nat, q < H.size → ¬ A1 q → H1[q]? = H[q]?) → va_S A0 H0 H1 locs1 → W p l e R s m args below meth c H1 locs1 (cells + mc) (slots + ms) Q (F0 m (pc + 3) ls (.long r :: rest))) : W p l e R s m args below meth c H locs cells slots Q (F0 m pc ls st0) := by
  intro T hT X
  rcases hr T hT X with ⟨v, st₀, t, T', L, h0, X', hL, e1, e2, ⟨⟨r, u, hv, hp, hb⟩, hF⟩, st⟩ | ⟨q, st₀, t, T', L, E, ce, h0, X', hL, e1, e2, ⟨u, hp, hb, hF⟩, hce, hcv, hcl, st⟩
  · cases hv
    obtain ⟨k1, k2, k3⟩ := vx_keep h0 e1 hS hA hf hL hF
    obtain ⟨t2, a1, b1⟩ := kk r u t T'.heap (locs ++ L) e1.symm (by rw [← e2]; exact X'.warmed.alike) hp hb k1 k2 k3 T' rfl X'
    exact ⟨t2, st t2 a1, b1⟩
  · obtain ⟨k1, k2, k3⟩ := vx_keep h0 e1 hS hAX hf hL hF
    obtain ⟨t2, a1, b1⟩ := kx E ce q u t T'.heap (locs ++ L) e1.symm (by rw [← e2]; exact X'.warmed.alike) hp hb k1 k2 k3 (by rw [e1]; exact hce) hcv hcl T' rfl X'
    exact ⟨t2, st.trans a1, b1⟩
theorem vx_callf {S SX : Type} {post : UInt32 → S → Prop} {px : SX → Prop} {B : S → State → Prop} {BX : String → SX → State → Prop} {AX : Nat → Prop} (hr : vx_Run p l e R s m args below meth c H locs cells slots mc ms (F0 m pc ls st0) rest (va_Qf post B A1 a) (vx_X px BX AX) free) (hS : va_S A0 H0 H locs) (hA : ∀ q, q < H.size → A1 q → A0 q) (hf : ∀ q, free q → A0 q) (hAX : ∀ q, q < H.size → AX q → A0 q)
    (kx : ∀ (E : String) (ce : Cell) (q9 : Addr) (u : SX) (t : State) (H1 : Heap) (locs1 : List Loc), t.heap = H1 → s.vm.Alike t.vm → px u → BX E u t → H.size ≤ H1.size → (∀ q : Nat, q < H.size → ¬ AX q → H1[q]? = H[q]?) → va_S A0 H0 H1 locs1 → H1[q9]? = some ce → ce.vm = .none → s.vm.findClass E = some ce.cls → vx_W p l e R s m args below meth c H1 locs1 (cells + mc) (slots + ms) Q (F0 m pc ls rest) q9)
    (kk : ∀ (r : UInt32) (u : S) (t : State) (H1 : Heap) (locs1 : List Loc), t.heap = H1 → s.vm.Alike t.vm → post r u → B u t → H.size ≤ H1.size → (∀ q : Nat, q < H.size → ¬ A1 q → H1[q]? = H[q]?) → va_S A0 H0 H1 locs1 → W p l e R s m args below meth c H1 locs1 (cells + mc) (slots + ms) Q (F0 m (pc + 3) ls (.float r :: rest))) : W p l e R s m args below meth c H locs cells slots Q (F0 m pc ls st0) := by
  intro T hT X
  rcases hr T hT X with ⟨v, st₀, t, T', L, h0, X', hL, e1, e2, ⟨⟨r, u, hv, hp, hb⟩, hF⟩, st⟩ | ⟨q, st₀, t, T', L, E, ce, h0, X', hL, e1, e2, ⟨u, hp, hb, hF⟩, hce, hcv, hcl, st⟩
  · cases hv
    obtain ⟨k1, k2, k3⟩ := vx_keep h0 e1 hS hA hf hL hF
    obtain ⟨t2, a1, b1⟩ := kk r u t T'.heap (locs ++ L) e1.symm (by rw [← e2]; exact X'.warmed.alike) hp hb k1 k2 k3 T' rfl X'
    exact ⟨t2, st t2 a1, b1⟩
  · obtain ⟨k1, k2, k3⟩ := vx_keep h0 e1 hS hAX hf hL hF
    obtain ⟨t2, a1, b1⟩ := kx E ce q u t T'.heap (locs ++ L) e1.symm (by rw [← e2]; exact X'.warmed.alike) hp hb k1 k2 k3 (by rw [e1]; exact hce) hcv hcl T' rfl X'
    exact ⟨t2, st.trans a1, b1⟩
theorem vx_calld {S SX : Type} {post : UInt64 → S → Prop} {px : SX → Prop} {B : S → State → Prop} {BX : String → SX → State → Prop} {AX : Nat → Prop} (hr : vx_Run p l e R s m args below meth c H locs cells slots mc ms (F0 m pc ls st0) rest (va_Qd post B A1 a) (vx_X px BX AX) free) (hS : va_S A0 H0 H locs) (hA : ∀ q, q < H.size → A1 q → A0 q) (hf : ∀ q, free q → A0 q) (hAX : ∀ q, q < H.size → AX q → A0 q)
    (kx : ∀ (E : String) (ce : Cell) (q9 : Addr) (u : SX) (t : State) (H1 : Heap) (locs1 : List Loc), t.heap = H1 → s.vm.Alike t.vm → px u → BX E u t → H.size ≤ H1.size → (∀ q : Nat, q < H.size → ¬ AX q → H1[q]? = H[q]?) → va_S A0 H0 H1 locs1 → H1[q9]? = some ce → ce.vm = .none → s.vm.findClass E = some ce.cls → vx_W p l e R s m args below meth c H1 locs1 (cells + mc) (slots + ms) Q (F0 m pc ls rest) q9)
    (kk : ∀ (r : UInt64) (u : S) (t : State) (H1 : Heap) (locs1 : List Loc), t.heap = H1 → s.vm.Alike t.vm → post r u → B u t → H.size ≤ H1.size → (∀ q : Nat, q < H.size → ¬ A1 q → H1[q]? = H[q]?) → va_S A0 H0 H1 locs1 → W p l e R s m args below meth c H1 locs1 (cells + mc) (slots + ms) Q (F0 m (pc + 3) ls (.double r :: rest))) : W p l e R s m args below meth c H locs cells slots Q (F0 m pc ls st0) := by
  intro T hT X
  rcases hr T hT X with ⟨v, st₀, t, T', L, h0, X', hL, e1, e2, ⟨⟨r, u, hv, hp, hb⟩, hF⟩, st⟩ | ⟨q, st₀, t, T', L, E, ce, h0, X', hL, e1, e2, ⟨u, hp, hb, hF⟩, hce, hcv, hcl, st⟩
  · cases hv
    obtain ⟨k1, k2, k3⟩ := vx_keep h0 e1 hS hA hf hL hF
    obtain ⟨t2, a1, b1⟩ := kk r u t T'.heap (locs ++ L) e1.symm (by rw [← e2]; exact X'.warmed.alike) hp hb k1 k2 k3 T' rfl X'
    exact ⟨t2, st t2 a1, b1⟩
  · obtain ⟨k1, k2, k3⟩ := vx_keep h0 e1 hS hAX hf hL hF
    obtain ⟨t2, a1, b1⟩ := kx E ce q u t T'.heap (locs ++ L) e1.symm (by rw [← e2]; exact X'.warmed.alike) hp hb k1 k2 k3 (by rw [e1]; exact hce) hcv hcl T' rfl X'
    exact ⟨t2, st.trans a1, b1⟩
theorem vx_callv {S SX : Type} {post : S → Prop} {px : SX → Prop} {B : S → State → Prop} {BX : String → SX → State → Prop} {AX : Nat → Prop} (hr : vx_Run p l e R s m args below meth c H locs cells slots mc ms (F0 m pc ls st0) rest (va_Qv post B A1 a) (vx_X px BX AX) free) (hS : va_S A0 H0 H locs) (hA : ∀ q, q < H.size → A1 q → A0 q) (hf : ∀ q, free q → A0 q) (hAX : ∀ q, q < H.size → AX q → A0 q)
    (kx : ∀ (E : String) (ce : Cell) (q9 : Addr) (u : SX) (t : State) (H1 : Heap) (locs1 : List Loc), t.heap = H1 → s.vm.Alike t.vm → px u → BX E u t → H.size ≤ H1.size → (∀ q : Nat, q < H.size → ¬ AX q → H1[q]? = H[q]?) → va_S A0 H0 H1 locs1 → H1[q9]? = some ce → ce.vm = .none → s.vm.findClass E = some ce.cls → vx_W p l e R s m args below meth c H1 locs1 (cells + mc) (slots + ms) Q (F0 m pc ls rest) q9)
    (kk : ∀ (u : S) (t : State) (H1 : Heap) (locs1 : List Loc), t.heap = H1 → s.vm.Alike t.vm → post u → B u t → H.size ≤ H1.size → (∀ q : Nat, q < H.size → ¬ A1 q → H1[q]? = H[q]?) → va_S A0 H0 H1 locs1 → W p l e R s m args below meth c H1 locs1 (cells + mc) (slots + ms) Q (F0 m (pc + 3) ls (rest))) : W p l e R s m args below meth c H locs cells slots Q (F0 m pc ls st0) := by
  intro T hT X
  rcases hr T hT X with ⟨v, st₀, t, T', L, h0, X', hL, e1, e2, ⟨⟨u, hv, hp, hb⟩, hF⟩, st⟩ | ⟨q, st₀, t, T', L, E, ce, h0, X', hL, e1, e2, ⟨u, hp, hb, hF⟩, hce, hcv, hcl, st⟩
  · cases hv
    obtain ⟨k1, k2, k3⟩ := vx_keep h0 e1 hS hA hf hL hF
    obtain ⟨t2, a1, b1⟩ := kk u t T'.heap (locs ++ L) e1.symm (by rw [← e2]; exact X'.warmed.alike) hp hb k1 k2 k3 T' rfl X'
    exact ⟨t2, st t2 a1, b1⟩
  · obtain ⟨k1, k2, k3⟩ := vx_keep h0 e1 hS hAX hf hL hF
    obtain ⟨t2, a1, b1⟩ := kx E ce q u t T'.heap (locs ++ L) e1.symm (by rw [← e2]; exact X'.warmed.alike) hp hb k1 k2 k3 (by rw [e1]; exact hce) hcv hcl T' rfl X'
    exact ⟨t2, st.trans a1, b1⟩
/-- caught by the row x of this method's table; the rows ahead don't take it -/
theorem vx_catch {own name : String} {E : String} {ce : Cell} {q : Addr} (hown : s.vm.findClass own = some m.cls) (pre : List ExceptionTableEntry) (x : ExceptionTableEntry) (suf : List ExceptionTableEntry) (hsplit : c.exceptionTable.toList = pre ++ x :: suf)
    (hpass : ∀ z ∈ pre, covers z pc = false ∨ (z.catchType ≠ 0 ∧ ∃ nm : String, (Cond.classLink own z.catchType nm).before args s = true ∧ va_Nc E nm s)) (hx : covers x pc = true) (h0 : x.catchType ≠ 0)
    (hlink : (Cond.classLink own x.catchType name).before args s = true) (hcast : (Cond.castable E name).before args s = true) (hcell : H[q]? = some ce) (hv : ce.vm = .none) (hcl : s.vm.findClass E = some ce.cls)
    (kk : W p l e R s m args below meth c H locs cells slots Q (F0 m x.handlerPc ls [.ref q])) : vx_W p l e R s m args below meth c H locs cells slots Q (F0 m pc ls rest) q := by
  intro T hT X
  have hpl : e.platform.magicAccessors = ({} : Platform).magicAccessors := by rw [X.admits.platform]
  obtain ⟨c3, c4, hc3, hc4, hasg⟩ := Cond.castable_spec hcast
  cases Option.some.inj (hc3.symm.trans hcl)
  obtain ⟨c5, hc5, hcl5⟩ := Cond.classLink_spec hown hlink e.platform hpl
  cases Option.some.inj (hc4.symm.trans hc5)
  obtain ⟨vm', X', st⟩ := X.thenCaughtThrough q (g := F0 m pc ls rest) rfl (Steps.refl _) (by rw [hT]; exact hcell) (by rw [hv]; rfl) (by obtain ⟨k9, h9, -⟩ := Vm.findClass_spec hcl; exact ⟨k9, h9⟩) pre x suf hsplit
    (fun z hz => by
      rcases hpass z hz with h | ⟨hz0, nm, hl1, hn1⟩
      · exact Or.inl h
      · obtain ⟨c6, hc6, hcl6⟩ := Cond.classLink_spec hown hl1 e.platform hpl
        obtain ⟨a8, b8, h1, h2, h3⟩ := hn1
        cases Option.some.inj (h1.symm.trans hcl)
        cases Option.some.inj (h2.symm.trans hc6)
        exact Or.inr ⟨hz0, _, hcl6, h3⟩) hx (Or.inr ⟨h0, c4, hcl5, hasg⟩)
  obtain ⟨t, a1, b1⟩ := kk (T.setVm vm') hT X'
  exact ⟨t, st.trans a1, b1⟩
end Rows
section Ends
variable {p : Program} {l : Launch} {e : Env} {R : Room} {s : State} {m : MethodId} {args : Array Value} {below : List Frame} {meth : Method} {c : Code} {H : Heap} {locs : List Loc} {cells slots : Nat} {Q : State → Prop}
variable {mc ms : Nat} {free : Addr → Prop} {A0 A1 : Nat → Prop} {H0 : Heap} {a : Array Value} {ls : Array Slot} {st0 rest : List Value}
variable {Qc : Array Value → State → Outcome → State → Prop} {XC : String → State → State → Prop}
/-- what a body that may throw owes at its end -/
def vx_MQ (below : List Frame) (Qc : Array Value → State → Outcome → State → Prop) (XC : String → State → State → Prop) (a : Array Value) (s : State) (mc ms : Nat) (free : Addr → Prop) : State → Prop := fun t =>
  ∃ o, t.status = .running ∧ Ended t below o ∧ vx_Q Qc XC mc ms free a s o t
theorem vx_ret {g : JFrame} {mc ms : Nat} (k : W p l e R s m args below meth c H locs cells slots (MQ below Qc args s mc ms free) g) : W p l e R s m args below meth c H locs cells slots (vx_MQ below Qc XC args s mc ms free) g := by
  intro T hT X
  obtain ⟨t, a1, o, b1, b2, b3, b4⟩ := k T hT X
  exact ⟨t, a1, o, b1, b2, Or.inl ⟨b3, b4⟩⟩
/-- not caught here: it goes on to the caller -/
theorem vx_widen {g : JFrame} {q : Addr} {k n : Nat} (h1 : cells ≤ k) (h2 : slots ≤ n) (kk : vx_W p l e R s m args below meth c H locs k n Q g q) : vx_W p l e R s m args below meth c H locs cells slots Q g q := fun T hT X => kk T hT (stand_widen X h1 h2)
theorem vx_out {pc : Nat} {E : String} {ce : Cell} {q : Addr} {mc ms : Nat} (hout : ∀ x ∈ c.exceptionTable.toList, covers x pc = false) (hlocks : meth.locks = false) (hcell : H[q]? = some ce) (hv : ce.vm = .none) (hcl : s.vm.findClass E = some ce.cls)
    (hx : ∀ t : State, t.heap = H → s.vm.Alike t.vm → XC E s t) (hf : ∀ z ∈ locs, free z.base) (hc : cells ≤ mc) (hs : slots ≤ ms) :
    vx_W p l e R s m args below meth c H locs cells slots (vx_MQ below Qc XC args s mc ms free) (F0 m pc ls rest) q := by
  intro T hT X
  obtain ⟨st1, hrun, hend, hW, hsm⟩ := X.leaveThrown q (g := F0 m pc ls rest) rfl rfl rfl hout hlocks
  have hcell9 : (T.setFrames (.throwing q :: below)).heap[q]? = some ce := by
    show T.heap[q]? = some ce
    rw [hT]; exact hcell
  exact ⟨_, st1, .threw q, hrun, hend, Or.inr ⟨q, rfl, E, ce, locs, hx _ hT hW.alike, hcell9, hv, hcl, hW, hsm.mono hc hs, hf⟩⟩
theorem vx_frame {U : State} {k n : Nat} (h : s.sameButNew ({ U with vm := s.vm } : State) locs k n) : s.heap.size ≤ U.heap.size ∧ ∀ q : Nat, q < s.heap.size → (∀ z ∈ locs, z.base ≠ q) → U.heap[q]? = s.heap[q]? := by
  obtain ⟨-, h2, -, -, -, h6⟩ := h
  refine ⟨h2, fun q hq hz => ?_⟩
  obtain ⟨c9, e1, e2, e3, e4⟩ := h6 q _ (Array.getElem?_eq_getElem hq)
  have hs : c9.slots = (s.heap[q]).slots := Array.ext_getElem? fun i => e4 i fun hm => hz _ hm rfl
  have h9 : c9 = s.heap[q] := by
    rw [hs] at e2
    exact e2
  have e5 : U.heap[q]? = some c9 := e1
  rw [e5, h9, Array.getElem?_eq_getElem hq]
/-- the words of a throw but the four that speak of the heap -/
def vx_no (w : Cond) : Bool := decide (w ≠ .isRef (.static Bundle.tN "UNASSIGNED_STACK" Bundle.steD)) && decide (w ≠ .isRef (.static Bundle.tN "SUPPRESSED_SENTINEL" Bundle.listD)) && decide (w ≠ .laysStatic Bundle.tN "UNASSIGNED_STACK" Bundle.steD) && decide (w ≠ .laysStatic Bundle.tN "SUPPRESSED_SENTINEL" Bundle.listD)
def vx_at0 (own : String) (ic : Nat) (X : String) (names : List String) : List Cond := (Bundle.ownAtoms0 own ic X names).filter vx_no
def vx_atS (own : String) (ic : Nat) (X : String) (names : List String) : List Cond := (Bundle.ownAtoms own ic X names).filter vx_no
/-- a word that the tables alone decide, or a good one -/
def vx_ot (w : Cond) : Bool := w.onTables || goodWord w
theorem vx_ot_at {args a' : Array Value} {s U : State} {w : Cond} (hW : s.WarmedH U.vm) (hvm : s.vm = U.vm) (hg : vx_ot w = true) (h : w.before args s = true) : w.before a' U = true := by
  simp only [vx_ot, Bool.or_eq_true] at hg
  rcases hg with hg | hg
  · exact va_tabs hg hvm h
  · exact word_at hW (good_of_word hg) h
/-- a list's words: the good ones out of the method's own list, the others by premises of their own -/
theorem vx_hat {args : Array Value} {s : State} {L B : List Cond} (h1 : ∀ w ∈ L.filter goodWord, w.before args s = true) (h2 : ∀ w ∈ L.filter (fun w => !goodWord w), w ∈ B) (h3 : ∀ w ∈ B, w.before args s = true) : ∀ w ∈ L, w.before args s = true := by
  intro w hw
  by_cases g : goodWord w = true
  · exact h1 w (List.mem_filter.mpr ⟨hw, g⟩)
  · refine h3 w (h2 w (List.mem_filter.mpr ⟨hw, ?_⟩))
    show (!goodWord w) = true
    cases hgw : goodWord w
    · rfl
    · exact absurd hgw g
theorem vx_c {args : Array Value} {s : State} {w : Cond} {B : List Cond} (h : w.before args s = true) (t : ∀ w ∈ B, w.before args s = true) : ∀ w' ∈ w :: B, w'.before args s = true := fun w' h' => (List.mem_cons.mp h').elim (fun e => by rw [e]; exact h) (t w')
theorem vx_n {args : Array Value} {s : State} : ∀ w ∈ ([] : List Cond), w.before args s = true := fun _ h => nomatch h
theorem vx_own {args : Array Value} {s : State} {L : List Cond} (h1 : ∀ w ∈ L.filter vx_no, w.before args s = true)
    (hU : (Cond.isRef (.static Bundle.tN "UNASSIGNED_STACK" Bundle.steD)).before args s = true) (hN : (Cond.isRef (.static Bundle.tN "SUPPRESSED_SENTINEL" Bundle.listD)).before args s = true)
    (lU : (Cond.laysStatic Bundle.tN "UNASSIGNED_STACK" Bundle.steD).before args s = true) (lN : (Cond.laysStatic Bundle.tN "SUPPRESSED_SENTINEL" Bundle.listD).before args s = true) : ∀ w ∈ L, w.before args s = true := by
  intro w hw
  by_cases e1 : w = .isRef (.static Bundle.tN "UNASSIGNED_STACK" Bundle.steD)
  · rw [e1]; exact hU
  · by_cases e2 : w = .isRef (.static Bundle.tN "SUPPRESSED_SENTINEL" Bundle.listD)
    · rw [e2]; exact hN
    · by_cases e3 : w = .laysStatic Bundle.tN "UNASSIGNED_STACK" Bundle.steD
      · rw [e3]; exact lU
      · by_cases e4 : w = .laysStatic Bundle.tN "SUPPRESSED_SENTINEL" Bundle.listD
        · rw [e4]; exact lN
        · exact h1 w (List.mem_filter.mpr ⟨hw, by unfold vx_no; rw [decide_eq_true e1, decide_eq_true e2, decide_eq_true e3, decide_eq_true e4]; rfl⟩)
/-- where a static field lies, its class's statics cell in H -/
def vx_L (C n d : String) (A : Nat → Prop) (U : State) (H : Heap) : Prop := ∃ (c : ClassId) (k : Class) (i : Nat) (f : Field) (a : Nat) (cell : Cell), U.vm.findClass C = some c ∧ U.fieldFound? C n d = some (c, k, i, f) ∧ f.isStatic = true ∧ k.statics = some a ∧ H[a]? = some cell ∧ cell.vm.isStatics = true ∧ cell.cls = c ∧ f.slot < cell.slots.size ∧ k.staticTypes[f.slot]? = some f.type ∧ ¬ A a
theorem vx_L.moved {C n d : String} {A : Nat → Prop} {u U : State} {H : Heap} (hvm : u.vm.Alike U.vm) (h : vx_L C n d A u H) : vx_L C n d A U H := by
  obtain ⟨c, k, i, f, a, cell, h1, h2, h3, h4, h5, h6, h7, h8, h9, h10⟩ := h
  obtain ⟨k', hi', he⟩ := State.fieldFound?_setVm hvm h2
  exact ⟨c, k', i, f, a, cell, by rw [hvm.findClass]; exact h1, hi', h3, by rw [he]; exact h4, h5, h6, h7, h8, by rw [he]; exact h9, h10⟩
theorem vx_L.kept {C n d : String} {A : Nat → Prop} {U : State} {H H1 : Heap} (h : vx_L C n d A U H) (hq : ∀ a : Nat, a < H.size → ¬ A a → H1[a]? = H[a]?) : vx_L C n d A U H1 := by
  obtain ⟨c, k, i, f, a, cell, h1, h2, h3, h4, h5, h6, h7, h8, h9, h10⟩ := h
  exact ⟨c, k, i, f, a, cell, h1, h2, h3, h4, by rw [hq a (Array.getElem?_eq_some_iff.mp h5).1 h10]; exact h5, h6, h7, h8, h9, h10⟩
theorem vx_L.narrow {C n d : String} {A B : Nat → Prop} {U : State} {H : Heap} (h : vx_L C n d A U H) (hAB : ∀ q, B q → A q) : vx_L C n d B U H := by
  obtain ⟨c, k, i, f, a, cell, h1, h2, h3, h4, h5, h6, h7, h8, h9, h10⟩ := h
  exact ⟨c, k, i, f, a, cell, h1, h2, h3, h4, h5, h6, h7, h8, h9, fun z => h10 (hAB _ z)⟩
theorem vx_L.word {C n d : String} {A : Nat → Prop} {s : State} {args : Array Value} (h : vx_L C n d A s s.heap) : (Cond.laysStatic C n d).before args s = true := by
  obtain ⟨c, k, i, f, a, cell, h1, h2, h3, h4, h5, h6, h7, h8, h9, -⟩ := h
  show (Cond.laysStatic C n d).holds args s none s [] = true
  exact Cond.laysStatic_of h1 h2 h3 h4 h5 h6 h7 h8 h9
/-- .. and what it holds: null or some reference -/
def vx_Zq (C n d : String) (A : Nat → Prop) (U : State) (H : Heap) : Prop := va_Zq C n d A U H ∧ vx_L C n d A U H
theorem vx_Zq.moved {C n d : String} {A : Nat → Prop} {u U : State} {H : Heap} (hvm : u.vm.Alike U.vm) (h : vx_Zq C n d A u H) : vx_Zq C n d A U H := ⟨va_Zq.moved hvm h.1, vx_L.moved hvm h.2⟩
theorem vx_Zq.kept {C n d : String} {A : Nat → Prop} {U : State} {H H1 : Heap} (h : vx_Zq C n d A U H) (hq : ∀ a : Nat, a < H.size → ¬ A a → H1[a]? = H[a]?) : vx_Zq C n d A U H1 := ⟨va_Zq.kept h.1 hq, vx_L.kept h.2 hq⟩
theorem vx_Zq.narrow {C n d : String} {A B : Nat → Prop} {U : State} {H : Heap} (h : vx_Zq C n d A U H) (hAB : ∀ q, B q → A q) : vx_Zq C n d B U H := ⟨va_Zq.narrow h.1 hAB, vx_L.narrow h.2 hAB⟩
theorem vx_Zqof {args : Array Value} {s : State} {C n d : String} {A : Nat → Prop} (hl : (Cond.laysStatic C n d).before args s = true) (hini : (Cond.initialized C).before args s = true) (h : (Cond.isRef (.static C n d)).before args s = true) (hA : ∀ a : Nat, a < s.heap.size → ¬ A a) : vx_Zq C n d A s s.heap := by
  refine ⟨va_Zqof hl hini h hA, ?_⟩
  obtain ⟨c, k, i, f, a, cell, h1, h2, h3, h4, h5, h6, h7, h8, h9⟩ := Cond.laysStatic_spec hl
  exact ⟨c, k, i, f, a, cell, h1, h2, h3, h4, h5, h6, h7, h8, h9, hA a (Array.getElem?_eq_some_iff.mp h5).1⟩
theorem vx_isRef {C n d : String} {v : Value} {A : Nat → Prop} {s : State} {args : Array Value} (h : va_Z C n d v A s s.heap) (hv : v.isRef = true) : (Cond.isRef (.static C n d)).before args s = true := by
  obtain ⟨cf, kf, fi, f, a, cell, h1, h2, h3, h4, h5, h6, h7, -⟩ := h
  have he : (Term.static C n d).eval args s none [] s = some v := by
    simp [Term.eval, State.fieldNamed?, h1, h2, h4, h5, h6, h7]
  simp only [Cond.before, Cond.holds, Cond.value, he]
  cases v <;> simp_all [Value.isRef]
theorem vx_isRefq {C n d : String} {A : Nat → Prop} {s : State} {args : Array Value} (h : va_Zq C n d A s s.heap) : (Cond.isRef (.static C n d)).before args s = true := by
  rcases h with h | ⟨t, h⟩
  · exact vx_isRef h rfl
  · exact vx_isRef h rfl
/-- the same frame, seen from here: as if the method were called anew in this heap -/
theorem vx_rebase {T : State} (X : Stand p l e R s m args below meth c T locs cells slots) {R' : Room} (hf : R'.frames ≤ R.frames) (hl : R'.locals ≤ R.locals) (hc : cells + R'.cells ≤ R.cells) (hs : slots + R'.slots ≤ R.slots) :
    Stand p l e R' ((T.setVm s.vm).setFrames (.invoking m args :: below)) m args below meth c T [] 0 0 := by
  have htop : (T.setVm s.vm).topJava?.isSome := X.here.top
  have hF : ((T.setVm s.vm).setFrames (.invoking m args :: below)).frames = .invoking m args :: below := State.frames_setFrames _ (State.cur_lt_of_top htop)
  obtain ⟨g₀, hg0⟩ := Option.isSome_iff_exists.mp htop
  obtain ⟨r, hr⟩ := State.topJava?_eq_some.mp hg0
  have hl9 : e.platform.stackLimits (T.setVm s.vm).me = e.platform.stackLimits s.me := X.limits
  have hb9 : (T.setVm s.vm).me.stackBytes = s.me.stackBytes := X.bytes
  refine ⟨X.admits, X.cas, X.clock, hF, ?_, X.hears, X.method, X.code, X.here, X.tail, X.warmed, ?_, ?_, ?_⟩
  · have h := X.room
    have hU : ((T.setVm s.vm).setFrames (.invoking m args :: below)).localsInUse = s.localsInUse := by
      rw [State.localsInUse_invoking hF (meth := meth) (c := c) X.method X.code, State.localsInUse_invoking X.frames X.method X.code]
    simp only [State.hasRoom, Bool.and_eq_true, decide_eq_true_eq] at h ⊢
    obtain ⟨⟨⟨⟨h1, h2, h3, h4, h5, h6⟩, h7⟩, h8⟩, h9⟩ := h
    rw [X.frames, List.length_cons] at h2 h3
    have q1 := X.heapSize
    have q2 := X.used
    simp only [hF, hU, List.length_cons, State.stackLimits_setFrames, State.stackBytes_setFrames, hl9, hb9]
    refine ⟨⟨⟨⟨by omega, by omega, by omega, by omega, by omega, h6⟩, ?_⟩, ?_⟩, X.book⟩
    · show T.heap.size + R'.cells ≤ e.platform.maxCells
      omega
    · show T.slotsUsed + R'.slots ≤ e.platform.maxSlots
      omega
  · rw [State.stackLimits_setFrames]; rfl
  · rw [State.stackBytes_setFrames]; rfl
  · refine ⟨?_, Nat.le_refl _, Nat.le_refl _, ?_, ?_, fun a c9 h9 => ⟨c9, h9, rfl, rfl, fun _ _ => rfl⟩⟩
    · obtain ⟨t, ht, -⟩ := State.frames_cons hr
      show T.setVm s.vm = { ((T.setVm s.vm).setFrames (.invoking m args :: below)).setFrames (T.setVm s.vm).frames with heap := T.heap, slotsUsed := T.slotsUsed }
      rw [State.setFrames_setFrames, State.setFrames_self ht]
      rfl
    · show T.slotsUsed = T.slotsUsed + ((T.heap.toList.drop T.heap.size).map (·.slots.size)).sum
      rw [List.drop_eq_nil_of_le (Nat.le_of_eq Array.length_toList)]
      rfl
    · show ((T.heap.toList.drop T.heap.size).map (·.slots.size)).sum ≤ 0
      rw [List.drop_eq_nil_of_le (Nat.le_of_eq Array.length_toList)]
      exact Nat.le_refl _
/-- 'throw new E()': new; dup; invokespecial; athrow -/
theorem vx_throw0 {cc : ByteArray} {pc : Nat} (hexec : p.tables.exec = Jvm.exec) (hb : c.code = cc) (hl : l.stackTraces = false) {own cls : String} {names : List String} {ik ic mc ms : Nat} {A : Nat → Prop}
    (hown : s.vm.findClass own = some m.cls) (hcls : Bundle.fit cls = true) (hnames : ∀ n ∈ names, Bundle.fit n = true)
    (hk : (Cond.classLink own ik cls).before args s = true) (hini : (Cond.initialized cls).before args s = true) (hat : ∀ w ∈ vx_at0 own ic cls names, w.before args s = true)
    (hgood : ∀ w ∈ Cond.classLink own ik cls :: Cond.initialized cls :: vx_at0 own ic cls names, vx_ot w = true)
    (hU : vx_Zq Bundle.tN "UNASSIGNED_STACK" Bundle.steD A s s.heap) (hN : vx_Zq Bundle.tN "SUPPRESSED_SENTINEL" Bundle.listD A s s.heap) (hS : va_S A s.heap H locs) (hsize : ls.size = c.maxLocals)
    (d0 : decode cc pc = .ok (.new ik, 3)) (d3 : decode cc (pc + 3) = .ok (.dup, 1)) (d4 : decode cc (pc + 4) = .ok (.invokespecial ic, 3)) (d7 : decode cc (pc + 7) = .ok (.athrow, 1))
    (hout : ∀ x ∈ c.exceptionTable.toList, covers x (pc + 7) = false)
    (hRframes : names.length + 3 < R.frames) (hRlocals : (rest.map fun v => v.category).sum + (13 * (names.length + 1) + 42) ≤ R.locals) (hRcells : cells + 1 ≤ R.cells) (hRslots : slots + 6 ≤ R.slots) (hlocks : meth.locks = false)
    (hx : ∀ t : State, s.vm.Alike t.vm → H.size ≤ t.heap.size → (∀ q : Nat, q < H.size → t.heap[q]? = H[q]?) → XC cls s t)
    (hf : ∀ z ∈ locs, free z.base) (hc : cells + 1 ≤ mc) (hs : slots + 6 ≤ ms) :
    W p l e R s m args below meth c H locs cells slots (vx_MQ below Qc XC args s mc ms free) (F0 m pc ls rest) := by
  intro T hT X
  have htr : e.platform.stackTraces = false := (show e.platform.stackTraces = l.stackTraces by rw [X.admits.platform]).trans hl
  have Y := vx_rebase X (R' := { frames := R.frames, locals := R.locals, cells := 1, slots := 6 }) (Nat.le_refl _) (Nat.le_refl _) hRcells hRslots
  obtain ⟨s', hA⟩ : ∃ z, z = (T.setVm s.vm).setFrames (.invoking m args :: below) := ⟨_, rfl⟩
  rw [← hA] at Y
  have hvm : s'.vm = s.vm := by rw [hA]; rfl
  have hhp : s'.heap = H := by rw [hA]; exact hT
  have hW0 : s.WarmedH s'.vm := by rw [hvm]; exact State.WarmedH.refl s
  have hat' : ∀ w ∈ vx_at0 own ic cls names, w.before args s' = true := fun w hw => vx_ot_at hW0 hvm.symm (hgood w (List.mem_cons_of_mem _ (List.mem_cons_of_mem _ hw))) (hat w hw)
  have hk' : (Cond.classLink own ik cls).before args s' = true := vx_ot_at hW0 hvm.symm (hgood _ List.mem_cons_self) hk
  have hini' : (Cond.initialized cls).before args s' = true := vx_ot_at hW0 hvm.symm (hgood _ (List.mem_cons_of_mem _ List.mem_cons_self)) hini
  have hU' : vx_Zq Bundle.tN "UNASSIGNED_STACK" Bundle.steD A s' s'.heap := by rw [hhp]; exact vx_Zq.moved hW0.alike (hU.kept hS.2.1)
  have hN' : vx_Zq Bundle.tN "SUPPRESSED_SENTINEL" Bundle.listD A s' s'.heap := by rw [hhp]; exact vx_Zq.moved hW0.alike (hN.kept hS.2.1)
  have h : ∀ w ∈ Bundle.ownAtoms0 own ic cls names, w.before args s' = true := vx_own hat' (vx_isRefq hU'.1) (vx_isRefq hN'.1) hU'.2.word hN'.2.word
  have hown' : s'.vm.findClass own = some m.cls := by rw [hvm]; exact hown
  have hins : (Cond.instantiable cls 6).before args s' = true := h _ (by simp [Bundle.ownAtoms0])
  obtain ⟨vm₁, cX, kX, hfX, hkX, -, -, X₁, st1⟩ := Y.newCold hexec (own := own) (C := cls) (index := ik) (n := 6) hown' hk' hins hini'
    (g := F0 m pc ls rest) rfl (by rw [hb]; exact d0) (Nat.le_refl _) (Nat.le_refl _)
  generalize hT1 : (T.setVm vm₁).pushCell { cls := cX, slots := kX.instanceTypes.map defaultValue, vm := .none } = T1 at X₁ st1
  have hcat : (Value.ref T.heap.size).category = 1 := rfl
  have hcellA : T1.heap[T.heap.size]? = some (freshCell cX kX) := by rw [← hT1]; exact State.heap_pushCell_size _ _
  have d3' : decode c.code (pc + 3) = .ok (.dup, 1) := by rw [hb]; exact d3
  obtain ⟨U, hsteps, hrun, hend, hW, hsame, ce, hce, hO⟩ := X₁.ctorThrow0 hexec htr (own := own) (cls := cls) (names := names) (ic := ic) hown' hcls hnames h (fun x hx => nomatch hx) hfX hkX hcellA (by rw [hhp, hT]; exact Nat.le_refl _)
    (g := { method := m, pc := pc + 4, locals := ls, stack := .ref T.heap.size :: .ref T.heap.size :: rest, locked := none }) rfl hsize rfl rfl (rest := rest) rfl
    (by rw [hb]; exact d4) (by rw [hb]; exact d7) hout hRframes (by simp only [List.map_cons, List.sum_cons, hcat]; omega) hlocks
  obtain ⟨f1, f2⟩ := vx_frame hsame
  rw [hhp] at f1 f2
  have hWs : s.WarmedH U.vm := State.WarmedH.trans hW0 hW
  have hcl : s.vm.findClass cls = some ce.cls := by
    have h9 := hO.cls
    rw [hvm] at h9
    exact h9
  have hall : s.sameButNew ({ U with vm := s.vm } : State) locs mc ms := by
    subst hA
    obtain ⟨e1, e2⟩ := hsame
    rw [State.setFrames_setFrames] at e1
    have h2 : (T.setVm s.vm).sameButNew ({ U with vm := s.vm } : State) [] (0 + 1) (0 + 6) := ⟨e1, e2⟩
    have h3 := X.same.trans h2
    rw [List.append_nil] at h3
    exact h3.mono hc hs
  refine ⟨U, ?_, .threw T.heap.size, hrun, hend, Or.inr ⟨T.heap.size, rfl, cls, ce, locs, hx U hWs.alike f1 (fun q hq => f2 q hq (fun z hz => nomatch hz)), hce, hO.vm, hcl, hWs, hall, hf⟩⟩
  refine st1 _ ?_
  show Steps p.tables e below (T1.setTop { method := m, pc := pc + 3, locals := ls, stack := .ref T.heap.size :: rest, locked := none }) _
  jvm_step X₁.here [X₁.here.top, hexec, d3', Value.category]
  exact hsteps
/-- 'throw new E("text")': new; dup; ldc; invokespecial; athrow -/
theorem vx_throwS {cc : ByteArray} {pc : Nat} (hexec : p.tables.exec = Jvm.exec) (hb : c.code = cc) (hl : l.stackTraces = false) {own cls text : String} {names : List String} {ik is ic mc ms sa : Nat} {A : Nat → Prop}
    (hown : s.vm.findClass own = some m.cls) (hcls : Bundle.fit cls = true) (hnames : ∀ n ∈ names, Bundle.fit n = true)
    (hk : (Cond.classLink own ik cls).before args s = true) (hini : (Cond.initialized cls).before args s = true) (hstr : vk_R own is text sa s) (hat : ∀ w ∈ vx_atS own ic cls names, w.before args s = true)
    (hgood : ∀ w ∈ Cond.classLink own ik cls :: Cond.initialized cls :: vx_atS own ic cls names, vx_ot w = true)
    (hU : vx_Zq Bundle.tN "UNASSIGNED_STACK" Bundle.steD A s s.heap) (hN : vx_Zq Bundle.tN "SUPPRESSED_SENTINEL" Bundle.listD A s s.heap) (hS : va_S A s.heap H locs) (hsize : ls.size = c.maxLocals)
    (d0 : decode cc pc = .ok (.new ik, 3)) (d3 : decode cc (pc + 3) = .ok (.dup, 1)) (d4 : decode cc (pc + 4) = .ok (.ldc is, 2)) (d6 : decode cc (pc + 6) = .ok (.invokespecial ic, 3)) (d9 : decode cc (pc + 9) = .ok (.athrow, 1))
    (hout : ∀ x ∈ c.exceptionTable.toList, covers x (pc + 9) = false)
    (hRframes : names.length + 3 < R.frames) (hRlocals : (rest.map fun v => v.category).sum + (13 * (names.length + 1) + 43) ≤ R.locals) (hRcells : cells + 1 ≤ R.cells) (hRslots : slots + 6 ≤ R.slots) (hlocks : meth.locks = false)
    (hx : ∀ t : State, s.vm.Alike t.vm → H.size ≤ t.heap.size → (∀ q : Nat, q < H.size → t.heap[q]? = H[q]?) → XC cls s t)
    (hf : ∀ z ∈ locs, free z.base) (hc : cells + 1 ≤ mc) (hs : slots + 6 ≤ ms) :
    W p l e R s m args below meth c H locs cells slots (vx_MQ below Qc XC args s mc ms free) (F0 m pc ls rest) := by
  intro T hT X
  have htr : e.platform.stackTraces = false := (show e.platform.stackTraces = l.stackTraces by rw [X.admits.platform]).trans hl
  have Y := vx_rebase X (R' := { frames := R.frames, locals := R.locals, cells := 1, slots := 6 }) (Nat.le_refl _) (Nat.le_refl _) hRcells hRslots
  obtain ⟨s', hA⟩ : ∃ z, z = (T.setVm s.vm).setFrames (.invoking m args :: below) := ⟨_, rfl⟩
  rw [← hA] at Y
  have hvm : s'.vm = s.vm := by rw [hA]; rfl
  have hhp : s'.heap = H := by rw [hA]; exact hT
  have hW0 : s.WarmedH s'.vm := by rw [hvm]; exact State.WarmedH.refl s
  have hat' : ∀ w ∈ vx_atS own ic cls names, w.before args s' = true := fun w hw => vx_ot_at hW0 hvm.symm (hgood w (List.mem_cons_of_mem _ (List.mem_cons_of_mem _ hw))) (hat w hw)
  have hk' : (Cond.classLink own ik cls).before args s' = true := vx_ot_at hW0 hvm.symm (hgood _ List.mem_cons_self) hk
  have hini' : (Cond.initialized cls).before args s' = true := vx_ot_at hW0 hvm.symm (hgood _ (List.mem_cons_of_mem _ List.mem_cons_self)) hini
  have hU' : vx_Zq Bundle.tN "UNASSIGNED_STACK" Bundle.steD A s' s'.heap := by rw [hhp]; exact vx_Zq.moved hW0.alike (hU.kept hS.2.1)
  have hN' : vx_Zq Bundle.tN "SUPPRESSED_SENTINEL" Bundle.listD A s' s'.heap := by rw [hhp]; exact vx_Zq.moved hW0.alike (hN.kept hS.2.1)
  have h : ∀ w ∈ Bundle.ownAtoms own ic cls names, w.before args s' = true := vx_own hat' (vx_isRefq hU'.1) (vx_isRefq hN'.1) hU'.2.word hN'.2.word
  have hown' : s'.vm.findClass own = some m.cls := by rw [hvm]; exact hown
  have hins : (Cond.instantiable cls 6).before args s' = true := h _ (by simp [Bundle.ownAtoms])
  obtain ⟨vm₁, cX, kX, hfX, hkX, -, -, X₁, st1⟩ := Y.newCold hexec (own := own) (C := cls) (index := ik) (n := 6) hown' hk' hins hini'
    (g := F0 m pc ls rest) rfl (by rw [hb]; exact d0) (Nat.le_refl _) (Nat.le_refl _)
  generalize hT1 : (T.setVm vm₁).pushCell { cls := cX, slots := kX.instanceTypes.map defaultValue, vm := .none } = T1 at X₁ st1
  have hcat : (Value.ref T.heap.size).category = 1 := rfl
  have hcellA : T1.heap[T.heap.size]? = some (freshCell cX kX) := by rw [← hT1]; exact State.heap_pushCell_size _ _
  have d3' : decode c.code (pc + 3) = .ok (.dup, 1) := by rw [hb]; exact d3
  have d4' : decode c.code (pc + 4) = .ok (.ldc is, 2) := by rw [hb]; exact d4
  have hstr' : vk_R own is text sa s' := vk_R.warm hW0 hstr
  obtain ⟨U, hsteps, hrun, hend, hW, hsame, ce, hce, hO⟩ := X₁.ctorThrowS hexec htr (own := own) (cls := cls) (names := names) (ic := ic) hown' hcls hnames h (fun x hx => nomatch hx) hfX hkX hcellA (by rw [hhp, hT]; exact Nat.le_refl _) (msg := .ref sa) rfl
    (g := { method := m, pc := pc + 6, locals := ls, stack := .ref sa :: .ref T.heap.size :: .ref T.heap.size :: rest, locked := none }) rfl hsize rfl rfl (rest := rest) rfl
    (by rw [hb]; exact d6) (by rw [hb]; exact d9) hout hRframes (by simp only [List.map_cons, List.sum_cons, hcat]; omega) hlocks
  obtain ⟨f1, f2⟩ := vx_frame hsame
  rw [hhp] at f1 f2
  have hWs : s.WarmedH U.vm := State.WarmedH.trans hW0 hW
  have hcl : s.vm.findClass cls = some ce.cls := by
    have h9 := hO.cls
    rw [hvm] at h9
    exact h9
  have hall : s.sameButNew ({ U with vm := s.vm } : State) locs mc ms := by
    subst hA
    obtain ⟨e1, e2⟩ := hsame
    rw [State.setFrames_setFrames] at e1
    have h2 : (T.setVm s.vm).sameButNew ({ U with vm := s.vm } : State) [] (0 + 1) (0 + 6) := ⟨e1, e2⟩
    have h3 := X.same.trans h2
    rw [List.append_nil] at h3
    exact h3.mono hc hs
  refine ⟨U, ?_, .threw T.heap.size, hrun, hend, Or.inr ⟨T.heap.size, rfl, cls, ce, locs, hx U hWs.alike f1 (fun q hq => f2 q hq (fun z hz => nomatch hz)), hce, hO.vm, hcl, hWs, hall, hf⟩⟩
  refine st1 _ ?_
  show Steps p.tables e below (T1.setTop { method := m, pc := pc + 3, locals := ls, stack := .ref T.heap.size :: rest, locked := none }) _
  jvm_step X₁.here [X₁.here.top, hexec, d3', Value.category]
  exact X₁.ldcString hexec (own := own) (text := text) (index := is) (a := sa) hown' hstr'.1 hstr'.2
    (g := { method := m, pc := pc + 4, locals := ls, stack := .ref T.heap.size :: .ref T.heap.size :: rest, locked := none }) rfl d4' _ hsteps
/-- 'throw new E("text")', the text by a wide index -/
theorem vx_throwSW {cc : ByteArray} {pc : Nat} (hexec : p.tables.exec = Jvm.exec) (hb : c.code = cc) (hl : l.stackTraces = false) {own cls text : String} {names : List String} {ik is ic mc ms sa : Nat} {A : Nat → Prop}
    (hown : s.vm.findClass own = some m.cls) (hcls : Bundle.fit cls = true) (hnames : ∀ n ∈ names, Bundle.fit n = true)
    (hk : (Cond.classLink own ik cls).before args s = true) (hini : (Cond.initialized cls).before args s = true) (hstr : vk_R own is text sa s) (hat : ∀ w ∈ vx_atS own ic cls names, w.before args s = true)
    (hgood : ∀ w ∈ Cond.classLink own ik cls :: Cond.initialized cls :: vx_atS own ic cls names, vx_ot w = true)
    (hU : vx_Zq Bundle.tN "UNASSIGNED_STACK" Bundle.steD A s s.heap) (hN : vx_Zq Bundle.tN "SUPPRESSED_SENTINEL" Bundle.listD A s s.heap) (hS : va_S A s.heap H locs) (hsize : ls.size = c.maxLocals)
    (d0 : decode cc pc = .ok (.new ik, 3)) (d3 : decode cc (pc + 3) = .ok (.dup, 1)) (d4 : decode cc (pc + 4) = .ok (.ldc_w is, 3)) (d7 : decode cc (pc + 7) = .ok (.invokespecial ic, 3)) (d10 : decode cc (pc + 10) = .ok (.athrow, 1))
    (hout : ∀ x ∈ c.exceptionTable.toList, covers x (pc + 10) = false)
    (hRframes : names.length + 3 < R.frames) (hRlocals : (rest.map fun v => v.category).sum + (13 * (names.length + 1) + 43) ≤ R.locals) (hRcells : cells + 1 ≤ R.cells) (hRslots : slots + 6 ≤ R.slots) (hlocks : meth.locks = false)
    (hx : ∀ t : State, s.vm.Alike t.vm → H.size ≤ t.heap.size → (∀ q : Nat, q < H.size → t.heap[q]? = H[q]?) → XC cls s t)
    (hf : ∀ z ∈ locs, free z.base) (hc : cells + 1 ≤ mc) (hs : slots + 6 ≤ ms) :
    W p l e R s m args below meth c H locs cells slots (vx_MQ below Qc XC args s mc ms free) (F0 m pc ls rest) := by
  intro T hT X
  have htr : e.platform.stackTraces = false := (show e.platform.stackTraces = l.stackTraces by rw [X.admits.platform]).trans hl
  have Y := vx_rebase X (R' := { frames := R.frames, locals := R.locals, cells := 1, slots := 6 }) (Nat.le_refl _) (Nat.le_refl _) hRcells hRslots
  obtain ⟨s', hA⟩ : ∃ z, z = (T.setVm s.vm).setFrames (.invoking m args :: below) := ⟨_, rfl⟩
  rw [← hA] at Y
  have hvm : s'.vm = s.vm := by rw [hA]; rfl
  have hhp : s'.heap = H := by rw [hA]; exact hT
  have hW0 : s.WarmedH s'.vm := by rw [hvm]; exact State.WarmedH.refl s
  have hat' : ∀ w ∈ vx_atS own ic cls names, w.before args s' = true := fun w hw => vx_ot_at hW0 hvm.symm (hgood w (List.mem_cons_of_mem _ (List.mem_cons_of_mem _ hw))) (hat w hw)
  have hk' : (Cond.classLink own ik cls).before args s' = true := vx_ot_at hW0 hvm.symm (hgood _ List.mem_cons_self) hk
  have hini' : (Cond.initialized cls).before args s' = true := vx_ot_at hW0 hvm.symm (hgood _ (List.mem_cons_of_mem _ List.mem_cons_self)) hini
  have hU' : vx_Zq Bundle.tN "UNASSIGNED_STACK" Bundle.steD A s' s'.heap := by rw [hhp]; exact vx_Zq.moved hW0.alike (hU.kept hS.2.1)
  have hN' : vx_Zq Bundle.tN "SUPPRESSED_SENTINEL" Bundle.listD A s' s'.heap := by rw [hhp]; exact vx_Zq.moved hW0.alike (hN.kept hS.2.1)
  have h : ∀ w ∈ Bundle.ownAtoms own ic cls names, w.before args s' = true := vx_own hat' (vx_isRefq hU'.1) (vx_isRefq hN'.1) hU'.2.word hN'.2.word
  have hown' : s'.vm.findClass own = some m.cls := by rw [hvm]; exact hown
  have hins : (Cond.instantiable cls 6).before args s' = true := h _ (by simp [Bundle.ownAtoms])
  obtain ⟨vm₁, cX, kX, hfX, hkX, -, -, X₁, st1⟩ := Y.newCold hexec (own := own) (C := cls) (index := ik) (n := 6) hown' hk' hins hini'
    (g := F0 m pc ls rest) rfl (by rw [hb]; exact d0) (Nat.le_refl _) (Nat.le_refl _)
  generalize hT1 : (T.setVm vm₁).pushCell { cls := cX, slots := kX.instanceTypes.map defaultValue, vm := .none } = T1 at X₁ st1
  have hcat : (Value.ref T.heap.size).category = 1 := rfl
  have hcellA : T1.heap[T.heap.size]? = some (freshCell cX kX) := by rw [← hT1]; exact State.heap_pushCell_size _ _
  have d3' : decode c.code (pc + 3) = .ok (.dup, 1) := by rw [hb]; exact d3
  have d4' : decode c.code (pc + 4) = .ok (.ldc_w is, 3) := by rw [hb]; exact d4
  have hstr' : vk_R own is text sa s' := vk_R.warm hW0 hstr
  obtain ⟨U, hsteps, hrun, hend, hW, hsame, ce, hce, hO⟩ := X₁.ctorThrowS hexec htr (own := own) (cls := cls) (names := names) (ic := ic) hown' hcls hnames h (fun x hx => nomatch hx) hfX hkX hcellA (by rw [hhp, hT]; exact Nat.le_refl _) (msg := .ref sa) rfl
    (g := { method := m, pc := pc + 7, locals := ls, stack := .ref sa :: .ref T.heap.size :: .ref T.heap.size :: rest, locked := none }) rfl hsize rfl rfl (rest := rest) rfl
    (by rw [hb]; exact d7) (by rw [hb]; exact d10) hout hRframes (by simp only [List.map_cons, List.sum_cons, hcat]; omega) hlocks
  obtain ⟨f1, f2⟩ := vx_frame hsame
  rw [hhp] at f1 f2
  have hWs : s.WarmedH U.vm := State.WarmedH.trans hW0 hW
  have hcl : s.vm.findClass cls = some ce.cls := by
    have h9 := hO.cls
    rw [hvm] at h9
    exact h9
  have hall : s.sameButNew ({ U with vm := s.vm } : State) locs mc ms := by
    subst hA
    obtain ⟨e1, e2⟩ := hsame
    rw [State.setFrames_setFrames] at e1
    have h2 : (T.setVm s.vm).sameButNew ({ U with vm := s.vm } : State) [] (0 + 1) (0 + 6) := ⟨e1, e2⟩
    have h3 := X.same.trans h2
    rw [List.append_nil] at h3
    exact h3.mono hc hs
  refine ⟨U, ?_, .threw T.heap.size, hrun, hend, Or.inr ⟨T.heap.size, rfl, cls, ce, locs, hx U hWs.alike f1 (fun q hq => f2 q hq (fun z hz => nomatch hz)), hce, hO.vm, hcl, hWs, hall, hf⟩⟩
  refine st1 _ ?_
  show Steps p.tables e below (T1.setTop { method := m, pc := pc + 3, locals := ls, stack := .ref T.heap.size :: rest, locked := none }) _
  jvm_step X₁.here [X₁.here.top, hexec, d3', Value.category]
  exact X₁.ldcStringW hexec (own := own) (text := text) (index := is) (a := sa) hown' hstr'.1 hstr'.2
    (g := { method := m, pc := pc + 4, locals := ls, stack := .ref T.heap.size :: .ref T.heap.size :: rest, locked := none }) rfl d4' _ hsteps
end Ends
section Bodies
variable {l : Launch}
theorem vx_ofW {y : MethodName} {ws ws' : List Cond} {rm : Room} {Pc : Array Value → State → Prop} {Qc : Array Value → State → Outcome → State → Prop} {XC : String → State → State → Prop} {mc ms : Nat} {free : Addr → Prop} {cc : ByteArray} {maxL : Nat} {ret : Option FieldType}
    (hy : plainName y.cls = true) (hw : ws = Cond.code y cc maxL ret :: ws')
    (body : ∀ p e s m args below meth c s₁, BodyLoose p l y (headSpec ws rm) cc maxL ret e s m args below meth c s₁ → c.maxLocals = maxL → (∀ x ∈ c.exceptionTable.toList, False) → Pc args s →
      W p l e (headSpec ws rm).room s m args below meth c s.heap [] 0 0 (vx_MQ below Qc XC args s mc ms free) (entryFrame m args maxL)) : vx_Met l y ws rm Pc Qc XC mc ms free := by
  refine MetFree.of_bodyS (code := cc) (maxLocals := maxL) (ret := ret) hy ?_ ?_
  · intro args s m h hn
    obtain ⟨meth, c, h1, h2, h3, h4, h5, h6, -, -⟩ := Cond.code_spec hn (atoms_spec (ws := ws) h _ (by rw [hw]; exact List.mem_cons_self))
    exact ⟨meth, c, h1, h2, h3, h4, h5, h6⟩
  · intro p e s m args below meth c s₁ B hml hP _
    have hh0 : s₁.heap = s.heap := by rw [B.state]; rfl
    have ht : ∀ x ∈ c.exceptionTable.toList, False := by
      obtain ⟨meth9, c9, h1, h2, -, -, -, -, h7, -⟩ := Cond.code_spec B.named (atoms_spec (ws := ws) B.pre _ (by rw [hw]; exact List.mem_cons_self))
      cases Option.some.inj (h1.symm.trans B.method)
      cases Option.some.inj (h2.symm.trans (Stand.of_body B).code)
      intro x hx
      rw [Array.isEmpty_iff.mp h7] at hx
      cases hx
    obtain ⟨t, a1, o, b1, b2, b3⟩ := body p e s m args below meth c s₁ B hml ht hP s₁ hh0 (Stand.of_body B)
    exact ⟨t, o, a1, b1, b2, b3⟩
/-- the table of a body with handlers -/
theorem vx_table {p : Program} {x y : MethodName} {S : Spec} {cc bytes : ByteArray} {maxL maxL' : Nat} {ret ret' : Option FieldType} {e : Env} {s s₁ : State} {m : MethodId} {args : Array Value} {below : List Frame} {meth : Method} {c : Code} {hh : List (Nat × Nat × Nat × Nat)}
    (B : BodyLoose p l y S cc maxL ret e s m args below meth c s₁) (h : (Cond.codeWith y bytes maxL' ret' hh).before args s = true) : c.exceptionTable.toList = tableOf hh := by
  obtain ⟨m9, meth9, c9, hn9, h1, h2, -, -, h6, -⟩ := Cond.codeWith_spec h
  cases Option.some.inj (hn9.symm.trans B.named)
  cases Option.some.inj (h1.symm.trans B.method)
  cases Option.some.inj (h2.symm.trans (Stand.of_body B).code)
  rw [← h6, table_eq]
end Bodies
end VXA
/-! ===== END ===== -/
/-! ===== BEGIN a static call of a method with an exception table ===== -/
section VXS
variable {p : Program} {l : Launch} {e : Env} {R : Room} {s : State} {m : MethodId} {args : Array Value} {below : List Frame} {meth : Method} {c : Code} {T : State} {H : Heap} {locs : List Loc} {cells slots : Nat}
abbrev vx_CSW (R : Room) (s : State) (args : Array Value) (own : String) (index : Nat) (y : MethodName) (bytes : ByteArray) (maxL : Nat) (ret : Option FieldType) (hh : List (Nat × Nat × Nat × Nat)) (ws : List Cond) (rm : Room) (mc ms n : Nat) : Prop :=
  (rm.cells = mc ∧ rm.slots = ms ∧ rm.frames + 1 ≤ R.frames ∧ 8 + (maxL + 11) + rm.locals ≤ R.locals ∧ (∀ w ∈ ws, ∀ (a' : Array Value) (U : State), s.WarmedH U.vm → w.before a' U = true) ∧ Cond.codeWith y bytes maxL ret hh ∈ ws) ∧
  (Cond.codeWith y bytes maxL ret hh).before args s = true ∧ (Cond.initialized y.cls).before args s = true ∧ (y.cls ≠ "java/lang/invoke/MethodHandle" ∧ y.cls ≠ "java/lang/invoke/VarHandle") ∧
  (∀ sig, parseMethodDescriptor y.desc = some sig → n = sig.parameters.length) ∧ (Cond.methodLink own index y).before args s = true ∧ (Cond.static y).before args s = true
theorem vx_cwSW {own : String} {index maxL mc ms : Nat} {y : MethodName} {bytes : ByteArray} {ret : Option FieldType} {hh : List (Nat × Nat × Nat × Nat)} {Ts ws ws' : List Cond} {rm : Room} (n : Nat) (ht : ∀ w ∈ Ts, w.before args s = true) (hT : GoodIn Ts (va_wsS own index y ws)) (hw : ws = Cond.codeWith y bytes maxL ret hh :: ws') (hrc : rm.cells = mc) (hrs : rm.slots = ms)
    (hd : y.cls ≠ "java/lang/invoke/MethodHandle" ∧ y.cls ≠ "java/lang/invoke/VarHandle" ∧ (parseMethodDescriptor y.desc).map (fun d => d.parameters.length) = some n) (hR : rm.frames + 1 ≤ R.frames ∧ 8 + (maxL + 11) + rm.locals ≤ R.locals) :
    vx_CSW R s args own index y bytes maxL ret hh ws rm mc ms n := by
  have ok : ∀ w ∈ va_wsS own index y ws, w.before args s = true := fun w h => ht w (hT w h).1
  have hG : GoodIn Ts ws := fun w h => hT w (by unfold va_wsS; exact List.mem_append_right _ h)
  have hc : Cond.codeWith y bytes maxL ret hh ∈ ws := by rw [hw]; exact List.mem_cons_self
  refine ⟨⟨hrc, hrs, hR.1, hR.2, pay_in ht hG, hc⟩, ht _ (hG _ hc).1, ok _ (by simp [va_wsS]), ⟨hd.1, hd.2.1⟩, fun sig h => ?_, ok _ (by simp [va_wsS]), ok _ (by simp [va_wsS])⟩
  have h2 := hd.2.2
  rw [h] at h2
  exact (Option.some.inj h2).symm
theorem vx_callSW (X : Stand p l e R s m args below meth c T locs cells slots) (hexec : p.tables.exec = Jvm.exec) {own : String} {index : Nat} {y : MethodName} {bytes : ByteArray} {maxL : Nat} {ret : Option FieldType} {hh : List (Nat × Nat × Nat × Nat)}
    (hown : s.vm.findClass own = some m.cls) (hlink : (Cond.methodLink own index y).before args s = true) (hstat : (Cond.static y).before args s = true) (hinit : (Cond.initialized y.cls).before args s = true)
    (hcode : (Cond.codeWith y bytes maxL ret hh).before args s = true) (hy : y.cls ≠ "java/lang/invoke/MethodHandle" ∧ y.cls ≠ "java/lang/invoke/VarHandle")
    {W9 : Nat} {Pre : Pt → Array Value → Prop} {Post : Pt → Array Value → Option Value → Pt → Prop} (hK : Back l R p e below s args y 3 W9 Pre Post)
    {g : JFrame} (hg : g.method = m) (hsize : g.locals.size = c.maxLocals) {argsL rest : List Value} (hlen : ∀ sig, parseMethodDescriptor y.desc = some sig → argsL.length = sig.parameters.length)
    (hstack : g.stack = argsL.reverse ++ rest) (hW : 2 * g.monitorRoom + (rest.map fun v => v.category).sum ≤ W9) (hdg : decode c.code g.pc = .ok (.invokestatic index, 3))
    (hpre : ∀ vm₁, s.WarmedH vm₁ → Pre ⟨T.setVm vm₁, locs, cells, slots⟩ argsL.toArray) :
    ∃ (v : Option Value) (vm₁ : Vm) (B : Pt), s.WarmedH vm₁ ∧ Stand p l e R s m args below meth c B.U B.locs B.cells B.slots ∧ Post ⟨T.setVm vm₁, locs, cells, slots⟩ argsL.toArray v B ∧
      ∀ target, Steps p.tables e below (B.U.setTop { g with pc := g.pc + 3, stack := v.toList ++ rest }) target → Steps p.tables e below (T.setTop g) target := by
  obtain ⟨mk, methM, cM, hnamed, hmethM, -, -, -, -, -, -, hsigM⟩ := Cond.codeWith_spec hcode
  have hstatic : methM.isStatic = true := Cond.static_spec hnamed hmethM hstat
  obtain ⟨kP, hkP, -⟩ := className_of_methodNamed hnamed
  have hinitP : kP.init = .initialized := Cond.initialized_spec (findClass_of_methodNamed hnamed) hkP hinit
  obtain ⟨vm₁, X₁, hstep₁⟩ := X.invokestatic hexec hown hlink hnamed hmethM hstatic hkP hinitP hy (g := g) hg (argsL := argsL) (rest := rest) (hlen _ hsigM) hstack hdg
  obtain ⟨v, B, X', hpost, hsteps⟩ := hK m meth c ⟨T.setVm vm₁, locs, cells, slots⟩ { g with stack := rest } (.invokestatic index) mk argsL.toArray X₁ hg hsize hdg hW (X₁.named hnamed) (hpre vm₁ X₁.warmed)
  exact ⟨v, vm₁, B, X₁.warmed, X', hpost, fun target h => hstep₁ _ fun acts => by rw [doInvoke_state]; exact hsteps.trans h⟩
theorem vx_runSW {y : MethodName} {bytes cc : ByteArray} {maxL nL mc ms n index : Nat} {ret : Option FieldType} {hh : List (Nat × Nat × Nat × Nat)} {ws : List Cond} {rm : Room} {Pc : Array Value → State → Prop} {Qc : Array Value → State → Outcome → State → Prop} {free : Addr → Prop} {Ts : List Cond} {own : String} {As rest : List Value} {g : JFrame}
    (S : CallFix p m c cc nL s args Ts own) (hM : Met l y ws rm Pc Qc mc ms free) (cw : vx_CSW R s args own index y bytes maxL ret hh ws rm mc ms n) (hp : PreS s H Pc As)
    (hg : g.method = m) (hn : As.length = n) (hsize : g.locals.size = nL) (hstack : g.stack = As.reverse ++ rest) (hW : 2 * g.monitorRoom + (rest.map fun v => v.category).sum ≤ 8) (hdg : decode cc g.pc = .ok (.invokestatic index, 3)) (hf : cells + mc ≤ R.cells ∧ slots + ms ≤ R.slots) :
    va_Run p l e R s m args below meth c H locs cells slots mc ms g rest (Qc As.toArray) (free) := by
  obtain ⟨⟨hrc, hrs, hfr, hlo, hws, hcw⟩, hcode, hini, hy, hlen, hl, hstt⟩ := cw
  have hK : Back l R p e below s args y 3 8 (PreOf R mc ms Pc) (PostOf Qc mc ms free) := va_backW (hh := hh) (bytes := bytes) (maxL := maxL) (ret := ret) hM hp.1 hrc hrs hfr hlo hws hcw (fun a' U hW => word_at hW (Or.inl (by first | rfl | simp [Cond.onTables, Cond.keeps, Cond.steady])) hini)
  obtain ⟨hx, hb, hml, ho, -⟩ := S
  intro T hT X
  obtain ⟨v, vm₁, ⟨U', l2, c2, s2⟩, hW₁, X', ⟨g', mk, t, L, e1, e2, hq, h1, hL, h2, h3⟩, st⟩ := vx_callSW X hx (hh := hh) (bytes := bytes) (maxL := maxL) (ret := ret) ho hl hstt hini hcode hy hK hg (hsize.trans hml.symm) (argsL := As) (rest := rest) (fun sig h => hn.trans (hlen sig h)) hstack hW (by rw [hb]; exact hdg)
    (fun vm₁ hW₁ => ⟨hf.1, hf.2, hp.2 (T.setVm vm₁) hT hW₁⟩)
  dsimp only [Pt.U, Pt.locs, Pt.cells, Pt.slots] at X' e1 e2 h1 h2 h3 st
  subst h1; subst h2; subst h3
  exact ⟨v, (T.setVm vm₁).calling g' mk As.toArray, t, U', L, hT, X', hL, e1, e2, hq, st⟩
/-- not caught here, past rows that name other classes: it goes on to the caller -/
theorem vx_outP {p : Program} {l : Launch} {e : Env} {R : Room} {s : State} {m : MethodId} {args : Array Value} {below : List Frame} {meth : Method} {c : Code} {H : Heap} {locs : List Loc} {cells slots : Nat} {free : Addr → Prop} {ls : Array Slot} {rest : List Value} {Qc : Array Value → State → Outcome → State → Prop} {XC : String → State → State → Prop}
    {pc : Nat} {own E : String} {ce : Cell} {q : Addr} {mc ms : Nat} (hown : s.vm.findClass own = some m.cls) (hlocks : meth.locks = false)
    (hpass : ∀ z ∈ c.exceptionTable.toList, covers z pc = false ∨ (z.catchType ≠ 0 ∧ ∃ nm : String, (Cond.classLink own z.catchType nm).before args s = true ∧ va_Nc E nm s)) (hcell : H[q]? = some ce) (hv : ce.vm = .none) (hcl : s.vm.findClass E = some ce.cls)
    (hx : ∀ t : State, t.heap = H → s.vm.Alike t.vm → XC E s t) (hf : ∀ z ∈ locs, free z.base) (hc : cells ≤ mc) (hs : slots ≤ ms) :
    vx_W p l e R s m args below meth c H locs cells slots (vx_MQ below Qc XC args s mc ms free) (F0 m pc ls rest) q := by
  intro T hT X
  have hpl : e.platform.magicAccessors = ({} : Platform).magicAccessors := by rw [X.admits.platform]
  obtain ⟨vm', hW', X', st⟩ := X.outThrough hlocks q (g := F0 m pc ls rest) rfl rfl rfl (cell := ce) (by rw [hT]; exact hcell) (by rw [hv]; rfl)
    (by obtain ⟨k9, h9, -⟩ := Vm.findClass_spec hcl; exact ⟨k9, h9⟩) (fun z hz => by
      rcases hpass z hz with h | ⟨hz0, nm, hl1, hn1⟩
      · exact Or.inl h
      · obtain ⟨c6, hc6, hcl6⟩ := Cond.classLink_spec hown hl1 e.platform hpl
        obtain ⟨a8, b8, h1, h2, h3⟩ := hn1
        cases Option.some.inj (h1.symm.trans hcl)
        cases Option.some.inj (h2.symm.trans hc6)
        exact Or.inr ⟨hz0, _, hcl6, h3⟩)
  obtain ⟨g₀, hfr⟩ := X'.frames_eq
  have hcell9 : ((T.setVm vm').setFrames (.throwing q :: below)).heap[q]? = some ce := by
    show T.heap[q]? = some ce
    rw [hT]; exact hcell
  have hend : Ended ((T.setVm vm').setFrames (.throwing q :: below)) below (.threw q) := State.frames_setFrames _ (State.cur_lt_of_frames hfr)
  refine ⟨(T.setVm vm').setFrames (.throwing q :: below), ?_, .threw q, X'.here.running, hend, Or.inr ⟨q, rfl, E, ce, locs, hx _ hT (X'.ends _).1.alike, hcell9, hv, hcl, (X'.ends _).1, (X'.ends _).2.mono hc hs, hf⟩⟩
  rw [X.pushThrowing_eq]
  exact st
/-- a thing of a world lies in the heap -/
theorem vx_lt {D : va_G} {cl : List vw_C} {ws : va_W} {H1 : Heap} (h : va_P D cl ws H1) {k : Nat} {q : Nat × va_E} (hk : ws[k]? = some q) : q.1 < H1.size := (h k q hk).lt
end VXS
/-! ===== END ===== -/
/-! ===== BEGIN methods with a table of their own: called by a name, returning or throwing ===== -/
section VXH
/-! vx_backW, vx_callVX, vx_callSX, vx_callVW, vx_runVW, vx_runVX, vx_runSX, vx_ofWH follow the same proofs as their sisters above (Free/Laws.lean, Shelf42/LK1.lean); vx_outP calls Shelf42/NT130.lean (outThrough). -/
section
variable {l : Launch} {R : Room} {p : Program} {e : Env} {below : List Frame} {s : State} {sargs : Array Value} {y : MethodName} {len W9 : Nat}
theorem vx_backW {ws : List Cond} {rm : Room} {Pc : Array Value → State → Prop} {Qc : Array Value → State → Outcome → State → Prop} {XC : String → State → State → Prop} {mc ms : Nat} {free : Addr → Prop} {bytes : ByteArray} {maxL : Nat} {ret : Option FieldType} {hh : List (Nat × Nat × Nat × Nat)}
    (hM : vx_Met l y ws rm Pc Qc XC mc ms free) (hblind : FrameBlind Pc) (hrc : rm.cells = mc) (hrs : rm.slots = ms)
    (hframes : rm.frames + 1 ≤ R.frames) (hlocals : W9 + (maxL + 11) + rm.locals ≤ R.locals)
    (hws : ∀ w ∈ ws, ∀ a' U, s.WarmedH U.vm → w.before a' U = true) (hcode : Cond.codeWith y bytes maxL ret hh ∈ ws) (hinit : ∀ a' U, s.WarmedH U.vm → (Cond.initialized y.cls).before a' U = true) :
    vx_Back l R p e below s sargs y len W9 (PreOf R mc ms Pc) (PostOf Qc mc ms free) (vx_Post XC mc ms free) := by
  intro m meth c A g ig mk a X hg hsize hdg hW hn hp
  have h1 : (headSpec ws rm).pre.before a A.U = true := atoms_intro fun w hw => hws w hw _ _ X.warmed
  have h2 : (Cond.codeWith y bytes maxL ret hh).before a A.U = true := hws _ hcode _ _ X.warmed
  have h3 : (Cond.initialized y.cls).before a A.U = true := hinit _ _ X.warmed
  have h4 : A.cells + (headSpec ws rm).room.cells ≤ R.cells := by rw [show (headSpec ws rm).room.cells = mc from hrc]; exact hp.1
  have h5 : A.slots + (headSpec ws rm).room.slots ≤ R.slots := by rw [show (headSpec ws rm).room.slots = ms from hrs]; exact hp.2.1
  have hPc : Pc a (A.U.calling g mk a) := hblind _ _ _ _ hp.2.2
  obtain ⟨U, Ls, c0, s0⟩ := A
  dsimp only [Pt.U, Pt.locs, Pt.cells, Pt.slots] at h1 h2 h3 h4 h5 X hn hPc ⊢
  obtain ⟨m9, methY, cY, hn9, hmY, hcY, -, hlY, -⟩ := Cond.codeWith_spec h2
  cases Option.some.inj (hn9.symm.trans hn)
  obtain ⟨kY, hkY, -⟩ := className_of_methodNamed hn
  have hinitY : kY.init = .initialized := Cond.initialized_spec (findClass_of_methodNamed hn) hkY h3
  have h : At U g.method c below := by rw [hg]; exact X.here
  have hlocals9 : W9 + (maxL + 11) + (headSpec ws rm).room.locals ≤ R.locals := hlocals
  have happ : (headSpec ws rm).appliesLoose y e.platform (U.calling g mk a) = true :=
    Spec.appliesLoose_calling (g := g) h hdg hn hkY hinitY
      (X.room_calling (g := g) (R' := (headSpec ws rm).room) hsize hmY hcY hframes (by rw [hlY]; omega) h4 h5) h1
  obtain ⟨mid, hmid⟩ := h.above
  have hfr : (U.setTop g).frames = (.java g :: mid) ++ below := by rw [State.frames_setTop' g h.top, hmid]; rfl
  obtain ⟨o, s₂, hsteps, -, hend, hq⟩ := Steps.callFree hM p X.admits X.cas X.clock (acts := []) hfr happ hPc trivial
  have hq' : vx_Q Qc XC mc ms free a (U.calling g mk a) o s₂ := hq
  rw [State.frames_setTop' g h.top] at hend
  obtain ⟨g₀, hg0⟩ := Option.isSome_iff_exists.mp h.top
  obtain ⟨r, hr⟩ := State.topJava?_eq_some.mp hg0
  have hr' : (({ U with heap := s₂.heap, slotsUsed := s₂.slotsUsed } : State).setVm s₂.vm).frames = .java g₀ :: r := hr
  rcases hq' with ⟨hqc, L, hfe, hL⟩ | ⟨q, rfl, E, ce, L, hx, hce, hcv, hcl, hW₂, hsm, hL⟩
  · obtain ⟨⟨v, rfl⟩, hW₂, e2, q2, q3, q4, q5, q6⟩ := id hfe
    have e3 : s₂ = ({ (U.calling g mk a).setFrames s₂.frames with heap := s₂.heap, slotsUsed := s₂.slotsUsed } : State).setVm s₂.vm := by
      have : s₂ = ({ s₂ with vm := (U.calling g mk a).vm } : State).setVm s₂.vm := rfl
      rw [e2] at this
      exact this
    obtain ⟨c₂, i₂, len₂, hc₂, hd₂, hf₂⟩ := hend
    have hW' : U.WarmedH s₂.vm := hW₂
    have hcc : c₂ = c := by
      have h1 : s₂.code? g.method = U.code? g.method := by
        rw [State.code?_eq, State.code?_eq, hW'.alike.method?]
      exact Option.some.inj (hc₂.symm.trans (h1.trans h.code))
    subst hcc
    have hlen : len₂ = len := by rw [hdg] at hd₂; cases hd₂; rfl
    subst hlen
    have hs₂ : s₂ = (({ U with heap := s₂.heap, slotsUsed := s₂.slotsUsed } : State).setVm s₂.vm).setTop { g with pc := g.pc + len₂, stack := v.toList ++ g.stack } := by
      refine e3.trans ?_
      rw [hf₂, State.calling_eq h.top, State.setFrames_setFrames, State.setTop_of_frames _ hr', hr]
      rfl
    have hsame : U.sameButNew ({ U with heap := s₂.heap, slotsUsed := s₂.slotsUsed } : State) L mc ms := by
      refine ⟨?_, q2, q3, q4, q5, q6⟩
      obtain ⟨t, ht, -⟩ := State.frames_cons hr
      show ({ U with heap := s₂.heap, slotsUsed := s₂.slotsUsed } : State) = { U.setFrames U.frames with heap := s₂.heap, slotsUsed := s₂.slotsUsed }
      rw [State.setFrames_self ht]
    subst hg
    refine Or.inl ⟨v, ⟨(({ U with heap := s₂.heap, slotsUsed := s₂.slotsUsed } : State).setVm s₂.vm), Ls ++ L, c0 + mc, s0 + ms⟩,
      ⟨X.admits, X.cas, X.clock, X.frames, X.room, X.hears, X.method, X.code, (X.here.setHeapUsed s₂.heap s₂.slotsUsed).setVm hW'.alike, X.tail, State.WarmedH.trans X.warmed hW', X.limits, X.bytes, X.same.trans (hsame.setVm s.vm)⟩,
      ⟨g, mk, s₂, L, rfl, rfl, hqc, rfl, hL, rfl, rfl⟩, ?_⟩
    show Steps p.tables e below _ ((({ U with heap := s₂.heap, slotsUsed := s₂.slotsUsed } : State).setVm s₂.vm).setTop { g with pc := g.pc + len₂, stack := v.toList ++ g.stack })
    rw [← hs₂]
    exact hsteps
  · obtain ⟨e2, q2, q3, q4, q5, q6⟩ := id hsm
    have e3 : s₂ = ({ (U.calling g mk a).setFrames s₂.frames with heap := s₂.heap, slotsUsed := s₂.slotsUsed } : State).setVm s₂.vm := by
      have : s₂ = ({ s₂ with vm := (U.calling g mk a).vm } : State).setVm s₂.vm := rfl
      rw [e2] at this
      exact this
    have hf₂ : s₂.frames = .throwing q :: .java g :: U.frames.tail := hend
    have hW' : U.WarmedH s₂.vm := hW₂
    have hs₂ : s₂ = ((({ U with heap := s₂.heap, slotsUsed := s₂.slotsUsed } : State).setVm s₂.vm).setTop g).pushFrame (.throwing q) := by
      refine e3.trans ?_
      rw [hf₂, State.calling_eq h.top, State.setFrames_setFrames, State.pushFrame, State.frames_setTop _ hr', State.setTop_of_frames _ hr', State.setFrames_setFrames, hr]
      rfl
    have hsame : U.sameButNew ({ U with heap := s₂.heap, slotsUsed := s₂.slotsUsed } : State) L mc ms := by
      refine ⟨?_, q2, q3, q4, q5, q6⟩
      obtain ⟨t, ht, -⟩ := State.frames_cons hr
      show ({ U with heap := s₂.heap, slotsUsed := s₂.slotsUsed } : State) = { U.setFrames U.frames with heap := s₂.heap, slotsUsed := s₂.slotsUsed }
      rw [State.setFrames_self ht]
    subst hg
    refine Or.inr ⟨q, ⟨(({ U with heap := s₂.heap, slotsUsed := s₂.slotsUsed } : State).setVm s₂.vm), Ls ++ L, c0 + mc, s0 + ms⟩,
      ⟨X.admits, X.cas, X.clock, X.frames, X.room, X.hears, X.method, X.code, (X.here.setHeapUsed s₂.heap s₂.slotsUsed).setVm hW'.alike, X.tail, State.WarmedH.trans X.warmed hW', X.limits, X.bytes, X.same.trans (hsame.setVm s.vm)⟩,
      ⟨g, mk, s₂, L, E, ce, rfl, rfl, hx, hce, hcv, hcl, rfl, hL, rfl, rfl⟩, ?_⟩
    show Steps p.tables e below _ (((({ U with heap := s₂.heap, slotsUsed := s₂.slotsUsed } : State).setVm s₂.vm).setTop g).pushFrame (.throwing q))
    rw [← hs₂]
    exact hsteps
end
variable {p : Program} {l : Launch} {e : Env} {R : Room} {s : State} {m : MethodId} {args : Array Value} {below : List Frame} {meth : Method} {c : Code} {T : State} {H : Heap} {locs : List Loc} {cells slots : Nat}
theorem vx_callVX (X : Stand p l e R s m args below meth c T locs cells slots) (hexec : p.tables.exec = Jvm.exec) {own C : String} {index : Nat} {y : MethodName} {bytes : ByteArray} {maxL : Nat} {ret : Option FieldType} {hh : List (Nat × Nat × Nat × Nat)}
    (hown : s.vm.findClass own = some m.cls) (hlink : (Cond.methodLink own index y).before args s = true) (hinst : (Cond.instanceMethod y).before args s = true) (hsel : (Cond.selects C y y).before args s = true)
    (hcode : (Cond.codeWith y bytes maxL ret hh).before args s = true) (hy : y.cls ≠ "java/lang/invoke/MethodHandle" ∧ y.cls ≠ "java/lang/invoke/VarHandle")
    {W9 : Nat} {Pre : Pt → Array Value → Prop} {Post : Pt → Array Value → Option Value → Pt → Prop} {PostX : Pt → Array Value → Addr → Pt → Prop} (hK : vx_Back l R p e below s args y 3 W9 Pre Post PostX)
    {b : Addr} {cellB : Cell} (hcell : T.heap[b]? = some cellB) (hobj : cellB.vm.isStatics = false) (hcls : s.vm.findClass C = some cellB.cls)
    {g : JFrame} (hg : g.method = m) (hsize : g.locals.size = c.maxLocals) {argsL rest : List Value} (hlen : ∀ sig, parseMethodDescriptor y.desc = some sig → argsL.length = sig.parameters.length)
    (hstack : g.stack = argsL.reverse ++ .ref b :: rest) (hW : 2 * g.monitorRoom + (rest.map fun v => v.category).sum ≤ W9) (hdg : decode c.code g.pc = .ok (.invokevirtual index, 3))
    (hpre : ∀ vm₁, s.WarmedH vm₁ → Pre ⟨T.setVm vm₁, locs, cells, slots⟩ (Value.ref b :: argsL).toArray) :
    (∃ (v : Option Value) (vm₁ : Vm) (B : Pt), s.WarmedH vm₁ ∧ Stand p l e R s m args below meth c B.U B.locs B.cells B.slots ∧ Post ⟨T.setVm vm₁, locs, cells, slots⟩ (Value.ref b :: argsL).toArray v B ∧
      ∀ target, Steps p.tables e below (B.U.setTop { g with pc := g.pc + 3, stack := v.toList ++ rest }) target → Steps p.tables e below (T.setTop g) target) ∨
    (∃ (q : Addr) (vm₁ : Vm) (B : Pt), s.WarmedH vm₁ ∧ Stand p l e R s m args below meth c B.U B.locs B.cells B.slots ∧ PostX ⟨T.setVm vm₁, locs, cells, slots⟩ (Value.ref b :: argsL).toArray q B ∧
      Steps p.tables e below (T.setTop g) ((B.U.setTop { g with stack := rest }).pushFrame (.throwing q))) := by
  obtain ⟨mk, methM, hnamed, hmethM, hstM, habM⟩ := Cond.instanceMethod_spec hinst
  obtain ⟨m8, methM', cM, hn8, hmethM', -, -, -, -, -, -, hsigM⟩ := Cond.codeWith_spec hcode
  cases Option.some.inj (hn8.symm.trans hnamed)
  cases hmethM.symm.trans hmethM'
  obtain ⟨c2, r2, m2, q1, q2, q3, q4, kP, hkP, hkPi⟩ := Cond.selects_spec hsel
  cases hcls.symm.trans q1
  cases (State.methodFound?_of_named hnamed hy).symm.trans q2
  cases hnamed.symm.trans q3
  have hselP : selectMethod e.platform s.vm cellB.cls mk = .method mk := by rw [Launch.admits_selectMethod X.admits]; exact q4
  obtain ⟨vm₁, X₁, hstep₁⟩ := X.invokevirtual hexec hown hlink hnamed hmethM hstM hkP hkPi hy (a := b) (cell := cellB) hcell
    (fun z h => by rw [h] at hobj; cases hobj) hselP hmethM habM hkP hkPi (g := g) hg (argsL := argsL) (rest := rest) (hlen _ hsigM) hstack hdg
  rcases hK m meth c ⟨T.setVm vm₁, locs, cells, slots⟩ { g with stack := rest } (.invokevirtual index) mk (Value.ref b :: argsL).toArray X₁ hg hsize hdg hW (X₁.named hnamed) (hpre vm₁ X₁.warmed) with ⟨v, B, X', hpost, hsteps⟩ | ⟨q, B, X', hpost, hsteps⟩
  · exact Or.inl ⟨v, vm₁, B, X₁.warmed, X', hpost, fun target h => hstep₁ _ fun acts => by rw [doInvoke_state]; exact hsteps.trans h⟩
  · exact Or.inr ⟨q, vm₁, B, X₁.warmed, X', hpost, hstep₁ _ fun acts => by rw [doInvoke_state]; exact hsteps⟩
theorem vx_callSX (X : Stand p l e R s m args below meth c T locs cells slots) (hexec : p.tables.exec = Jvm.exec) {own : String} {index : Nat} {y : MethodName} {bytes : ByteArray} {maxL : Nat} {ret : Option FieldType} {hh : List (Nat × Nat × Nat × Nat)}
    (hown : s.vm.findClass own = some m.cls) (hlink : (Cond.methodLink own index y).before args s = true) (hstat : (Cond.static y).before args s = true) (hinit : (Cond.initialized y.cls).before args s = true)
    (hcode : (Cond.codeWith y bytes maxL ret hh).before args s = true) (hy : y.cls ≠ "java/lang/invoke/MethodHandle" ∧ y.cls ≠ "java/lang/invoke/VarHandle")
    {W9 : Nat} {Pre : Pt → Array Value → Prop} {Post : Pt → Array Value → Option Value → Pt → Prop} {PostX : Pt → Array Value → Addr → Pt → Prop} (hK : vx_Back l R p e below s args y 3 W9 Pre Post PostX)
    {g : JFrame} (hg : g.method = m) (hsize : g.locals.size = c.maxLocals) {argsL rest : List Value} (hlen : ∀ sig, parseMethodDescriptor y.desc = some sig → argsL.length = sig.parameters.length)
    (hstack : g.stack = argsL.reverse ++ rest) (hW : 2 * g.monitorRoom + (rest.map fun v => v.category).sum ≤ W9) (hdg : decode c.code g.pc = .ok (.invokestatic index, 3))
    (hpre : ∀ vm₁, s.WarmedH vm₁ → Pre ⟨T.setVm vm₁, locs, cells, slots⟩ argsL.toArray) :
    (∃ (v : Option Value) (vm₁ : Vm) (B : Pt), s.WarmedH vm₁ ∧ Stand p l e R s m args below meth c B.U B.locs B.cells B.slots ∧ Post ⟨T.setVm vm₁, locs, cells, slots⟩ argsL.toArray v B ∧
      ∀ target, Steps p.tables e below (B.U.setTop { g with pc := g.pc + 3, stack := v.toList ++ rest }) target → Steps p.tables e below (T.setTop g) target) ∨
    (∃ (q : Addr) (vm₁ : Vm) (B : Pt), s.WarmedH vm₁ ∧ Stand p l e R s m args below meth c B.U B.locs B.cells B.slots ∧ PostX ⟨T.setVm vm₁, locs, cells, slots⟩ argsL.toArray q B ∧
      Steps p.tables e below (T.setTop g) ((B.U.setTop { g with stack := rest }).pushFrame (.throwing q))) := by
  obtain ⟨mk, methM, cM, hnamed, hmethM, -, -, -, -, -, -, hsigM⟩ := Cond.codeWith_spec hcode
  have hstatic : methM.isStatic = true := Cond.static_spec hnamed hmethM hstat
  obtain ⟨kP, hkP, -⟩ := className_of_methodNamed hnamed
  have hinitP : kP.init = .initialized := Cond.initialized_spec (findClass_of_methodNamed hnamed) hkP hinit
  obtain ⟨vm₁, X₁, hstep₁⟩ := X.invokestatic hexec hown hlink hnamed hmethM hstatic hkP hinitP hy (g := g) hg (argsL := argsL) (rest := rest) (hlen _ hsigM) hstack hdg
  rcases hK m meth c ⟨T.setVm vm₁, locs, cells, slots⟩ { g with stack := rest } (.invokestatic index) mk argsL.toArray X₁ hg hsize hdg hW (X₁.named hnamed) (hpre vm₁ X₁.warmed) with ⟨v, B, X', hpost, hsteps⟩ | ⟨q, B, X', hpost, hsteps⟩
  · exact Or.inl ⟨v, vm₁, B, X₁.warmed, X', hpost, fun target h => hstep₁ _ fun acts => by rw [doInvoke_state]; exact hsteps.trans h⟩
  · exact Or.inr ⟨q, vm₁, B, X₁.warmed, X', hpost, hstep₁ _ fun acts => by rw [doInvoke_state]; exact hsteps⟩
theorem vx_callVW (X : Stand p l e R s m args below meth c T locs cells slots) (hexec : p.tables.exec = Jvm.exec) {own C : String} {index : Nat} {y : MethodName} {bytes : ByteArray} {maxL : Nat} {ret : Option FieldType} {hh : List (Nat × Nat × Nat × Nat)}
    (hown : s.vm.findClass own = some m.cls) (hlink : (Cond.methodLink own index y).before args s = true) (hinst : (Cond.instanceMethod y).before args s = true) (hsel : (Cond.selects C y y).before args s = true)
    (hcode : (Cond.codeWith y bytes maxL ret hh).before args s = true) (hy : y.cls ≠ "java/lang/invoke/MethodHandle" ∧ y.cls ≠ "java/lang/invoke/VarHandle")
    {W9 : Nat} {Pre : Pt → Array Value → Prop} {Post : Pt → Array Value → Option Value → Pt → Prop} (hK : Back l R p e below s args y 3 W9 Pre Post)
    {b : Addr} {cellB : Cell} (hcell : T.heap[b]? = some cellB) (hobj : cellB.vm.isStatics = false) (hcls : s.vm.findClass C = some cellB.cls)
    {g : JFrame} (hg : g.method = m) (hsize : g.locals.size = c.maxLocals) {argsL rest : List Value} (hlen : ∀ sig, parseMethodDescriptor y.desc = some sig → argsL.length = sig.parameters.length)
    (hstack : g.stack = argsL.reverse ++ .ref b :: rest) (hW : 2 * g.monitorRoom + (rest.map fun v => v.category).sum ≤ W9) (hdg : decode c.code g.pc = .ok (.invokevirtual index, 3))
    (hpre : ∀ vm₁, s.WarmedH vm₁ → Pre ⟨T.setVm vm₁, locs, cells, slots⟩ (Value.ref b :: argsL).toArray) :
    ∃ (v : Option Value) (vm₁ : Vm) (B : Pt), s.WarmedH vm₁ ∧ Stand p l e R s m args below meth c B.U B.locs B.cells B.slots ∧ Post ⟨T.setVm vm₁, locs, cells, slots⟩ (Value.ref b :: argsL).toArray v B ∧
      ∀ target, Steps p.tables e below (B.U.setTop { g with pc := g.pc + 3, stack := v.toList ++ rest }) target → Steps p.tables e below (T.setTop g) target := by
  obtain ⟨mk, methM, hnamed, hmethM, hstM, habM⟩ := Cond.instanceMethod_spec hinst
  obtain ⟨m8, methM', cM, hn8, hmethM', -, -, -, -, -, -, hsigM⟩ := Cond.codeWith_spec hcode
  cases Option.some.inj (hn8.symm.trans hnamed)
  cases hmethM.symm.trans hmethM'
  obtain ⟨c2, r2, m2, q1, q2, q3, q4, kP, hkP, hkPi⟩ := Cond.selects_spec hsel
  cases hcls.symm.trans q1
  cases (State.methodFound?_of_named hnamed hy).symm.trans q2
  cases hnamed.symm.trans q3
  have hselP : selectMethod e.platform s.vm cellB.cls mk = .method mk := by rw [Launch.admits_selectMethod X.admits]; exact q4
  obtain ⟨vm₁, X₁, hstep₁⟩ := X.invokevirtual hexec hown hlink hnamed hmethM hstM hkP hkPi hy (a := b) (cell := cellB) hcell
    (fun z h => by rw [h] at hobj; cases hobj) hselP hmethM habM hkP hkPi (g := g) hg (argsL := argsL) (rest := rest) (hlen _ hsigM) hstack hdg
  obtain ⟨v, B, X', hpost, hsteps⟩ := hK m meth c ⟨T.setVm vm₁, locs, cells, slots⟩ { g with stack := rest } (.invokevirtual index) mk (Value.ref b :: argsL).toArray X₁ hg hsize hdg hW (X₁.named hnamed) (hpre vm₁ X₁.warmed)
  exact ⟨v, vm₁, B, X₁.warmed, X', hpost, fun target h => hstep₁ _ fun acts => by rw [doInvoke_state]; exact hsteps.trans h⟩
abbrev vx_CVW (R : Room) (s : State) (args : Array Value) (own C : String) (index : Nat) (y : MethodName) (bytes : ByteArray) (maxL : Nat) (ret : Option FieldType) (hh : List (Nat × Nat × Nat × Nat)) (ws : List Cond) (rm : Room) (mc ms n : Nat) : Prop :=
  (rm.cells = mc ∧ rm.slots = ms ∧ rm.frames + 1 ≤ R.frames ∧ 8 + (maxL + 11) + rm.locals ≤ R.locals ∧ (∀ w ∈ ws, ∀ (a' : Array Value) (U : State), s.WarmedH U.vm → w.before a' U = true) ∧ Cond.codeWith y bytes maxL ret hh ∈ ws) ∧
  (Cond.codeWith y bytes maxL ret hh).before args s = true ∧ (Cond.initialized y.cls).before args s = true ∧ (y.cls ≠ "java/lang/invoke/MethodHandle" ∧ y.cls ≠ "java/lang/invoke/VarHandle") ∧
  (∀ sig, parseMethodDescriptor y.desc = some sig → n = sig.parameters.length) ∧ (Cond.methodLink own index y).before args s = true ∧ (Cond.instanceMethod y).before args s = true ∧ (Cond.selects C y y).before args s = true
theorem vx_cwVW {own C : String} {index maxL mc ms : Nat} {y : MethodName} {bytes : ByteArray} {ret : Option FieldType} {hh : List (Nat × Nat × Nat × Nat)} {Ts ws ws' : List Cond} {rm : Room} (n : Nat) (ht : ∀ w ∈ Ts, w.before args s = true) (hT : GoodIn Ts (wsV own index C y ws)) (hw : ws = Cond.codeWith y bytes maxL ret hh :: ws') (hrc : rm.cells = mc) (hrs : rm.slots = ms)
    (hd : y.cls = C ∧ y.cls ≠ "java/lang/invoke/MethodHandle" ∧ y.cls ≠ "java/lang/invoke/VarHandle" ∧ (parseMethodDescriptor y.desc).map (fun d => d.parameters.length) = some n) (hR : rm.frames + 1 ≤ R.frames ∧ 8 + (maxL + 11) + rm.locals ≤ R.locals) :
    vx_CVW R s args own C index y bytes maxL ret hh ws rm mc ms n := by
  obtain ⟨hC, hd⟩ := hd
  subst hC
  have ok : ∀ w ∈ wsV own index y.cls y ws, w.before args s = true := fun w h => ht w (hT w h).1
  have hG : GoodIn Ts ws := fun w h => hT w (by unfold wsV; exact List.mem_append_right _ h)
  have hc : Cond.codeWith y bytes maxL ret hh ∈ ws := by rw [hw]; exact List.mem_cons_self
  refine ⟨⟨hrc, hrs, hR.1, hR.2, pay_in ht hG, hc⟩, ht _ (hG _ hc).1, ok _ (by simp [wsV]), ⟨hd.1, hd.2.1⟩, fun sig h => ?_, ok _ (by simp [wsV]), ok _ (by simp [wsV]), ok _ (by simp [wsV])⟩
  have h2 := hd.2.2
  rw [h] at h2
  exact (Option.some.inj h2).symm
theorem vx_runVW {y : MethodName} {bytes cc : ByteArray} {maxL nL mc ms n index : Nat} {ret : Option FieldType} {hh : List (Nat × Nat × Nat × Nat)} {ws : List Cond} {rm : Room} {Pc : Array Value → State → Prop} {Qc : Array Value → State → Outcome → State → Prop} {free : Addr → Prop} {Ts : List Cond} {own C : String} {b : Addr} {As rest : List Value} {g : JFrame}
    (S : CallFix p m c cc nL s args Ts own) (hM : Met l y ws rm Pc Qc mc ms free) (cw : vx_CVW R s args own C index y bytes maxL ret hh ws rm mc ms n) (hp : PreV s H C b Pc As)
    (hg : g.method = m) (hn : As.length = n) (hsize : g.locals.size = nL) (hstack : g.stack = As.reverse ++ .ref b :: rest) (hW : 2 * g.monitorRoom + (rest.map fun v => v.category).sum ≤ 8) (hdg : decode cc g.pc = .ok (.invokevirtual index, 3)) (hf : cells + mc ≤ R.cells ∧ slots + ms ≤ R.slots) :
    va_Run p l e R s m args below meth c H locs cells slots mc ms g rest (Qc (Value.ref b :: As).toArray) free := by
  obtain ⟨⟨hrc, hrs, hfr, hlo, hws, hcw⟩, hcode, hini, hy, hlen, hl, hin, hse⟩ := cw
  have hK : Back l R p e below s args y 3 8 (PreOf R mc ms Pc) (PostOf Qc mc ms free) := va_backW (hh := hh) (bytes := bytes) (maxL := maxL) (ret := ret) hM hp.1 hrc hrs hfr hlo hws hcw (fun a' U hW => word_at hW (Or.inl (by first | rfl | simp [Cond.onTables, Cond.keeps, Cond.steady])) hini)
  obtain ⟨hx, hb, hml, ho, -⟩ := S
  obtain ⟨-, ⟨cellB, hcB, hoB, hclB⟩, hPc⟩ := hp
  intro T hT X
  obtain ⟨v, vm₁, ⟨U', l2, c2, s2⟩, hW₁, X', ⟨g', mk, t, L, e1, e2, hq, h1, hL, h2, h3⟩, st⟩ := vx_callVW X hx (C := C) (hh := hh) (bytes := bytes) (maxL := maxL) (ret := ret) ho hl hin hse hcode hy hK (by rw [hT]; exact hcB) hoB hclB hg (hsize.trans hml.symm) (argsL := As) (rest := rest) (fun sig h => hn.trans (hlen sig h)) hstack hW (by rw [hb]; exact hdg)
    (fun vm₁ hW₁ => ⟨hf.1, hf.2, hPc (T.setVm vm₁) hT hW₁⟩)
  dsimp only [Pt.U, Pt.locs, Pt.cells, Pt.slots] at X' e1 e2 h1 h2 h3 st
  subst h1; subst h2; subst h3
  exact ⟨v, (T.setVm vm₁).calling g' mk (Value.ref b :: As).toArray, t, U', L, hT, X', hL, e1, e2, hq, st⟩
section
variable {y : MethodName} {bytes cc : ByteArray} {maxL nL mc ms n index : Nat} {ret : Option FieldType} {ws : List Cond} {rm : Room} {Pc : Array Value → State → Prop} {Qc : Array Value → State → Outcome → State → Prop} {XC : String → State → State → Prop} {free : Addr → Prop} {Ts : List Cond} {own C : String} {b : Addr} {As rest : List Value} {g : JFrame}
theorem vx_runVX {hh : List (Nat × Nat × Nat × Nat)} (S : CallFix p m c cc nL s args Ts own) (hM : vx_Met l y ws rm Pc Qc XC mc ms free) (cw : vx_CVW R s args own C index y bytes maxL ret hh ws rm mc ms n) (hp : PreV s H C b Pc As)
    (hg : g.method = m) (hn : As.length = n) (hsize : g.locals.size = nL) (hstack : g.stack = As.reverse ++ .ref b :: rest) (hW : 2 * g.monitorRoom + (rest.map fun v => v.category).sum ≤ 8) (hdg : decode cc g.pc = .ok (.invokevirtual index, 3)) (hf : cells + mc ≤ R.cells ∧ slots + ms ≤ R.slots) :
    vx_Run p l e R s m args below meth c H locs cells slots mc ms g rest (Qc (Value.ref b :: As).toArray) XC free := by
  obtain ⟨⟨hrc, hrs, hfr, hlo, hws, hcw⟩, hcode, hini, hy, hlen, hl, hin, hse⟩ := cw
  have hK : vx_Back l R p e below s args y 3 8 (PreOf R mc ms Pc) (PostOf Qc mc ms free) (vx_Post XC mc ms free) := vx_backW (hh := hh) (bytes := bytes) (maxL := maxL) (ret := ret) hM hp.1 hrc hrs hfr hlo hws hcw (fun a' U hW => word_at hW (Or.inl (by first | rfl | simp [Cond.onTables, Cond.keeps, Cond.steady])) hini)
  obtain ⟨hx, hb, hml, ho, -⟩ := S
  obtain ⟨-, ⟨cellB, hcB, hoB, hclB⟩, hPc⟩ := hp
  intro T hT X
  rcases vx_callVX X hx (C := C) (hh := hh) (bytes := bytes) (maxL := maxL) (ret := ret) ho hl hin hse hcode hy hK (by rw [hT]; exact hcB) hoB hclB hg (hsize.trans hml.symm) (argsL := As) (rest := rest) (fun sig h => hn.trans (hlen sig h)) hstack hW (by rw [hb]; exact hdg)
    (fun vm₁ hW₁ => ⟨hf.1, hf.2, hPc (T.setVm vm₁) hT hW₁⟩) with ⟨v, vm₁, ⟨U', l2, c2, s2⟩, hW₁, X', ⟨g', mk, t, L, e1, e2, hq, h1, hL, h2, h3⟩, st⟩ | ⟨q, vm₁, ⟨U', l2, c2, s2⟩, hW₁, X', ⟨g', mk, t, L, E, ce, e1, e2, hq, hce, hcv, hcl, h1, hL, h2, h3⟩, st⟩
  · dsimp only [Pt.U, Pt.locs, Pt.cells, Pt.slots] at X' e1 e2 h1 h2 h3 st
    subst h1; subst h2; subst h3
    exact Or.inl ⟨v, (T.setVm vm₁).calling g' mk (Value.ref b :: As).toArray, t, U', L, hT, X', hL, e1, e2, hq, st⟩
  · dsimp only [Pt.U, Pt.locs, Pt.cells, Pt.slots] at X' e1 e2 h1 h2 h3 st hcl
    subst h1; subst h2; subst h3
    exact Or.inr ⟨q, (T.setVm vm₁).calling g' mk (Value.ref b :: As).toArray, t, U', L, E, ce, hT, X', hL, e1, e2, hq, hce, hcv, vx_cls hW₁ hcl, st⟩
theorem vx_runSX {hh : List (Nat × Nat × Nat × Nat)} (S : CallFix p m c cc nL s args Ts own) (hM : vx_Met l y ws rm Pc Qc XC mc ms free) (cw : vx_CSW R s args own index y bytes maxL ret hh ws rm mc ms n) (hp : PreS s H Pc As)
    (hg : g.method = m) (hn : As.length = n) (hsize : g.locals.size = nL) (hstack : g.stack = As.reverse ++ rest) (hW : 2 * g.monitorRoom + (rest.map fun v => v.category).sum ≤ 8) (hdg : decode cc g.pc = .ok (.invokestatic index, 3)) (hf : cells + mc ≤ R.cells ∧ slots + ms ≤ R.slots) :
    vx_Run p l e R s m args below meth c H locs cells slots mc ms g rest (Qc As.toArray) XC free := by
  obtain ⟨⟨hrc, hrs, hfr, hlo, hws, hcw⟩, hcode, hini, hy, hlen, hl, hstt⟩ := cw
  have hK : vx_Back l R p e below s args y 3 8 (PreOf R mc ms Pc) (PostOf Qc mc ms free) (vx_Post XC mc ms free) := vx_backW (hh := hh) (bytes := bytes) (maxL := maxL) (ret := ret) hM hp.1 hrc hrs hfr hlo hws hcw (fun a' U hW => word_at hW (Or.inl (by first | rfl | simp [Cond.onTables, Cond.keeps, Cond.steady])) hini)
  obtain ⟨hx, hb, hml, ho, -⟩ := S
  intro T hT X
  rcases vx_callSX X hx (hh := hh) (bytes := bytes) (maxL := maxL) (ret := ret) ho hl hstt hini hcode hy hK hg (hsize.trans hml.symm) (argsL := As) (rest := rest) (fun sig h => hn.trans (hlen sig h)) hstack hW (by rw [hb]; exact hdg)
    (fun vm₁ hW₁ => ⟨hf.1, hf.2, hp.2 (T.setVm vm₁) hT hW₁⟩) with ⟨v, vm₁, ⟨U', l2, c2, s2⟩, hW₁, X', ⟨g', mk, t, L, e1, e2, hq, h1, hL, h2, h3⟩, st⟩ | ⟨q, vm₁, ⟨U', l2, c2, s2⟩, hW₁, X', ⟨g', mk, t, L, E, ce, e1, e2, hq, hce, hcv, hcl, h1, hL, h2, h3⟩, st⟩
  · dsimp only [Pt.U, Pt.locs, Pt.cells, Pt.slots] at X' e1 e2 h1 h2 h3 st
    subst h1; subst h2; subst h3
    exact Or.inl ⟨v, (T.setVm vm₁).calling g' mk As.toArray, t, U', L, hT, X', hL, e1, e2, hq, st⟩
  · dsimp only [Pt.U, Pt.locs, Pt.cells, Pt.slots] at X' e1 e2 h1 h2 h3 st hcl
    subst h1; subst h2; subst h3
    exact Or.inr ⟨q, (T.setVm vm₁).calling g' mk As.toArray, t, U', L, E, ce, hT, X', hL, e1, e2, hq, hce, hcv, vx_cls hW₁ hcl, st⟩
end
end VXH
theorem vx_ofWH {l : Launch} {y : MethodName} {ws ws' : List Cond} {rm : Room} {Pc : Array Value → State → Prop} {Qc : Array Value → State → Outcome → State → Prop} {XC : String → State → State → Prop} {mc ms : Nat} {free : Addr → Prop} {cc : ByteArray} {maxL : Nat} {ret : Option FieldType} {hh : List (Nat × Nat × Nat × Nat)}
    (hy : plainName y.cls = true) (hw : ws = Cond.codeWith y cc maxL ret hh :: ws')
    (body : ∀ p e s m args below meth c s₁, BodyLoose p l y (headSpec ws rm) cc maxL ret e s m args below meth c s₁ → c.maxLocals = maxL → Pc args s →
      W p l e (headSpec ws rm).room s m args below meth c s.heap [] 0 0 (vx_MQ below Qc XC args s mc ms free) (entryFrame m args maxL)) : vx_Met l y ws rm Pc Qc XC mc ms free := by
  refine MetFree.of_bodyS (code := cc) (maxLocals := maxL) (ret := ret) hy ?_ ?_
  · intro args s m h hn
    obtain ⟨m9, meth, c, hn9, h1, h2, h3, h4, -, h5, h6, -⟩ := Cond.codeWith_spec (atoms_spec (ws := ws) h _ (by rw [hw]; exact List.mem_cons_self))
    cases hn.symm.trans hn9
    exact ⟨meth, c, h1, h2, h3, h4, h5, h6⟩
  · intro p e s m args below meth c s₁ B hml hP _
    have hh0 : s₁.heap = s.heap := by rw [B.state]; rfl
    obtain ⟨t, a1, o, b1, b2, b3⟩ := body p e s m args below meth c s₁ B hml hP s₁ hh0 (Stand.of_body B)
    exact ⟨t, o, a1, b1, b2, b3⟩
/-! ===== END ===== -/
/-! ===== BEGIN what the machine throws by itself, no traces kept ===== -/
section VXM
set_option maxHeartbeats 1000000 in
/-- the machine throws cls with the message text, no traces kept: from its note over the frame g to 'throwing' over the same frame (follows the proofs of Stand.vmThrowsMessage, Shelf/KitTracedVmS.lean, and Stand.throwsMessageColdBareV, StandMessageColdV.lean, without the step out of the frame) -/
theorem vx_vmAt {p : Program} {l : Launch} {e : Env} {R : Room} {s : State} {m₀ : MethodId} {args : Array Value} {below : List Frame} {meth : Method} {c : Code} {W : State} {locs : List Loc} {cells slots : Nat}
    (X : Stand p l e R s m₀ args below meth c W locs cells slots) (hexec : p.tables.exec = Jvm.exec) (htr : e.platform.stackTraces = false) {cls : String} {names : List String} {text : String}
    (hcls : Bundle.fit cls = true) (hnames : ∀ n ∈ names, Bundle.fit n = true) (hsoe : (cls == "java/lang/StackOverflowError") = false) (hoom : (cls == "java/lang/OutOfMemoryError") = false)
    (h : ∀ a ∈ Bundle.messageArmAtoms cls names, a.before args s = true)
    (hlocs : ∀ x ∈ locs, ∀ cell, s.heap[x.base]? = some cell → cell.vm.isStatics = false)
    (htext : (text == notModelled) = false) (hlimit : ¬ (stringBytes (stringToUtf16 text)).size > e.platform.arrayLengthLimit) (hheap : ¬ (stringBytes (stringToUtf16 text)).size * componentBytes .byte > e.platform.maxHeapBytes)
    {g : JFrame} (hg : g.method = m₀) (hsize : g.locals.size = c.maxLocals)
    (hRframes : names.length + 4 < R.frames) (hRlocals : 2 * g.monitorRoom + (g.stack.map fun v => v.category).sum + 10240 ≤ R.locals) (hshort : 13 * names.length + 55 ≤ 10240)
    (hRcells : cells + 3 ≤ R.cells) (hRslots : slots + ((stringBytes (stringToUtf16 text)).size + 4 + 6) ≤ R.slots) (hlocks : meth.locks = false) :
    ∃ (S : State) (q : Addr) (ce : Cell), (∀ target, Steps p.tables e below ((S.setTop g).pushFrame (.throwing q)) target → Steps p.tables e below ((W.setTop g).pushFrame (.throwNew cls (some text) none)) target) ∧
      Stand p l e R s m₀ args below meth c S locs (cells + 3) (slots + ((stringBytes (stringToUtf16 text)).size + 4 + 6)) ∧ S.heap[q]? = some ce ∧ s.vm.findClass cls = some ce.cls ∧ ce.vm = .none := by
  have howns : e.platform.frameOwnsMonitors = true := by rw [X.admits.platform]
  have hfin : e.platform.finalization = false := by rw [X.admits.platform]
  have hpl : e.platform.magicAccessors = ({} : Platform).magicAccessors := by rw [X.admits.platform]
  have a : ∀ x, x ∈ Bundle.messageArmAtoms cls names → x.holds args s none s [] = true := fun x hx => h x hx
  obtain ⟨T, Z0, L, -, Y⟩ := ThrowableC.of_atoms (args := args) howns hfin hpl (fun x hx => h x (by simp [Bundle.messageArmAtoms, hx]))
  obtain ⟨Z, M, LZ, LM, hnZ⟩ := Init0T.ofS_atoms (args := args) hpl L Y (fun x hx => h x (by simp [Bundle.messageArmAtoms, hx]))
  obtain ⟨P1, Ps, hlen, L1, hL, hP1m, hlink1, hlink⟩ := Bundle.chainS (args := args) hpl hnZ names cls hcls hnames (fun x hx => h x (by simp [Bundle.messageArmAtoms, hx]))
  obtain ⟨Zs, LZs, hn4, hfitv, hfitc⟩ := StringT.of_atoms (args := args) (fun x hx => h x (by simp [Bundle.messageArmAtoms, hx]))
  have hfound : s.vm.findClass cls = some P1.m.cls := findClass_of_methodNamed hP1m
  obtain ⟨c1, kX, hc1, hk, hord, -, -, hn6⟩ := Cond.instantiable_spec (a (.instantiable cls 6) (by simp [Bundle.messageArmAtoms]))
  cases Option.some.inj (hc1.symm.trans hfound)
  have hinit := Cond.initialized_spec hfound hk (a (.initialized cls) (by simp [Bundle.messageArmAtoms]))
  have hctor : kX.findMethod "<init>" "(Ljava/lang/String;)V" = some P1.m.idx := findMethod_of_methodNamed hP1m hk
  have hsel0 : selectMethod e.platform s.vm P1.m.cls T.fill0 = .method T.fill0 := by
    obtain ⟨c2, r2, m2, q1, q2, q3, q4, -⟩ := Cond.selects_spec (a (.selects cls Bundle.tFill0 Bundle.tFill0) (by simp [Bundle.messageArmAtoms]))
    cases Option.some.inj (q1.symm.trans hfound)
    cases Option.some.inj (q2.symm.trans (State.methodFound?_of_named Y.fill0 (by decide)))
    cases Option.some.inj (q3.symm.trans Y.fill0)
    rw [Launch.admits_selectMethod X.admits]; exact q4
  have hselF : selectMethod e.platform s.vm P1.m.cls T.fill = .method T.fill := by
    obtain ⟨c2, r2, m2, q1, q2, q3, q4, -⟩ := Cond.selects_spec (a (.selects cls Bundle.tFill Bundle.tFill) (by simp [Bundle.messageArmAtoms]))
    cases Option.some.inj (q1.symm.trans hfound)
    cases Option.some.inj (q2.symm.trans (State.methodFound?_of_named Y.fill (by decide)))
    cases Option.some.inj (q3.symm.trans Y.fill)
    rw [Launch.admits_selectMethod X.admits]; exact q4
  obtain ⟨cellS0, hcS0, hiss⟩ := Y.statics
  obtain ⟨u0, hu0⟩ := Cond.staticRefV Y.unassigned L.unassignedStatic L.statics hcS0 hiss (a (.isRef (.static Bundle.tN "UNASSIGNED_STACK" Bundle.steD)) (by simp [Bundle.messageArmAtoms]))
  obtain ⟨sen, hsen⟩ := Cond.staticRefV Y.sentinel L.sentinelStatic L.statics hcS0 hiss (a (.isRef (.static Bundle.tN "SUPPRESSED_SENTINEL" Bundle.listD)) (by simp [Bundle.messageArmAtoms]))
  obtain ⟨ci198, i198, fB, hk198, hg198, ha198, hsB, -, hnB, htB, hffB⟩ := Cond.ownField (t := .object "java/lang/Object") Y.found L.cls (by decide +kernel) (a (.fieldLink Bundle.tN 198 Bundle.tN "backtrace" "Ljava/lang/Object;") (by simp [Bundle.messageArmAtoms])) (a (.lays Bundle.tN Bundle.tN "backtrace" "Ljava/lang/Object;") (by simp [Bundle.messageArmAtoms])) e.platform hpl
  obtain ⟨cellS, hcS', heS, -, hkeep⟩ := X.same.2.2.2.2.2 T.aS cellS0 hcS0
  have hcellS : W.heap[T.aS]? = some cellS := hcS'
  have hout' : ∀ i, (⟨T.aS, i⟩ : Loc) ∉ locs := fun i hmem => by
    have := hlocs _ hmem cellS0 hcS0
    rw [hiss] at this; cases this
  have hknownS : cellS.vm ≠ .unknown := by
    rw [heS]; intro hu
    rw [show cellS0.vm = .unknown from hu] at hiss
    cases hiss
  have hvU : cellS.slots[T.fUnassigned.slot]? = some u0.v := by rw [hkeep _ (hout' _)]; exact hu0
  have hvSen : cellS.slots[T.fSentinel.slot]? = some sen.v := by rw [hkeep _ (hout' _)]; exact hsen
  obtain ⟨iM, hffM⟩ := Y.msg
  obtain ⟨tyC, dC, hdC, hdnC⟩ := Cond.laysAt hfound hk Y.cause (a (.lays cls Bundle.tN "cause" "Ljava/lang/Throwable;") (by simp [Bundle.messageArmAtoms]))
  obtain ⟨tyS, dS, hdS, hdnS⟩ := Cond.laysAt hfound hk Y.stack (a (.lays cls Bundle.tN "stackTrace" Bundle.steD) (by simp [Bundle.messageArmAtoms]))
  obtain ⟨tyP, dP, hdP, hdnP⟩ := Cond.laysAt hfound hk Y.supp (a (.lays cls Bundle.tN "suppressedExceptions" Bundle.listD) (by simp [Bundle.messageArmAtoms]))
  obtain ⟨tyM, dM, hdM, hdnM⟩ := Cond.laysAt hfound hk hffM (a (.lays cls Bundle.tN "detailMessage" "Ljava/lang/String;") (by simp [Bundle.messageArmAtoms]))
  obtain ⟨tyB, dB, hdB, hdnB⟩ := Cond.laysAt hfound hk hffB (a (.lays cls Bundle.tN "backtrace" "Ljava/lang/Object;") (by simp [Bundle.messageArmAtoms]))
  have bC := Cond.laysApart hdB hdC hdnB hdnC (by rw [hnB, Y.causeName]; decide)
  have bS := Cond.laysApart hdB hdS hdnB hdnS (by rw [hnB, Y.stackName]; decide)
  have bP := Cond.laysApart hdB hdP hdnB hdnP (by rw [hnB, Y.suppName]; decide)
  have hbk : ((preparedCellV T.toThrowableT (freshCell P1.m.cls kX) (W.heap.size + 2) u0 sen).withEntry W.cur).slots[fB.slot]? = some .null := by
    have := fresh_default (c := P1.m.cls) tyB
    rw [htB] at this
    simpa [preparedCellV, Cell.setSlot, Cell.withEntry, Array.getElem?_setIfInBounds, bC, bS, bP, bC.symm, bS.symm, bP.symm, defaultValue] using this
  have tkC := Takes.of_laid (v := .ref (W.heap.size + 2)) hk hord tyC (by rw [Y.causeType]; rfl)
  have tkS := Takes.of_laid (v := u0.v) hk hord tyS (by rw [Y.stackType]; exact fits_refV_array _ u0)
  have tkP := Takes.of_laid (v := sen.v) hk hord tyP (by rw [Y.suppType]; exact fits_refV_object _ sen)
  have tkM := Takes.of_laid (v := .ref (W.heap.size + 1)) hk hord tyM (by rw [Y.msgType]; rfl)
  have hskip : SkipFacts T e.platform s (fun u => u) u0 ((preparedCellV T.toThrowableT (freshCell P1.m.cls kX) (W.heap.size + 2) u0 sen).withEntry W.cur) := ⟨{ ci198 := ci198, i198 := i198, fBack := fB }, ⟨hk198, hg198, ha198, hsB⟩, hbk, fun _ _ => rfl⟩
  have h0 : At W g.method c below := by rw [hg]; exact X.here
  obtain ⟨hbeyond, hfreeW⟩ := X.vmMayThrow hsize (.throwNew cls (some text) none) (fun f hf => by cases hf) rfl hRlocals
  have hfr' : W.frames.length + Ps.length + 4 < (e.platform.stackLimits W.me).1 := by have := X.framesAbove hRframes; omega
  have hwd' : (stackUse (.java g :: W.frames.tail)).2 + 13 * Ps.length + 55 ≤ (e.platform.stackLimits W.me).2 := by have := X.stackAbove hsize (K := 13 * Ps.length + 55) (by omega); omega
  have hslots : W.slotsUsed + (stringBytes (stringToUtf16 text)).size + Zs.kS.instanceTypes.size + kX.instanceTypes.size ≤ e.platform.maxSlots := by
    have := X.slotsAbove hRslots
    rw [hn4, hn6]
    omega
  obtain ⟨vm', hW', st⟩ := Steps.vmThrowsMessageColdByV p (s₀ := s) (S := W) (g := g) h0 hexec T L Z LZ M LM X.warmed (t := W.cur) rfl Zs LZs P1 L1 Ps hL hlink1 hlink hsoe hoom hfound hk hinit hord hctor
    (Launch.admits_hotImplicitExceptions X.admits) hbeyond hfreeW htext hlimit hheap (X.cellsAbove hRcells) hslots (hfitv _) (hfitc _)
    (Nn := fun u => u) heapOnly_id (fun _ _ => rfl) (fun _ => rfl) (fun u x y => setCell_twice _ _ _ _) (fun _ => Nat.le_refl _) (cN := ((preparedCellV T.toThrowableT (freshCell P1.m.cls kX) (W.heap.size + 2) u0 sen).withEntry W.cur))
    hsel0 hcellS hknownS hvU tkS (fun _ hu => hu) (fun _ hu => hu) rfl rfl rfl (by simp [preparedCellV, Cell.setSlot, Cell.withEntry]) hskip (fun _ _ hA hW _ hroom _ hrest => L.nativeOff p htr hA hW hroom hrest) hselF hvSen tkC tkP tkM Y.objLocals rfl hfr' hwd'
  rw [plainBareV_eq T.toThrowableT (W.heap.size + 2) u0 sen (.ref (W.heap.size + 1)) W.cur rfl rfl] at st
  obtain ⟨-, -, w3, w4, -, -, -⟩ := withThrown_facts e.platform W Zs text P1.m.cls kX
  have X3 := ((X.pushed (bytesOf Zs.cB (stringToUtf16 text))).pushed (stringAt Zs.cS Zs.kS Zs.fv Zs.fc (stringToUtf16 text) W.heap.size)).pushed (freshCell P1.m.cls kX)
  rw [← withString_eq] at X3
  have X4 := X3.noted hW'
  have ha : (W.heap.size + 2) < ((withThrown W Zs text P1.m.cls kX).setVm vm').heap.size := by show _ < (withThrown W Zs text P1.m.cls kX).heap.size; rw [w3]; omega
  have hcell : ((withThrown W Zs text P1.m.cls kX).setVm vm').heap[(W.heap.size + 2)]? = some (freshCell P1.m.cls kX) := w4
  have X5 := ((((X4.stored hcell T.fCause.slot (.ref (W.heap.size + 2))).storedAgain ha T.fStack.slot u0.v).storedAgain ha T.fSupp.slot sen.v).storedAgain ha T.fStack.slot u0.v).storedAgain ha T.fMsg.slot (.ref (W.heap.size + 1))
  obtain ⟨g₁, hfrM⟩ := X5.frames_eq
  have hU : ((((withThrown W Zs text P1.m.cls kX).setVm vm').setCell (W.heap.size + 2) (plainBareV T.toThrowableT (freshCell P1.m.cls kX) (W.heap.size + 2) u0 sen (.ref (W.heap.size + 1)))).setTop g).pushFrame (.throwing (W.heap.size + 2)) = (((withThrown W Zs text P1.m.cls kX).setVm vm').setCell (W.heap.size + 2) (plainBareV T.toThrowableT (freshCell P1.m.cls kX) (W.heap.size + 2) u0 sen (.ref (W.heap.size + 1)))).setFrames (.throwing (W.heap.size + 2) :: .java g :: below) := by
    rw [State.pushFrame, State.frames_setTop _ hfrM, State.setTop_of_frames _ hfrM, State.setFrames_setFrames]
  have b1 : (bytesOf Zs.cB (stringToUtf16 text)).slots.size = (stringBytes (stringToUtf16 text)).size := by
    rw [(Cell.writeAll_facts _ _).2.2]; simp [bytes0]
  have b2 : (stringAt Zs.cS Zs.kS Zs.fv Zs.fc (stringToUtf16 text) W.heap.size).slots.size = 4 := by simp [string0, Cell.setSlot, hn4]
  have b3 : (freshCell P1.m.cls kX).slots.size = 6 := by simp [hn6]
  rw [b1, b2, b3] at X5
  have e9 : slots + (stringBytes (stringToUtf16 text)).size + 4 + 6 = slots + ((stringBytes (stringToUtf16 text)).size + 4 + 6) := by omega
  rw [e9] at X5
  simp only [List.append_assoc, List.cons_append, List.nil_append] at X5
  refine ⟨((withThrown W Zs text P1.m.cls kX).setVm vm').setCell (W.heap.size + 2) (plainBareV T.toThrowableT (freshCell P1.m.cls kX) (W.heap.size + 2) u0 sen (.ref (W.heap.size + 1))), W.heap.size + 2, _, fun target ht => st _ (by rw [X.tail, ← hU]; exact ht),
    X5.forget (fun y hy => ?_), heapAt_setCell_self _ ha, hfound, rfl⟩
  simp only [List.mem_cons, List.not_mem_nil, or_false] at hy
  have hge : s.heap.size ≤ W.heap.size := X.same.2.1
  rcases hy with rfl | rfl | rfl | rfl | rfl <;> exact Nat.le_trans hge (Nat.le_add_right _ 2)
set_option maxHeartbeats 1000000 in
/-- the machine throws NullPointerException, no traces kept: from its note over the frame g to 'throwing' over the same frame (follows the proof of Stand.vmThrowsNpe, Shelf42/KT2.lean; throwsNpeColdBareVAt, Shelf42/NT91.lean, called) -/
theorem vx_npeAt {p : Program} {l : Launch} {e : Env} {R : Room} {s : State} {m₀ : MethodId} {args : Array Value} {below : List Frame} {meth : Method} {c : Code} {W : State} {locs : List Loc} {cells slots : Nat}
    (X : Stand p l e R s m₀ args below meth c W locs cells slots) (hexec : p.tables.exec = Jvm.exec) (htr : e.platform.stackTraces = false) {n : Nat}
    (h : ∀ a ∈ Bundle.npeArmAtoms n, a.before args s = true)
    (hlocs : ∀ x ∈ locs, ∀ cell, s.heap[x.base]? = some cell → cell.vm.isStatics = false)
    {g : JFrame} (hg : g.method = m₀) (hsize : g.locals.size = c.maxLocals)
    (hRframes : 7 < R.frames) (hRlocals : 2 * g.monitorRoom + (g.stack.map fun v => v.category).sum + 10240 ≤ R.locals)
    (hRcells : cells + 1 ≤ R.cells) (hRslots : slots + n ≤ R.slots) (hlocks : meth.locks = false) :
    ∃ (S : State) (q : Addr) (ce : Cell), (∀ target, Steps p.tables e below ((S.setTop g).pushFrame (.throwing q)) target → Steps p.tables e below ((W.setTop g).pushFrame (.throwNew "java/lang/NullPointerException" none none)) target) ∧
      Stand p l e R s m₀ args below meth c S locs (cells + 1) (slots + n) ∧ S.heap[q]? = some ce ∧ s.vm.findClass "java/lang/NullPointerException" = some ce.cls ∧ ce.vm = .none := by
  have howns : e.platform.frameOwnsMonitors = true := by rw [X.admits.platform]
  have hfin : e.platform.finalization = false := by rw [X.admits.platform]
  have hpl : e.platform.magicAccessors = ({} : Platform).magicAccessors := by rw [X.admits.platform]
  have hpl2 : e.platform.arrayCloneIsPublic = true := by rw [X.admits.platform]
  have a' : ∀ x, x ∈ Bundle.npeArmAtoms n → x.holds args s none s [] = true := fun x hx => h x hx
  obtain ⟨T, Z, L, LZ, Y⟩ := ThrowableC.of_atoms (args := args) howns hfin hpl (fun x hx => h x (by simp [Bundle.npeArmAtoms, hx]))
  obtain ⟨N, LN, hcN, hnNF, hordN, hffS⟩ := NpeC.of_atoms (args := args) hpl hpl2 L Y (fun x hx => h x (by simp [Bundle.npeArmAtoms, hx]))
  obtain ⟨P1, L1, hP1m, hP1s⟩ := PassC.of_atoms (args := args) (s := s) hpl (X := Bundle.nN) (Y := Bundle.rN) (by decide) (by decide) LibCode.NullPointerException.Init0.at_0 LibCode.NullPointerException.Init0.at_1 LibCode.NullPointerException.Init0.at_4 (fun x hx => h x (by simp [Bundle.npeArmAtoms, hx]))
  obtain ⟨PR, LR, hPRm, hPRs⟩ := PassC.of_atoms (args := args) (s := s) hpl (X := Bundle.rN) (Y := Bundle.eN) (by decide) (by decide) LibCode.RuntimeException.Init0.at_0 LibCode.RuntimeException.Init0.at_1 LibCode.RuntimeException.Init0.at_4 (fun x hx => h x (by simp [Bundle.npeArmAtoms, hx]))
  obtain ⟨PE, LEx, hPEm, hPEs⟩ := PassC.of_atoms (args := args) (s := s) hpl (X := Bundle.eN) (Y := Bundle.tN) (by decide) (by decide) LibCode.Exception.Init0.at_0 LibCode.Exception.Init0.at_1 LibCode.Exception.Init0.at_4 (fun x hx => h x (by simp [Bundle.npeArmAtoms, hx]))
  have hfound : s.vm.findClass Bundle.nN = some P1.m.cls := findClass_of_methodNamed hP1m
  have ecls : N.cN = P1.m.cls := Option.some.inj (hcN.symm.trans hfound)
  have hk : s.vm.classes[P1.m.cls]? = some N.kN := by rw [← ecls]; exact LN.cls
  have hinit := Cond.initialized_spec hfound hk (a' (.initialized Bundle.nN) (by simp [Bundle.npeArmAtoms]))
  have hctor : N.kN.findMethod "<init>" "()V" = some P1.m.idx := findMethod_of_methodNamed hP1m hk
  obtain ⟨c1, k1, hc1, hk1, -, -, -, hn⟩ := Cond.instantiable_spec (a' (.instantiable Bundle.nN n) (by simp [Bundle.npeArmAtoms]))
  cases Option.some.inj (hc1.symm.trans hfound)
  cases Option.some.inj (hk1.symm.trans hk)
  have hfsz : (freshCell P1.m.cls N.kN).slots.size = n := by simp [hn]
  have hlink1 : P1.sup = PR.m := Option.some.inj (hP1s.symm.trans hPRm)
  have hlinkR : PR.sup = PE.m := Option.some.inj (hPRs.symm.trans hPEm)
  have hlinkE : PE.sup = Z.m T.toThrowableT := Option.some.inj (hPEs.symm.trans Y.init0)
  have hLs : ∀ P, P ∈ [PR, PE] → P.Links0 e.platform s := fun P hP => by
    simp only [List.mem_cons, List.not_mem_nil, or_false] at hP
    rcases hP with rfl | rfl
    · exact LR
    · exact LEx
  have hsel0 : selectMethod e.platform s.vm P1.m.cls T.fill0 = .method T.fill0 := by
    obtain ⟨c2, r2, m2, q1, q2, q3, q4, -⟩ := Cond.selects_spec (a' (.selects Bundle.nN Bundle.tFill0 Bundle.tFill0) (by simp [Bundle.npeArmAtoms]))
    cases Option.some.inj (q1.symm.trans hfound)
    cases Option.some.inj (q2.symm.trans (State.methodFound?_of_named Y.fill0 (by decide)))
    cases Option.some.inj (q3.symm.trans Y.fill0)
    rw [Launch.admits_selectMethod X.admits]; exact q4
  have hselF : selectMethod e.platform s.vm P1.m.cls T.fill = .method N.fill := by
    obtain ⟨c2, r2, m2, q1, q2, q3, q4, -⟩ := Cond.selects_spec (a' (.selects Bundle.nN Bundle.tFill Bundle.nFill) (by simp [Bundle.npeArmAtoms]))
    cases Option.some.inj (q1.symm.trans hfound)
    cases Option.some.inj (q2.symm.trans (State.methodFound?_of_named Y.fill (by decide)))
    cases Option.some.inj (q3.symm.trans hnNF)
    rw [Launch.admits_selectMethod X.admits]; exact q4
  obtain ⟨cellS0, hcS0, hiss⟩ := Y.statics
  obtain ⟨u0, hu0⟩ := Cond.staticRefV Y.unassigned L.unassignedStatic L.statics hcS0 hiss (a' (.isRef (.static Bundle.tN "UNASSIGNED_STACK" Bundle.steD)) (by simp [Bundle.npeArmAtoms]))
  obtain ⟨sen, hsen⟩ := Cond.staticRefV Y.sentinel L.sentinelStatic L.statics hcS0 hiss (a' (.isRef (.static Bundle.tN "SUPPRESSED_SENTINEL" Bundle.listD)) (by simp [Bundle.npeArmAtoms]))
  obtain ⟨ci198, i198, fB, hk198, hg198, ha198, hsB, -, hnB, htB, hffB⟩ := Cond.ownField (t := .object "java/lang/Object") Y.found L.cls (by decide +kernel) (a' (.fieldLink Bundle.tN 198 Bundle.tN "backtrace" Bundle.objD) (by simp [Bundle.npeArmAtoms])) (a' (.lays Bundle.tN Bundle.tN "backtrace" Bundle.objD) (by simp [Bundle.npeArmAtoms])) e.platform hpl
  obtain ⟨cellS, hcS', heS, -, hkeep⟩ := X.same.2.2.2.2.2 T.aS cellS0 hcS0
  have hcellS : W.heap[T.aS]? = some cellS := hcS'
  have hout' : ∀ i, (⟨T.aS, i⟩ : Loc) ∉ locs := fun i hmem => by
    have := hlocs _ hmem cellS0 hcS0
    rw [hiss] at this; cases this
  have hknownS : cellS.vm ≠ .unknown := by
    rw [heS]; intro hu
    rw [show cellS0.vm = .unknown from hu] at hiss
    cases hiss
  have hvU : cellS.slots[T.fUnassigned.slot]? = some u0.v := by rw [hkeep _ (hout' _)]; exact hu0
  have hvSen : cellS.slots[T.fSentinel.slot]? = some sen.v := by rw [hkeep _ (hout' _)]; exact hsen
  obtain ⟨tyC, dC, hdC, hdnC⟩ := Cond.laysAt hfound hk Y.cause (a' (.lays Bundle.nN Bundle.tN "cause" "Ljava/lang/Throwable;") (by simp [Bundle.npeArmAtoms]))
  obtain ⟨tyS, dS, hdS, hdnS⟩ := Cond.laysAt hfound hk Y.stack (a' (.lays Bundle.nN Bundle.tN "stackTrace" Bundle.steD) (by simp [Bundle.npeArmAtoms]))
  obtain ⟨tyP, dP, hdP, hdnP⟩ := Cond.laysAt hfound hk Y.supp (a' (.lays Bundle.nN Bundle.tN "suppressedExceptions" Bundle.listD) (by simp [Bundle.npeArmAtoms]))
  obtain ⟨tyX, dX, hdX, hdnX⟩ := Cond.laysAt hfound hk hffS (a' (.lays Bundle.nN Bundle.nN "extendedMessageState" "I") (by simp [Bundle.npeArmAtoms, Bundle.npeAtoms]))
  obtain ⟨hnX, htX⟩ := State.fieldFound?_type hffS (t := .int) (by decide +kernel)
  have xC := Cond.laysApart hdC hdX hdnC hdnX (by rw [hnX, Y.causeName]; decide)
  have xS := Cond.laysApart hdS hdX hdnS hdnX (by rw [hnX, Y.stackName]; decide)
  have xP := Cond.laysApart hdP hdX hdnP hdnX (by rw [hnX, Y.suppName]; decide)
  have hv0 : (freshCell P1.m.cls N.kN).slots[N.fState.slot]? = some (.int 0) := by
    have := fresh_default (c := P1.m.cls) tyX
    rw [htX] at this; exact this
  obtain ⟨tyB, dB, hdB, hdnB⟩ := Cond.laysAt hfound hk hffB (a' (.lays Bundle.nN Bundle.tN "backtrace" Bundle.objD) (by simp [Bundle.npeArmAtoms]))
  have bC := Cond.laysApart hdB hdC hdnB hdnC (by rw [hnB, Y.causeName]; decide)
  have bS := Cond.laysApart hdB hdS hdnB hdnS (by rw [hnB, Y.stackName]; decide)
  have bP := Cond.laysApart hdB hdP hdnB hdnP (by rw [hnB, Y.suppName]; decide)
  have bX := Cond.laysApart hdB hdX hdnB hdnX (by rw [hnB, hnX]; decide)
  have hbk : ((npeCell N.toNpeT (preparedCellV T.toThrowableT (freshCell P1.m.cls N.kN) W.heap.size u0 sen) W.cur).withEntry W.cur).slots[fB.slot]? = some .null := by
    have := fresh_default (c := P1.m.cls) tyB
    rw [htB] at this
    simpa [npeCell, preparedCellV, Cell.setSlot, Cell.withEntry, Array.getElem?_setIfInBounds, bC, bS, bP, bX, bC.symm, bS.symm, bP.symm, bX.symm, defaultValue] using this
  have tkC := Takes.of_laid (v := .ref W.heap.size) hk hordN tyC (by rw [Y.causeType]; rfl)
  have tkS := Takes.of_laid (v := u0.v) hk hordN tyS (by rw [Y.stackType]; exact fits_refV_array _ u0)
  have tkP := Takes.of_laid (v := sen.v) hk hordN tyP (by rw [Y.suppType]; exact fits_refV_object _ sen)
  have tkX := Takes.of_laid (v := .int 1) hk hordN tyX (by rw [htX]; rfl)
  have hskip : SkipFacts T e.platform s (fun u => u) u0 ((npeCell N.toNpeT (preparedCellV T.toThrowableT (freshCell P1.m.cls N.kN) W.heap.size u0 sen) W.cur).withEntry W.cur) := ⟨{ ci198 := ci198, i198 := i198, fBack := fB }, ⟨hk198, hg198, ha198, hsB⟩, hbk, fun _ _ => rfl⟩
  obtain ⟨vm', X3, st, -⟩ := X.throwsNpeColdBareVAt hexec hg hsize T L Z LZ N LN P1 L1 [PR, PE] hLs hlink1 ⟨hlinkR, hlinkE, trivial⟩ hfound hk hinit hordN hctor hsel0 hselF hcellS hknownS hvU hvSen
    hv0 xC xS xP tkC tkS tkP tkX Y.objLocals hskip (fun _ _ hA hW _ hroom _ hrest => L.nativeOff p htr hA hW hroom hrest) (by simpa using hRframes) hRlocals (by simp) hRcells (by rw [hn]; exact hRslots)
  have hlt : W.heap.size < ((W.pushCell (freshCell P1.m.cls N.kN)).setVm vm').heap.size := by
    show W.heap.size < (W.pushCell (freshCell P1.m.cls N.kN)).heap.size
    rw [State.heap_size_pushCell]; omega
  rw [hfsz] at X3
  obtain ⟨g₁, hfrM⟩ := X3.frames_eq
  have hU : ((((W.pushCell (freshCell P1.m.cls N.kN)).setVm vm').setCell W.heap.size (npeBareV T.toThrowableT N.toNpeT (freshCell P1.m.cls N.kN) W.heap.size u0 sen)).setTop g).pushFrame (.throwing W.heap.size) = (((W.pushCell (freshCell P1.m.cls N.kN)).setVm vm').setCell W.heap.size (npeBareV T.toThrowableT N.toNpeT (freshCell P1.m.cls N.kN) W.heap.size u0 sen)).setFrames (.throwing W.heap.size :: .java g :: below) := by
    rw [State.pushFrame, State.frames_setTop _ hfrM, State.setTop_of_frames _ hfrM, State.setFrames_setFrames]
  refine ⟨_, W.heap.size, _, fun target ht => st.trans (by rw [← hU]; exact ht), X3.forget (fun y hy => ?_), heapAt_setCell_self _ hlt, hfound, rfl⟩
  simp only [List.mem_cons, List.not_mem_nil, or_false] at hy
  have hge : s.heap.size ≤ W.heap.size := X.same.2.1
  rcases hy with rfl | rfl | rfl | rfl | rfl <;> exact hge
/-- the words of a machine's NullPointerException, but the four that speak of the heap -/
def vx_atN (n : Nat) : List Cond := (Bundle.npeArmAtoms n).filter vx_no
/-- the words of a machine's throw with a message, but the four that speak of the heap -/
def vx_atM (X : String) (names : List String) : List Cond := (Bundle.messageArmAtoms X names).filter vx_no
section
variable {p : Program} {l : Launch} {e : Env} {R : Room} {s : State} {m : MethodId} {args : Array Value} {below : List Frame} {meth : Method} {c : Code} {H : Heap} {locs : List Loc} {cells slots : Nat}
/-- a frame seen from a rebased start, seen from the first start again -/
theorem vx_back9 {T S : State} {R' : Room} {k n : Nat} (X : Stand p l e R s m args below meth c T locs cells slots) (Y : Stand p l e R' ((T.setVm s.vm).setFrames (.invoking m args :: below)) m args below meth c T [] 0 0) (Z : Stand p l e R' ((T.setVm s.vm).setFrames (.invoking m args :: below)) m args below meth c S [] k n) :
    Stand p l e R s m args below meth c S locs (cells + k) (slots + n) := by
  have hW0 : s.WarmedH ((T.setVm s.vm).setFrames (.invoking m args :: below)).vm := State.WarmedH.refl s
  refine { admits := X.admits, cas := X.cas, clock := X.clock, frames := X.frames, room := X.room, hears := X.hears, method := X.method, code := X.code, here := Z.here, tail := Z.tail, warmed := State.WarmedH.trans hW0 Z.warmed, limits := Z.limits.trans (Y.limits.symm.trans X.limits), bytes := Z.bytes.trans (Y.bytes.symm.trans X.bytes), same := ?_ }
  obtain ⟨e1, e2⟩ := Z.same
  rw [State.setFrames_setFrames] at e1
  have h2 : (T.setVm s.vm).sameButNew (S.setVm s.vm) [] k n := ⟨e1, e2⟩
  have h3 := X.same.trans h2
  rw [List.append_nil] at h3
  exact h3
/-- from the machine's note that E is thrown here with this text -/
def vx_Note (p : Program) (l : Launch) (e : Env) (R : Room) (s : State) (m : MethodId) (args : Array Value) (below : List Frame) (meth : Method) (c : Code) (H : Heap) (locs : List Loc) (cells slots : Nat) (Q : State → Prop) (g : JFrame) (E text : String) : Prop :=
  ∀ T : State, T.heap = H → Stand p l e R s m args below meth c T locs cells slots → ∃ t, Steps p.tables e below ((T.setTop g).pushFrame (.throwNew E (some text) none)) t ∧ Q t
theorem vx_vm {pc : Nat} {ls : Array Slot} {rest : List Value} {Q : State → Prop} (hexec : p.tables.exec = Jvm.exec) (hl : l.stackTraces = false) {cls text : String} {names : List String} {nb : Nat} {A : Nat → Prop}
    (hcls : Bundle.fit cls = true) (hnames : ∀ n ∈ names, Bundle.fit n = true) (hsoe : (cls == "java/lang/StackOverflowError") = false) (hoom : (cls == "java/lang/OutOfMemoryError") = false)
    (hat : ∀ w ∈ vx_atM cls names, w.before args s = true) (hgood : ∀ w ∈ vx_atM cls names, vx_ot w = true)
    (hU : vx_Zq Bundle.tN "UNASSIGNED_STACK" Bundle.steD A s s.heap) (hN : vx_Zq Bundle.tN "SUPPRESSED_SENTINEL" Bundle.listD A s s.heap) (hS : va_S A s.heap H locs) (hsize : ls.size = c.maxLocals)
    (htext : (text == notModelled) = false) (hnb : (stringBytes (stringToUtf16 text)).size ≤ nb) (hnb1 : nb ≤ 1000)
    (hRframes : names.length + 4 < R.frames) (hRlocals : (rest.map fun v => v.category).sum + 10240 ≤ R.locals) (hshort : 13 * names.length + 55 ≤ 10240) (hRcells : cells + 3 ≤ R.cells) (hRslots : slots + (nb + 10) ≤ R.slots) (hlocks : meth.locks = false)
    (k : ∀ (H1 : Heap) (q9 : Addr) (ce : Cell), H.size ≤ H1.size → (∀ q : Nat, q < H.size → H1[q]? = H[q]?) → va_S A s.heap H1 locs → H1[q9]? = some ce → ce.vm = .none → s.vm.findClass cls = some ce.cls → vx_W p l e R s m args below meth c H1 locs (cells + 3) (slots + (nb + 10)) Q (F0 m pc ls rest) q9) :
    vx_Note p l e R s m args below meth c H locs cells slots Q (F0 m pc ls rest) cls text := by
  intro T hT X
  have htr : e.platform.stackTraces = false := (show e.platform.stackTraces = l.stackTraces by rw [X.admits.platform]).trans hl
  have Y := vx_rebase X (R' := { frames := R.frames, locals := R.locals, cells := 3, slots := nb + 10 }) (Nat.le_refl _) (Nat.le_refl _) hRcells hRslots
  have hhp : ((T.setVm s.vm).setFrames (.invoking m args :: below)).heap = H := hT
  have hW0 : s.WarmedH ((T.setVm s.vm).setFrames (.invoking m args :: below)).vm := State.WarmedH.refl s
  have hat' : ∀ w ∈ vx_atM cls names, w.before args ((T.setVm s.vm).setFrames (.invoking m args :: below)) = true := fun w hw => vx_ot_at hW0 rfl (hgood w hw) (hat w hw)
  have hU' : vx_Zq Bundle.tN "UNASSIGNED_STACK" Bundle.steD A ((T.setVm s.vm).setFrames (.invoking m args :: below)) ((T.setVm s.vm).setFrames (.invoking m args :: below)).heap := by rw [hhp]; exact vx_Zq.moved hW0.alike (hU.kept hS.2.1)
  have hN' : vx_Zq Bundle.tN "SUPPRESSED_SENTINEL" Bundle.listD A ((T.setVm s.vm).setFrames (.invoking m args :: below)) ((T.setVm s.vm).setFrames (.invoking m args :: below)).heap := by rw [hhp]; exact vx_Zq.moved hW0.alike (hN.kept hS.2.1)
  obtain ⟨S, q, ce, st, Z, hce, hcl', hv⟩ := vx_vmAt Y hexec htr (cls := cls) (names := names) (text := text) hcls hnames hsoe hoom (vx_own hat' (vx_isRefq hU'.1) (vx_isRefq hN'.1) hU'.2.word hN'.2.word) (fun x hx => nomatch hx) htext
    (by rw [Launch.admits_arrayLengthLimit X.admits]; omega) (by rw [Launch.admits_maxHeapBytes X.admits]; simp only [componentBytes]; omega)
    (g := F0 m pc ls rest) rfl hsize hRframes (by show 2 * 0 + (rest.map fun v => v.category).sum + 10240 ≤ R.locals; omega) hshort (by show 0 + 3 ≤ 3; omega) (by show 0 + (_ + 4 + 6) ≤ nb + 10; omega) hlocks
  obtain ⟨f1, f2⟩ := vx_frame Z.same
  have f1' : H.size ≤ S.heap.size := by rw [← hT]; exact f1
  have f2' : ∀ q : Nat, q < H.size → S.heap[q]? = H[q]? := fun q hq => by
    rw [← hT]
    exact f2 q (by rw [← hT] at hq; exact hq) (fun z hz => nomatch hz)
  have X5 := vx_back9 X Y Z
  have X6 : Stand p l e R s m args below meth c S locs (cells + 3) (slots + (nb + 10)) := { X5 with same := X5.same.mono (by omega) (by omega) }
  obtain ⟨t, a1, b1⟩ := k S.heap q ce f1' f2' ⟨Nat.le_trans hS.1 f1', fun q h1 h2 => (f2' q (Nat.lt_of_lt_of_le h1 hS.1)).trans (hS.2.1 q h1 h2), hS.2.2⟩ hce hv hcl' S rfl X6
  exact ⟨t, st t a1, b1⟩
/-- from the machine's note that NullPointerException is thrown here -/
def vx_NoteN (p : Program) (l : Launch) (e : Env) (R : Room) (s : State) (m : MethodId) (args : Array Value) (below : List Frame) (meth : Method) (c : Code) (H : Heap) (locs : List Loc) (cells slots : Nat) (Q : State → Prop) (g : JFrame) : Prop :=
  ∀ T : State, T.heap = H → Stand p l e R s m args below meth c T locs cells slots → ∃ t, Steps p.tables e below ((T.setTop g).pushFrame (.throwNew "java/lang/NullPointerException" none none)) t ∧ Q t
theorem vx_npe {pc : Nat} {ls : Array Slot} {rest : List Value} {Q : State → Prop} (hexec : p.tables.exec = Jvm.exec) (hl : l.stackTraces = false) {nb : Nat} {A : Nat → Prop}
    (hat : ∀ w ∈ vx_atN nb, w.before args s = true) (hgood : ∀ w ∈ vx_atN nb, vx_ot w = true)
    (hU : vx_Zq Bundle.tN "UNASSIGNED_STACK" Bundle.steD A s s.heap) (hN : vx_Zq Bundle.tN "SUPPRESSED_SENTINEL" Bundle.listD A s s.heap) (hS : va_S A s.heap H locs) (hsize : ls.size = c.maxLocals)
    (hRframes : 7 < R.frames) (hRlocals : (rest.map fun v => v.category).sum + 10240 ≤ R.locals) (hRcells : cells + 1 ≤ R.cells) (hRslots : slots + nb ≤ R.slots) (hlocks : meth.locks = false)
    (k : ∀ (H1 : Heap) (q9 : Addr) (ce : Cell), H.size ≤ H1.size → (∀ q : Nat, q < H.size → H1[q]? = H[q]?) → va_S A s.heap H1 locs → H1[q9]? = some ce → ce.vm = .none → s.vm.findClass "java/lang/NullPointerException" = some ce.cls → vx_W p l e R s m args below meth c H1 locs (cells + 1) (slots + nb) Q (F0 m pc ls rest) q9) :
    vx_NoteN p l e R s m args below meth c H locs cells slots Q (F0 m pc ls rest) := by
  intro T hT X
  have htr : e.platform.stackTraces = false := (show e.platform.stackTraces = l.stackTraces by rw [X.admits.platform]).trans hl
  have Y := vx_rebase X (R' := { frames := R.frames, locals := R.locals, cells := 1, slots := nb }) (Nat.le_refl _) (Nat.le_refl _) hRcells hRslots
  have hhp : ((T.setVm s.vm).setFrames (.invoking m args :: below)).heap = H := hT
  have hW0 : s.WarmedH ((T.setVm s.vm).setFrames (.invoking m args :: below)).vm := State.WarmedH.refl s
  have hat' : ∀ w ∈ vx_atN nb, w.before args ((T.setVm s.vm).setFrames (.invoking m args :: below)) = true := fun w hw => vx_ot_at hW0 rfl (hgood w hw) (hat w hw)
  have hU' : vx_Zq Bundle.tN "UNASSIGNED_STACK" Bundle.steD A ((T.setVm s.vm).setFrames (.invoking m args :: below)) ((T.setVm s.vm).setFrames (.invoking m args :: below)).heap := by rw [hhp]; exact vx_Zq.moved hW0.alike (hU.kept hS.2.1)
  have hN' : vx_Zq Bundle.tN "SUPPRESSED_SENTINEL" Bundle.listD A ((T.setVm s.vm).setFrames (.invoking m args :: below)) ((T.setVm s.vm).setFrames (.invoking m args :: below)).heap := by rw [hhp]; exact vx_Zq.moved hW0.alike (hN.kept hS.2.1)
  obtain ⟨S, q, ce, st, Z, hce, hcl', hv⟩ := vx_npeAt Y hexec htr (n := nb) (vx_own hat' (vx_isRefq hU'.1) (vx_isRefq hN'.1) hU'.2.word hN'.2.word) (fun x hx => nomatch hx)
    (g := F0 m pc ls rest) rfl hsize hRframes (by show 2 * 0 + (rest.map fun v => v.category).sum + 10240 ≤ R.locals; omega) (by show 0 + 1 ≤ 1; omega) (by show 0 + nb ≤ nb; omega) hlocks
  obtain ⟨f1, f2⟩ := vx_frame Z.same
  have f1' : H.size ≤ S.heap.size := by rw [← hT]; exact f1
  have f2' : ∀ q : Nat, q < H.size → S.heap[q]? = H[q]? := fun q hq => by
    rw [← hT]
    exact f2 q (by rw [← hT] at hq; exact hq) (fun z hz => nomatch hz)
  have X5 := vx_back9 X Y Z
  have X6 : Stand p l e R s m args below meth c S locs (cells + 1) (slots + nb) := { X5 with same := X5.same.mono (by omega) (by omega) }
  obtain ⟨t, a1, b1⟩ := k S.heap q ce f1' f2' ⟨Nat.le_trans hS.1 f1', fun q h1 h2 => (f2' q (Nat.lt_of_lt_of_le h1 hS.1)).trans (hS.2.1 q h1 h2), hS.2.2⟩ hce hv hcl' S rfl X6
  exact ⟨t, st t a1, b1⟩
variable {Q : State → Prop} {cc : ByteArray} {pc : Nat} {ls : Array Slot} {rest : List Value}
theorem vx_idivZ (hexec : p.tables.exec = Jvm.exec) (hb : c.code = cc) {a b : Int32} (h0 : b = 0) (d : decode cc pc = .ok (.idiv, 1)) (k : vx_Note p l e R s m args below meth c H locs cells slots Q (F0 m pc ls rest) "java/lang/ArithmeticException" "/ by zero") :
    W p l e R s m args below meth c H locs cells slots Q (F0 m pc ls (.int b :: .int a :: rest)) := by
  intro T hT X
  obtain ⟨t, st, q⟩ := k T hT X
  exact ⟨t, X.idivZero hexec (g := F0 m pc ls (.int b :: .int a :: rest)) rfl (a := a) (rest := rest) (by rw [h0]) (by rw [hb]; exact d) t st, q⟩
theorem vx_iremZ (hexec : p.tables.exec = Jvm.exec) (hb : c.code = cc) {a b : Int32} (h0 : b = 0) (d : decode cc pc = .ok (.irem, 1)) (k : vx_Note p l e R s m args below meth c H locs cells slots Q (F0 m pc ls rest) "java/lang/ArithmeticException" "/ by zero") :
    W p l e R s m args below meth c H locs cells slots Q (F0 m pc ls (.int b :: .int a :: rest)) := by
  intro T hT X
  obtain ⟨t, st, q⟩ := k T hT X
  exact ⟨t, X.iremZero hexec (g := F0 m pc ls (.int b :: .int a :: rest)) rfl (a := a) (rest := rest) (by rw [h0]) (by rw [hb]; exact d) t st, q⟩
theorem vx_ldivZ (hexec : p.tables.exec = Jvm.exec) (hb : c.code = cc) {a b : Int64} (h0 : b = 0) (d : decode cc pc = .ok (.ldiv, 1)) (k : vx_Note p l e R s m args below meth c H locs cells slots Q (F0 m pc ls rest) "java/lang/ArithmeticException" "/ by zero") :
    W p l e R s m args below meth c H locs cells slots Q (F0 m pc ls (.long b :: .long a :: rest)) := by
  intro T hT X
  obtain ⟨t, st, q⟩ := k T hT X
  exact ⟨t, X.ldivZero hexec (g := F0 m pc ls (.long b :: .long a :: rest)) rfl (a := a) (rest := rest) (by rw [h0]) (by rw [hb]; exact d) t st, q⟩
theorem vx_lremZ (hexec : p.tables.exec = Jvm.exec) (hb : c.code = cc) {a b : Int64} (h0 : b = 0) (d : decode cc pc = .ok (.lrem, 1)) (k : vx_Note p l e R s m args below meth c H locs cells slots Q (F0 m pc ls rest) "java/lang/ArithmeticException" "/ by zero") :
    W p l e R s m args below meth c H locs cells slots Q (F0 m pc ls (.long b :: .long a :: rest)) := by
  intro T hT X
  obtain ⟨t, st, q⟩ := k T hT X
  exact ⟨t, X.lremZero hexec (g := F0 m pc ls (.long b :: .long a :: rest)) rfl (a := a) (rest := rest) (by rw [h0]) (by rw [hb]; exact d) t st, q⟩
theorem vx_ialdZ {D : va_G} {cl : List vw_C} {ws : va_W} {tys : List (ClassId × FieldType)} {a : Nat} (hexec : p.tables.exec = Jvm.exec) (hb : c.code = cc) (hK : va_K D cl tys s) (hP : va_P D cl ws H) (q0 t0 : Nat) {cA : ClassId} {n : Nat} {f : Nat → Int32} (ha : ws[q0]? = some (a, .inl (cA, n, .inl f))) (ht : tys[t0]? = some (cA, .int)) {i : Int32} (hout : ¬ vp_in i n) (hdg : decode cc pc = .ok (.iaload, 1))
    (k : ∀ tx : String, tx = (toString "Index " ++ toString i ++ toString " out of bounds for length " ++ toString n : String) → vx_Note p l e R s m args below meth c H locs cells slots Q (F0 m pc ls rest) "java/lang/ArrayIndexOutOfBoundsException" tx) : W p l e R s m args below meth c H locs cells slots Q (F0 m pc ls (.int i :: .ref a :: rest)) := by
  intro T hT X
  obtain ⟨t, st, q⟩ := k _ rfl T hT X
  refine ⟨t, ?_, q⟩
  have h1 := X.ialoadOut hexec (by rw [hT]; exact hP q0 _ ha) ((hK.2 t0 _ ht).1 n (fun j => .int (f j))) (j := i) (by show (i < 0 ∨ (arrV _ _ _).slots.size ≤ _); rw [arrV_size]; exact Classical.byContradiction hout) (g := F0 m pc ls (.int i :: .ref a :: rest)) rfl (rest := rest) rfl (by rw [hb]; exact hdg) t
  simp only [arrV_size] at h1
  exact h1 st
theorem vx_iastZ {D : va_G} {cl : List vw_C} {ws : va_W} {tys : List (ClassId × FieldType)} {a : Nat} (hexec : p.tables.exec = Jvm.exec) (hb : c.code = cc) (hK : va_K D cl tys s) (hP : va_P D cl ws H) (q0 t0 : Nat) {cA : ClassId} {n : Nat} {f : Nat → Int32} (ha : ws[q0]? = some (a, .inl (cA, n, .inl f))) (ht : tys[t0]? = some (cA, .int)) {i : Int32} {x : Int32} (hout : ¬ vp_in i n) (hdg : decode cc pc = .ok (.iastore, 1))
    (k : ∀ tx : String, tx = (toString "Index " ++ toString i ++ toString " out of bounds for length " ++ toString n : String) → vx_Note p l e R s m args below meth c H locs cells slots Q (F0 m pc ls rest) "java/lang/ArrayIndexOutOfBoundsException" tx) : W p l e R s m args below meth c H locs cells slots Q (F0 m pc ls (.int x :: .int i :: .ref a :: rest)) := by
  intro T hT X
  obtain ⟨t, st, q⟩ := k _ rfl T hT X
  refine ⟨t, ?_, q⟩
  have h1 := X.iastoreOut hexec (by rw [hT]; exact hP q0 _ ha) ((hK.2 t0 _ ht).1 n (fun j => .int (f j))) (j := i) (by show (i < 0 ∨ (arrV _ _ _).slots.size ≤ _); rw [arrV_size]; exact Classical.byContradiction hout) (g := F0 m pc ls (.int x :: .int i :: .ref a :: rest)) rfl (rest := rest) rfl (by rw [hb]; exact hdg) t
  simp only [arrV_size] at h1
  exact h1 st
theorem vx_baldZ {D : va_G} {cl : List vw_C} {ws : va_W} {tys : List (ClassId × FieldType)} {a : Nat} (hexec : p.tables.exec = Jvm.exec) (hb : c.code = cc) (hK : va_K D cl tys s) (hP : va_P D cl ws H) (q0 t0 : Nat) {cA : ClassId} {n : Nat} {f : Nat → Int32} (ha : ws[q0]? = some (a, .inl (cA, n, .inl f))) (ht : tys[t0]? = some (cA, .byte)) {i : Int32} (hout : ¬ vp_in i n) (hdg : decode cc pc = .ok (.baload, 1))
    (k : ∀ tx : String, tx = (toString "Index " ++ toString i ++ toString " out of bounds for length " ++ toString n : String) → vx_Note p l e R s m args below meth c H locs cells slots Q (F0 m pc ls rest) "java/lang/ArrayIndexOutOfBoundsException" tx) : W p l e R s m args below meth c H locs cells slots Q (F0 m pc ls (.int i :: .ref a :: rest)) := by
  intro T hT X
  obtain ⟨t, st, q⟩ := k _ rfl T hT X
  refine ⟨t, ?_, q⟩
  have h1 := X.baloadOut hexec (by rw [hT]; exact hP q0 _ ha) ((hK.2 t0 _ ht).1 n (fun j => .int (f j))) (j := i) (by show (i < 0 ∨ (arrV _ _ _).slots.size ≤ _); rw [arrV_size]; exact Classical.byContradiction hout) (g := F0 m pc ls (.int i :: .ref a :: rest)) rfl (rest := rest) rfl (by rw [hb]; exact hdg) t
  simp only [arrV_size] at h1
  exact h1 st
theorem vx_bastZ {D : va_G} {cl : List vw_C} {ws : va_W} {tys : List (ClassId × FieldType)} {a : Nat} (hexec : p.tables.exec = Jvm.exec) (hb : c.code = cc) (hK : va_K D cl tys s) (hP : va_P D cl ws H) (q0 t0 : Nat) {cA : ClassId} {n : Nat} {f : Nat → Int32} (ha : ws[q0]? = some (a, .inl (cA, n, .inl f))) (ht : tys[t0]? = some (cA, .byte)) {i : Int32} {x : Int32} (hout : ¬ vp_in i n) (hdg : decode cc pc = .ok (.bastore, 1))
    (k : ∀ tx : String, tx = (toString "Index " ++ toString i ++ toString " out of bounds for length " ++ toString n : String) → vx_Note p l e R s m args below meth c H locs cells slots Q (F0 m pc ls rest) "java/lang/ArrayIndexOutOfBoundsException" tx) : W p l e R s m args below meth c H locs cells slots Q (F0 m pc ls (.int x :: .int i :: .ref a :: rest)) := by
  intro T hT X
  obtain ⟨t, st, q⟩ := k _ rfl T hT X
  refine ⟨t, ?_, q⟩
  have h1 := X.bastoreOut hexec (by rw [hT]; exact hP q0 _ ha) ((hK.2 t0 _ ht).1 n (fun j => .int (f j))) (j := i) (by show (i < 0 ∨ (arrV _ _ _).slots.size ≤ _); rw [arrV_size]; exact Classical.byContradiction hout) (g := F0 m pc ls (.int x :: .int i :: .ref a :: rest)) rfl (rest := rest) rfl (by rw [hb]; exact hdg) t
  simp only [arrV_size] at h1
  exact h1 st
theorem vx_zaldZ {D : va_G} {cl : List vw_C} {ws : va_W} {tys : List (ClassId × FieldType)} {a : Nat} (hexec : p.tables.exec = Jvm.exec) (hb : c.code = cc) (hK : va_K D cl tys s) (hP : va_P D cl ws H) (q0 t0 : Nat) {cA : ClassId} {n : Nat} {f : Nat → Int32} (ha : ws[q0]? = some (a, .inl (cA, n, .inl f))) (ht : tys[t0]? = some (cA, .boolean)) {i : Int32} (hout : ¬ vp_in i n) (hdg : decode cc pc = .ok (.baload, 1))
    (k : ∀ tx : String, tx = (toString "Index " ++ toString i ++ toString " out of bounds for length " ++ toString n : String) → vx_Note p l e R s m args below meth c H locs cells slots Q (F0 m pc ls rest) "java/lang/ArrayIndexOutOfBoundsException" tx) : W p l e R s m args below meth c H locs cells slots Q (F0 m pc ls (.int i :: .ref a :: rest)) := by
  intro T hT X
  obtain ⟨t, st, q⟩ := k _ rfl T hT X
  refine ⟨t, ?_, q⟩
  have h1 := X.baloadOut hexec (by rw [hT]; exact hP q0 _ ha) ((hK.2 t0 _ ht).1 n (fun j => .int (f j))) (j := i) (by show (i < 0 ∨ (arrV _ _ _).slots.size ≤ _); rw [arrV_size]; exact Classical.byContradiction hout) (g := F0 m pc ls (.int i :: .ref a :: rest)) rfl (rest := rest) rfl (by rw [hb]; exact hdg) t
  simp only [arrV_size] at h1
  exact h1 st
theorem vx_zastZ {D : va_G} {cl : List vw_C} {ws : va_W} {tys : List (ClassId × FieldType)} {a : Nat} (hexec : p.tables.exec = Jvm.exec) (hb : c.code = cc) (hK : va_K D cl tys s) (hP : va_P D cl ws H) (q0 t0 : Nat) {cA : ClassId} {n : Nat} {f : Nat → Int32} (ha : ws[q0]? = some (a, .inl (cA, n, .inl f))) (ht : tys[t0]? = some (cA, .boolean)) {i : Int32} {x : Int32} (hout : ¬ vp_in i n) (hdg : decode cc pc = .ok (.bastore, 1))
    (k : ∀ tx : String, tx = (toString "Index " ++ toString i ++ toString " out of bounds for length " ++ toString n : String) → vx_Note p l e R s m args below meth c H locs cells slots Q (F0 m pc ls rest) "java/lang/ArrayIndexOutOfBoundsException" tx) : W p l e R s m args below meth c H locs cells slots Q (F0 m pc ls (.int x :: .int i :: .ref a :: rest)) := by
  intro T hT X
  obtain ⟨t, st, q⟩ := k _ rfl T hT X
  refine ⟨t, ?_, q⟩
  have h1 := X.bastoreOut hexec (by rw [hT]; exact hP q0 _ ha) ((hK.2 t0 _ ht).1 n (fun j => .int (f j))) (j := i) (by show (i < 0 ∨ (arrV _ _ _).slots.size ≤ _); rw [arrV_size]; exact Classical.byContradiction hout) (g := F0 m pc ls (.int x :: .int i :: .ref a :: rest)) rfl (rest := rest) rfl (by rw [hb]; exact hdg) t
  simp only [arrV_size] at h1
  exact h1 st
theorem vx_caldZ {D : va_G} {cl : List vw_C} {ws : va_W} {tys : List (ClassId × FieldType)} {a : Nat} (hexec : p.tables.exec = Jvm.exec) (hb : c.code = cc) (hK : va_K D cl tys s) (hP : va_P D cl ws H) (q0 t0 : Nat) {cA : ClassId} {n : Nat} {f : Nat → Int32} (ha : ws[q0]? = some (a, .inl (cA, n, .inl f))) (ht : tys[t0]? = some (cA, .char)) {i : Int32} (hout : ¬ vp_in i n) (hdg : decode cc pc = .ok (.caload, 1))
    (k : ∀ tx : String, tx = (toString "Index " ++ toString i ++ toString " out of bounds for length " ++ toString n : String) → vx_Note p l e R s m args below meth c H locs cells slots Q (F0 m pc ls rest) "java/lang/ArrayIndexOutOfBoundsException" tx) : W p l e R s m args below meth c H locs cells slots Q (F0 m pc ls (.int i :: .ref a :: rest)) := by
  intro T hT X
  obtain ⟨t, st, q⟩ := k _ rfl T hT X
  refine ⟨t, ?_, q⟩
  have h1 := X.caloadOut hexec (by rw [hT]; exact hP q0 _ ha) ((hK.2 t0 _ ht).1 n (fun j => .int (f j))) (j := i) (by show (i < 0 ∨ (arrV _ _ _).slots.size ≤ _); rw [arrV_size]; exact Classical.byContradiction hout) (g := F0 m pc ls (.int i :: .ref a :: rest)) rfl (rest := rest) rfl (by rw [hb]; exact hdg) t
  simp only [arrV_size] at h1
  exact h1 st
theorem vx_castZ {D : va_G} {cl : List vw_C} {ws : va_W} {tys : List (ClassId × FieldType)} {a : Nat} (hexec : p.tables.exec = Jvm.exec) (hb : c.code = cc) (hK : va_K D cl tys s) (hP : va_P D cl ws H) (q0 t0 : Nat) {cA : ClassId} {n : Nat} {f : Nat → Int32} (ha : ws[q0]? = some (a, .inl (cA, n, .inl f))) (ht : tys[t0]? = some (cA, .char)) {i : Int32} {x : Int32} (hout : ¬ vp_in i n) (hdg : decode cc pc = .ok (.castore, 1))
    (k : ∀ tx : String, tx = (toString "Index " ++ toString i ++ toString " out of bounds for length " ++ toString n : String) → vx_Note p l e R s m args below meth c H locs cells slots Q (F0 m pc ls rest) "java/lang/ArrayIndexOutOfBoundsException" tx) : W p l e R s m args below meth c H locs cells slots Q (F0 m pc ls (.int x :: .int i :: .ref a :: rest)) := by
  intro T hT X
  obtain ⟨t, st, q⟩ := k _ rfl T hT X
  refine ⟨t, ?_, q⟩
  have h1 := X.castoreOut hexec (by rw [hT]; exact hP q0 _ ha) ((hK.2 t0 _ ht).1 n (fun j => .int (f j))) (j := i) (by show (i < 0 ∨ (arrV _ _ _).slots.size ≤ _); rw [arrV_size]; exact Classical.byContradiction hout) (g := F0 m pc ls (.int x :: .int i :: .ref a :: rest)) rfl (rest := rest) rfl (by rw [hb]; exact hdg) t
  simp only [arrV_size] at h1
  exact h1 st
theorem vx_saldZ {D : va_G} {cl : List vw_C} {ws : va_W} {tys : List (ClassId × FieldType)} {a : Nat} (hexec : p.tables.exec = Jvm.exec) (hb : c.code = cc) (hK : va_K D cl tys s) (hP : va_P D cl ws H) (q0 t0 : Nat) {cA : ClassId} {n : Nat} {f : Nat → Int32} (ha : ws[q0]? = some (a, .inl (cA, n, .inl f))) (ht : tys[t0]? = some (cA, .short)) {i : Int32} (hout : ¬ vp_in i n) (hdg : decode cc pc = .ok (.saload, 1))
    (k : ∀ tx : String, tx = (toString "Index " ++ toString i ++ toString " out of bounds for length " ++ toString n : String) → vx_Note p l e R s m args below meth c H locs cells slots Q (F0 m pc ls rest) "java/lang/ArrayIndexOutOfBoundsException" tx) : W p l e R s m args below meth c H locs cells slots Q (F0 m pc ls (.int i :: .ref a :: rest)) := by
  intro T hT X
  obtain ⟨t, st, q⟩ := k _ rfl T hT X
  refine ⟨t, ?_, q⟩
  have h1 := X.saloadOut hexec (by rw [hT]; exact hP q0 _ ha) ((hK.2 t0 _ ht).1 n (fun j => .int (f j))) (j := i) (by show (i < 0 ∨ (arrV _ _ _).slots.size ≤ _); rw [arrV_size]; exact Classical.byContradiction hout) (g := F0 m pc ls (.int i :: .ref a :: rest)) rfl (rest := rest) rfl (by rw [hb]; exact hdg) t
  simp only [arrV_size] at h1
  exact h1 st
theorem vx_sastZ {D : va_G} {cl : List vw_C} {ws : va_W} {tys : List (ClassId × FieldType)} {a : Nat} (hexec : p.tables.exec = Jvm.exec) (hb : c.code = cc) (hK : va_K D cl tys s) (hP : va_P D cl ws H) (q0 t0 : Nat) {cA : ClassId} {n : Nat} {f : Nat → Int32} (ha : ws[q0]? = some (a, .inl (cA, n, .inl f))) (ht : tys[t0]? = some (cA, .short)) {i : Int32} {x : Int32} (hout : ¬ vp_in i n) (hdg : decode cc pc = .ok (.sastore, 1))
    (k : ∀ tx : String, tx = (toString "Index " ++ toString i ++ toString " out of bounds for length " ++ toString n : String) → vx_Note p l e R s m args below meth c H locs cells slots Q (F0 m pc ls rest) "java/lang/ArrayIndexOutOfBoundsException" tx) : W p l e R s m args below meth c H locs cells slots Q (F0 m pc ls (.int x :: .int i :: .ref a :: rest)) := by
  intro T hT X
  obtain ⟨t, st, q⟩ := k _ rfl T hT X
  refine ⟨t, ?_, q⟩
  have h1 := X.sastoreOut hexec (by rw [hT]; exact hP q0 _ ha) ((hK.2 t0 _ ht).1 n (fun j => .int (f j))) (j := i) (by show (i < 0 ∨ (arrV _ _ _).slots.size ≤ _); rw [arrV_size]; exact Classical.byContradiction hout) (g := F0 m pc ls (.int x :: .int i :: .ref a :: rest)) rfl (rest := rest) rfl (by rw [hb]; exact hdg) t
  simp only [arrV_size] at h1
  exact h1 st
theorem vx_laldZ {D : va_G} {cl : List vw_C} {ws : va_W} {tys : List (ClassId × FieldType)} {a : Nat} (hexec : p.tables.exec = Jvm.exec) (hb : c.code = cc) (hK : va_K D cl tys s) (hP : va_P D cl ws H) (q0 t0 : Nat) {cA : ClassId} {n : Nat} {f : Nat → Int64} (ha : ws[q0]? = some (a, .inl (cA, n, .inr (.inl f)))) (ht : tys[t0]? = some (cA, .long)) {i : Int32} (hout : ¬ vp_in i n) (hdg : decode cc pc = .ok (.laload, 1))
    (k : ∀ tx : String, tx = (toString "Index " ++ toString i ++ toString " out of bounds for length " ++ toString n : String) → vx_Note p l e R s m args below meth c H locs cells slots Q (F0 m pc ls rest) "java/lang/ArrayIndexOutOfBoundsException" tx) : W p l e R s m args below meth c H locs cells slots Q (F0 m pc ls (.int i :: .ref a :: rest)) := by
  intro T hT X
  obtain ⟨t, st, q⟩ := k _ rfl T hT X
  refine ⟨t, ?_, q⟩
  have h1 := X.laloadOut hexec (by rw [hT]; exact hP q0 _ ha) ((hK.2 t0 _ ht).1 n (fun j => .long (f j))) (j := i) (by show (i < 0 ∨ (arrV _ _ _).slots.size ≤ _); rw [arrV_size]; exact Classical.byContradiction hout) (g := F0 m pc ls (.int i :: .ref a :: rest)) rfl (rest := rest) rfl (by rw [hb]; exact hdg) t
  simp only [arrV_size] at h1
  exact h1 st
theorem vx_lastZ {D : va_G} {cl : List vw_C} {ws : va_W} {tys : List (ClassId × FieldType)} {a : Nat} (hexec : p.tables.exec = Jvm.exec) (hb : c.code = cc) (hK : va_K D cl tys s) (hP : va_P D cl ws H) (q0 t0 : Nat) {cA : ClassId} {n : Nat} {f : Nat → Int64} (ha : ws[q0]? = some (a, .inl (cA, n, .inr (.inl f)))) (ht : tys[t0]? = some (cA, .long)) {i : Int32} {x : Int64} (hout : ¬ vp_in i n) (hdg : decode cc pc = .ok (.lastore, 1))
    (k : ∀ tx : String, tx = (toString "Index " ++ toString i ++ toString " out of bounds for length " ++ toString n : String) → vx_Note p l e R s m args below meth c H locs cells slots Q (F0 m pc ls rest) "java/lang/ArrayIndexOutOfBoundsException" tx) : W p l e R s m args below meth c H locs cells slots Q (F0 m pc ls (.long x :: .int i :: .ref a :: rest)) := by
  intro T hT X
  obtain ⟨t, st, q⟩ := k _ rfl T hT X
  refine ⟨t, ?_, q⟩
  have h1 := X.lastoreOut hexec (by rw [hT]; exact hP q0 _ ha) ((hK.2 t0 _ ht).1 n (fun j => .long (f j))) (j := i) (by show (i < 0 ∨ (arrV _ _ _).slots.size ≤ _); rw [arrV_size]; exact Classical.byContradiction hout) (g := F0 m pc ls (.long x :: .int i :: .ref a :: rest)) rfl (rest := rest) rfl (by rw [hb]; exact hdg) t
  simp only [arrV_size] at h1
  exact h1 st
theorem vx_faldZ {D : va_G} {cl : List vw_C} {ws : va_W} {tys : List (ClassId × FieldType)} {a : Nat} (hexec : p.tables.exec = Jvm.exec) (hb : c.code = cc) (hK : va_K D cl tys s) (hP : va_P D cl ws H) (q0 t0 : Nat) {cA : ClassId} {n : Nat} {f : Nat → UInt32} (ha : ws[q0]? = some (a, .inl (cA, n, .inr (.inr (.inl f))))) (ht : tys[t0]? = some (cA, .float)) {i : Int32} (hout : ¬ vp_in i n) (hdg : decode cc pc = .ok (.faload, 1))
    (k : ∀ tx : String, tx = (toString "Index " ++ toString i ++ toString " out of bounds for length " ++ toString n : String) → vx_Note p l e R s m args below meth c H locs cells slots Q (F0 m pc ls rest) "java/lang/ArrayIndexOutOfBoundsException" tx) : W p l e R s m args below meth c H locs cells slots Q (F0 m pc ls (.int i :: .ref a :: rest)) := by
  intro T hT X
  obtain ⟨t, st, q⟩ := k _ rfl T hT X
  refine ⟨t, ?_, q⟩
  have h1 := X.faloadOut hexec (by rw [hT]; exact hP q0 _ ha) ((hK.2 t0 _ ht).1 n (fun j => .float (f j))) (j := i) (by show (i < 0 ∨ (arrV _ _ _).slots.size ≤ _); rw [arrV_size]; exact Classical.byContradiction hout) (g := F0 m pc ls (.int i :: .ref a :: rest)) rfl (rest := rest) rfl (by rw [hb]; exact hdg) t
  simp only [arrV_size] at h1
  exact h1 st
theorem vx_fastZ {D : va_G} {cl : List vw_C} {ws : va_W} {tys : List (ClassId × FieldType)} {a : Nat} (hexec : p.tables.exec = Jvm.exec) (hb : c.code = cc) (hK : va_K D cl tys s) (hP : va_P D cl ws H) (q0 t0 : Nat) {cA : ClassId} {n : Nat} {f : Nat → UInt32} (ha : ws[q0]? = some (a, .inl (cA, n, .inr (.inr (.inl f))))) (ht : tys[t0]? = some (cA, .float)) {i : Int32} {x : UInt32} (hout : ¬ vp_in i n) (hdg : decode cc pc = .ok (.fastore, 1))
    (k : ∀ tx : String, tx = (toString "Index " ++ toString i ++ toString " out of bounds for length " ++ toString n : String) → vx_Note p l e R s m args below meth c H locs cells slots Q (F0 m pc ls rest) "java/lang/ArrayIndexOutOfBoundsException" tx) : W p l e R s m args below meth c H locs cells slots Q (F0 m pc ls (.float x :: .int i :: .ref a :: rest)) := by
  intro T hT X
  obtain ⟨t, st, q⟩ := k _ rfl T hT X
  refine ⟨t, ?_, q⟩
  have h1 := X.fastoreOut hexec (by rw [hT]; exact hP q0 _ ha) ((hK.2 t0 _ ht).1 n (fun j => .float (f j))) (j := i) (by show (i < 0 ∨ (arrV _ _ _).slots.size ≤ _); rw [arrV_size]; exact Classical.byContradiction hout) (g := F0 m pc ls (.float x :: .int i :: .ref a :: rest)) rfl (rest := rest) rfl (by rw [hb]; exact hdg) t
  simp only [arrV_size] at h1
  exact h1 st
theorem vx_daldZ {D : va_G} {cl : List vw_C} {ws : va_W} {tys : List (ClassId × FieldType)} {a : Nat} (hexec : p.tables.exec = Jvm.exec) (hb : c.code = cc) (hK : va_K D cl tys s) (hP : va_P D cl ws H) (q0 t0 : Nat) {cA : ClassId} {n : Nat} {f : Nat → UInt64} (ha : ws[q0]? = some (a, .inl (cA, n, .inr (.inr (.inr (.inl f)))))) (ht : tys[t0]? = some (cA, .double)) {i : Int32} (hout : ¬ vp_in i n) (hdg : decode cc pc = .ok (.daload, 1))
    (k : ∀ tx : String, tx = (toString "Index " ++ toString i ++ toString " out of bounds for length " ++ toString n : String) → vx_Note p l e R s m args below meth c H locs cells slots Q (F0 m pc ls rest) "java/lang/ArrayIndexOutOfBoundsException" tx) : W p l e R s m args below meth c H locs cells slots Q (F0 m pc ls (.int i :: .ref a :: rest)) := by
  intro T hT X
  obtain ⟨t, st, q⟩ := k _ rfl T hT X
  refine ⟨t, ?_, q⟩
  have h1 := X.daloadOut hexec (by rw [hT]; exact hP q0 _ ha) ((hK.2 t0 _ ht).1 n (fun j => .double (f j))) (j := i) (by show (i < 0 ∨ (arrV _ _ _).slots.size ≤ _); rw [arrV_size]; exact Classical.byContradiction hout) (g := F0 m pc ls (.int i :: .ref a :: rest)) rfl (rest := rest) rfl (by rw [hb]; exact hdg) t
  simp only [arrV_size] at h1
  exact h1 st
theorem vx_dastZ {D : va_G} {cl : List vw_C} {ws : va_W} {tys : List (ClassId × FieldType)} {a : Nat} (hexec : p.tables.exec = Jvm.exec) (hb : c.code = cc) (hK : va_K D cl tys s) (hP : va_P D cl ws H) (q0 t0 : Nat) {cA : ClassId} {n : Nat} {f : Nat → UInt64} (ha : ws[q0]? = some (a, .inl (cA, n, .inr (.inr (.inr (.inl f)))))) (ht : tys[t0]? = some (cA, .double)) {i : Int32} {x : UInt64} (hout : ¬ vp_in i n) (hdg : decode cc pc = .ok (.dastore, 1))
    (k : ∀ tx : String, tx = (toString "Index " ++ toString i ++ toString " out of bounds for length " ++ toString n : String) → vx_Note p l e R s m args below meth c H locs cells slots Q (F0 m pc ls rest) "java/lang/ArrayIndexOutOfBoundsException" tx) : W p l e R s m args below meth c H locs cells slots Q (F0 m pc ls (.double x :: .int i :: .ref a :: rest)) := by
  intro T hT X
  obtain ⟨t, st, q⟩ := k _ rfl T hT X
  refine ⟨t, ?_, q⟩
  have h1 := X.dastoreOut hexec (by rw [hT]; exact hP q0 _ ha) ((hK.2 t0 _ ht).1 n (fun j => .double (f j))) (j := i) (by show (i < 0 ∨ (arrV _ _ _).slots.size ≤ _); rw [arrV_size]; exact Classical.byContradiction hout) (g := F0 m pc ls (.double x :: .int i :: .ref a :: rest)) rfl (rest := rest) rfl (by rw [hb]; exact hdg) t
  simp only [arrV_size] at h1
  exact h1 st
theorem vx_arraylengthN (hexec : p.tables.exec = Jvm.exec) (hb : c.code = cc) (hdg : decode cc pc = .ok (.arraylength, 1)) (k : vx_NoteN p l e R s m args below meth c H locs cells slots Q (F0 m pc ls rest)) : W p l e R s m args below meth c H locs cells slots Q (F0 m pc ls (.null :: rest)) := by
  intro T hT X
  obtain ⟨t, st, q⟩ := k T hT X
  exact ⟨t, X.arraylengthNull hexec (g := F0 m pc ls (.null :: rest)) rfl (rest := rest) rfl (by rw [hb]; exact hdg) t st, q⟩
theorem vx_ialoadN (hexec : p.tables.exec = Jvm.exec) (hb : c.code = cc) {i : Int32} (hdg : decode cc pc = .ok (.iaload, 1)) (k : vx_NoteN p l e R s m args below meth c H locs cells slots Q (F0 m pc ls rest)) : W p l e R s m args below meth c H locs cells slots Q (F0 m pc ls (.int i :: .null :: rest)) := by
  intro T hT X
  obtain ⟨t, st, q⟩ := k T hT X
  exact ⟨t, X.ialoadNull hexec (g := F0 m pc ls (.int i :: .null :: rest)) rfl (rest := rest) rfl (by rw [hb]; exact hdg) t st, q⟩
theorem vx_laloadN (hexec : p.tables.exec = Jvm.exec) (hb : c.code = cc) {i : Int32} (hdg : decode cc pc = .ok (.laload, 1)) (k : vx_NoteN p l e R s m args below meth c H locs cells slots Q (F0 m pc ls rest)) : W p l e R s m args below meth c H locs cells slots Q (F0 m pc ls (.int i :: .null :: rest)) := by
  intro T hT X
  obtain ⟨t, st, q⟩ := k T hT X
  exact ⟨t, X.laloadNull hexec (g := F0 m pc ls (.int i :: .null :: rest)) rfl (rest := rest) rfl (by rw [hb]; exact hdg) t st, q⟩
theorem vx_faloadN (hexec : p.tables.exec = Jvm.exec) (hb : c.code = cc) {i : Int32} (hdg : decode cc pc = .ok (.faload, 1)) (k : vx_NoteN p l e R s m args below meth c H locs cells slots Q (F0 m pc ls rest)) : W p l e R s m args below meth c H locs cells slots Q (F0 m pc ls (.int i :: .null :: rest)) := by
  intro T hT X
  obtain ⟨t, st, q⟩ := k T hT X
  exact ⟨t, X.faloadNull hexec (g := F0 m pc ls (.int i :: .null :: rest)) rfl (rest := rest) rfl (by rw [hb]; exact hdg) t st, q⟩
theorem vx_daloadN (hexec : p.tables.exec = Jvm.exec) (hb : c.code = cc) {i : Int32} (hdg : decode cc pc = .ok (.daload, 1)) (k : vx_NoteN p l e R s m args below meth c H locs cells slots Q (F0 m pc ls rest)) : W p l e R s m args below meth c H locs cells slots Q (F0 m pc ls (.int i :: .null :: rest)) := by
  intro T hT X
  obtain ⟨t, st, q⟩ := k T hT X
  exact ⟨t, X.daloadNull hexec (g := F0 m pc ls (.int i :: .null :: rest)) rfl (rest := rest) rfl (by rw [hb]; exact hdg) t st, q⟩
theorem vx_aaloadN (hexec : p.tables.exec = Jvm.exec) (hb : c.code = cc) {i : Int32} (hdg : decode cc pc = .ok (.aaload, 1)) (k : vx_NoteN p l e R s m args below meth c H locs cells slots Q (F0 m pc ls rest)) : W p l e R s m args below meth c H locs cells slots Q (F0 m pc ls (.int i :: .null :: rest)) := by
  intro T hT X
  obtain ⟨t, st, q⟩ := k T hT X
  exact ⟨t, X.aaloadNull hexec (g := F0 m pc ls (.int i :: .null :: rest)) rfl (rest := rest) rfl (by rw [hb]; exact hdg) t st, q⟩
theorem vx_baloadN (hexec : p.tables.exec = Jvm.exec) (hb : c.code = cc) {i : Int32} (hdg : decode cc pc = .ok (.baload, 1)) (k : vx_NoteN p l e R s m args below meth c H locs cells slots Q (F0 m pc ls rest)) : W p l e R s m args below meth c H locs cells slots Q (F0 m pc ls (.int i :: .null :: rest)) := by
  intro T hT X
  obtain ⟨t, st, q⟩ := k T hT X
  exact ⟨t, X.baloadNull hexec (g := F0 m pc ls (.int i :: .null :: rest)) rfl (rest := rest) rfl (by rw [hb]; exact hdg) t st, q⟩
theorem vx_caloadN (hexec : p.tables.exec = Jvm.exec) (hb : c.code = cc) {i : Int32} (hdg : decode cc pc = .ok (.caload, 1)) (k : vx_NoteN p l e R s m args below meth c H locs cells slots Q (F0 m pc ls rest)) : W p l e R s m args below meth c H locs cells slots Q (F0 m pc ls (.int i :: .null :: rest)) := by
  intro T hT X
  obtain ⟨t, st, q⟩ := k T hT X
  exact ⟨t, X.caloadNull hexec (g := F0 m pc ls (.int i :: .null :: rest)) rfl (rest := rest) rfl (by rw [hb]; exact hdg) t st, q⟩
theorem vx_saloadN (hexec : p.tables.exec = Jvm.exec) (hb : c.code = cc) {i : Int32} (hdg : decode cc pc = .ok (.saload, 1)) (k : vx_NoteN p l e R s m args below meth c H locs cells slots Q (F0 m pc ls rest)) : W p l e R s m args below meth c H locs cells slots Q (F0 m pc ls (.int i :: .null :: rest)) := by
  intro T hT X
  obtain ⟨t, st, q⟩ := k T hT X
  exact ⟨t, X.saloadNull hexec (g := F0 m pc ls (.int i :: .null :: rest)) rfl (rest := rest) rfl (by rw [hb]; exact hdg) t st, q⟩
theorem vx_iastoreN (hexec : p.tables.exec = Jvm.exec) (hb : c.code = cc) {x : Int32} {i : Int32} (hdg : decode cc pc = .ok (.iastore, 1)) (k : vx_NoteN p l e R s m args below meth c H locs cells slots Q (F0 m pc ls rest)) : W p l e R s m args below meth c H locs cells slots Q (F0 m pc ls (.int x :: .int i :: .null :: rest)) := by
  intro T hT X
  obtain ⟨t, st, q⟩ := k T hT X
  exact ⟨t, X.iastoreNull hexec (g := F0 m pc ls (.int x :: .int i :: .null :: rest)) rfl (rest := rest) rfl (by rw [hb]; exact hdg) t st, q⟩
theorem vx_lastoreN (hexec : p.tables.exec = Jvm.exec) (hb : c.code = cc) {x : Int64} {i : Int32} (hdg : decode cc pc = .ok (.lastore, 1)) (k : vx_NoteN p l e R s m args below meth c H locs cells slots Q (F0 m pc ls rest)) : W p l e R s m args below meth c H locs cells slots Q (F0 m pc ls (.long x :: .int i :: .null :: rest)) := by
  intro T hT X
  obtain ⟨t, st, q⟩ := k T hT X
  exact ⟨t, X.lastoreNull hexec (g := F0 m pc ls (.long x :: .int i :: .null :: rest)) rfl (rest := rest) rfl (by rw [hb]; exact hdg) t st, q⟩
theorem vx_fastoreN (hexec : p.tables.exec = Jvm.exec) (hb : c.code = cc) {x : UInt32} {i : Int32} (hdg : decode cc pc = .ok (.fastore, 1)) (k : vx_NoteN p l e R s m args below meth c H locs cells slots Q (F0 m pc ls rest)) : W p l e R s m args below meth c H locs cells slots Q (F0 m pc ls (.float x :: .int i :: .null :: rest)) := by
  intro T hT X
  obtain ⟨t, st, q⟩ := k T hT X
  exact ⟨t, X.fastoreNull hexec (g := F0 m pc ls (.float x :: .int i :: .null :: rest)) rfl (rest := rest) rfl (by rw [hb]; exact hdg) t st, q⟩
theorem vx_dastoreN (hexec : p.tables.exec = Jvm.exec) (hb : c.code = cc) {x : UInt64} {i : Int32} (hdg : decode cc pc = .ok (.dastore, 1)) (k : vx_NoteN p l e R s m args below meth c H locs cells slots Q (F0 m pc ls rest)) : W p l e R s m args below meth c H locs cells slots Q (F0 m pc ls (.double x :: .int i :: .null :: rest)) := by
  intro T hT X
  obtain ⟨t, st, q⟩ := k T hT X
  exact ⟨t, X.dastoreNull hexec (g := F0 m pc ls (.double x :: .int i :: .null :: rest)) rfl (rest := rest) rfl (by rw [hb]; exact hdg) t st, q⟩
theorem vx_bastoreN (hexec : p.tables.exec = Jvm.exec) (hb : c.code = cc) {x : Int32} {i : Int32} (hdg : decode cc pc = .ok (.bastore, 1)) (k : vx_NoteN p l e R s m args below meth c H locs cells slots Q (F0 m pc ls rest)) : W p l e R s m args below meth c H locs cells slots Q (F0 m pc ls (.int x :: .int i :: .null :: rest)) := by
  intro T hT X
  obtain ⟨t, st, q⟩ := k T hT X
  exact ⟨t, X.bastoreNull hexec (g := F0 m pc ls (.int x :: .int i :: .null :: rest)) rfl (rest := rest) rfl (by rw [hb]; exact hdg) t st, q⟩
theorem vx_castoreN (hexec : p.tables.exec = Jvm.exec) (hb : c.code = cc) {x : Int32} {i : Int32} (hdg : decode cc pc = .ok (.castore, 1)) (k : vx_NoteN p l e R s m args below meth c H locs cells slots Q (F0 m pc ls rest)) : W p l e R s m args below meth c H locs cells slots Q (F0 m pc ls (.int x :: .int i :: .null :: rest)) := by
  intro T hT X
  obtain ⟨t, st, q⟩ := k T hT X
  exact ⟨t, X.castoreNull hexec (g := F0 m pc ls (.int x :: .int i :: .null :: rest)) rfl (rest := rest) rfl (by rw [hb]; exact hdg) t st, q⟩
theorem vx_sastoreN (hexec : p.tables.exec = Jvm.exec) (hb : c.code = cc) {x : Int32} {i : Int32} (hdg : decode cc pc = .ok (.sastore, 1)) (k : vx_NoteN p l e R s m args below meth c H locs cells slots Q (F0 m pc ls rest)) : W p l e R s m args below meth c H locs cells slots Q (F0 m pc ls (.int x :: .int i :: .null :: rest)) := by
  intro T hT X
  obtain ⟨t, st, q⟩ := k T hT X
  exact ⟨t, X.sastoreNull hexec (g := F0 m pc ls (.int x :: .int i :: .null :: rest)) rfl (rest := rest) rfl (by rw [hb]; exact hdg) t st, q⟩
theorem vx_invokeN {own C : String} {index maxL : Nat} {y : MethodName} {bytes : ByteArray} {ret : Option FieldType} (hexec : p.tables.exec = Jvm.exec) (hb : c.code = cc) (hown : s.vm.findClass own = some m.cls) (hlink : (Cond.methodLink own index y).before args s = true) (hinst : (Cond.instanceMethod y).before args s = true) (hcode : (Cond.code y bytes maxL ret).before args s = true) (hsel : (Cond.selects C y y).before args s = true)
    (hx : y.cls ≠ "java/lang/invoke/MethodHandle" ∧ y.cls ≠ "java/lang/invoke/VarHandle") {As : List Value} (hlen : (parseMethodDescriptor y.desc).map (fun d => d.parameters.length) = some As.length) (hdg : decode cc pc = .ok (.invokevirtual index, 3))
    (k : vx_NoteN p l e R s m args below meth c H locs cells slots Q (F0 m pc ls rest)) {st0 : List Value} (hst : st0 = As.reverse ++ .null :: rest) : W p l e R s m args below meth c H locs cells slots Q (F0 m pc ls st0) := by
  intro T hT X
  obtain ⟨r0, r, hn, hrm, hstR, hsigR⟩ := va_Decl.of hinst hcode
  obtain ⟨c2, r2, m2, q1, q2, q3, q4, kP, hkP, hkPi⟩ := Cond.selects_spec hsel
  cases hn.symm.trans q3
  have hl9 : As.length = r.sig.parameters.length := by
    rw [hsigR] at hlen
    exact (Option.some.inj hlen).symm
  obtain ⟨vm', X1, st1⟩ := X.invokevirtualNull hexec hown hlink hn hrm hstR hkP hkPi hx (g := F0 m pc ls st0) rfl (argsL := As) (rest := rest) hl9 hst (by rw [hb]; exact hdg)
  obtain ⟨t, st, q⟩ := k (T.setVm vm') hT X1
  exact ⟨t, st1 t st, q⟩
theorem vx_newarrayZ {atype : ArrayType} (hexec : p.tables.exec = Jvm.exec) (hb : c.code = cc) {n : Int32} (h0 : n < 0) (hdg : decode cc pc = .ok (.newarray atype, 2)) (k : ∀ tx : String, tx = toString n → vx_Note p l e R s m args below meth c H locs cells slots Q (F0 m pc ls rest) "java/lang/NegativeArraySizeException" tx) : W p l e R s m args below meth c H locs cells slots Q (F0 m pc ls (.int n :: rest)) := by
  intro T hT X
  obtain ⟨t, st, q⟩ := k _ rfl T hT X
  exact ⟨t, X.newarrayNegative hexec (g := F0 m pc ls (.int n :: rest)) rfl h0 (rest := rest) rfl (by rw [hb]; exact hdg) t st, q⟩
end
end VXM
/-! ===== END ===== -/
/-! ===== BEGIN an exception as an object: made, kept, thrown later (no traces kept) ===== -/
section VXK
variable {p : Program} {l : Launch} {e : Env} {R : Room} {s : State} {m₀ : MethodId} {args : Array Value} {below : List Frame} {meth : Method} {c : Code} {W : State} {locs : List Loc} {cells slots : Nat}
set_option maxHeartbeats 1000000 in
theorem vx_ctorMadeS (X : Stand p l e R s m₀ args below meth c W locs cells slots) (hexec : p.tables.exec = Jvm.exec) (htr : e.platform.stackTraces = false) {own cls : String} {names : List String} {ic : Nat}
    (hown : s.vm.findClass own = some m₀.cls) (hcls : Bundle.fit cls = true) (hnames : ∀ n ∈ names, Bundle.fit n = true)
    (h : ∀ a ∈ Bundle.ownAtoms own ic cls names, a.before args s = true)
    (hlocs : ∀ x ∈ locs, ∀ cell, s.heap[x.base]? = some cell → cell.vm.isStatics = false)
    {a : Addr} {cX : ClassId} {kX : Class} (hfoundX : s.vm.findClass cls = some cX) (hkX : s.vm.classes[cX]? = some kX) (hcell : W.heap[a]? = some (freshCell cX kX)) (hnew : s.heap.size ≤ a)
    {msg : Value} (hmsg : msg.isRef = true)
    {g : JFrame} (hg : g.method = m₀) (hsize : g.locals.size = c.maxLocals) {rest : List Value} (hstack : g.stack = msg :: .ref a :: .ref a :: rest)
    (hd6 : decode c.code g.pc = .ok (.invokespecial ic, 3))
    (hRframes : names.length + 3 < R.frames) (hRlocals : 2 * g.monitorRoom + ((Value.ref a :: rest).map fun v => v.category).sum + (13 * (names.length + 1) + 42) ≤ R.locals) :
    ∃ (V : State) (ce : Cell) (L : List Loc), Stand p l e R s m₀ args below meth c (V.setCell a ce) (locs ++ L) cells slots ∧ (∀ y ∈ L, y.base = a) ∧ a < V.heap.size ∧ ce.cls = cX ∧ ce.vm = .none ∧
      ∀ target, Steps p.tables e below ((V.setCell a ce).setTop { g with stack := .ref a :: rest, pc := g.pc + 3 }) target → Steps p.tables e below (W.setTop g) target := by
  have howns : e.platform.frameOwnsMonitors = true := by rw [X.admits.platform]
  have hfin : e.platform.finalization = false := by rw [X.admits.platform]
  have hpl : e.platform.magicAccessors = ({} : Platform).magicAccessors := by rw [X.admits.platform]
  have a' : ∀ x, x ∈ Bundle.ownAtoms own ic cls names → x.holds args s none s [] = true := fun x hx => h x hx
  obtain ⟨T, Z0, L, -, Y⟩ := ThrowableC.of_atoms (args := args) howns hfin hpl (fun x hx => h x (by simp [Bundle.ownAtoms, hx]))
  obtain ⟨Z, M, LZ, LM, hnZ⟩ := Init0T.ofS_atoms (args := args) hpl L Y (fun x hx => h x (by simp [Bundle.ownAtoms, hx]))
  obtain ⟨P1, Ps, hlen, L1, hL, hP1m, hlink1, hlink⟩ := Bundle.chainS (args := args) hpl hnZ names cls hcls hnames (fun x hx => h x (by simp [Bundle.ownAtoms, hx]))
  have hfound : s.vm.findClass cls = some P1.m.cls := findClass_of_methodNamed hP1m
  cases Option.some.inj (hfoundX.symm.trans hfound)
  obtain ⟨c1, kX', hc1, hk, hord, -, -, hn6⟩ := Cond.instantiable_spec (a' (.instantiable cls 6) (by simp [Bundle.ownAtoms]))
  cases Option.some.inj (hc1.symm.trans hfound)
  cases Option.some.inj (hkX.symm.trans hk)
  have hsel0 : selectMethod e.platform s.vm P1.m.cls T.fill0 = .method T.fill0 := by
    obtain ⟨c2, r2, m2, q1, q2, q3, q4, -⟩ := Cond.selects_spec (a' (.selects cls Bundle.tFill0 Bundle.tFill0) (by simp [Bundle.ownAtoms]))
    cases Option.some.inj (q1.symm.trans hfound)
    cases Option.some.inj (q2.symm.trans (State.methodFound?_of_named Y.fill0 (by decide)))
    cases Option.some.inj (q3.symm.trans Y.fill0)
    rw [Launch.admits_selectMethod X.admits]; exact q4
  have hselF : selectMethod e.platform s.vm P1.m.cls T.fill = .method T.fill := by
    obtain ⟨c2, r2, m2, q1, q2, q3, q4, -⟩ := Cond.selects_spec (a' (.selects cls Bundle.tFill Bundle.tFill) (by simp [Bundle.ownAtoms]))
    cases Option.some.inj (q1.symm.trans hfound)
    cases Option.some.inj (q2.symm.trans (State.methodFound?_of_named Y.fill (by decide)))
    cases Option.some.inj (q3.symm.trans Y.fill)
    rw [Launch.admits_selectMethod X.admits]; exact q4
  obtain ⟨cellS0, hcS0, hiss⟩ := Y.statics
  obtain ⟨u0, hu0⟩ := Cond.staticRefV Y.unassigned L.unassignedStatic L.statics hcS0 hiss (a' (.isRef (.static Bundle.tN "UNASSIGNED_STACK" Bundle.steD)) (by simp [Bundle.ownAtoms]))
  obtain ⟨sen, hsen⟩ := Cond.staticRefV Y.sentinel L.sentinelStatic L.statics hcS0 hiss (a' (.isRef (.static Bundle.tN "SUPPRESSED_SENTINEL" Bundle.listD)) (by simp [Bundle.ownAtoms]))
  obtain ⟨ci198, i198, fB, hk198, hg198, ha198, hsB, -, hnB, htB, hffB⟩ := Cond.ownField (t := .object "java/lang/Object") Y.found L.cls (by decide +kernel) (a' (.fieldLink Bundle.tN 198 Bundle.tN "backtrace" "Ljava/lang/Object;") (by simp [Bundle.ownAtoms])) (a' (.lays Bundle.tN Bundle.tN "backtrace" "Ljava/lang/Object;") (by simp [Bundle.ownAtoms])) e.platform hpl
  obtain ⟨cellS, hcS', heS, -, hkeep⟩ := X.same.2.2.2.2.2 T.aS cellS0 hcS0
  have hcellS : W.heap[T.aS]? = some cellS := hcS'
  have hout' : ∀ i, (⟨T.aS, i⟩ : Loc) ∉ locs := fun i hmem => by
    have := hlocs _ hmem cellS0 hcS0
    rw [hiss] at this; cases this
  have hknownS : cellS.vm ≠ .unknown := by
    rw [heS]; intro hu
    rw [show cellS0.vm = .unknown from hu] at hiss
    cases hiss
  have hneS : T.aS ≠ a := Nat.ne_of_lt (Nat.lt_of_lt_of_le (Array.getElem?_eq_some_iff.mp hcS0).1 hnew)
  obtain ⟨iM, hffM⟩ := Y.msg
  obtain ⟨tyC, dC, hdC, hdnC⟩ := Cond.laysAt hfound hk Y.cause (a' (.lays cls Bundle.tN "cause" "Ljava/lang/Throwable;") (by simp [Bundle.ownAtoms]))
  obtain ⟨tyS, dS, hdS, hdnS⟩ := Cond.laysAt hfound hk Y.stack (a' (.lays cls Bundle.tN "stackTrace" Bundle.steD) (by simp [Bundle.ownAtoms]))
  obtain ⟨tyP, dP, hdP, hdnP⟩ := Cond.laysAt hfound hk Y.supp (a' (.lays cls Bundle.tN "suppressedExceptions" Bundle.listD) (by simp [Bundle.ownAtoms]))
  obtain ⟨tyM, dM, hdM, hdnM⟩ := Cond.laysAt hfound hk hffM (a' (.lays cls Bundle.tN "detailMessage" "Ljava/lang/String;") (by simp [Bundle.ownAtoms]))
  obtain ⟨tyB, dB, hdB, hdnB⟩ := Cond.laysAt hfound hk hffB (a' (.lays cls Bundle.tN "backtrace" "Ljava/lang/Object;") (by simp [Bundle.ownAtoms]))
  have bC := Cond.laysApart hdB hdC hdnB hdnC (by rw [hnB, Y.causeName]; decide)
  have bS := Cond.laysApart hdB hdS hdnB hdnS (by rw [hnB, Y.stackName]; decide)
  have bP := Cond.laysApart hdB hdP hdnB hdnP (by rw [hnB, Y.suppName]; decide)
  have hskip : SkipFacts T e.platform s (fun u => u) u0 ((preparedCellV T.toThrowableT (freshCell P1.m.cls kX) a u0 sen).withEntry W.cur) :=
    ⟨{ ci198 := ci198, i198 := i198, fBack := fB }, ⟨hk198, hg198, ha198, hsB⟩, by
      have := fresh_default (c := P1.m.cls) tyB
      rw [htB] at this
      simpa [preparedCellV, Cell.setSlot, Cell.withEntry, Array.getElem?_setIfInBounds, bC, bS, bP, bC.symm, bS.symm, bP.symm, defaultValue] using this, fun _ _ => rfl⟩
  obtain ⟨tm, methC, cdC, kC, vm₁, hnC, -, -, -, -, -, -, -, hW₁, st1⟩ := Steps.initColdS (tb := p.tables) (e := e) (below := below) (s := s) (U := W) X.here hexec X.warmed hpl hown (t := Bundle.initS cls) rfl rfl (Bundle.fit_spec hcls).2
    (a' (.methodLink own ic (Bundle.initS cls)) (by simp [Bundle.ownAtoms])) (h (.instanceMethod (Bundle.initS cls)) (by cases names <;> simp [Bundle.ownAtoms, Bundle.chainSAtoms, Bundle.passSAtoms])) (bytes := Bundle.six) (maxL := 2) (h (.code (Bundle.initS cls) Bundle.six 2 none) (by cases names <;> simp [Bundle.ownAtoms, Bundle.chainSAtoms, Bundle.passSAtoms]))
    (f := g) hg (a := a) (msg := msg) (rest := .ref a :: rest) hstack hd6
  cases Option.some.inj (hnC.symm.trans hP1m)
  have X₁ := X.noted hW₁
  obtain ⟨vm₂, X₂, st2⟩ := X₁.ctorMessageOffV hexec (g := { g with stack := .ref a :: rest }) hg hsize T L Z LZ M LM (P1 :: Ps)
    (fun P hP => by rcases List.mem_cons.mp hP with rfl | hP; exact L1; exact hL P hP) ⟨hlink1, hlink⟩ (u0 := u0) (sen := sen) (self := a) hmsg (cell := freshCell P1.m.cls kX) (cellS := cellS)
    hcell (fun _ => by simp) (by simp) rfl rfl hsel0 hselF hcellS hneS hknownS (by rw [hkeep _ (hout' _)]; exact hu0) (by rw [hkeep _ (hout' _)]; exact hsen)
    (Takes.of_laid hk hord tyC (by rw [Y.causeType]; rfl)) (Takes.of_laid hk hord tyS (by rw [Y.stackType]; exact fits_refV_array _ u0)) (Takes.of_laid hk hord tyP (by rw [Y.suppType]; exact fits_refV_object _ sen))
    (Takes.of_laid hk hord tyM (by rw [Y.msgType]; exact fits_refV_object _ ⟨msg, hmsg⟩)) Y.objLocals hskip htr [] hd6
    (by simp only [List.length_cons, hlen]; omega) (by simp only [List.length_cons, hlen]; exact hRlocals)
  have hlt : a < ((W.setVm vm₁).setVm vm₂).heap.size := (Array.getElem?_eq_some_iff.mp hcell).1
  refine ⟨(W.setVm vm₁).setVm vm₂, _, _, X₂, fun y hy => ?_, hlt, rfl, rfl, fun target hwalk => st1 _ (fun acts => ?_)⟩
  · simp only [List.mem_cons, List.not_mem_nil, or_false] at hy
    rcases hy with rfl | rfl | rfl | rfl | rfl <;> rfl
  · rw [doInvoke_state]
    exact st2 _ hwalk
set_option maxHeartbeats 1000000 in
theorem vx_ctorMade0 (X : Stand p l e R s m₀ args below meth c W locs cells slots) (hexec : p.tables.exec = Jvm.exec) (htr : e.platform.stackTraces = false) {own cls : String} {names : List String} {ic : Nat}
    (hown : s.vm.findClass own = some m₀.cls) (hcls : Bundle.fit cls = true) (hnames : ∀ n ∈ names, Bundle.fit n = true)
    (h : ∀ a ∈ Bundle.ownAtoms0 own ic cls names, a.before args s = true)
    (hlocs : ∀ x ∈ locs, ∀ cell, s.heap[x.base]? = some cell → cell.vm.isStatics = false)
    {a : Addr} {cX : ClassId} {kX : Class} (hfoundX : s.vm.findClass cls = some cX) (hkX : s.vm.classes[cX]? = some kX) (hcell : W.heap[a]? = some (freshCell cX kX)) (hnew : s.heap.size ≤ a)
    {g : JFrame} (hg : g.method = m₀) (hsize : g.locals.size = c.maxLocals) {rest : List Value} (hstack : g.stack = .ref a :: .ref a :: rest)
    (hd6 : decode c.code g.pc = .ok (.invokespecial ic, 3))
    (hRframes : names.length + 3 < R.frames) (hRlocals : 2 * g.monitorRoom + ((Value.ref a :: rest).map fun v => v.category).sum + (13 * (names.length + 1) + 41) ≤ R.locals) :
    ∃ (V : State) (ce : Cell) (L : List Loc), Stand p l e R s m₀ args below meth c (V.setCell a ce) (locs ++ L) cells slots ∧ (∀ y ∈ L, y.base = a) ∧ a < V.heap.size ∧ ce.cls = cX ∧ ce.vm = .none ∧
      ∀ target, Steps p.tables e below ((V.setCell a ce).setTop { g with stack := .ref a :: rest, pc := g.pc + 3 }) target → Steps p.tables e below (W.setTop g) target := by
  have howns : e.platform.frameOwnsMonitors = true := by rw [X.admits.platform]
  have hfin : e.platform.finalization = false := by rw [X.admits.platform]
  have hpl : e.platform.magicAccessors = ({} : Platform).magicAccessors := by rw [X.admits.platform]
  have a' : ∀ x, x ∈ Bundle.ownAtoms0 own ic cls names → x.holds args s none s [] = true := fun x hx => h x hx
  obtain ⟨T, Z, L, LZ, Y⟩ := ThrowableC.of_atoms (args := args) howns hfin hpl (fun x hx => h x (by simp [Bundle.ownAtoms0, hx]))
  obtain ⟨P1, Ps, hlen, L1, hL, hP1m, hlink1, hlink⟩ := Bundle.chain0 (args := args) hpl Y.init0 names cls hcls hnames (fun x hx => h x (by simp [Bundle.ownAtoms0, hx]))
  have hfound : s.vm.findClass cls = some P1.m.cls := findClass_of_methodNamed hP1m
  cases Option.some.inj (hfoundX.symm.trans hfound)
  obtain ⟨c1, kX', hc1, hk, hord, -, -, hn6⟩ := Cond.instantiable_spec (a' (.instantiable cls 6) (by simp [Bundle.ownAtoms0]))
  cases Option.some.inj (hc1.symm.trans hfound)
  cases Option.some.inj (hkX.symm.trans hk)
  have hsel0 : selectMethod e.platform s.vm P1.m.cls T.fill0 = .method T.fill0 := by
    obtain ⟨c2, r2, m2, q1, q2, q3, q4, -⟩ := Cond.selects_spec (a' (.selects cls Bundle.tFill0 Bundle.tFill0) (by simp [Bundle.ownAtoms0]))
    cases Option.some.inj (q1.symm.trans hfound)
    cases Option.some.inj (q2.symm.trans (State.methodFound?_of_named Y.fill0 (by decide)))
    cases Option.some.inj (q3.symm.trans Y.fill0)
    rw [Launch.admits_selectMethod X.admits]; exact q4
  have hselF : selectMethod e.platform s.vm P1.m.cls T.fill = .method T.fill := by
    obtain ⟨c2, r2, m2, q1, q2, q3, q4, -⟩ := Cond.selects_spec (a' (.selects cls Bundle.tFill Bundle.tFill) (by simp [Bundle.ownAtoms0]))
    cases Option.some.inj (q1.symm.trans hfound)
    cases Option.some.inj (q2.symm.trans (State.methodFound?_of_named Y.fill (by decide)))
    cases Option.some.inj (q3.symm.trans Y.fill)
    rw [Launch.admits_selectMethod X.admits]; exact q4
  obtain ⟨cellS0, hcS0, hiss⟩ := Y.statics
  obtain ⟨u0, hu0⟩ := Cond.staticRefV Y.unassigned L.unassignedStatic L.statics hcS0 hiss (a' (.isRef (.static Bundle.tN "UNASSIGNED_STACK" Bundle.steD)) (by simp [Bundle.ownAtoms0]))
  obtain ⟨sen, hsen⟩ := Cond.staticRefV Y.sentinel L.sentinelStatic L.statics hcS0 hiss (a' (.isRef (.static Bundle.tN "SUPPRESSED_SENTINEL" Bundle.listD)) (by simp [Bundle.ownAtoms0]))
  obtain ⟨ci198, i198, fB, hk198, hg198, ha198, hsB, -, hnB, htB, hffB⟩ := Cond.ownField (t := .object "java/lang/Object") Y.found L.cls (by decide +kernel) (a' (.fieldLink Bundle.tN 198 Bundle.tN "backtrace" "Ljava/lang/Object;") (by simp [Bundle.ownAtoms0])) (a' (.lays Bundle.tN Bundle.tN "backtrace" "Ljava/lang/Object;") (by simp [Bundle.ownAtoms0])) e.platform hpl
  obtain ⟨cellS, hcS', heS, -, hkeep⟩ := X.same.2.2.2.2.2 T.aS cellS0 hcS0
  have hcellS : W.heap[T.aS]? = some cellS := hcS'
  have hout' : ∀ i, (⟨T.aS, i⟩ : Loc) ∉ locs := fun i hmem => by
    have := hlocs _ hmem cellS0 hcS0
    rw [hiss] at this; cases this
  have hknownS : cellS.vm ≠ .unknown := by
    rw [heS]; intro hu
    rw [show cellS0.vm = .unknown from hu] at hiss
    cases hiss
  have hneS : T.aS ≠ a := Nat.ne_of_lt (Nat.lt_of_lt_of_le (Array.getElem?_eq_some_iff.mp hcS0).1 hnew)
  obtain ⟨iM, hffM⟩ := Y.msg
  obtain ⟨tyC, dC, hdC, hdnC⟩ := Cond.laysAt hfound hk Y.cause (a' (.lays cls Bundle.tN "cause" "Ljava/lang/Throwable;") (by simp [Bundle.ownAtoms0]))
  obtain ⟨tyS, dS, hdS, hdnS⟩ := Cond.laysAt hfound hk Y.stack (a' (.lays cls Bundle.tN "stackTrace" Bundle.steD) (by simp [Bundle.ownAtoms0]))
  obtain ⟨tyP, dP, hdP, hdnP⟩ := Cond.laysAt hfound hk Y.supp (a' (.lays cls Bundle.tN "suppressedExceptions" Bundle.listD) (by simp [Bundle.ownAtoms0]))
  obtain ⟨tyM, dM, hdM, hdnM⟩ := Cond.laysAt hfound hk hffM (a' (.lays cls Bundle.tN "detailMessage" "Ljava/lang/String;") (by simp [Bundle.ownAtoms0]))
  obtain ⟨tyB, dB, hdB, hdnB⟩ := Cond.laysAt hfound hk hffB (a' (.lays cls Bundle.tN "backtrace" "Ljava/lang/Object;") (by simp [Bundle.ownAtoms0]))
  have bC := Cond.laysApart hdB hdC hdnB hdnC (by rw [hnB, Y.causeName]; decide)
  have bS := Cond.laysApart hdB hdS hdnB hdnS (by rw [hnB, Y.stackName]; decide)
  have bP := Cond.laysApart hdB hdP hdnB hdnP (by rw [hnB, Y.suppName]; decide)
  have hskip : SkipFacts T e.platform s (fun u => u) u0 ((preparedCellV T.toThrowableT (freshCell P1.m.cls kX) a u0 sen).withEntry W.cur) :=
    ⟨{ ci198 := ci198, i198 := i198, fBack := fB }, ⟨hk198, hg198, ha198, hsB⟩, by
      have := fresh_default (c := P1.m.cls) tyB
      rw [htB] at this
      simpa [preparedCellV, Cell.setSlot, Cell.withEntry, Array.getElem?_setIfInBounds, bC, bS, bP, bC.symm, bS.symm, bP.symm, defaultValue] using this, fun _ _ => rfl⟩
  obtain ⟨tm, methC, cdC, kC, vm₁, hnC, -, -, -, -, -, -, -, hW₁, st1⟩ := Steps.initCold (tb := p.tables) (e := e) (below := below) (s := s) (U := W) X.here hexec X.warmed hpl hown (t := Bundle.init0 cls) rfl rfl (Bundle.fit_spec hcls).2
    (a' (.methodLink own ic (Bundle.init0 cls)) (by simp [Bundle.ownAtoms0])) (h (.instanceMethod (Bundle.init0 cls)) (by cases names <;> simp [Bundle.ownAtoms0, Bundle.chain0Atoms, Bundle.passAtoms])) (bytes := Bundle.five) (maxL := 1) (h (.code (Bundle.init0 cls) Bundle.five 1 none) (by cases names <;> simp [Bundle.ownAtoms0, Bundle.chain0Atoms, Bundle.passAtoms]))
    (f := g) hg (a := a) (rest := .ref a :: rest) hstack hd6
  cases Option.some.inj (hnC.symm.trans hP1m)
  have X₁ := X.noted hW₁
  obtain ⟨vm₂, X₂, st2⟩ := X₁.ctorPlainOffV hexec (g := { g with stack := .ref a :: rest }) hg hsize T L Z LZ (P1 :: Ps)
    (fun P hP => by rcases List.mem_cons.mp hP with rfl | hP; exact L1; exact hL P hP) ⟨hlink1, hlink⟩ (u0 := u0) (sen := sen) (self := a) (cell := freshCell P1.m.cls kX) (cellS := cellS)
    hcell (fun _ => by simp) (by simp) rfl rfl hsel0 hselF hcellS hneS hknownS (by rw [hkeep _ (hout' _)]; exact hu0) (by rw [hkeep _ (hout' _)]; exact hsen)
    (Takes.of_laid hk hord tyC (by rw [Y.causeType]; rfl)) (Takes.of_laid hk hord tyS (by rw [Y.stackType]; exact fits_refV_array _ u0)) (Takes.of_laid hk hord tyP (by rw [Y.suppType]; exact fits_refV_object _ sen)) Y.objLocals hskip htr [] hd6
    (by simp only [List.length_cons, hlen]; omega) (by simp only [List.length_cons, hlen]; exact hRlocals)
  have hlt : a < ((W.setVm vm₁).setVm vm₂).heap.size := (Array.getElem?_eq_some_iff.mp hcell).1
  refine ⟨(W.setVm vm₁).setVm vm₂, _, _, X₂, fun y hy => ?_, hlt, rfl, rfl, fun target hwalk => st1 _ (fun acts => ?_)⟩
  · simp only [List.mem_cons, List.not_mem_nil, or_false] at hy
    rcases hy with rfl | rfl | rfl | rfl <;> rfl
  · rw [doInvoke_state]
    exact st2 _ hwalk
end VXK
section VXK2
variable {p : Program} {l : Launch} {e : Env} {R : Room} {s : State} {m : MethodId} {args : Array Value} {below : List Frame} {meth : Method} {c : Code} {H : Heap} {locs : List Loc} {cells slots : Nat} {Q : State → Prop}
variable {ls : Array Slot} {rest : List Value} {D : va_G} {cl : List vw_C} {tys : List (ClassId × FieldType)} {ws : va_W}
/-- 'new E("text")' that isn't thrown at once: the object goes on the stack -/
theorem vx_makeS {cc : ByteArray} {pc : Nat} (hexec : p.tables.exec = Jvm.exec) (hb : c.code = cc) (hl : l.stackTraces = false) {own cls text : String} {names : List String} {ik is ic sa ci : Nat} {A : Nat → Prop} {T0 : u_T}
    (hown : s.vm.findClass own = some m.cls) (hcls : Bundle.fit cls = true) (hnames : ∀ n ∈ names, Bundle.fit n = true)
    (hk : (Cond.classLink own ik cls).before args s = true) (hini : (Cond.initialized cls).before args s = true) (hstr : vk_R own is text sa s) (hat : ∀ w ∈ vx_atS own ic cls names, w.before args s = true)
    (hgood : ∀ w ∈ Cond.classLink own ik cls :: Cond.initialized cls :: vx_atS own ic cls names, vx_ot w = true)
    (hU : vx_Zq Bundle.tN "UNASSIGNED_STACK" Bundle.steD A s s.heap) (hN : vx_Zq Bundle.tN "SUPPRESSED_SENTINEL" Bundle.listD A s s.heap) (hS : va_S A s.heap H locs) (hsize : ls.size = c.maxLocals)
    (d0 : decode cc pc = .ok (.new ik, 3)) (d3 : decode cc (pc + 3) = .ok (.dup, 1)) (d4 : decode cc (pc + 4) = .ok (.ldc is, 2)) (d6 : decode cc (pc + 6) = .ok (.invokespecial ic, 3))
    (hK : va_K D cl tys s) (hP : va_P D cl ws H) (hD : va_D A ws) (hA : ∀ q, s.heap.size ≤ q → A q) (hc : cl[ci]? = some (cls, T0, 0))
    (hRframes : names.length + 3 < R.frames) (hRlocals : (rest.map fun v => v.category).sum + (13 * (names.length + 1) + 43) ≤ R.locals) (hRcells : cells + 1 ≤ R.cells) (hRslots : slots + 6 ≤ R.slots)
    (kk : ∀ (q : Nat) (H1 : Heap), va_P D cl (ws ++ [(q, .inr (ci, []))]) H1 → va_D A (ws ++ [(q, .inr (ci, []))]) → va_S A s.heap H1 locs → W p l e R s m args below meth c H1 locs (cells + 1) (slots + 6) Q (F0 m (pc + 9) ls (.ref q :: rest))) :
    W p l e R s m args below meth c H locs cells slots Q (F0 m pc ls rest) := by
  intro T hT X
  subst hT
  have htr : e.platform.stackTraces = false := (show e.platform.stackTraces = l.stackTraces by rw [X.admits.platform]).trans hl
  have Y := vx_rebase X (R' := { frames := R.frames, locals := R.locals, cells := 1, slots := 6 }) (Nat.le_refl _) (Nat.le_refl _) hRcells hRslots
  obtain ⟨s', hA'⟩ : ∃ z, z = (T.setVm s.vm).setFrames (.invoking m args :: below) := ⟨_, rfl⟩
  rw [← hA'] at Y
  have hvm : s'.vm = s.vm := by rw [hA']; rfl
  have hhp : s'.heap = T.heap := by rw [hA']; rfl
  have hW0 : s.WarmedH s'.vm := by rw [hvm]; exact State.WarmedH.refl s
  have hat' : ∀ w ∈ vx_atS own ic cls names, w.before args s' = true := fun w hw => vx_ot_at hW0 hvm.symm (hgood w (List.mem_cons_of_mem _ (List.mem_cons_of_mem _ hw))) (hat w hw)
  have hk' : (Cond.classLink own ik cls).before args s' = true := vx_ot_at hW0 hvm.symm (hgood _ List.mem_cons_self) hk
  have hini' : (Cond.initialized cls).before args s' = true := vx_ot_at hW0 hvm.symm (hgood _ (List.mem_cons_of_mem _ List.mem_cons_self)) hini
  have hU' : vx_Zq Bundle.tN "UNASSIGNED_STACK" Bundle.steD A s' s'.heap := by rw [hhp]; exact vx_Zq.moved hW0.alike (hU.kept hS.2.1)
  have hN' : vx_Zq Bundle.tN "SUPPRESSED_SENTINEL" Bundle.listD A s' s'.heap := by rw [hhp]; exact vx_Zq.moved hW0.alike (hN.kept hS.2.1)
  have h : ∀ w ∈ Bundle.ownAtoms own ic cls names, w.before args s' = true := vx_own hat' (vx_isRefq hU'.1) (vx_isRefq hN'.1) hU'.2.word hN'.2.word
  have hown' : s'.vm.findClass own = some m.cls := by rw [hvm]; exact hown
  have hins : (Cond.instantiable cls 6).before args s' = true := h _ (by simp [Bundle.ownAtoms])
  obtain ⟨vm₁, cX, kX, hfX, hkX, -, -, X₁, st1⟩ := Y.newCold hexec (own := own) (C := cls) (index := ik) (n := 6) hown' hk' hins hini'
    (g := F0 m pc ls rest) rfl (by rw [hb]; exact d0) (Nat.le_refl _) (Nat.le_refl _)
  generalize hT1 : (T.setVm vm₁).pushCell { cls := cX, slots := kX.instanceTypes.map defaultValue, vm := .none } = T1 at X₁ st1
  have hcat : (Value.ref T.heap.size).category = 1 := rfl
  have hcellA : T1.heap[T.heap.size]? = some (freshCell cX kX) := by rw [← hT1]; exact State.heap_pushCell_size _ _
  have d3' : decode c.code (pc + 3) = .ok (.dup, 1) := by rw [hb]; exact d3
  have d4' : decode c.code (pc + 4) = .ok (.ldc is, 2) := by rw [hb]; exact d4
  have hstr' : vk_R own is text sa s' := vk_R.warm hW0 hstr
  obtain ⟨V, ce, L, Z, hL, hlt, hcl9, hvm9, st⟩ := vx_ctorMadeS X₁ hexec htr (own := own) (cls := cls) (names := names) (ic := ic) hown' hcls hnames h (fun x hx => nomatch hx) hfX hkX hcellA (by rw [hhp]; exact Nat.le_refl _) (msg := .ref sa) rfl
    (g := { method := m, pc := pc + 6, locals := ls, stack := .ref sa :: .ref T.heap.size :: .ref T.heap.size :: rest, locked := none }) rfl hsize (rest := rest) rfl
    (by rw [hb]; exact d6) hRframes (by simp only [List.map_cons, List.sum_cons, hcat]; omega)
  have Z0 := Stand.forget (locs := []) Z (fun y hy => by rw [hL y hy, hhp]; exact Nat.le_refl _)
  obtain ⟨f1, f2⟩ := vx_frame Z0.same
  rw [hhp] at f1 f2
  have hcid : ce.cls = D.1 ci := by
    rw [hcl9]
    have h1 := (hK.1 ci _ hc).2.1
    rw [hvm] at hfX
    exact Option.some.inj (hfX.symm.trans h1)
  have hh : (V.setCell T.heap.size ce).heap[T.heap.size]? = some ce := heapAt_setCell_self (s := V) ce hlt
  subst hA'
  have X5 := vx_back9 X Y Z0
  have X6 : Stand p l e R s m args below meth c (V.setCell T.heap.size ce) locs (cells + 1) (slots + 6) := { X5 with same := X5.same.mono (by omega) (by omega) }
  have hk9 : ∀ (k : Nat) (x : Nat × va_E), ws[k]? = some x → (V.setCell T.heap.size ce).heap[x.1]? = T.heap[x.1]? := fun k x hx => f2 x.1 ((hP k x hx).lt) (fun z hz => nomatch hz)
  obtain ⟨t, a1, b1⟩ := kk T.heap.size (V.setCell T.heap.size ce).heap ((hP.kept hk9).app (fun k x hx => by
      have hz : k < 1 := (List.getElem?_eq_some_iff.mp hx).1
      rw [show k = 0 by omega] at hx
      cases hx
      exact ⟨_, hc, ce, hh, hcid, hvm9, fun k hk => absurd hk (Nat.not_lt_zero k)⟩)) (hD.push hP rfl (hA _ hS.1)) ⟨Nat.le_trans hS.1 f1, fun q h1 h2 => (f2 q (Nat.lt_of_lt_of_le h1 hS.1) (fun z hz => nomatch hz)).trans (hS.2.1 q h1 h2), hS.2.2⟩ _ rfl X6
  refine ⟨t, st1 _ ?_, b1⟩
  show Steps p.tables e below (T1.setTop { method := m, pc := pc + 3, locals := ls, stack := .ref T.heap.size :: rest, locked := none }) _
  jvm_step X₁.here [X₁.here.top, hexec, d3', Value.category]
  exact X₁.ldcString hexec (own := own) (text := text) (index := is) (a := sa) hown' hstr'.1 hstr'.2
    (g := { method := m, pc := pc + 4, locals := ls, stack := .ref T.heap.size :: .ref T.heap.size :: rest, locked := none }) rfl d4' _ (st _ a1)
/-- 'new E()' that isn't thrown at once: the object goes on the stack -/
theorem vx_make0 {cc : ByteArray} {pc : Nat} (hexec : p.tables.exec = Jvm.exec) (hb : c.code = cc) (hl : l.stackTraces = false) {own cls : String} {names : List String} {ik ic ci : Nat} {A : Nat → Prop} {T0 : u_T}
    (hown : s.vm.findClass own = some m.cls) (hcls : Bundle.fit cls = true) (hnames : ∀ n ∈ names, Bundle.fit n = true)
    (hk : (Cond.classLink own ik cls).before args s = true) (hini : (Cond.initialized cls).before args s = true) (hat : ∀ w ∈ vx_at0 own ic cls names, w.before args s = true)
    (hgood : ∀ w ∈ Cond.classLink own ik cls :: Cond.initialized cls :: vx_at0 own ic cls names, vx_ot w = true)
    (hU : vx_Zq Bundle.tN "UNASSIGNED_STACK" Bundle.steD A s s.heap) (hN : vx_Zq Bundle.tN "SUPPRESSED_SENTINEL" Bundle.listD A s s.heap) (hS : va_S A s.heap H locs) (hsize : ls.size = c.maxLocals)
    (d0 : decode cc pc = .ok (.new ik, 3)) (d3 : decode cc (pc + 3) = .ok (.dup, 1)) (d4 : decode cc (pc + 4) = .ok (.invokespecial ic, 3))
    (hK : va_K D cl tys s) (hP : va_P D cl ws H) (hD : va_D A ws) (hA : ∀ q, s.heap.size ≤ q → A q) (hc : cl[ci]? = some (cls, T0, 0))
    (hRframes : names.length + 3 < R.frames) (hRlocals : (rest.map fun v => v.category).sum + (13 * (names.length + 1) + 42) ≤ R.locals) (hRcells : cells + 1 ≤ R.cells) (hRslots : slots + 6 ≤ R.slots)
    (kk : ∀ (q : Nat) (H1 : Heap), va_P D cl (ws ++ [(q, .inr (ci, []))]) H1 → va_D A (ws ++ [(q, .inr (ci, []))]) → va_S A s.heap H1 locs → W p l e R s m args below meth c H1 locs (cells + 1) (slots + 6) Q (F0 m (pc + 7) ls (.ref q :: rest))) :
    W p l e R s m args below meth c H locs cells slots Q (F0 m pc ls rest) := by
  intro T hT X
  subst hT
  have htr : e.platform.stackTraces = false := (show e.platform.stackTraces = l.stackTraces by rw [X.admits.platform]).trans hl
  have Y := vx_rebase X (R' := { frames := R.frames, locals := R.locals, cells := 1, slots := 6 }) (Nat.le_refl _) (Nat.le_refl _) hRcells hRslots
  obtain ⟨s', hA'⟩ : ∃ z, z = (T.setVm s.vm).setFrames (.invoking m args :: below) := ⟨_, rfl⟩
  rw [← hA'] at Y
  have hvm : s'.vm = s.vm := by rw [hA']; rfl
  have hhp : s'.heap = T.heap := by rw [hA']; rfl
  have hW0 : s.WarmedH s'.vm := by rw [hvm]; exact State.WarmedH.refl s
  have hat' : ∀ w ∈ vx_at0 own ic cls names, w.before args s' = true := fun w hw => vx_ot_at hW0 hvm.symm (hgood w (List.mem_cons_of_mem _ (List.mem_cons_of_mem _ hw))) (hat w hw)
  have hk' : (Cond.classLink own ik cls).before args s' = true := vx_ot_at hW0 hvm.symm (hgood _ List.mem_cons_self) hk
  have hini' : (Cond.initialized cls).before args s' = true := vx_ot_at hW0 hvm.symm (hgood _ (List.mem_cons_of_mem _ List.mem_cons_self)) hini
  have hU' : vx_Zq Bundle.tN "UNASSIGNED_STACK" Bundle.steD A s' s'.heap := by rw [hhp]; exact vx_Zq.moved hW0.alike (hU.kept hS.2.1)
  have hN' : vx_Zq Bundle.tN "SUPPRESSED_SENTINEL" Bundle.listD A s' s'.heap := by rw [hhp]; exact vx_Zq.moved hW0.alike (hN.kept hS.2.1)
  have h : ∀ w ∈ Bundle.ownAtoms0 own ic cls names, w.before args s' = true := vx_own hat' (vx_isRefq hU'.1) (vx_isRefq hN'.1) hU'.2.word hN'.2.word
  have hown' : s'.vm.findClass own = some m.cls := by rw [hvm]; exact hown
  have hins : (Cond.instantiable cls 6).before args s' = true := h _ (by simp [Bundle.ownAtoms0])
  obtain ⟨vm₁, cX, kX, hfX, hkX, -, -, X₁, st1⟩ := Y.newCold hexec (own := own) (C := cls) (index := ik) (n := 6) hown' hk' hins hini'
    (g := F0 m pc ls rest) rfl (by rw [hb]; exact d0) (Nat.le_refl _) (Nat.le_refl _)
  generalize hT1 : (T.setVm vm₁).pushCell { cls := cX, slots := kX.instanceTypes.map defaultValue, vm := .none } = T1 at X₁ st1
  have hcat : (Value.ref T.heap.size).category = 1 := rfl
  have hcellA : T1.heap[T.heap.size]? = some (freshCell cX kX) := by rw [← hT1]; exact State.heap_pushCell_size _ _
  have d3' : decode c.code (pc + 3) = .ok (.dup, 1) := by rw [hb]; exact d3
  obtain ⟨V, ce, L, Z, hL, hlt, hcl9, hvm9, st⟩ := vx_ctorMade0 X₁ hexec htr (own := own) (cls := cls) (names := names) (ic := ic) hown' hcls hnames h (fun x hx => nomatch hx) hfX hkX hcellA (by rw [hhp]; exact Nat.le_refl _)
    (g := { method := m, pc := pc + 4, locals := ls, stack := .ref T.heap.size :: .ref T.heap.size :: rest, locked := none }) rfl hsize (rest := rest) rfl
    (by rw [hb]; exact d4) hRframes (by simp only [List.map_cons, List.sum_cons, hcat]; omega)
  have Z0 := Stand.forget (locs := []) Z (fun y hy => by rw [hL y hy, hhp]; exact Nat.le_refl _)
  obtain ⟨f1, f2⟩ := vx_frame Z0.same
  rw [hhp] at f1 f2
  have hcid : ce.cls = D.1 ci := by
    rw [hcl9]
    have h1 := (hK.1 ci _ hc).2.1
    rw [hvm] at hfX
    exact Option.some.inj (hfX.symm.trans h1)
  have hh : (V.setCell T.heap.size ce).heap[T.heap.size]? = some ce := heapAt_setCell_self (s := V) ce hlt
  subst hA'
  have X5 := vx_back9 X Y Z0
  have X6 : Stand p l e R s m args below meth c (V.setCell T.heap.size ce) locs (cells + 1) (slots + 6) := { X5 with same := X5.same.mono (by omega) (by omega) }
  have hk9 : ∀ (k : Nat) (x : Nat × va_E), ws[k]? = some x → (V.setCell T.heap.size ce).heap[x.1]? = T.heap[x.1]? := fun k x hx => f2 x.1 ((hP k x hx).lt) (fun z hz => nomatch hz)
  obtain ⟨t, a1, b1⟩ := kk T.heap.size (V.setCell T.heap.size ce).heap ((hP.kept hk9).app (fun k x hx => by
      have hz : k < 1 := (List.getElem?_eq_some_iff.mp hx).1
      rw [show k = 0 by omega] at hx
      cases hx
      exact ⟨_, hc, ce, hh, hcid, hvm9, fun k hk => absurd hk (Nat.not_lt_zero k)⟩)) (hD.push hP rfl (hA _ hS.1)) ⟨Nat.le_trans hS.1 f1, fun q h1 h2 => (f2 q (Nat.lt_of_lt_of_le h1 hS.1) (fun z hz => nomatch hz)).trans (hS.2.1 q h1 h2), hS.2.2⟩ _ rfl X6
  refine ⟨t, st1 _ ?_, b1⟩
  show Steps p.tables e below (T1.setTop { method := m, pc := pc + 3, locals := ls, stack := .ref T.heap.size :: rest, locked := none }) _
  jvm_step X₁.here [X₁.here.top, hexec, d3', Value.category]
  exact st _ a1
/-- 'throw x' of an object that was made before -/
theorem vx_athrow {cc : ByteArray} {pc : Nat} (hexec : p.tables.exec = Jvm.exec) (hb : c.code = cc) {q : Addr} (hdg : decode cc pc = .ok (.athrow, 1)) (k : vx_W p l e R s m args below meth c H locs cells slots Q (F0 m pc ls rest) q) : W p l e R s m args below meth c H locs cells slots Q (F0 m pc ls (.ref q :: rest)) := by
  intro T hT X
  obtain ⟨t, st, hq⟩ := k T hT X
  refine ⟨t, ?_, hq⟩
  have hdg' : decode c.code pc = .ok (.athrow, 1) := by rw [hb]; exact hdg
  jvm_step X.here [X.here.top, hexec, hdg', athrow.wp_sem]
  exact st
end VXK2
/-! ===== END ===== -/
/-! ===== BEGIN a constructor that throws (launches without stack traces) ===== -/
section VXIA
variable {p : Program} {l : Launch} {e : Env} {R : Room} {s : State} {m : MethodId} {args : Array Value} {below : List Frame} {meth : Method} {c : Code} {T : State} {locs : List Loc} {cells slots : Nat}
theorem vx_callI (X : Stand p l e R s m args below meth c T locs cells slots) (hexec : p.tables.exec = Jvm.exec) {own : String} {index : Nat} {y : MethodName} {bytes : ByteArray} {maxL : Nat}
    (hown : s.vm.findClass own = some m.cls) (hy1 : y.name = "<init>") (hlink : (Cond.methodLink own index y).before args s = true) (hinst : (Cond.instanceMethod y).before args s = true)
    (hcode : (Cond.code y bytes maxL none).before args s = true) (hy : y.cls ≠ "java/lang/invoke/MethodHandle" ∧ y.cls ≠ "java/lang/invoke/VarHandle")
    {W9 : Nat} {Pre : Pt → Array Value → Prop} {Post : Pt → Array Value → Option Value → Pt → Prop} {PostX : Pt → Array Value → Addr → Pt → Prop} (hK : vx_Back l R p e below s args y 3 W9 Pre Post PostX)
    {g : JFrame} (hg : g.method = m) (hsize : g.locals.size = c.maxLocals) {a : Addr} {argsL rest : List Value} (hlen : ∀ sig, parseMethodDescriptor y.desc = some sig → argsL.length = sig.parameters.length)
    (hstack : g.stack = argsL.reverse ++ .ref a :: rest) (hW : 2 * g.monitorRoom + (rest.map fun v => v.category).sum ≤ W9) (hdg : decode c.code g.pc = .ok (.invokespecial index, 3))
    (hpre : ∀ vm₁, s.WarmedH vm₁ → Pre ⟨T.setVm vm₁, locs, cells, slots⟩ (Value.ref a :: argsL).toArray) :
    (∃ (v : Option Value) (vm₁ : Vm) (B : Pt), s.WarmedH vm₁ ∧ Stand p l e R s m args below meth c B.U B.locs B.cells B.slots ∧ Post ⟨T.setVm vm₁, locs, cells, slots⟩ (Value.ref a :: argsL).toArray v B ∧
      ∀ target, Steps p.tables e below (B.U.setTop { g with pc := g.pc + 3, stack := v.toList ++ rest }) target → Steps p.tables e below (T.setTop g) target) ∨
    (∃ (q : Addr) (vm₁ : Vm) (B : Pt), s.WarmedH vm₁ ∧ Stand p l e R s m args below meth c B.U B.locs B.cells B.slots ∧ PostX ⟨T.setVm vm₁, locs, cells, slots⟩ (Value.ref a :: argsL).toArray q B ∧
      Steps p.tables e below (T.setTop g) ((B.U.setTop { g with stack := rest }).pushFrame (.throwing q))) := by
  subst hg
  have hpl : e.platform.magicAccessors = ({} : Platform).magicAccessors := by rw [X.admits.platform]
  obtain ⟨mk, methM, cM, kP, vm₁, hnamed, hmethM, hcodeM, -, hlocalsM, -, hkP, -, hW₁, hstep₁⟩ := Steps.initColdArgs (e := e) X.here hexec X.warmed hpl hown hy1 hy hlink hinst hcode (f := g) rfl hlen hstack hdg
  have X₁ := X.noted hW₁
  rcases hK g.method meth c ⟨T.setVm vm₁, locs, cells, slots⟩ { g with stack := rest } (.invokespecial index) mk (Value.ref a :: argsL).toArray X₁ rfl hsize hdg hW (X₁.named hnamed) (hpre vm₁ X₁.warmed) with ⟨v, B, X', hpost, hsteps⟩ | ⟨q, B, X', hpost, hsteps⟩
  · exact Or.inl ⟨v, vm₁, B, X₁.warmed, X', hpost, fun target h => hstep₁ _ fun acts => by rw [doInvoke_state]; exact hsteps.trans h⟩
  · exact Or.inr ⟨q, vm₁, B, X₁.warmed, X', hpost, hstep₁ _ fun acts => by rw [doInvoke_state]; exact hsteps⟩
end VXIA
section VXIB
variable {p : Program} {l : Launch} {e : Env} {R : Room} {s : State} {m : MethodId} {args : Array Value} {below : List Frame} {meth : Method} {c : Code} {H : Heap} {locs : List Loc} {cells slots : Nat}
variable {y : MethodName} {bytes cc : ByteArray} {maxL nL mc ms n index : Nat} {ret : Option FieldType} {ws : List Cond} {rm : Room} {Pc : Array Value → State → Prop} {Qc : Array Value → State → Outcome → State → Prop} {XC : String → State → State → Prop} {free : Addr → Prop} {Ts : List Cond} {own C : String} {b : Addr} {As rest : List Value} {g : JFrame}
theorem vx_runI (S : CallFix p m c cc nL s args Ts own) (hM : vx_Met l y ws rm Pc Qc XC mc ms free) (cw : CallB R s args own index y bytes maxL none ws rm mc ms n ∧ y.name = "<init>" ∧ (Cond.instanceMethod y).before args s = true) (hp : PreS s H Pc (.ref b :: As))
    (hg : g.method = m) (hn : As.length = n) (hsize : g.locals.size = nL) (hstack : g.stack = As.reverse ++ .ref b :: rest) (hW : 2 * g.monitorRoom + (rest.map fun v => v.category).sum ≤ 8) (hdg : decode cc g.pc = .ok (.invokespecial index, 3)) (hf : cells + mc ≤ R.cells ∧ slots + ms ≤ R.slots) :
    vx_Run p l e R s m args below meth c H locs cells slots mc ms g rest (Qc (Value.ref b :: As).toArray) XC free := by
  have hK : vx_Back l R p e below s args y 3 8 (PreOf R mc ms Pc) (PostOf Qc mc ms free) (vx_Post XC mc ms free) := vx_callBack cw.1 hM hp.1
  obtain ⟨⟨-, -, -, -, -, -, hcode, -, hy, hlen, hl⟩, hy1, hin⟩ := cw
  obtain ⟨hx, hb, hml, ho, -⟩ := S
  have hPc := hp.2
  intro T hT X
  rcases vx_callI X hx (bytes := bytes) (maxL := maxL) ho hy1 hl hin hcode hy hK hg (hsize.trans hml.symm) (a := b) (argsL := As) (rest := rest) (fun sig h => hn.trans (hlen sig h)) hstack hW (by rw [hb]; exact hdg)
    (fun vm₁ hW₁ => ⟨hf.1, hf.2, hPc (T.setVm vm₁) hT hW₁⟩) with ⟨v, vm₁, ⟨U', l2, c2, s2⟩, hW₁, X', ⟨g', mk, t, L, e1, e2, hq, h1, hL, h2, h3⟩, st⟩ | ⟨q, vm₁, ⟨U', l2, c2, s2⟩, hW₁, X', ⟨g', mk, t, L, E, ce, e1, e2, hq, hce, hcv, hcl, h1, hL, h2, h3⟩, st⟩
  · dsimp only [Pt.U, Pt.locs, Pt.cells, Pt.slots] at X' e1 e2 h1 h2 h3 st
    subst h1; subst h2; subst h3
    exact Or.inl ⟨v, (T.setVm vm₁).calling g' mk (Value.ref b :: As).toArray, t, U', L, hT, X', hL, e1, e2, hq, st⟩
  · dsimp only [Pt.U, Pt.locs, Pt.cells, Pt.slots] at X' e1 e2 h1 h2 h3 st hcl
    subst h1; subst h2; subst h3
    exact Or.inr ⟨q, (T.setVm vm₁).calling g' mk (Value.ref b :: As).toArray, t, U', L, E, ce, hT, X', hL, e1, e2, hq, hce, hcv, vx_cls hW₁ hcl, st⟩
end VXIB
/-! ===== END ===== -/
/-! ===== BEGIN a private constructor of a nest mate that throws ===== -/
section VXIC
variable {p : Program} {l : Launch} {e : Env} {R : Room} {s : State} {m : MethodId} {args : Array Value} {below : List Frame} {meth : Method} {c : Code} {T : State} {locs : List Loc} {cells slots : Nat}
theorem vx_callIN (X : Stand p l e R s m args below meth c T locs cells slots) (hexec : p.tables.exec = Jvm.exec) {own : String} {index : Nat} {host : String} {y : MethodName} {bytes : ByteArray} {maxL : Nat}
    (hown : s.vm.findClass own = some m.cls) (hy1 : y.name = "<init>") (hlink : (Cond.methodLinkNest own index y host).before args s = true) (hinst : (Cond.instanceMethod y).before args s = true)
    (hcode : (Cond.code y bytes maxL none).before args s = true) (hy : y.cls ≠ "java/lang/invoke/MethodHandle" ∧ y.cls ≠ "java/lang/invoke/VarHandle")
    {W9 : Nat} {Pre : Pt → Array Value → Prop} {Post : Pt → Array Value → Option Value → Pt → Prop} {PostX : Pt → Array Value → Addr → Pt → Prop} (hK : vx_Back l R p e below s args y 3 W9 Pre Post PostX)
    {g : JFrame} (hg : g.method = m) (hsize : g.locals.size = c.maxLocals) {a : Addr} {argsL rest : List Value} (hlen : ∀ sig, parseMethodDescriptor y.desc = some sig → argsL.length = sig.parameters.length)
    (hstack : g.stack = argsL.reverse ++ .ref a :: rest) (hW : 2 * g.monitorRoom + (rest.map fun v => v.category).sum ≤ W9) (hdg : decode c.code g.pc = .ok (.invokespecial index, 3))
    (hpre : ∀ vm₁, s.WarmedH vm₁ → Pre ⟨T.setVm vm₁, locs, cells, slots⟩ (Value.ref a :: argsL).toArray) :
    (∃ (v : Option Value) (vm₁ : Vm) (B : Pt), s.WarmedH vm₁ ∧ Stand p l e R s m args below meth c B.U B.locs B.cells B.slots ∧ Post ⟨T.setVm vm₁, locs, cells, slots⟩ (Value.ref a :: argsL).toArray v B ∧
      ∀ target, Steps p.tables e below (B.U.setTop { g with pc := g.pc + 3, stack := v.toList ++ rest }) target → Steps p.tables e below (T.setTop g) target) ∨
    (∃ (q : Addr) (vm₁ : Vm) (B : Pt), s.WarmedH vm₁ ∧ Stand p l e R s m args below meth c B.U B.locs B.cells B.slots ∧ PostX ⟨T.setVm vm₁, locs, cells, slots⟩ (Value.ref a :: argsL).toArray q B ∧
      Steps p.tables e below (T.setTop g) ((B.U.setTop { g with stack := rest }).pushFrame (.throwing q))) := by
  subst hg
  have hpl : e.platform.magicAccessors = ({} : Platform).magicAccessors := by rw [X.admits.platform]
  obtain ⟨mk, methM, cM, kP, vm₁, hnamed, hmethM, hcodeM, -, hlocalsM, -, hkP, -, hW₁, hstep₁⟩ := Steps.initColdArgsNest (e := e) X.here hexec X.warmed hpl hown hy1 hy hlink hinst hcode (f := g) rfl hlen hstack hdg
  have X₁ := X.noted hW₁
  rcases hK g.method meth c ⟨T.setVm vm₁, locs, cells, slots⟩ { g with stack := rest } (.invokespecial index) mk (Value.ref a :: argsL).toArray X₁ rfl hsize hdg hW (X₁.named hnamed) (hpre vm₁ X₁.warmed) with ⟨v, B, X', hpost, hsteps⟩ | ⟨q, B, X', hpost, hsteps⟩
  · exact Or.inl ⟨v, vm₁, B, X₁.warmed, X', hpost, fun target h => hstep₁ _ fun acts => by rw [doInvoke_state]; exact hsteps.trans h⟩
  · exact Or.inr ⟨q, vm₁, B, X₁.warmed, X', hpost, hstep₁ _ fun acts => by rw [doInvoke_state]; exact hsteps⟩
end VXIC
section VXID
variable {p : Program} {l : Launch} {e : Env} {R : Room} {s : State} {m : MethodId} {args : Array Value} {below : List Frame} {meth : Method} {c : Code} {H : Heap} {locs : List Loc} {cells slots : Nat}
theorem vx_runIN {y : MethodName} {bytes cc : ByteArray} {maxL nL mc ms n index : Nat} {ws : List Cond} {rm : Room} {Pc : Array Value → State → Prop} {Qc : Array Value → State → Outcome → State → Prop} {XC : String → State → State → Prop} {free : Addr → Prop} {Ts : List Cond} {own host : String} {b : Addr} {As rest : List Value} {g : JFrame}
    (S : CallFix p m c cc nL s args Ts own) (hM : vx_Met l y ws rm Pc Qc XC mc ms free) (cw : va_CN R s args own index y host bytes maxL none ws rm mc ms n ∧ y.name = "<init>" ∧ (Cond.instanceMethod y).before args s = true) (hp : PreS s H Pc (.ref b :: As))
    (hg : g.method = m) (hn : As.length = n) (hsize : g.locals.size = nL) (hstack : g.stack = As.reverse ++ .ref b :: rest) (hW : 2 * g.monitorRoom + (rest.map fun v => v.category).sum ≤ 8) (hdg : decode cc g.pc = .ok (.invokespecial index, 3)) (hf : cells + mc ≤ R.cells ∧ slots + ms ≤ R.slots) :
    vx_Run p l e R s m args below meth c H locs cells slots mc ms g rest (Qc (Value.ref b :: As).toArray) XC free := by
  obtain ⟨⟨⟨hrc, hrs, hfr, hlo, hws, hcw⟩, hcode, hini, hy, hlen, hl⟩, hx1, hx2⟩ := cw
  have hK : vx_Back l R p e below s args y 3 8 (PreOf R mc ms Pc) (PostOf Qc mc ms free) (vx_Post XC mc ms free) := vx_back (bytes := bytes) (maxL := maxL) (ret := none) hM hp.1 hrc hrs hfr hlo hws hcw (fun a' U hW => word_at hW (Or.inl (by first | rfl | simp [Cond.onTables, Cond.keeps, Cond.steady])) hini)
  obtain ⟨hx, hb, hml, ho, -⟩ := S
  have hPc := hp.2
  intro T hT X
  rcases vx_callIN X hx (bytes := bytes) (maxL := maxL) ho hx1 hl hx2 hcode hy hK hg (hsize.trans hml.symm) (a := b) (argsL := As) (rest := rest) (fun sig h => hn.trans (hlen sig h)) hstack hW (by rw [hb]; exact hdg)
    (fun vm₁ hW₁ => ⟨hf.1, hf.2, hPc (T.setVm vm₁) hT hW₁⟩) with ⟨v, vm₁, ⟨U', l2, c2, s2⟩, hW₁, X', ⟨g', mk, t, L, e1, e2, hq, h1, hL, h2, h3⟩, st⟩ | ⟨q, vm₁, ⟨U', l2, c2, s2⟩, hW₁, X', ⟨g', mk, t, L, E, ce, e1, e2, hq, hce, hcv, hcl, h1, hL, h2, h3⟩, st⟩
  · dsimp only [Pt.U, Pt.locs, Pt.cells, Pt.slots] at X' e1 e2 h1 h2 h3 st
    subst h1; subst h2; subst h3
    exact Or.inl ⟨v, (T.setVm vm₁).calling g' mk (Value.ref b :: As).toArray, t, U', L, hT, X', hL, e1, e2, hq, st⟩
  · dsimp only [Pt.U, Pt.locs, Pt.cells, Pt.slots] at X' e1 e2 h1 h2 h3 st hcl
    subst h1; subst h2; subst h3
    exact Or.inr ⟨q, (T.setVm vm₁).calling g' mk (Value.ref b :: As).toArray, t, U', L, E, ce, hT, X', hL, e1, e2, hq, hce, hcv, vx_cls hW₁ hcl, st⟩
end VXID
/-! ===== END ===== -/
/-! ===== BEGIN a method of a class above, found by the receiver, that may throw (follows va_callVU, va_runU of this kit) ===== -/
section
variable {p : Program} {l : Launch} {e : Env} {R : Room} {s : State} {m : MethodId} {args : Array Value} {below : List Frame} {meth : Method} {c : Code} {H : Heap} {locs : List Loc} {cells slots : Nat}
theorem vx_callVU {T : State} {locs : List Loc} {cells slots : Nat} (X : Stand p l e R s m args below meth c T locs cells slots) (hexec : p.tables.exec = Jvm.exec) {own C owner : String} {index : Nat} {x y : MethodName} {bytes : ByteArray} {maxL : Nat} {ret : Option FieldType}
    (hown : s.vm.findClass own = some m.cls) (hlink : (Cond.methodLink own index x).before args s = true) (hsame : (Cond.sameMethod x.cls owner x.name x.desc).before args s = true)
    (hd0 : va_Decl s ⟨owner, x.name, x.desc⟩) (howner : owner ≠ "java/lang/invoke/MethodHandle" ∧ owner ≠ "java/lang/invoke/VarHandle")
    (hsel : (Cond.selects C x y).before args s = true) (hinst : (Cond.instanceMethod y).before args s = true) (hcode : (Cond.code y bytes maxL ret).before args s = true)
    {W : Nat} {Pre : Pt → Array Value → Prop} {Post : Pt → Array Value → Option Value → Pt → Prop} {PostX : Pt → Array Value → Addr → Pt → Prop} (hK : vx_Back l R p e below s args y 3 W Pre Post PostX)
    {b : Addr} {cellB : Cell} (hcell : T.heap[b]? = some cellB) (hobj : cellB.vm.isStatics = false) (hcls : s.vm.findClass C = some cellB.cls)
    {g : JFrame} (hg : g.method = m) (hsize : g.locals.size = c.maxLocals) {argsL rest : List Value} (hlen : ∀ sig, parseMethodDescriptor x.desc = some sig → argsL.length = sig.parameters.length)
    (hstack : g.stack = argsL.reverse ++ .ref b :: rest) (hW : 2 * g.monitorRoom + (rest.map fun v => v.category).sum ≤ W) (hdg : decode c.code g.pc = .ok (.invokevirtual index, 3))
    (hpre : ∀ vm₁, s.WarmedH vm₁ → Pre ⟨T.setVm vm₁, locs, cells, slots⟩ (Value.ref b :: argsL).toArray) :
    (∃ (v : Option Value) (vm₁ : Vm) (B : Pt), s.WarmedH vm₁ ∧ Stand p l e R s m args below meth c B.U B.locs B.cells B.slots ∧ Post ⟨T.setVm vm₁, locs, cells, slots⟩ (Value.ref b :: argsL).toArray v B ∧
      ∀ target, Steps p.tables e below (B.U.setTop { g with pc := g.pc + 3, stack := v.toList ++ rest }) target → Steps p.tables e below (T.setTop g) target) ∨
    (∃ (q : Addr) (vm₁ : Vm) (B : Pt), s.WarmedH vm₁ ∧ Stand p l e R s m args below meth c B.U B.locs B.cells B.slots ∧ PostX ⟨T.setVm vm₁, locs, cells, slots⟩ (Value.ref b :: argsL).toArray q B ∧
      Steps p.tables e below (T.setTop g) ((B.U.setTop { g with stack := rest }).pushFrame (.throwing q))) := by
  obtain ⟨r0, r, hn, hrm, hstR, hsigR⟩ := hd0
  obtain ⟨cn, ck, r1, hcn, hck, hni, hf, hn1⟩ := Cond.sameMethod_found hsame
  cases hn.symm.trans hn1
  obtain ⟨mk, methM, hnamed, hmethM, -, habM⟩ := Cond.instanceMethod_spec hinst
  obtain ⟨c2, r2, m2, q1, q2, q3, q4, kP, hkP, hkPi⟩ := Cond.selects_spec hsel
  cases hcls.symm.trans q1
  cases hf.symm.trans q2
  cases hnamed.symm.trans q3
  have hselP : selectMethod e.platform s.vm cellB.cls r0 = .method mk := by rw [Launch.admits_selectMethod X.admits]; exact q4
  obtain ⟨vm₁, X₁, hstep₁⟩ := X.invokevirtualUp hexec hown hlink hsame howner hn hrm hstR (a := b) (cell := cellB) hcell
    (fun z h => by rw [h] at hobj; cases hobj) hselP hmethM habM hkP hkPi (g := g) hg (argsL := argsL) (rest := rest) (hlen _ hsigR) hstack hdg
  rcases hK m meth c ⟨T.setVm vm₁, locs, cells, slots⟩ { g with stack := rest } (.invokevirtual index) mk (Value.ref b :: argsL).toArray X₁ hg hsize hdg hW (X₁.named hnamed) (hpre vm₁ X₁.warmed) with ⟨v, B, X', hpost, hsteps⟩ | ⟨q, B, X', hpost, hsteps⟩
  · exact Or.inl ⟨v, vm₁, B, X₁.warmed, X', hpost, fun target h => hstep₁ _ fun acts => by rw [doInvoke_state]; exact hsteps.trans h⟩
  · exact Or.inr ⟨q, vm₁, B, X₁.warmed, X', hpost, hstep₁ _ fun acts => by rw [doInvoke_state]; exact hsteps⟩
theorem vx_runU {x y : MethodName} {bytes cc : ByteArray} {maxL nL mc ms n index : Nat} {ret : Option FieldType} {ws : List Cond} {rm : Room} {Pc : Array Value → State → Prop} {Qc : Array Value → State → Outcome → State → Prop} {XC : String → State → State → Prop} {free : Addr → Prop} {Ts : List Cond} {own C owner : String} {b : Addr} {As rest : List Value} {g : JFrame}
    (S : CallFix p m c cc nL s args Ts own) (hM : vx_Met l y ws rm Pc Qc XC mc ms free) (cw : va_CU R s args own C owner index x y bytes maxL ret ws rm mc ms n) (hp : PreV s H C b Pc As)
    (hg : g.method = m) (hn : As.length = n) (hsize : g.locals.size = nL) (hstack : g.stack = As.reverse ++ .ref b :: rest) (hW : 2 * g.monitorRoom + (rest.map fun v => v.category).sum ≤ 8) (hdg : decode cc g.pc = .ok (.invokevirtual index, 3)) (hf : cells + mc ≤ R.cells ∧ slots + ms ≤ R.slots) :
    vx_Run p l e R s m args below meth c H locs cells slots mc ms g rest (Qc (Value.ref b :: As).toArray) XC free := by
  obtain ⟨hrc, hrs, hfr, hlo, hws, hcw⟩ := cw.back
  have hini := cw.init
  have hK : vx_Back l R p e below s args y 3 8 (PreOf R mc ms Pc) (PostOf Qc mc ms free) (vx_Post XC mc ms free) := vx_back (bytes := bytes) (maxL := maxL) (ret := ret) hM hp.1 hrc hrs hfr hlo hws hcw (fun a' U hW => word_at hW (Or.inl (by first | rfl | simp [Cond.onTables, Cond.keeps, Cond.steady])) hini)
  obtain ⟨hx, hb, hml, ho, -⟩ := S
  obtain ⟨-, ⟨cellB, hcB, hoB, hclB⟩, hPc⟩ := hp
  intro T hT X
  rcases vx_callVU X hx (C := C) (owner := owner) (bytes := bytes) (maxL := maxL) (ret := ret) ho cw.link cw.same cw.decl cw.notMH cw.sel cw.inst cw.code hK (by rw [hT]; exact hcB) hoB hclB hg (hsize.trans hml.symm) (argsL := As) (rest := rest) (fun sig h => hn.trans (cw.len sig h)) hstack hW (by rw [hb]; exact hdg)
    (fun vm₁ hW₁ => ⟨hf.1, hf.2, hPc (T.setVm vm₁) hT hW₁⟩) with ⟨v, vm₁, ⟨U', l2, c2, s2⟩, hW₁, X', ⟨g', mk, t, L, e1, e2, hq, h1, hL, h2, h3⟩, st⟩ | ⟨q, vm₁, ⟨U', l2, c2, s2⟩, hW₁, X', ⟨g', mk, t, L, E, ce, e1, e2, hq, hce, hcv, hcl, h1, hL, h2, h3⟩, st⟩
  · dsimp only [Pt.U, Pt.locs, Pt.cells, Pt.slots] at X' e1 e2 h1 h2 h3 st
    subst h1; subst h2; subst h3
    exact Or.inl ⟨v, (T.setVm vm₁).calling g' mk (Value.ref b :: As).toArray, t, U', L, hT, X', hL, e1, e2, hq, st⟩
  · dsimp only [Pt.U, Pt.locs, Pt.cells, Pt.slots] at X' e1 e2 h1 h2 h3 st hcl
    subst h1; subst h2; subst h3
    exact Or.inr ⟨q, (T.setVm vm₁).calling g' mk (Value.ref b :: As).toArray, t, U', L, E, ce, hT, X', hL, e1, e2, hq, hce, hcv, vx_cls hW₁ hcl, st⟩
end
/-! ===== END ===== -/
/-! ===== BEGIN super.m(..) that may throw (follows va_callSU, va_runSU) ===== -/
section
variable {p : Program} {l : Launch} {e : Env} {R : Room} {s : State} {m : MethodId} {args : Array Value} {below : List Frame} {meth : Method} {c : Code} {H : Heap} {locs : List Loc} {cells slots : Nat}
theorem vx_callSU {T : State} {locs : List Loc} {cells slots : Nat} (X : Stand p l e R s m args below meth c T locs cells slots) (hexec : p.tables.exec = Jvm.exec) {own : String} {index : Nat} {y : MethodName} {bytes : ByteArray} {maxL : Nat} {ret : Option FieldType}
    (hown : s.vm.findClass own = some m.cls) (hlink : (Cond.methodLink own index y).before args s = true) (hsame : (Cond.sameMethod y.cls y.cls y.name y.desc).before args s = true) (hsup : (Cond.superclass own y.cls).before args s = true)
    (hinst : (Cond.instanceMethod y).before args s = true) (hcode : (Cond.code y bytes maxL ret).before args s = true) (hno : y.name ≠ "<init>")
    {W : Nat} {Pre : Pt → Array Value → Prop} {Post : Pt → Array Value → Option Value → Pt → Prop} {PostX : Pt → Array Value → Addr → Pt → Prop} (hK : vx_Back l R p e below s args y 3 W Pre Post PostX)
    {b : Addr} {cellB : Cell} {kB : Class} (hcell : T.heap[b]? = some cellB) (hobj : cellB.vm.isStatics = false) (hkB : s.vm.classes[cellB.cls]? = some kB)
    {g : JFrame} (hg : g.method = m) (hsize : g.locals.size = c.maxLocals) {argsL rest : List Value} (hlen : ∀ sig, parseMethodDescriptor y.desc = some sig → argsL.length = sig.parameters.length)
    (hstack : g.stack = argsL.reverse ++ .ref b :: rest) (hW : 2 * g.monitorRoom + (rest.map fun v => v.category).sum ≤ W) (hdg : decode c.code g.pc = .ok (.invokespecial index, 3))
    (hpre : ∀ vm₁, s.WarmedH vm₁ → Pre ⟨T.setVm vm₁, locs, cells, slots⟩ (Value.ref b :: argsL).toArray) :
    (∃ (v : Option Value) (vm₁ : Vm) (B : Pt), s.WarmedH vm₁ ∧ Stand p l e R s m args below meth c B.U B.locs B.cells B.slots ∧ Post ⟨T.setVm vm₁, locs, cells, slots⟩ (Value.ref b :: argsL).toArray v B ∧
      ∀ target, Steps p.tables e below (B.U.setTop { g with pc := g.pc + 3, stack := v.toList ++ rest }) target → Steps p.tables e below (T.setTop g) target) ∨
    (∃ (q : Addr) (vm₁ : Vm) (B : Pt), s.WarmedH vm₁ ∧ Stand p l e R s m args below meth c B.U B.locs B.cells B.slots ∧ PostX ⟨T.setVm vm₁, locs, cells, slots⟩ (Value.ref b :: argsL).toArray q B ∧
      Steps p.tables e below (T.setTop g) ((B.U.setTop { g with stack := rest }).pushFrame (.throwing q))) := by
  obtain ⟨mk, methM, hnamed, hmethM, hstM, habM⟩ := Cond.instanceMethod_spec hinst
  obtain ⟨methM', cM, hmethM', -, -, -, -, -, -, hsigM⟩ := Cond.code_spec hnamed hcode
  cases hmethM.symm.trans hmethM'
  obtain ⟨ps, dk, kp, hps, hdk, hkp, hsuper, -, -, hnid⟩ := Cond.superclass_spec hown hsup
  have hn : s.methodNamed? ⟨y.cls, y.name, y.desc⟩ = some mk := hnamed
  have hpm : ps = mk.cls := Option.some.inj (hps.symm.trans (findClass_of_methodNamed hnamed))
  have hsub : s.vm.isSubclass ps mk.cls = true := by rw [hpm]; simp [Vm.isSubclass, Vm.isSubclassAux]
  obtain ⟨vm₁, X₁, hstep₁⟩ := X.invokespecialUp hexec hown hlink hsame hn hmethM hstM habM hno hdk hnid hps hsuper hsub (a := b) (cell := cellB) hcell
    (fun z h => by rw [h] at hobj; cases hobj) hkB (g := g) hg (argsL := argsL) (rest := rest) (hlen _ hsigM) hstack hdg
  rcases hK m meth c ⟨T.setVm vm₁, locs, cells, slots⟩ { g with stack := rest } (.invokespecial index) mk (Value.ref b :: argsL).toArray X₁ hg hsize hdg hW (X₁.named hnamed) (hpre vm₁ X₁.warmed) with ⟨v, B, X', hpost, hsteps⟩ | ⟨q, B, X', hpost, hsteps⟩
  · exact Or.inl ⟨v, vm₁, B, X₁.warmed, X', hpost, fun target h => hstep₁ _ (by rw [doInvoke_state]; exact hsteps.trans h)⟩
  · exact Or.inr ⟨q, vm₁, B, X₁.warmed, X', hpost, hstep₁ _ (by rw [doInvoke_state]; exact hsteps)⟩
theorem vx_runSU {y : MethodName} {bytes cc : ByteArray} {maxL nL mc ms n index : Nat} {ret : Option FieldType} {ws : List Cond} {rm : Room} {Pc : Array Value → State → Prop} {Qc : Array Value → State → Outcome → State → Prop} {XC : String → State → State → Prop} {free : Addr → Prop} {Ts : List Cond} {own C : String} {cC : ClassId} {b : Addr} {As rest : List Value} {g : JFrame}
    (hat : ClassAt s C cC) (S : CallFix p m c cc nL s args Ts own) (hM : vx_Met l y ws rm Pc Qc XC mc ms free) (cw : va_CS R s args own index y bytes maxL ret ws rm mc ms n) (hp : PreV s H C b Pc As)
    (hg : g.method = m) (hn : As.length = n) (hsize : g.locals.size = nL) (hstack : g.stack = As.reverse ++ .ref b :: rest) (hW : 2 * g.monitorRoom + (rest.map fun v => v.category).sum ≤ 8) (hdg : decode cc g.pc = .ok (.invokespecial index, 3)) (hf : cells + mc ≤ R.cells ∧ slots + ms ≤ R.slots) :
    vx_Run p l e R s m args below meth c H locs cells slots mc ms g rest (Qc (Value.ref b :: As).toArray) XC free := by
  obtain ⟨⟨hrc, hrs, hfr, hlo, hws, hcw⟩, hl1, hl2, hl3, hl4, hini, hcode, hno, hlen⟩ := cw
  have hK : vx_Back l R p e below s args y 3 8 (PreOf R mc ms Pc) (PostOf Qc mc ms free) (vx_Post XC mc ms free) := vx_back (bytes := bytes) (maxL := maxL) (ret := ret) hM hp.1 hrc hrs hfr hlo hws hcw (fun a' U hW => word_at hW (Or.inl (by first | rfl | simp [Cond.onTables, Cond.keeps, Cond.steady])) hini)
  obtain ⟨hx, hb, hml, ho, -⟩ := S
  obtain ⟨-, ⟨cellB, hcB, hoB, hclB⟩, hPc⟩ := hp
  obtain ⟨hfc, kB, hkB, -⟩ := hat
  cases hfc.symm.trans hclB
  intro T hT X
  rcases vx_callSU X hx (bytes := bytes) (maxL := maxL) (ret := ret) ho hl1 hl2 hl3 hl4 hcode hno hK (by rw [hT]; exact hcB) hoB hkB hg (hsize.trans hml.symm) (argsL := As) (rest := rest) (fun sig h => hn.trans (hlen sig h)) hstack hW (by rw [hb]; exact hdg)
    (fun vm₁ hW₁ => ⟨hf.1, hf.2, hPc (T.setVm vm₁) hT hW₁⟩) with ⟨v, vm₁, ⟨U', l2, c2, s2⟩, hW₁, X', ⟨g', mk, t, L, e1, e2, hq, h1, hL, h2, h3⟩, st⟩ | ⟨q, vm₁, ⟨U', l2, c2, s2⟩, hW₁, X', ⟨g', mk, t, L, E, ce, e1, e2, hq, hce, hcv, hcl, h1, hL, h2, h3⟩, st⟩
  · dsimp only [Pt.U, Pt.locs, Pt.cells, Pt.slots] at X' e1 e2 h1 h2 h3 st
    subst h1; subst h2; subst h3
    exact Or.inl ⟨v, (T.setVm vm₁).calling g' mk (Value.ref b :: As).toArray, t, U', L, hT, X', hL, e1, e2, hq, st⟩
  · dsimp only [Pt.U, Pt.locs, Pt.cells, Pt.slots] at X' e1 e2 h1 h2 h3 st hcl
    subst h1; subst h2; subst h3
    exact Or.inr ⟨q, (T.setVm vm₁).calling g' mk (Value.ref b :: As).toArray, t, U', L, E, ce, hT, X', hL, e1, e2, hq, hce, hcv, vx_cls hW₁ hcl, st⟩
end
/-! ===== END ===== -/
/-! ===== BEGIN a private method of a nest mate that may throw (follows va_callVN, va_callSN, va_runVN, va_runSN) ===== -/
section
variable {p : Program} {l : Launch} {e : Env} {R : Room} {s : State} {m : MethodId} {args : Array Value} {below : List Frame} {meth : Method} {c : Code} {H : Heap} {locs : List Loc} {cells slots : Nat}
variable {T : State}
theorem vx_callVN (X : Stand p l e R s m args below meth c T locs cells slots) (hexec : p.tables.exec = Jvm.exec) {own C : String} {index : Nat} {host : String} {y : MethodName} {bytes : ByteArray} {maxL : Nat} {ret : Option FieldType}
    (hown : s.vm.findClass own = some m.cls) (hlink : (Cond.methodLinkNest own index y host).before args s = true) (hinst : (Cond.instanceMethod y).before args s = true) (hsel : (Cond.selects C y y).before args s = true)
    (hcode : (Cond.code y bytes maxL ret).before args s = true) (hy : y.cls ≠ "java/lang/invoke/MethodHandle" ∧ y.cls ≠ "java/lang/invoke/VarHandle")
    {W : Nat} {Pre : Pt → Array Value → Prop} {Post : Pt → Array Value → Option Value → Pt → Prop} {PostX : Pt → Array Value → Addr → Pt → Prop} (hK : vx_Back l R p e below s args y 3 W Pre Post PostX)
    {b : Addr} {cellB : Cell} (hcell : T.heap[b]? = some cellB) (hobj : cellB.vm.isStatics = false) (hcls : s.vm.findClass C = some cellB.cls)
    {g : JFrame} (hg : g.method = m) (hsize : g.locals.size = c.maxLocals) {argsL rest : List Value} (hlen : ∀ sig, parseMethodDescriptor y.desc = some sig → argsL.length = sig.parameters.length)
    (hstack : g.stack = argsL.reverse ++ .ref b :: rest) (hW : 2 * g.monitorRoom + (rest.map fun v => v.category).sum ≤ W) (hdg : decode c.code g.pc = .ok (.invokevirtual index, 3))
    (hpre : ∀ vm₁, s.WarmedH vm₁ → Pre ⟨T.setVm vm₁, locs, cells, slots⟩ (Value.ref b :: argsL).toArray) :
    (∃ (v : Option Value) (vm₁ : Vm) (B : Pt), s.WarmedH vm₁ ∧ Stand p l e R s m args below meth c B.U B.locs B.cells B.slots ∧ Post ⟨T.setVm vm₁, locs, cells, slots⟩ (Value.ref b :: argsL).toArray v B ∧
      ∀ target, Steps p.tables e below (B.U.setTop { g with pc := g.pc + 3, stack := v.toList ++ rest }) target → Steps p.tables e below (T.setTop g) target) ∨
    (∃ (q : Addr) (vm₁ : Vm) (B : Pt), s.WarmedH vm₁ ∧ Stand p l e R s m args below meth c B.U B.locs B.cells B.slots ∧ PostX ⟨T.setVm vm₁, locs, cells, slots⟩ (Value.ref b :: argsL).toArray q B ∧
      Steps p.tables e below (T.setTop g) ((B.U.setTop { g with stack := rest }).pushFrame (.throwing q))) := by
  obtain ⟨mk, methM, hnamed, hmethM, hstM, habM⟩ := Cond.instanceMethod_spec hinst
  obtain ⟨methM', cM, hmethM', -, -, -, -, -, -, hsigM⟩ := Cond.code_spec hnamed hcode
  cases hmethM.symm.trans hmethM'
  obtain ⟨c2, r2, m2, q1, q2, q3, q4, kP, hkP, hkPi⟩ := Cond.selects_spec hsel
  cases hcls.symm.trans q1
  cases (State.methodFound?_of_named hnamed hy).symm.trans q2
  cases hnamed.symm.trans q3
  have hselP : selectMethod e.platform s.vm cellB.cls mk = .method mk := by rw [Launch.admits_selectMethod X.admits]; exact q4
  obtain ⟨vm₁, X₁, hstep₁⟩ := X.invokevirtualNest hexec hown hlink hnamed hmethM hstM hkP hkPi hy (a := b) (cell := cellB) hcell
    (fun z h => by rw [h] at hobj; cases hobj) hselP hmethM habM hkP hkPi (g := g) hg (argsL := argsL) (rest := rest) (hlen _ hsigM) hstack hdg
  rcases hK m meth c ⟨T.setVm vm₁, locs, cells, slots⟩ { g with stack := rest } (.invokevirtual index) mk (Value.ref b :: argsL).toArray X₁ hg hsize hdg hW (X₁.named hnamed) (hpre vm₁ X₁.warmed) with ⟨v, B, X', hpost, hsteps⟩ | ⟨q, B, X', hpost, hsteps⟩
  · exact Or.inl ⟨v, vm₁, B, X₁.warmed, X', hpost, fun target h => hstep₁ _ fun acts => by rw [doInvoke_state]; exact hsteps.trans h⟩
  · exact Or.inr ⟨q, vm₁, B, X₁.warmed, X', hpost, hstep₁ _ fun acts => by rw [doInvoke_state]; exact hsteps⟩
theorem vx_callSN (X : Stand p l e R s m args below meth c T locs cells slots) (hexec : p.tables.exec = Jvm.exec) {own : String} {index : Nat} {host : String} {y : MethodName} {bytes : ByteArray} {maxL : Nat} {ret : Option FieldType}
    (hown : s.vm.findClass own = some m.cls) (hlink : (Cond.methodLinkNest own index y host).before args s = true) (hstat : (Cond.static y).before args s = true) (hinit : (Cond.initialized y.cls).before args s = true)
    (hcode : (Cond.code y bytes maxL ret).before args s = true) (hy : y.cls ≠ "java/lang/invoke/MethodHandle" ∧ y.cls ≠ "java/lang/invoke/VarHandle")
    {W : Nat} {Pre : Pt → Array Value → Prop} {Post : Pt → Array Value → Option Value → Pt → Prop} {PostX : Pt → Array Value → Addr → Pt → Prop} (hK : vx_Back l R p e below s args y 3 W Pre Post PostX)
    {g : JFrame} (hg : g.method = m) (hsize : g.locals.size = c.maxLocals) {argsL rest : List Value} (hlen : ∀ sig, parseMethodDescriptor y.desc = some sig → argsL.length = sig.parameters.length)
    (hstack : g.stack = argsL.reverse ++ rest) (hW : 2 * g.monitorRoom + (rest.map fun v => v.category).sum ≤ W) (hdg : decode c.code g.pc = .ok (.invokestatic index, 3))
    (hpre : ∀ vm₁, s.WarmedH vm₁ → Pre ⟨T.setVm vm₁, locs, cells, slots⟩ argsL.toArray) :
    (∃ (v : Option Value) (vm₁ : Vm) (B : Pt), s.WarmedH vm₁ ∧ Stand p l e R s m args below meth c B.U B.locs B.cells B.slots ∧ Post ⟨T.setVm vm₁, locs, cells, slots⟩ argsL.toArray v B ∧
      ∀ target, Steps p.tables e below (B.U.setTop { g with pc := g.pc + 3, stack := v.toList ++ rest }) target → Steps p.tables e below (T.setTop g) target) ∨
    (∃ (q : Addr) (vm₁ : Vm) (B : Pt), s.WarmedH vm₁ ∧ Stand p l e R s m args below meth c B.U B.locs B.cells B.slots ∧ PostX ⟨T.setVm vm₁, locs, cells, slots⟩ argsL.toArray q B ∧
      Steps p.tables e below (T.setTop g) ((B.U.setTop { g with stack := rest }).pushFrame (.throwing q))) := by
  obtain ⟨mk, hnamed⟩ := Cond.code_named hcode
  obtain ⟨methM, cM, hmethM, -, -, -, -, -, -, hsigM⟩ := Cond.code_spec hnamed hcode
  have hstatic : methM.isStatic = true := Cond.static_spec hnamed hmethM hstat
  obtain ⟨kP, hkP, -⟩ := className_of_methodNamed hnamed
  have hinitP : kP.init = .initialized := Cond.initialized_spec (findClass_of_methodNamed hnamed) hkP hinit
  obtain ⟨vm₁, X₁, hstep₁⟩ := X.invokestaticNest hexec hown hlink hnamed hmethM hstatic hkP hinitP hy (g := g) hg (argsL := argsL) (rest := rest) (hlen _ hsigM) hstack hdg
  rcases hK m meth c ⟨T.setVm vm₁, locs, cells, slots⟩ { g with stack := rest } (.invokestatic index) mk argsL.toArray X₁ hg hsize hdg hW (X₁.named hnamed) (hpre vm₁ X₁.warmed) with ⟨v, B, X', hpost, hsteps⟩ | ⟨q, B, X', hpost, hsteps⟩
  · exact Or.inl ⟨v, vm₁, B, X₁.warmed, X', hpost, fun target h => hstep₁ _ fun acts => by rw [doInvoke_state]; exact hsteps.trans h⟩
  · exact Or.inr ⟨q, vm₁, B, X₁.warmed, X', hpost, hstep₁ _ fun acts => by rw [doInvoke_state]; exact hsteps⟩
theorem vx_runVN {y : MethodName} {bytes cc : ByteArray} {maxL nL mc ms n index : Nat} {ret : Option FieldType} {ws : List Cond} {rm : Room} {Pc : Array Value → State → Prop} {Qc : Array Value → State → Outcome → State → Prop} {XC : String → State → State → Prop} {free : Addr → Prop} {Ts : List Cond} {own C host : String} {b : Addr} {As rest : List Value} {g : JFrame}
    (S : CallFix p m c cc nL s args Ts own) (hM : vx_Met l y ws rm Pc Qc XC mc ms free) (cw : va_CN R s args own index y host bytes maxL ret ws rm mc ms n ∧ (Cond.instanceMethod y).before args s = true ∧ (Cond.selects C y y).before args s = true) (hp : PreV s H C b Pc As)
    (hg : g.method = m) (hn : As.length = n) (hsize : g.locals.size = nL) (hstack : g.stack = As.reverse ++ .ref b :: rest) (hW : 2 * g.monitorRoom + (rest.map fun v => v.category).sum ≤ 8) (hdg : decode cc g.pc = .ok (.invokevirtual index, 3)) (hf : cells + mc ≤ R.cells ∧ slots + ms ≤ R.slots) :
    vx_Run p l e R s m args below meth c H locs cells slots mc ms g rest (Qc (Value.ref b :: As).toArray) XC free := by
  obtain ⟨⟨⟨hrc, hrs, hfr, hlo, hws, hcw⟩, hcode, hini, hy, hlen, hl⟩, hx1, hx2⟩ := cw
  have hK : vx_Back l R p e below s args y 3 8 (PreOf R mc ms Pc) (PostOf Qc mc ms free) (vx_Post XC mc ms free) := vx_back (bytes := bytes) (maxL := maxL) (ret := ret) hM hp.1 hrc hrs hfr hlo hws hcw (fun a' U hW => word_at hW (Or.inl (by first | rfl | simp [Cond.onTables, Cond.keeps, Cond.steady])) hini)
  obtain ⟨hx, hb, hml, ho, -⟩ := S
  obtain ⟨-, ⟨cellB, hcB, hoB, hclB⟩, hPc⟩ := hp
  intro T hT X
  rcases vx_callVN X hx (C := C) (bytes := bytes) (maxL := maxL) (ret := ret) ho hl hx1 hx2 hcode hy hK (by rw [hT]; exact hcB) hoB hclB hg (hsize.trans hml.symm) (argsL := As) (rest := rest) (fun sig h => hn.trans (hlen sig h)) hstack hW (by rw [hb]; exact hdg)
    (fun vm₁ hW₁ => ⟨hf.1, hf.2, hPc (T.setVm vm₁) hT hW₁⟩) with ⟨v, vm₁, ⟨U', l2, c2, s2⟩, hW₁, X', ⟨g', mk, t, L, e1, e2, hq, h1, hL, h2, h3⟩, st⟩ | ⟨q, vm₁, ⟨U', l2, c2, s2⟩, hW₁, X', ⟨g', mk, t, L, E, ce, e1, e2, hq, hce, hcv, hcl, h1, hL, h2, h3⟩, st⟩
  · dsimp only [Pt.U, Pt.locs, Pt.cells, Pt.slots] at X' e1 e2 h1 h2 h3 st
    subst h1; subst h2; subst h3
    exact Or.inl ⟨v, (T.setVm vm₁).calling g' mk (Value.ref b :: As).toArray, t, U', L, hT, X', hL, e1, e2, hq, st⟩
  · dsimp only [Pt.U, Pt.locs, Pt.cells, Pt.slots] at X' e1 e2 h1 h2 h3 st hcl
    subst h1; subst h2; subst h3
    exact Or.inr ⟨q, (T.setVm vm₁).calling g' mk (Value.ref b :: As).toArray, t, U', L, E, ce, hT, X', hL, e1, e2, hq, hce, hcv, vx_cls hW₁ hcl, st⟩
theorem vx_runSN {y : MethodName} {bytes cc : ByteArray} {maxL nL mc ms n index : Nat} {ret : Option FieldType} {ws : List Cond} {rm : Room} {Pc : Array Value → State → Prop} {Qc : Array Value → State → Outcome → State → Prop} {XC : String → State → State → Prop} {free : Addr → Prop} {Ts : List Cond} {own host : String} {As rest : List Value} {g : JFrame}
    (S : CallFix p m c cc nL s args Ts own) (hM : vx_Met l y ws rm Pc Qc XC mc ms free) (cw : va_CN R s args own index y host bytes maxL ret ws rm mc ms n ∧ (Cond.static y).before args s = true ∧ True) (hp : PreS s H Pc As)
    (hg : g.method = m) (hn : As.length = n) (hsize : g.locals.size = nL) (hstack : g.stack = As.reverse ++ rest) (hW : 2 * g.monitorRoom + (rest.map fun v => v.category).sum ≤ 8) (hdg : decode cc g.pc = .ok (.invokestatic index, 3)) (hf : cells + mc ≤ R.cells ∧ slots + ms ≤ R.slots) :
    vx_Run p l e R s m args below meth c H locs cells slots mc ms g rest (Qc As.toArray) XC free := by
  obtain ⟨⟨⟨hrc, hrs, hfr, hlo, hws, hcw⟩, hcode, hini, hy, hlen, hl⟩, hx1, hx2⟩ := cw
  have hK : vx_Back l R p e below s args y 3 8 (PreOf R mc ms Pc) (PostOf Qc mc ms free) (vx_Post XC mc ms free) := vx_back (bytes := bytes) (maxL := maxL) (ret := ret) hM hp.1 hrc hrs hfr hlo hws hcw (fun a' U hW => word_at hW (Or.inl (by first | rfl | simp [Cond.onTables, Cond.keeps, Cond.steady])) hini)
  obtain ⟨hx, hb, hml, ho, -⟩ := S
  have hPc := hp.2
  intro T hT X
  rcases vx_callSN X hx (bytes := bytes) (maxL := maxL) (ret := ret) ho hl hx1 hini hcode hy hK hg (hsize.trans hml.symm) (argsL := As) (rest := rest) (fun sig h => hn.trans (hlen sig h)) hstack hW (by rw [hb]; exact hdg)
    (fun vm₁ hW₁ => ⟨hf.1, hf.2, hPc (T.setVm vm₁) hT hW₁⟩) with ⟨v, vm₁, ⟨U', l2, c2, s2⟩, hW₁, X', ⟨g', mk, t, L, e1, e2, hq, h1, hL, h2, h3⟩, st⟩ | ⟨q, vm₁, ⟨U', l2, c2, s2⟩, hW₁, X', ⟨g', mk, t, L, E, ce, e1, e2, hq, hce, hcv, hcl, h1, hL, h2, h3⟩, st⟩
  · dsimp only [Pt.U, Pt.locs, Pt.cells, Pt.slots] at X' e1 e2 h1 h2 h3 st
    subst h1; subst h2; subst h3
    exact Or.inl ⟨v, (T.setVm vm₁).calling g' mk As.toArray, t, U', L, hT, X', hL, e1, e2, hq, st⟩
  · dsimp only [Pt.U, Pt.locs, Pt.cells, Pt.slots] at X' e1 e2 h1 h2 h3 st hcl
    subst h1; subst h2; subst h3
    exact Or.inr ⟨q, (T.setVm vm₁).calling g' mk As.toArray, t, U', L, E, ce, hT, X', hL, e1, e2, hq, hce, hcv, vx_cls hW₁ hcl, st⟩
end
/-! ===== END ===== -/
/-! ===== BEGIN calls by an interface of methods that may throw (vx_callIF, vx_runF follow va_callIF, va_runF of this kit) ===== -/
section
variable {p : Program} {l : Launch} {e : Env} {R : Room} {s : State} {m : MethodId} {args : Array Value} {below : List Frame} {meth : Method} {c : Code} {H : Heap} {locs : List Loc} {cells slots : Nat} {Q : State → Prop}
variable {mc ms : Nat} {free : Addr → Prop} {A0 A1 : Nat → Prop} {H0 : Heap} {a : Array Value} {pc : Nat} {ls : Array Slot} {st0 rest : List Value}
def vx_Run5 (p : Program) (l : Launch) (e : Env) (R : Room) (s : State) (m : MethodId) (args : Array Value) (below : List Frame) (meth : Method) (c : Code) (H : Heap) (locs : List Loc) (cells slots mc ms : Nat) (g : JFrame) (rest : List Value) (Qa : State → Outcome → State → Prop) (XC : String → State → State → Prop) (free : Addr → Prop) : Prop :=
  ∀ T : State, T.heap = H → Stand p l e R s m args below meth c T locs cells slots →
    (∃ (v : Option Value) (st₀ t T' : State) (L : List Loc), st₀.heap = H ∧ Stand p l e R s m args below meth c T' (locs ++ L) (cells + mc) (slots + ms) ∧ (∀ q ∈ L, free q.base) ∧ T'.heap = t.heap ∧ T'.vm = t.vm ∧ Qa st₀ (.returned v) t ∧
      Goes p e below T g T' { g with pc := g.pc + 5, stack := v.toList ++ rest }) ∨
    (∃ (q : Addr) (st₀ t T' : State) (L : List Loc) (E : String) (ce : Cell), st₀.heap = H ∧ Stand p l e R s m args below meth c T' (locs ++ L) (cells + mc) (slots + ms) ∧ (∀ z ∈ L, free z.base) ∧ T'.heap = t.heap ∧ T'.vm = t.vm ∧ XC E st₀ t ∧ t.heap[q]? = some ce ∧ ce.vm = .none ∧ s.vm.findClass E = some ce.cls ∧
      Steps p.tables e below (T.setTop g) ((T'.setTop { g with stack := rest }).pushFrame (.throwing q)))
theorem vx_callIF {T : State} (X : Stand p l e R s m args below meth c T locs cells slots) (hexec : p.tables.exec = Jvm.exec) {own C : String} {index count : Nat} {x y : MethodName} {bytes : ByteArray} {maxL : Nat} {ret : Option FieldType}
    (hown : s.vm.findClass own = some m.cls) (hlink : (Cond.methodLink own index x).before args s = true) (hdecl : (Cond.declares x).before args s = true) (hface : (Cond.interfaceMethod x.cls x.cls x.name x.desc).before args s = true)
    (hsel : (Cond.selects C x y).before args s = true) (hinst : (Cond.instanceMethod y).before args s = true) (hpub : (Cond.publicMethod y).before args s = true) (hunh : (Cond.unhidden C x.name x.desc).before args s = true)
    (hcast : (Cond.castable C x.cls).before args s = true) (hcode : (Cond.code y bytes maxL ret).before args s = true) (hx : x.cls ≠ "java/lang/invoke/MethodHandle" ∧ x.cls ≠ "java/lang/invoke/VarHandle")
    {W9 : Nat} {Pre : Pt → Array Value → Prop} {Post : Pt → Array Value → Option Value → Pt → Prop} {PostX : Pt → Array Value → Addr → Pt → Prop} (hK : vx_Back l R p e below s args y 5 W9 Pre Post PostX)
    {b : Addr} {cellB : Cell} {kB : Class} (hcell : T.heap[b]? = some cellB) (hobj : cellB.vm.isStatics = false) (hcls : s.vm.findClass C = some cellB.cls) (hkB : s.vm.classes[cellB.cls]? = some kB)
    {g : JFrame} (hg : g.method = m) (hsize : g.locals.size = c.maxLocals) {argsL rest : List Value} (hlen : ∀ sig, parseMethodDescriptor x.desc = some sig → argsL.length = sig.parameters.length)
    (hstack : g.stack = argsL.reverse ++ .ref b :: rest) (hW : 2 * g.monitorRoom + (rest.map fun v => v.category).sum ≤ W9) (hdg : decode c.code g.pc = .ok (.invokeinterface index count, 5))
    (hpre : ∀ vm₁, s.WarmedH vm₁ → Pre ⟨T.setVm vm₁, locs, cells, slots⟩ (Value.ref b :: argsL).toArray) :
    (∃ (v : Option Value) (vm₁ : Vm) (B : Pt), s.WarmedH vm₁ ∧ Stand p l e R s m args below meth c B.U B.locs B.cells B.slots ∧ Post ⟨T.setVm vm₁, locs, cells, slots⟩ (Value.ref b :: argsL).toArray v B ∧
      ∀ target, Steps p.tables e below (B.U.setTop { g with pc := g.pc + 5, stack := v.toList ++ rest }) target → Steps p.tables e below (T.setTop g) target) ∨
    (∃ (q : Addr) (vm₁ : Vm) (B : Pt), s.WarmedH vm₁ ∧ Stand p l e R s m args below meth c B.U B.locs B.cells B.slots ∧ PostX ⟨T.setVm vm₁, locs, cells, slots⟩ (Value.ref b :: argsL).toArray q B ∧
      Steps p.tables e below (T.setTop g) ((B.U.setTop { g with stack := rest }).pushFrame (.throwing q))) := by
  obtain ⟨r0, r, hn, hrm, hstR, hsigR⟩ := Cond.declares_spec hdecl
  obtain ⟨cL, kL, r1, hcL, hkL, hiL, hfoundL, hn1⟩ := Cond.interfaceMethod_spec hface
  cases hn.symm.trans hn1
  have hr0cls : r0.cls = cL := Option.some.inj ((findClass_of_methodNamed hn).symm.trans hcL)
  obtain ⟨hnameR, hdescR⟩ := name_of_methodNamed hn hrm
  obtain ⟨mk, methM, hnamed, hmethM, -, habM⟩ := Cond.instanceMethod_spec hinst
  obtain ⟨c2, r2, m2, q1, q2, q3, q4, -⟩ := Cond.selects_spec hsel
  cases hcls.symm.trans q1
  cases hfoundL.symm.trans q2
  cases hnamed.symm.trans q3
  have hselP : selectMethod e.platform s.vm cellB.cls r0 = .method mk := by rw [Launch.admits_selectMethod X.admits]; exact q4
  have hpubM : hasFlag methM.accessFlags Acc.public_ = true := Cond.publicMethod_spec hnamed hmethM hpub
  have hway : ((cellB.cls :: s.vm.superclasses cellB.cls).any fun k => (declaredIn s.vm r.name r.desc k).any fun (_, z) => z.isPrivate || z.isStatic) = false := by
    rw [hnameR, hdescR]; exact Cond.unhidden_spec hcls hunh
  obtain ⟨c3, t3, w1, w2, w3⟩ := Cond.castable_spec hcast
  cases hcls.symm.trans w1
  cases hcL.symm.trans w2
  obtain ⟨vm₁, X₁, hstep₁⟩ := X.invokeinterface hexec hown hlink hn hrm hstR (by rw [hr0cls]; exact hkL) hiL hx (a := b) (cell := cellB) (kcell := kB) hcell
    (fun z h => by rw [h] at hobj; cases hobj) hkB (by rw [hr0cls]; exact w3) hselP hmethM hway hpubM habM (g := g) hg (argsL := argsL) (rest := rest) (hlen _ hsigR) hstack hdg
  rcases hK m meth c ⟨T.setVm vm₁, locs, cells, slots⟩ { g with stack := rest } (.invokeinterface index count) mk (Value.ref b :: argsL).toArray X₁ hg hsize hdg hW (X₁.named hnamed) (hpre vm₁ X₁.warmed) with ⟨v, B, X', hpost, hsteps⟩ | ⟨q, B, X', hpost, hsteps⟩
  · exact Or.inl ⟨v, vm₁, B, X₁.warmed, X', hpost, fun target h => hstep₁ _ fun acts => by rw [doInvoke_state]; exact hsteps.trans h⟩
  · exact Or.inr ⟨q, vm₁, B, X₁.warmed, X', hpost, hstep₁ _ fun acts => by rw [doInvoke_state]; exact hsteps⟩
theorem vx_runF {x y : MethodName} {bytes cc : ByteArray} {maxL nL mc ms n index count : Nat} {ret : Option FieldType} {ws : List Cond} {rm : Room} {Pc : Array Value → State → Prop} {Qc : Array Value → State → Outcome → State → Prop} {XC : String → State → State → Prop} {free : Addr → Prop} {Ts : List Cond} {own C : String} {cC : ClassId} {b : Addr} {As rest : List Value} {g : JFrame}
    (hat : ClassAt s C cC) (S : CallFix p m c cc nL s args Ts own) (hM : vx_Met l y ws rm Pc Qc XC mc ms free) (cw : va_CI R s args own C index x y bytes maxL ret ws rm mc ms n) (hp : PreV s H C b Pc As)
    (hg : g.method = m) (hn : As.length = n) (hsize : g.locals.size = nL) (hstack : g.stack = As.reverse ++ .ref b :: rest) (hW : 2 * g.monitorRoom + (rest.map fun v => v.category).sum ≤ 8) (hdg : decode cc g.pc = .ok (.invokeinterface index count, 5)) (hf : cells + mc ≤ R.cells ∧ slots + ms ≤ R.slots) :
    vx_Run5 p l e R s m args below meth c H locs cells slots mc ms g rest (Qc (Value.ref b :: As).toArray) XC free := by
  obtain ⟨hrc, hrs, hfr, hlo, hws, hcw⟩ := cw.back
  have hini := cw.init
  have hK : vx_Back l R p e below s args y 5 8 (PreOf R mc ms Pc) (PostOf Qc mc ms free) (vx_Post XC mc ms free) := vx_back (bytes := bytes) (maxL := maxL) (ret := ret) hM hp.1 hrc hrs hfr hlo hws hcw (fun a' U hW => word_at hW (Or.inl (by first | rfl | simp [Cond.onTables, Cond.keeps, Cond.steady])) hini)
  obtain ⟨hx, hb, hml, ho, -⟩ := S
  obtain ⟨-, ⟨cellB, hcB, hoB, hclB⟩, hPc⟩ := hp
  obtain ⟨hfc, kB, hkB, -⟩ := hat
  cases hfc.symm.trans hclB
  intro T hT X
  rcases vx_callIF X hx (C := C) (bytes := bytes) (maxL := maxL) (ret := ret) ho cw.link cw.decl cw.face cw.sel cw.inst cw.pub cw.unh cw.cast cw.code cw.notMH hK (by rw [hT]; exact hcB) hoB hclB hkB hg (hsize.trans hml.symm) (argsL := As) (rest := rest) (fun sig h => hn.trans (cw.len sig h)) hstack hW (by rw [hb]; exact hdg)
    (fun vm₁ hW₁ => ⟨hf.1, hf.2, hPc (T.setVm vm₁) hT hW₁⟩) with ⟨v, vm₁, ⟨U', l2, c2, s2⟩, hW₁, X', ⟨g', mk, t, L, e1, e2, hq, h1, hL, h2, h3⟩, st⟩ | ⟨q, vm₁, ⟨U', l2, c2, s2⟩, hW₁, X', ⟨g', mk, t, L, E, ce, e1, e2, hq, hce, hcv, hcl, h1, hL, h2, h3⟩, st⟩
  · dsimp only [Pt.U, Pt.locs, Pt.cells, Pt.slots] at X' e1 e2 h1 h2 h3 st
    subst h1; subst h2; subst h3
    exact Or.inl ⟨v, (T.setVm vm₁).calling g' mk (Value.ref b :: As).toArray, t, U', L, hT, X', hL, e1, e2, hq, st⟩
  · dsimp only [Pt.U, Pt.locs, Pt.cells, Pt.slots] at X' e1 e2 h1 h2 h3 st hcl
    subst h1; subst h2; subst h3
    exact Or.inr ⟨q, (T.setVm vm₁).calling g' mk (Value.ref b :: As).toArray, t, U', L, E, ce, hT, X', hL, e1, e2, hq, hce, hcv, vx_cls hW₁ hcl, st⟩
theorem vx_callFv {S SX : Type} {post : S → Prop} {px : SX → Prop} {B : S → State → Prop} {BX : String → SX → State → Prop} {AX : Nat → Prop} (hr : vx_Run5 p l e R s m args below meth c H locs cells slots mc ms (F0 m pc ls st0) rest (va_Qv post B A1 a) (vx_X px BX AX) free) (hS : va_S A0 H0 H locs) (hA : ∀ q, q < H.size → A1 q → A0 q) (hf : ∀ q, free q → A0 q) (hAX : ∀ q, q < H.size → AX q → A0 q)
    (kx : ∀ (E : String) (ce : Cell) (q9 : Addr) (u : SX) (t : State) (H1 : Heap) (locs1 : List Loc), t.heap = H1 → s.vm.Alike t.vm → px u → BX E u t → H.size ≤ H1.size → (∀ q : Nat, q < H.size → ¬ AX q → H1[q]? = H[q]?) → va_S A0 H0 H1 locs1 → H1[q9]? = some ce → ce.vm = .none → s.vm.findClass E = some ce.cls → vx_W p l e R s m args below meth c H1 locs1 (cells + mc) (slots + ms) Q (F0 m pc ls rest) q9)
    (kk : ∀ (u : S) (t : State) (H1 : Heap) (locs1 : List Loc), t.heap = H1 → s.vm.Alike t.vm → post u → B u t → H.size ≤ H1.size → (∀ q : Nat, q < H.size → ¬ A1 q → H1[q]? = H[q]?) → va_S A0 H0 H1 locs1 → W p l e R s m args below meth c H1 locs1 (cells + mc) (slots + ms) Q (F0 m (pc + 5) ls (rest))) : W p l e R s m args below meth c H locs cells slots Q (F0 m pc ls st0) := by
  intro T hT X
  rcases hr T hT X with ⟨v, st₀, t, T', L, h0, X', hL, e1, e2, ⟨⟨u, hv, hp, hb⟩, hF⟩, st⟩ | ⟨q, st₀, t, T', L, E, ce, h0, X', hL, e1, e2, ⟨u, hp, hb, hF⟩, hce, hcv, hcl, st⟩
  · cases hv
    obtain ⟨k1, k2, k3⟩ := vx_keep h0 e1 hS hA hf hL hF
    obtain ⟨t2, a1, b1⟩ := kk u t T'.heap (locs ++ L) e1.symm (by rw [← e2]; exact X'.warmed.alike) hp hb k1 k2 k3 T' rfl X'
    exact ⟨t2, st t2 a1, b1⟩
  · obtain ⟨k1, k2, k3⟩ := vx_keep h0 e1 hS hAX hf hL hF
    obtain ⟨t2, a1, b1⟩ := kx E ce q u t T'.heap (locs ++ L) e1.symm (by rw [← e2]; exact X'.warmed.alike) hp hb k1 k2 k3 (by rw [e1]; exact hce) hcv hcl T' rfl X'
    exact ⟨t2, st.trans a1, b1⟩
theorem vx_callFi {S SX : Type} {post : Int32 → S → Prop} {px : SX → Prop} {B : S → State → Prop} {BX : String → SX → State → Prop} {AX : Nat → Prop} (hr : vx_Run5 p l e R s m args below meth c H locs cells slots mc ms (F0 m pc ls st0) rest (va_Qi post B A1 a) (vx_X px BX AX) free) (hS : va_S A0 H0 H locs) (hA : ∀ q, q < H.size → A1 q → A0 q) (hf : ∀ q, free q → A0 q) (hAX : ∀ q, q < H.size → AX q → A0 q)
    (kx : ∀ (E : String) (ce : Cell) (q9 : Addr) (u : SX) (t : State) (H1 : Heap) (locs1 : List Loc), t.heap = H1 → s.vm.Alike t.vm → px u → BX E u t → H.size ≤ H1.size → (∀ q : Nat, q < H.size → ¬ AX q → H1[q]? = H[q]?) → va_S A0 H0 H1 locs1 → H1[q9]? = some ce → ce.vm = .none → s.vm.findClass E = some ce.cls → vx_W p l e R s m args below meth c H1 locs1 (cells + mc) (slots + ms) Q (F0 m pc ls rest) q9)
    (kk : ∀ (r : Int32) (u : S) (t : State) (H1 : Heap) (locs1 : List Loc), t.heap = H1 → s.vm.Alike t.vm → post r u → B u t → H.size ≤ H1.size → (∀ q : Nat, q < H.size → ¬ A1 q → H1[q]? = H[q]?) → va_S A0 H0 H1 locs1 → W p l e R s m args below meth c H1 locs1 (cells + mc) (slots + ms) Q (F0 m (pc + 5) ls (.int r :: rest))) : W p l e R s m args below meth c H locs cells slots Q (F0 m pc ls st0) := by
  intro T hT X
  rcases hr T hT X with ⟨v, st₀, t, T', L, h0, X', hL, e1, e2, ⟨⟨r, u, hv, hp, hb⟩, hF⟩, st⟩ | ⟨q, st₀, t, T', L, E, ce, h0, X', hL, e1, e2, ⟨u, hp, hb, hF⟩, hce, hcv, hcl, st⟩
  · cases hv
    obtain ⟨k1, k2, k3⟩ := vx_keep h0 e1 hS hA hf hL hF
    obtain ⟨t2, a1, b1⟩ := kk r u t T'.heap (locs ++ L) e1.symm (by rw [← e2]; exact X'.warmed.alike) hp hb k1 k2 k3 T' rfl X'
    exact ⟨t2, st t2 a1, b1⟩
  · obtain ⟨k1, k2, k3⟩ := vx_keep h0 e1 hS hAX hf hL hF
    obtain ⟨t2, a1, b1⟩ := kx E ce q u t T'.heap (locs ++ L) e1.symm (by rw [← e2]; exact X'.warmed.alike) hp hb k1 k2 k3 (by rw [e1]; exact hce) hcv hcl T' rfl X'
    exact ⟨t2, st.trans a1, b1⟩
theorem vx_callFl {S SX : Type} {post : Int64 → S → Prop} {px : SX → Prop} {B : S → State → Prop} {BX : String → SX → State → Prop} {AX : Nat → Prop} (hr : vx_Run5 p l e R s m args below meth c H locs cells slots mc ms (F0 m pc ls st0) rest (va_Ql post B A1 a) (vx_X px BX AX) free) (hS : va_S A0 H0 H locs) (hA : ∀ q, q < H.size → A1 q → A0 q) (hf : ∀ q, free q → A0 q) (hAX : ∀ q, q < H.size → AX q → A0 q)
    (kx : ∀ (E : String) (ce : Cell) (q9 : Addr) (u : SX) (t : State) (H1 : Heap) (locs1 : List Loc), t.heap = H1 → s.vm.Alike t.vm → px u → BX E u t → H.size ≤ H1.size → (∀ q : Nat, q < H.size → ¬ AX q → H1[q]? = H[q]?) → va_S A0 H0 H1 locs1 → H1[q9]? = some ce → ce.vm = .none → s.vm.findClass E = some ce.cls → vx_W p l e R s m args below meth c H1 locs1 (cells + mc) (slots + ms) Q (F0 m pc ls rest) q9)
    (kk : ∀ (r : Int64) (u : S) (t : State) (H1 : Heap) (locs1 : List Loc), t.heap = H1 → s.vm.Alike t.vm → post r u → B u t → H.size ≤ H1.size → (∀ q : Nat, q < H.size → ¬ A1 q → H1[q]? = H[q]?) → va_S A0 H0 H1 locs1 → W p l e R s m args below meth c H1 locs1 (cells + mc) (slots + ms) Q (F0 m (pc + 5) ls (.long r :: rest))) : W p l e R s m args below meth c H locs cells slots Q (F0 m pc ls st0) := by
  intro T hT X
  rcases hr T hT X with ⟨v, st₀, t, T', L, h0, X', hL, e1, e2, ⟨⟨r, u, hv, hp, hb⟩, hF⟩, st⟩ | ⟨q, st₀, t, T', L, E, ce, h0, X', hL, e1, e2, ⟨u, hp, hb, hF⟩, hce, hcv, hcl, st⟩
  · cases hv
    obtain ⟨k1, k2, k3⟩ := vx_keep h0 e1 hS hA hf hL hF
    obtain ⟨t2, a1, b1⟩ := kk r u t T'.heap (locs ++ L) e1.symm (by rw [← e2]; exact X'.warmed.alike) hp hb k1 k2 k3 T' rfl X'
    exact ⟨t2, st t2 a1, b1⟩
  · obtain ⟨k1, k2, k3⟩ := vx_keep h0 e1 hS hAX hf hL hF
    obtain ⟨t2, a1, b1⟩ := kx E ce q u t T'.heap (locs ++ L) e1.symm (by rw [← e2]; exact X'.warmed.alike) hp hb k1 k2 k3 (by rw [e1]; exact hce) hcv hcl T' rfl X'
    exact ⟨t2, st.trans a1, b1⟩
theorem vx_callFf {S SX : Type} {post : UInt32 → S → Prop} {px : SX → Prop} {B : S → State → Prop} {BX : String → SX → State → Prop} {AX : Nat → Prop} (hr : vx_Run5 p l e R s m args below meth c H locs cells slots mc ms (F0 m pc ls st0) rest (va_Qf post B A1 a) (vx_X px BX AX) free) (hS : va_S A0 H0 H locs) (hA : ∀ q, q < H.size → A1 q → A0 q) (hf : ∀ q, free q → A0 q) (hAX : ∀ q, q < H.size → AX q → A0 q)
    (kx : ∀ (E : String) (ce : Cell) (q9 : Addr) (u : SX) (t : State) (H1 : Heap) (locs1 : List Loc), t.heap = H1 → s.vm.Alike t.vm → px u → BX E u t → H.size ≤ H1.size → (∀ q : Nat, q < H.size → ¬ AX q → H1[q]? = H[q]?) → va_S A0 H0 H1 locs1 → H1[q9]? = some ce → ce.vm = .none → s.vm.findClass E = some ce.cls → vx_W p l e R s m args below meth c H1 locs1 (cells + mc) (slots + ms) Q (F0 m pc ls rest) q9)
    (kk : ∀ (r : UInt32) (u : S) (t : State) (H1 : Heap) (locs1 : List Loc), t.heap = H1 → s.vm.Alike t.vm → post r u → B u t → H.size ≤ H1.size → (∀ q : Nat, q < H.size → ¬ A1 q → H1[q]? = H[q]?) → va_S A0 H0 H1 locs1 → W p l e R s m args below meth c H1 locs1 (cells + mc) (slots + ms) Q (F0 m (pc + 5) ls (.float r :: rest))) : W p l e R s m args below meth c H locs cells slots Q (F0 m pc ls st0) := by
  intro T hT X
  rcases hr T hT X with ⟨v, st₀, t, T', L, h0, X', hL, e1, e2, ⟨⟨r, u, hv, hp, hb⟩, hF⟩, st⟩ | ⟨q, st₀, t, T', L, E, ce, h0, X', hL, e1, e2, ⟨u, hp, hb, hF⟩, hce, hcv, hcl, st⟩
  · cases hv
    obtain ⟨k1, k2, k3⟩ := vx_keep h0 e1 hS hA hf hL hF
    obtain ⟨t2, a1, b1⟩ := kk r u t T'.heap (locs ++ L) e1.symm (by rw [← e2]; exact X'.warmed.alike) hp hb k1 k2 k3 T' rfl X'
    exact ⟨t2, st t2 a1, b1⟩
  · obtain ⟨k1, k2, k3⟩ := vx_keep h0 e1 hS hAX hf hL hF
    obtain ⟨t2, a1, b1⟩ := kx E ce q u t T'.heap (locs ++ L) e1.symm (by rw [← e2]; exact X'.warmed.alike) hp hb k1 k2 k3 (by rw [e1]; exact hce) hcv hcl T' rfl X'
    exact ⟨t2, st.trans a1, b1⟩
theorem vx_callFd {S SX : Type} {post : UInt64 → S → Prop} {px : SX → Prop} {B : S → State → Prop} {BX : String → SX → State → Prop} {AX : Nat → Prop} (hr : vx_Run5 p l e R s m args below meth c H locs cells slots mc ms (F0 m pc ls st0) rest (va_Qd post B A1 a) (vx_X px BX AX) free) (hS : va_S A0 H0 H locs) (hA : ∀ q, q < H.size → A1 q → A0 q) (hf : ∀ q, free q → A0 q) (hAX : ∀ q, q < H.size → AX q → A0 q)
    (kx : ∀ (E : String) (ce : Cell) (q9 : Addr) (u : SX) (t : State) (H1 : Heap) (locs1 : List Loc), t.heap = H1 → s.vm.Alike t.vm → px u → BX E u t → H.size ≤ H1.size → (∀ q : Nat, q < H.size → ¬ AX q → H1[q]? = H[q]?) → va_S A0 H0 H1 locs1 → H1[q9]? = some ce → ce.vm = .none → s.vm.findClass E = some ce.cls → vx_W p l e R s m args below meth c H1 locs1 (cells + mc) (slots + ms) Q (F0 m pc ls rest) q9)
    (kk : ∀ (r : UInt64) (u : S) (t : State) (H1 : Heap) (locs1 : List Loc), t.heap = H1 → s.vm.Alike t.vm → post r u → B u t → H.size ≤ H1.size → (∀ q : Nat, q < H.size → ¬ A1 q → H1[q]? = H[q]?) → va_S A0 H0 H1 locs1 → W p l e R s m args below meth c H1 locs1 (cells + mc) (slots + ms) Q (F0 m (pc + 5) ls (.double r :: rest))) : W p l e R s m args below meth c H locs cells slots Q (F0 m pc ls st0) := by
  intro T hT X
  rcases hr T hT X with ⟨v, st₀, t, T', L, h0, X', hL, e1, e2, ⟨⟨r, u, hv, hp, hb⟩, hF⟩, st⟩ | ⟨q, st₀, t, T', L, E, ce, h0, X', hL, e1, e2, ⟨u, hp, hb, hF⟩, hce, hcv, hcl, st⟩
  · cases hv
    obtain ⟨k1, k2, k3⟩ := vx_keep h0 e1 hS hA hf hL hF
    obtain ⟨t2, a1, b1⟩ := kk r u t T'.heap (locs ++ L) e1.symm (by rw [← e2]; exact X'.warmed.alike) hp hb k1 k2 k3 T' rfl X'
    exact ⟨t2, st t2 a1, b1⟩
  · obtain ⟨k1, k2, k3⟩ := vx_keep h0 e1 hS hAX hf hL hF
    obtain ⟨t2, a1, b1⟩ := kx E ce q u t T'.heap (locs ++ L) e1.symm (by rw [← e2]; exact X'.warmed.alike) hp hb k1 k2 k3 (by rw [e1]; exact hce) hcv hcl T' rfl X'
    exact ⟨t2, st.trans a1, b1⟩
end
/-! ===== END ===== -/
/-! ===== BEGIN by an interface, a method with a table of its own that may throw (follows va_callIFW, va_runFW) ===== -/
section
variable {p : Program} {l : Launch} {e : Env} {R : Room} {s : State} {m : MethodId} {args : Array Value} {below : List Frame} {meth : Method} {c : Code} {H : Heap} {locs : List Loc} {cells slots : Nat}
theorem vx_callIFW {T : State} (X : Stand p l e R s m args below meth c T locs cells slots) (hexec : p.tables.exec = Jvm.exec) {own C : String} {index count : Nat} {x y : MethodName} {bytes : ByteArray} {maxL : Nat} {ret : Option FieldType} {hh : List (Nat × Nat × Nat × Nat)}
    (hown : s.vm.findClass own = some m.cls) (hlink : (Cond.methodLink own index x).before args s = true) (hdecl : (Cond.declares x).before args s = true) (hface : (Cond.interfaceMethod x.cls x.cls x.name x.desc).before args s = true)
    (hsel : (Cond.selects C x y).before args s = true) (hinst : (Cond.instanceMethod y).before args s = true) (hpub : (Cond.publicMethod y).before args s = true) (hunh : (Cond.unhidden C x.name x.desc).before args s = true)
    (hcast : (Cond.castable C x.cls).before args s = true) (hcode : (Cond.codeWith y bytes maxL ret hh).before args s = true) (hx : x.cls ≠ "java/lang/invoke/MethodHandle" ∧ x.cls ≠ "java/lang/invoke/VarHandle")
    {W : Nat} {Pre : Pt → Array Value → Prop} {Post : Pt → Array Value → Option Value → Pt → Prop} {PostX : Pt → Array Value → Addr → Pt → Prop} (hK : vx_Back l R p e below s args y 5 W Pre Post PostX)
    {b : Addr} {cellB : Cell} {kB : Class} (hcell : T.heap[b]? = some cellB) (hobj : cellB.vm.isStatics = false) (hcls : s.vm.findClass C = some cellB.cls) (hkB : s.vm.classes[cellB.cls]? = some kB)
    {g : JFrame} (hg : g.method = m) (hsize : g.locals.size = c.maxLocals) {argsL rest : List Value} (hlen : ∀ sig, parseMethodDescriptor x.desc = some sig → argsL.length = sig.parameters.length)
    (hstack : g.stack = argsL.reverse ++ .ref b :: rest) (hW : 2 * g.monitorRoom + (rest.map fun v => v.category).sum ≤ W) (hdg : decode c.code g.pc = .ok (.invokeinterface index count, 5))
    (hpre : ∀ vm₁, s.WarmedH vm₁ → Pre ⟨T.setVm vm₁, locs, cells, slots⟩ (Value.ref b :: argsL).toArray) :
    (∃ (v : Option Value) (vm₁ : Vm) (B : Pt), s.WarmedH vm₁ ∧ Stand p l e R s m args below meth c B.U B.locs B.cells B.slots ∧ Post ⟨T.setVm vm₁, locs, cells, slots⟩ (Value.ref b :: argsL).toArray v B ∧
      ∀ target, Steps p.tables e below (B.U.setTop { g with pc := g.pc + 5, stack := v.toList ++ rest }) target → Steps p.tables e below (T.setTop g) target) ∨
    (∃ (q : Addr) (vm₁ : Vm) (B : Pt), s.WarmedH vm₁ ∧ Stand p l e R s m args below meth c B.U B.locs B.cells B.slots ∧ PostX ⟨T.setVm vm₁, locs, cells, slots⟩ (Value.ref b :: argsL).toArray q B ∧
      Steps p.tables e below (T.setTop g) ((B.U.setTop { g with stack := rest }).pushFrame (.throwing q))) := by
  obtain ⟨r0, r, hn, hrm, hstR, hsigR⟩ := Cond.declares_spec hdecl
  obtain ⟨cL, kL, r1, hcL, hkL, hiL, hfoundL, hn1⟩ := Cond.interfaceMethod_spec hface
  cases hn.symm.trans hn1
  have hr0cls : r0.cls = cL := Option.some.inj ((findClass_of_methodNamed hn).symm.trans hcL)
  obtain ⟨hnameR, hdescR⟩ := name_of_methodNamed hn hrm
  obtain ⟨mk, methM, hnamed, hmethM, -, habM⟩ := Cond.instanceMethod_spec hinst
  obtain ⟨c2, r2, m2, q1, q2, q3, q4, -⟩ := Cond.selects_spec hsel
  cases hcls.symm.trans q1
  cases hfoundL.symm.trans q2
  cases hnamed.symm.trans q3
  have hselP : selectMethod e.platform s.vm cellB.cls r0 = .method mk := by rw [Launch.admits_selectMethod X.admits]; exact q4
  have hpubM : hasFlag methM.accessFlags Acc.public_ = true := Cond.publicMethod_spec hnamed hmethM hpub
  have hway : ((cellB.cls :: s.vm.superclasses cellB.cls).any fun k => (declaredIn s.vm r.name r.desc k).any fun (_, z) => z.isPrivate || z.isStatic) = false := by
    rw [hnameR, hdescR]; exact Cond.unhidden_spec hcls hunh
  obtain ⟨c3, t3, w1, w2, w3⟩ := Cond.castable_spec hcast
  cases hcls.symm.trans w1
  cases hcL.symm.trans w2
  obtain ⟨vm₁, X₁, hstep₁⟩ := X.invokeinterface hexec hown hlink hn hrm hstR (by rw [hr0cls]; exact hkL) hiL hx (a := b) (cell := cellB) (kcell := kB) hcell
    (fun z h => by rw [h] at hobj; cases hobj) hkB (by rw [hr0cls]; exact w3) hselP hmethM hway hpubM habM (g := g) hg (argsL := argsL) (rest := rest) (hlen _ hsigR) hstack hdg
  rcases hK m meth c ⟨T.setVm vm₁, locs, cells, slots⟩ { g with stack := rest } (.invokeinterface index count) mk (Value.ref b :: argsL).toArray X₁ hg hsize hdg hW (X₁.named hnamed) (hpre vm₁ X₁.warmed) with ⟨v, B, X', hpost, hsteps⟩ | ⟨q, B, X', hpost, hsteps⟩
  · exact Or.inl ⟨v, vm₁, B, X₁.warmed, X', hpost, fun target h => hstep₁ _ fun acts => by rw [doInvoke_state]; exact hsteps.trans h⟩
  · exact Or.inr ⟨q, vm₁, B, X₁.warmed, X', hpost, hstep₁ _ fun acts => by rw [doInvoke_state]; exact hsteps⟩
theorem vx_runFW {x y : MethodName} {bytes cc : ByteArray} {maxL nL mc ms n index count : Nat} {ret : Option FieldType} {hh : List (Nat × Nat × Nat × Nat)} {ws : List Cond} {rm : Room} {Pc : Array Value → State → Prop} {Qc : Array Value → State → Outcome → State → Prop} {XC : String → State → State → Prop} {free : Addr → Prop} {Ts : List Cond} {own C : String} {cC : ClassId} {b : Addr} {As rest : List Value} {g : JFrame}
    (hat : ClassAt s C cC) (S : CallFix p m c cc nL s args Ts own) (hM : vx_Met l y ws rm Pc Qc XC mc ms free) (cw : va_CIW R s args own C index x y bytes maxL ret hh ws rm mc ms n) (hp : PreV s H C b Pc As)
    (hg : g.method = m) (hn : As.length = n) (hsize : g.locals.size = nL) (hstack : g.stack = As.reverse ++ .ref b :: rest) (hW : 2 * g.monitorRoom + (rest.map fun v => v.category).sum ≤ 8) (hdg : decode cc g.pc = .ok (.invokeinterface index count, 5)) (hf : cells + mc ≤ R.cells ∧ slots + ms ≤ R.slots) :
    vx_Run5 p l e R s m args below meth c H locs cells slots mc ms g rest (Qc (Value.ref b :: As).toArray) XC free := by
  obtain ⟨hrc, hrs, hfr, hlo, hws, hcw⟩ := cw.back
  have hini := cw.init
  have hK : vx_Back l R p e below s args y 5 8 (PreOf R mc ms Pc) (PostOf Qc mc ms free) (vx_Post XC mc ms free) := vx_backW (hh := hh) (bytes := bytes) (maxL := maxL) (ret := ret) hM hp.1 hrc hrs hfr hlo hws hcw (fun a' U hW => word_at hW (Or.inl (by first | rfl | simp [Cond.onTables, Cond.keeps, Cond.steady])) hini)
  obtain ⟨hx, hb, hml, ho, -⟩ := S
  obtain ⟨-, ⟨cellB, hcB, hoB, hclB⟩, hPc⟩ := hp
  obtain ⟨hfc, kB, hkB, -⟩ := hat
  cases hfc.symm.trans hclB
  intro T hT X
  rcases vx_callIFW X hx (C := C) (hh := hh) (bytes := bytes) (maxL := maxL) (ret := ret) ho cw.link cw.decl cw.face cw.sel cw.inst cw.pub cw.unh cw.cast cw.code cw.notMH hK (by rw [hT]; exact hcB) hoB hclB hkB hg (hsize.trans hml.symm) (argsL := As) (rest := rest) (fun sig h => hn.trans (cw.len sig h)) hstack hW (by rw [hb]; exact hdg)
    (fun vm₁ hW₁ => ⟨hf.1, hf.2, hPc (T.setVm vm₁) hT hW₁⟩) with ⟨v, vm₁, ⟨U', l2, c2, s2⟩, hW₁, X', ⟨g', mk, t, L, e1, e2, hq, h1, hL, h2, h3⟩, st⟩ | ⟨q, vm₁, ⟨U', l2, c2, s2⟩, hW₁, X', ⟨g', mk, t, L, E, ce, e1, e2, hq, hce, hcv, hcl, h1, hL, h2, h3⟩, st⟩
  · dsimp only [Pt.U, Pt.locs, Pt.cells, Pt.slots] at X' e1 e2 h1 h2 h3 st
    subst h1; subst h2; subst h3
    exact Or.inl ⟨v, (T.setVm vm₁).calling g' mk (Value.ref b :: As).toArray, t, U', L, hT, X', hL, e1, e2, hq, st⟩
  · dsimp only [Pt.U, Pt.locs, Pt.cells, Pt.slots] at X' e1 e2 h1 h2 h3 st hcl
    subst h1; subst h2; subst h3
    exact Or.inr ⟨q, (T.setVm vm₁).calling g' mk (Value.ref b :: As).toArray, t, U', L, E, ce, hT, X', hL, e1, e2, hq, hce, hcv, vx_cls hW₁ hcl, st⟩
end
/-! ===== END ===== -/
/-! ===== BEGIN .. of methods that hand back an object of the pool ===== -/
section
variable {p : Program} {l : Launch} {e : Env} {R : Room} {s : State} {m : MethodId} {args : Array Value} {below : List Frame} {meth : Method} {c : Code} {H : Heap} {locs : List Loc} {cells slots : Nat} {Q : State → Prop}
variable {mc ms : Nat} {free : Addr → Prop} {A0 A1 : Nat → Prop} {H0 : Heap} {a : Array Value} {pc : Nat} {ls : Array Slot} {st0 rest : List Value}
theorem vx_callq {S SX : Type} {post : Option Nat → S → Prop} {px : SX → Prop} {B : S → State → Prop} {BX : String → SX → State → Prop} {AX : Nat → Prop} (hr : vx_Run p l e R s m args below meth c H locs cells slots mc ms (F0 m pc ls st0) rest (va_Qq post B A1 a) (vx_X px BX AX) free) (hS : va_S A0 H0 H locs) (hA : ∀ q, q < H.size → A1 q → A0 q) (hf : ∀ q, free q → A0 q) (hAX : ∀ q, q < H.size → AX q → A0 q)
    (kx : ∀ (E : String) (ce : Cell) (q9 : Addr) (u : SX) (t : State) (H1 : Heap) (locs1 : List Loc), t.heap = H1 → s.vm.Alike t.vm → px u → BX E u t → H.size ≤ H1.size → (∀ q : Nat, q < H.size → ¬ AX q → H1[q]? = H[q]?) → va_S A0 H0 H1 locs1 → H1[q9]? = some ce → ce.vm = .none → s.vm.findClass E = some ce.cls → vx_W p l e R s m args below meth c H1 locs1 (cells + mc) (slots + ms) Q (F0 m pc ls rest) q9)
    (kk : ∀ (r : Option Nat) (u : S) (t : State) (H1 : Heap) (locs1 : List Loc), t.heap = H1 → s.vm.Alike t.vm → post r u → B u t → H.size ≤ H1.size → (∀ q : Nat, q < H.size → ¬ A1 q → H1[q]? = H[q]?) → va_S A0 H0 H1 locs1 → W p l e R s m args below meth c H1 locs1 (cells + mc) (slots + ms) Q (F0 m (pc + 3) ls (va_rf r :: rest))) : W p l e R s m args below meth c H locs cells slots Q (F0 m pc ls st0) := by
  intro T hT X
  rcases hr T hT X with ⟨v, st₀, t, T', L, h0, X', hL, e1, e2, ⟨⟨r, u, hv, hp, hb⟩, hF⟩, st⟩ | ⟨q, st₀, t, T', L, E, ce, h0, X', hL, e1, e2, ⟨u, hp, hb, hF⟩, hce, hcv, hcl, st⟩
  · cases hv
    obtain ⟨k1, k2, k3⟩ := vx_keep h0 e1 hS hA hf hL hF
    obtain ⟨t2, a1, b1⟩ := kk r u t T'.heap (locs ++ L) e1.symm (by rw [← e2]; exact X'.warmed.alike) hp hb k1 k2 k3 T' rfl X'
    exact ⟨t2, st t2 a1, b1⟩
  · obtain ⟨k1, k2, k3⟩ := vx_keep h0 e1 hS hAX hf hL hF
    obtain ⟨t2, a1, b1⟩ := kx E ce q u t T'.heap (locs ++ L) e1.symm (by rw [← e2]; exact X'.warmed.alike) hp hb k1 k2 k3 (by rw [e1]; exact hce) hcv hcl T' rfl X'
    exact ⟨t2, st.trans a1, b1⟩
end
/-! ===== END ===== -/
/-! ===== BEGIN .. a constant ===== -/
section
variable {p : Program} {l : Launch} {e : Env} {R : Room} {s : State} {m : MethodId} {args : Array Value} {below : List Frame} {meth : Method} {c : Code} {H : Heap} {locs : List Loc} {cells slots : Nat} {Q : State → Prop}
variable {mc ms : Nat} {free : Addr → Prop} {A0 A1 : Nat → Prop} {H0 : Heap} {a : Array Value} {pc : Nat} {ls : Array Slot} {st0 rest : List Value}
theorem vx_calle {ad : Nat → Nat} {S SX : Type} {post : Option Nat → S → Prop} {px : SX → Prop} {B : S → State → Prop} {BX : String → SX → State → Prop} {AX : Nat → Prop} (hr : vx_Run p l e R s m args below meth c H locs cells slots mc ms (F0 m pc ls st0) rest (va_Qe ad post B A1 a) (vx_X px BX AX) free) (hS : va_S A0 H0 H locs) (hA : ∀ q, q < H.size → A1 q → A0 q) (hf : ∀ q, free q → A0 q) (hAX : ∀ q, q < H.size → AX q → A0 q)
    (kx : ∀ (E : String) (ce : Cell) (q9 : Addr) (u : SX) (t : State) (H1 : Heap) (locs1 : List Loc), t.heap = H1 → s.vm.Alike t.vm → px u → BX E u t → H.size ≤ H1.size → (∀ q : Nat, q < H.size → ¬ AX q → H1[q]? = H[q]?) → va_S A0 H0 H1 locs1 → H1[q9]? = some ce → ce.vm = .none → s.vm.findClass E = some ce.cls → vx_W p l e R s m args below meth c H1 locs1 (cells + mc) (slots + ms) Q (F0 m pc ls rest) q9)
    (kk : ∀ (r : Option Nat) (u : S) (t : State) (H1 : Heap) (locs1 : List Loc), t.heap = H1 → s.vm.Alike t.vm → post r u → B u t → H.size ≤ H1.size → (∀ q : Nat, q < H.size → ¬ A1 q → H1[q]? = H[q]?) → va_S A0 H0 H1 locs1 → W p l e R s m args below meth c H1 locs1 (cells + mc) (slots + ms) Q (F0 m (pc + 3) ls (va_re ad r :: rest))) : W p l e R s m args below meth c H locs cells slots Q (F0 m pc ls st0) := by
  intro T hT X
  rcases hr T hT X with ⟨v, st₀, t, T', L, h0, X', hL, e1, e2, ⟨⟨r, u, hv, hp, hb⟩, hF⟩, st⟩ | ⟨q, st₀, t, T', L, E, ce, h0, X', hL, e1, e2, ⟨u, hp, hb, hF⟩, hce, hcv, hcl, st⟩
  · cases hv
    obtain ⟨k1, k2, k3⟩ := vx_keep h0 e1 hS hA hf hL hF
    obtain ⟨t2, a1, b1⟩ := kk r u t T'.heap (locs ++ L) e1.symm (by rw [← e2]; exact X'.warmed.alike) hp hb k1 k2 k3 T' rfl X'
    exact ⟨t2, st t2 a1, b1⟩
  · obtain ⟨k1, k2, k3⟩ := vx_keep h0 e1 hS hAX hf hL hF
    obtain ⟨t2, a1, b1⟩ := kx E ce q u t T'.heap (locs ++ L) e1.symm (by rw [← e2]; exact X'.warmed.alike) hp hb k1 k2 k3 (by rw [e1]; exact hce) hcv hcl T' rfl X'
    exact ⟨t2, st.trans a1, b1⟩
end
/-! ===== END ===== -/
/-! ===== BEGIN .. by an interface, an object ===== -/
section
variable {p : Program} {l : Launch} {e : Env} {R : Room} {s : State} {m : MethodId} {args : Array Value} {below : List Frame} {meth : Method} {c : Code} {H : Heap} {locs : List Loc} {cells slots : Nat} {Q : State → Prop}
variable {mc ms : Nat} {free : Addr → Prop} {A0 A1 : Nat → Prop} {H0 : Heap} {a : Array Value} {pc : Nat} {ls : Array Slot} {st0 rest : List Value}
theorem vx_callFq {S SX : Type} {post : Option Nat → S → Prop} {px : SX → Prop} {B : S → State → Prop} {BX : String → SX → State → Prop} {AX : Nat → Prop} (hr : vx_Run5 p l e R s m args below meth c H locs cells slots mc ms (F0 m pc ls st0) rest (va_Qq post B A1 a) (vx_X px BX AX) free) (hS : va_S A0 H0 H locs) (hA : ∀ q, q < H.size → A1 q → A0 q) (hf : ∀ q, free q → A0 q) (hAX : ∀ q, q < H.size → AX q → A0 q)
    (kx : ∀ (E : String) (ce : Cell) (q9 : Addr) (u : SX) (t : State) (H1 : Heap) (locs1 : List Loc), t.heap = H1 → s.vm.Alike t.vm → px u → BX E u t → H.size ≤ H1.size → (∀ q : Nat, q < H.size → ¬ AX q → H1[q]? = H[q]?) → va_S A0 H0 H1 locs1 → H1[q9]? = some ce → ce.vm = .none → s.vm.findClass E = some ce.cls → vx_W p l e R s m args below meth c H1 locs1 (cells + mc) (slots + ms) Q (F0 m pc ls rest) q9)
    (kk : ∀ (r : Option Nat) (u : S) (t : State) (H1 : Heap) (locs1 : List Loc), t.heap = H1 → s.vm.Alike t.vm → post r u → B u t → H.size ≤ H1.size → (∀ q : Nat, q < H.size → ¬ A1 q → H1[q]? = H[q]?) → va_S A0 H0 H1 locs1 → W p l e R s m args below meth c H1 locs1 (cells + mc) (slots + ms) Q (F0 m (pc + 5) ls (va_rf r :: rest))) : W p l e R s m args below meth c H locs cells slots Q (F0 m pc ls st0) := by
  intro T hT X
  rcases hr T hT X with ⟨v, st₀, t, T', L, h0, X', hL, e1, e2, ⟨⟨r, u, hv, hp, hb⟩, hF⟩, st⟩ | ⟨q, st₀, t, T', L, E, ce, h0, X', hL, e1, e2, ⟨u, hp, hb, hF⟩, hce, hcv, hcl, st⟩
  · cases hv
    obtain ⟨k1, k2, k3⟩ := vx_keep h0 e1 hS hA hf hL hF
    obtain ⟨t2, a1, b1⟩ := kk r u t T'.heap (locs ++ L) e1.symm (by rw [← e2]; exact X'.warmed.alike) hp hb k1 k2 k3 T' rfl X'
    exact ⟨t2, st t2 a1, b1⟩
  · obtain ⟨k1, k2, k3⟩ := vx_keep h0 e1 hS hAX hf hL hF
    obtain ⟨t2, a1, b1⟩ := kx E ce q u t T'.heap (locs ++ L) e1.symm (by rw [← e2]; exact X'.warmed.alike) hp hb k1 k2 k3 (by rw [e1]; exact hce) hcv hcl T' rfl X'
    exact ⟨t2, st.trans a1, b1⟩
end
/-! ===== END ===== -/
/-! ===== BEGIN .. by an interface, a constant ===== -/
section
variable {p : Program} {l : Launch} {e : Env} {R : Room} {s : State} {m : MethodId} {args : Array Value} {below : List Frame} {meth : Method} {c : Code} {H : Heap} {locs : List Loc} {cells slots : Nat} {Q : State → Prop}
variable {mc ms : Nat} {free : Addr → Prop} {A0 A1 : Nat → Prop} {H0 : Heap} {a : Array Value} {pc : Nat} {ls : Array Slot} {st0 rest : List Value}
theorem vx_callFe {ad : Nat → Nat} {S SX : Type} {post : Option Nat → S → Prop} {px : SX → Prop} {B : S → State → Prop} {BX : String → SX → State → Prop} {AX : Nat → Prop} (hr : vx_Run5 p l e R s m args below meth c H locs cells slots mc ms (F0 m pc ls st0) rest (va_Qe ad post B A1 a) (vx_X px BX AX) free) (hS : va_S A0 H0 H locs) (hA : ∀ q, q < H.size → A1 q → A0 q) (hf : ∀ q, free q → A0 q) (hAX : ∀ q, q < H.size → AX q → A0 q)
    (kx : ∀ (E : String) (ce : Cell) (q9 : Addr) (u : SX) (t : State) (H1 : Heap) (locs1 : List Loc), t.heap = H1 → s.vm.Alike t.vm → px u → BX E u t → H.size ≤ H1.size → (∀ q : Nat, q < H.size → ¬ AX q → H1[q]? = H[q]?) → va_S A0 H0 H1 locs1 → H1[q9]? = some ce → ce.vm = .none → s.vm.findClass E = some ce.cls → vx_W p l e R s m args below meth c H1 locs1 (cells + mc) (slots + ms) Q (F0 m pc ls rest) q9)
    (kk : ∀ (r : Option Nat) (u : S) (t : State) (H1 : Heap) (locs1 : List Loc), t.heap = H1 → s.vm.Alike t.vm → post r u → B u t → H.size ≤ H1.size → (∀ q : Nat, q < H.size → ¬ A1 q → H1[q]? = H[q]?) → va_S A0 H0 H1 locs1 → W p l e R s m args below meth c H1 locs1 (cells + mc) (slots + ms) Q (F0 m (pc + 5) ls (va_re ad r :: rest))) : W p l e R s m args below meth c H locs cells slots Q (F0 m pc ls st0) := by
  intro T hT X
  rcases hr T hT X with ⟨v, st₀, t, T', L, h0, X', hL, e1, e2, ⟨⟨r, u, hv, hp, hb⟩, hF⟩, st⟩ | ⟨q, st₀, t, T', L, E, ce, h0, X', hL, e1, e2, ⟨u, hp, hb, hF⟩, hce, hcv, hcl, st⟩
  · cases hv
    obtain ⟨k1, k2, k3⟩ := vx_keep h0 e1 hS hA hf hL hF
    obtain ⟨t2, a1, b1⟩ := kk r u t T'.heap (locs ++ L) e1.symm (by rw [← e2]; exact X'.warmed.alike) hp hb k1 k2 k3 T' rfl X'
    exact ⟨t2, st t2 a1, b1⟩
  · obtain ⟨k1, k2, k3⟩ := vx_keep h0 e1 hS hAX hf hL hF
    obtain ⟨t2, a1, b1⟩ := kx E ce q u t T'.heap (locs ++ L) e1.symm (by rw [← e2]; exact X'.warmed.alike) hp hb k1 k2 k3 (by rw [e1]; exact hce) hcv hcl T' rfl X'
    exact ⟨t2, st.trans a1, b1⟩
end
/-! ===== END ===== -/
/-! ===== BEGIN what the machine throws by itself: null at a field, at athrow ===== -/
section VXM2
variable {p : Program} {l : Launch} {e : Env} {R : Room} {s : State} {m : MethodId} {args : Array Value} {below : List Frame} {meth : Method} {c : Code} {H : Heap} {locs : List Loc} {cells slots : Nat}
variable {Q : State → Prop} {cc : ByteArray} {pc : Nat} {ls : Array Slot} {rest : List Value}
theorem vx_getfN {D cl tys} {own ref C : String} {T : u_T} {N ci index : Nat} {Ts : List Cond} (hexec : p.tables.exec = Jvm.exec) (hb : c.code = cc) (hts : ∀ w ∈ Ts, w.before args s = true) (hin : ∀ w ∈ u_ws C T N, w ∈ Ts) (hown : s.vm.findClass own = some m.cls) (hK : va_K D cl tys s) (hc : cl[ci]? = some (C, T, N)) (k : Nat) (hk : k < N) (hlink : (Cond.fieldLink own index ref (T k).2.1 (T k).2.2.1).before args s = true) (hsame : ∀ x, s.fieldFound? (T k).1 (T k).2.1 (T k).2.2.1 = some x → s.fieldFound? ref (T k).2.1 (T k).2.2.1 = some x) (hdg : decode cc pc = .ok (.getfield index, 3)) (kk : vx_NoteN p l e R s m args below meth c H locs cells slots Q (F0 m pc ls rest)) : W p l e R s m args below meth c H locs cells slots Q (F0 m pc ls (.null :: rest)) := by
  obtain ⟨hS, hfc, kC, hkC, -⟩ := hK.1 ci _ hc
  obtain ⟨cf, kf, fi, f, hi, -⟩ := hS k hk
  intro U hU X
  obtain ⟨vm', X1, st1⟩ := X.getfieldNull hexec hown hlink (hsame _ hi) (u_facts hfc hkC (u_lays hts hin hk) hi).1 (g := F0 m pc ls (.null :: rest)) rfl (rest := rest) rfl (by rw [hb]; exact hdg)
  obtain ⟨t, st, q⟩ := kk (U.setVm vm') hU X1
  exact ⟨t, st1 t st, q⟩
theorem vx_getfNN {D cl tys} {own ref C host : String} {T : u_T} {N ci index : Nat} {Ts : List Cond} (hexec : p.tables.exec = Jvm.exec) (hb : c.code = cc) (hts : ∀ w ∈ Ts, w.before args s = true) (hin : ∀ w ∈ u_ws C T N, w ∈ Ts) (hown : s.vm.findClass own = some m.cls) (hK : va_K D cl tys s) (hc : cl[ci]? = some (C, T, N)) (k : Nat) (hk : k < N) (hlink : (Cond.fieldLinkNest own index ref (T k).2.1 (T k).2.2.1 host).before args s = true) (hsame : ∀ x, s.fieldFound? (T k).1 (T k).2.1 (T k).2.2.1 = some x → s.fieldFound? ref (T k).2.1 (T k).2.2.1 = some x) (hdg : decode cc pc = .ok (.getfield index, 3)) (kk : vx_NoteN p l e R s m args below meth c H locs cells slots Q (F0 m pc ls rest)) : W p l e R s m args below meth c H locs cells slots Q (F0 m pc ls (.null :: rest)) := by
  obtain ⟨hS, hfc, kC, hkC, -⟩ := hK.1 ci _ hc
  obtain ⟨cf, kf, fi, f, hi, -⟩ := hS k hk
  intro U hU X
  obtain ⟨vm', X1, st1⟩ := X.getfieldNullNest hexec hown hlink (hsame _ hi) (u_facts hfc hkC (u_lays hts hin hk) hi).1 (g := F0 m pc ls (.null :: rest)) rfl (rest := rest) rfl (by rw [hb]; exact hdg)
  obtain ⟨t, st, q⟩ := kk (U.setVm vm') hU X1
  exact ⟨t, st1 t st, q⟩
theorem vx_putfN {D cl tys} {own ref C : String} {T : u_T} {N ci index : Nat} {Ts : List Cond} (hexec : p.tables.exec = Jvm.exec) (hb : c.code = cc) (hts : ∀ w ∈ Ts, w.before args s = true) (hin : ∀ w ∈ u_ws C T N, w ∈ Ts) (hown : s.vm.findClass own = some m.cls) (hK : va_K D cl tys s) (hc : cl[ci]? = some (C, T, N)) (k : Nat) (hk : k < N) (hlink : (Cond.fieldLink own index ref (T k).2.1 (T k).2.2.1).before args s = true) (hsame : ∀ x, s.fieldFound? (T k).1 (T k).2.1 (T k).2.2.1 = some x → s.fieldFound? ref (T k).2.1 (T k).2.2.1 = some x) (hfin : (T k).2.2.2 = false) {v : Value} (hdg : decode cc pc = .ok (.putfield index, 3)) (kk : vx_NoteN p l e R s m args below meth c H locs cells slots Q (F0 m pc ls rest)) : W p l e R s m args below meth c H locs cells slots Q (F0 m pc ls (v :: .null :: rest)) := by
  obtain ⟨hS, hfc, kC, hkC, -⟩ := hK.1 ci _ hc
  obtain ⟨cf, kf, fi, f, hi, -⟩ := hS k hk
  have hlay := hts _ (hin _ (u_in_lay hk))
  unfold u_lay at hlay
  rw [if_neg (by rw [hfin]; decide)] at hlay
  obtain ⟨c9, k9, cf9, kf9, fi9, f9, -, -, hi9, hst9, hnf9, -⟩ := Cond.lays_spec hlay
  cases hi.symm.trans hi9
  intro U hU X
  obtain ⟨vm', X1, st1⟩ := X.putfieldNull hexec hown hlink (hsame _ hi) hst9 hnf9 (g := F0 m pc ls (v :: .null :: rest)) rfl (v := v) (rest := rest) rfl (by rw [hb]; exact hdg)
  obtain ⟨t, st, q⟩ := kk (U.setVm vm') hU X1
  exact ⟨t, st1 t st, q⟩
theorem vx_putfNN {D cl tys} {own ref C host : String} {T : u_T} {N ci index : Nat} {Ts : List Cond} (hexec : p.tables.exec = Jvm.exec) (hb : c.code = cc) (hts : ∀ w ∈ Ts, w.before args s = true) (hin : ∀ w ∈ u_ws C T N, w ∈ Ts) (hown : s.vm.findClass own = some m.cls) (hK : va_K D cl tys s) (hc : cl[ci]? = some (C, T, N)) (k : Nat) (hk : k < N) (hlink : (Cond.fieldLinkNest own index ref (T k).2.1 (T k).2.2.1 host).before args s = true) (hsame : ∀ x, s.fieldFound? (T k).1 (T k).2.1 (T k).2.2.1 = some x → s.fieldFound? ref (T k).2.1 (T k).2.2.1 = some x) (hfin : (T k).2.2.2 = false) {v : Value} (hdg : decode cc pc = .ok (.putfield index, 3)) (kk : vx_NoteN p l e R s m args below meth c H locs cells slots Q (F0 m pc ls rest)) : W p l e R s m args below meth c H locs cells slots Q (F0 m pc ls (v :: .null :: rest)) := by
  obtain ⟨hS, hfc, kC, hkC, -⟩ := hK.1 ci _ hc
  obtain ⟨cf, kf, fi, f, hi, -⟩ := hS k hk
  have hlay := hts _ (hin _ (u_in_lay hk))
  unfold u_lay at hlay
  rw [if_neg (by rw [hfin]; decide)] at hlay
  obtain ⟨c9, k9, cf9, kf9, fi9, f9, -, -, hi9, hst9, hnf9, -⟩ := Cond.lays_spec hlay
  cases hi.symm.trans hi9
  intro U hU X
  obtain ⟨vm', X1, st1⟩ := X.putfieldNullNest hexec hown hlink (hsame _ hi) hst9 hnf9 (g := F0 m pc ls (v :: .null :: rest)) rfl (v := v) (rest := rest) rfl (by rw [hb]; exact hdg)
  obtain ⟨t, st, q⟩ := kk (U.setVm vm') hU X1
  exact ⟨t, st1 t st, q⟩
theorem vx_athrowN (hexec : p.tables.exec = Jvm.exec) (hb : c.code = cc) (hdg : decode cc pc = .ok (.athrow, 1)) (k : vx_NoteN p l e R s m args below meth c H locs cells slots Q (F0 m pc ls rest)) : W p l e R s m args below meth c H locs cells slots Q (F0 m pc ls (.null :: rest)) := by
  intro T hT X
  obtain ⟨t, st, q⟩ := k T hT X
  exact ⟨t, X.athrowNull hexec (g := F0 m pc ls (.null :: rest)) rfl (rest := rest) rfl (by rw [hb]; exact hdg) t st, q⟩
end VXM2
/-! ===== END ===== -/
end
section

/-! The plain machine: values, cells and memory without addresses; Ev says that the machine goes on from here to an end with Post. -/
/-- words that a call does not carry by itself -/
def isBad : Cond → Bool
  | .methodLinkNest .. => true
  | .castable .. => true
  | .declares .. => true
  | .arrayOver (.object _) => true
  | _ => false
def lw_good : List Cond := lw_T.filter goodWord
theorem lw_g {w : Cond} (h : w ∈ lw_T) (hg : goodWord w = true) : w ∈ lw_good := List.mem_filter.mpr ⟨h, hg⟩
abbrev RV : Type := Value ⊕ (Nat × Nat)
abbrev RC : Type := Bool × Nat × Nat × (Nat → RV)
abbrev RG : Type := Nat → Option RC
abbrev RM : Type := RG × Nat
abbrev RO : Type := String ⊕ Option RV
/-- a method: its name, its bytes, its locals, what it returns, its handlers -/
abbrev MI : Type := MethodName × ByteArray × Nat × Option FieldType × List (Nat × Nat × Nat × Nat)
/-- launch; classes and slots; array classes; where new cells begin; where old cells lie; what old cells hold -/
abbrev GL : Type := Launch × va_G × (Nat → ClassId) × Nat × (Nat → Nat) × RG
/-- the types of the elements of arrays -/
def rTy : List FieldType := [.int, .boolean, .byte, .int, .object "ProphecyShop$Prophecy", .object "ProphecyShop$Owl", .object "ProphecyShop$Step", .object "ProphecyShop$Shop", .object "ProphecyShopLaw$Own"]
def rTys (g : GL) : List (ClassId × FieldType) := rTy.mapIdx (fun i t => (g.2.2.1 i, t))
def conc (g : GL) : RV → Value
  | .inl v => v
  | .inr (0, o) => .ref (g.2.2.2.1 + o)
  | .inr (_ + 1, i) => .ref (g.2.2.2.2.1 i)
def rdM (g : GL) (M : RM) : Nat × Nat → Option RC
  | (0, o) => M.1 o
  | (_ + 1, i) => g.2.2.2.2.2 i
def adM (g : GL) : Nat × Nat → Nat
  | (0, o) => g.2.2.2.1 + o
  | (_ + 1, i) => g.2.2.2.2.1 i
theorem conc_ref (g : GL) (r : Nat × Nat) : conc g (.inr r) = .ref (adM g r) := by
  obtain ⟨a, o⟩ := r
  cases a <;> rfl
/-- an array of n places as far as the machine sees: old arrays might be longer by a multiple of 2 ^ 32 -/
def szA (m n : Nat) : Prop := n ≤ m ∧ m.toInt32 = Int32.ofNat n
theorem szA.of {m n : Nat} (h : m = n) : szA m n := by subst h; exact ⟨Nat.le_refl _, rfl⟩
theorem szA.inn {m n : Nat} (h : szA m n) {i : Int32} (hi : vp_in i n) : ¬ (i < 0 ∨ m ≤ i.toNatClampNeg) := by
  rintro (z | z)
  · exact hi (Or.inl z)
  · exact hi (Or.inr (Nat.le_trans h.1 z))
/-- a cell of the heap holds what the plain cell says -/
def cellAt (g : GL) (U : State) (H : Heap) (a : Nat) (c : RC) : Prop := match c with
  | (false, ci, _, f) => ∃ (r : vw_C) (cell : Cell), vwCl[ci]? = some r ∧ H[a]? = some cell ∧ cell.cls = g.2.1.1 ci ∧ cell.vm ≠ .unknown ∧ cell.vm.isStatics = false ∧ (g.2.2.2.1 ≤ a → cell.vm = .none) ∧ ∀ k, k < r.2.2 → cell.slots[g.2.1.2 ci k]? = some (conc g (f k))
  | (true, ei, n, f) => ∃ (ty : FieldType) (cell : Cell), rTy[ei]? = some ty ∧ H[a]? = some cell ∧ U.isArrayOf cell ty ∧ cell.vm ≠ .unknown ∧ szA cell.slots.size n ∧ ((4 ≤ ei → cell.cls = g.2.2.1 ei) ∧ (ei = 2 → g.2.2.2.1 ≤ a → U.vm.findClass "[B" = some cell.cls)) ∧ (g.2.2.2.1 ≤ a → cell = arrV cell.cls n (fun j => conc g (f j))) ∧ ∀ j, j < n → cell.slots[j]? = some (conc g (f j))
def rA (g : GL) : Nat → Prop := fun q => g.2.2.2.1 ≤ q
/-- what of the tables and of the old cells stands at any time -/
def KU (g : GL) (U : State) (H : Heap) : Prop :=
  g.1.stackTraces = false ∧ va_K g.2.1 vwCl (rTys g) U ∧ vx_Zq Bundle.tN "UNASSIGNED_STACK" Bundle.steD (rA g) U H ∧ vx_Zq Bundle.tN "SUPPRESSED_SENTINEL" Bundle.listD (rA g) U H ∧
  (∀ q ∈ rStr, vk_R q.1 q.2.1 q.2.2.1 (g.2.2.2.2.1 q.2.2.2) U) ∧ ((∀ q ∈ rSta, va_Z q.1 q.2.1 q.2.2.1 (conc g q.2.2.2) (rA g) U H) ∧ va_Zq "jdk/internal/util/Preconditions" "SIOOBE_FORMATTER" "Ljava/util/function/BiFunction;" (rA g) U H) ∧
  (∀ i c, g.2.2.2.2.2 i = some c → g.2.2.2.2.1 i < g.2.2.2.1 ∧ cellAt g U H (g.2.2.2.2.1 i) c) ∧ g.2.2.2.1 ≤ H.size ∧ (∀ w ∈ lw_T, isBad w = true → w.before #[] U = true) ∧ ∀ q ∈ rNc, va_Nc q.1 q.2 U
/-- what stands of a method's activation -/
def CX (g : GL) (mi : MI) (d : Nat) (p : Program) (R : Room) (s : State) (m : MethodId) (args : Array Value) (meth : Method) (c : Code) : Prop :=
  p.tables.exec = Jvm.exec ∧ c.code = mi.2.1 ∧ c.maxLocals = mi.2.2.1 ∧ s.vm.findClass mi.1.cls = some m.cls ∧ meth.sig.returnType = mi.2.2.2.1 ∧ meth.locks = false ∧ c.exceptionTable.toList = tableOf mi.2.2.2.2 ∧
  (∀ w ∈ lw_good, w.before args s = true) ∧ KU g s s.heap ∧ 10 + d ≤ R.frames ∧ 200 + 60 * d ≤ R.locals ∧ meth.name = mi.1.name
/-- the plain memory is that of the heap -/
def MR (g : GL) (M : RM) (U : State) (H : Heap) : Prop := H.size = g.2.2.2.1 + M.2 ∧ ∀ o c, M.1 o = some c → cellAt g U H (g.2.2.2.1 + o) c
/-- the same, but that cells more may lie behind it -/
def ML (g : GL) (M : RM) (U : State) (H : Heap) : Prop := g.2.2.2.1 + M.2 ≤ H.size ∧ ∀ o c, M.1 o = some c → cellAt g U H (g.2.2.2.1 + o) c
def lvl (g : GL) : Nat → List (Option RV) → List (Nat × Value)
  | _, [] => []
  | i, none :: t => lvl g (i + 1) t
  | i, some v :: t => (i, conc g v) :: lvl g (i + 1) t
def QC (g : GL) (Post : RO → RM → Prop) : Array Value → State → Outcome → State → Prop := fun _ st o t => (∃ (v : Option RV) (M : RM), o = .returned (v.map (conc g)) ∧ Post (.inr v) M ∧ MR g M t t.heap) ∧ va_F (rA g) st t
def QX (g : GL) (Post : RO → RM → Prop) : String → State → State → Prop := fun E st t => (∃ M : RM, Post (.inl E) M ∧ ML g M t t.heap) ∧ va_F (rA g) st t
def Ev (g : GL) (d : Nat) (mi : MI) (pc : Nat) (ls : List (Option RV)) (st : List RV) (M : RM) (mc ms : Nat) (Post : RO → RM → Prop) : Prop :=
  ∀ (p : Program) (e : Env) (R : Room) (s : State) (m : MethodId) (args : Array Value) (below : List Frame) (meth : Method) (c : Code) (H : Heap) (locs : List Loc) (cells slots : Nat) (lsA : Array Slot) (TC TS : Nat),
    CX g mi d p R s m args meth c → MR g M s H → va_S (rA g) s.heap H locs → lv_has lsA mi.2.2.1 (lvl g 0 ls) → cells + mc ≤ TC → slots + ms ≤ TS → (TC ≤ R.cells ∧ TC ≤ 1000000) → TS ≤ R.slots →
    W p g.1 e R s m args below meth c H locs cells slots (vx_MQ below (QC g Post) (QX g Post) args s TC TS (rA g)) (F0 m pc lsA (st.map (conc g)))
theorem lvl_at {g : GL} : ∀ {ls : List (Option RV)} {i k : Nat} {v : RV}, ls[i]? = some (some v) → (k + i, conc g v) ∈ lvl g k ls
  | [], _, _, _, h => by simp at h
  | none :: t, 0, _, _, h => by simp at h
  | some w :: t, 0, k, v, h => by
    simp at h
    subst h
    exact List.mem_cons_self
  | none :: t, i + 1, k, v, h => by
    have := lvl_at (g := g) (k := k + 1) (show t[i]? = some (some v) from h)
    rw [show k + 1 + i = k + (i + 1) by omega] at this
    exact this
  | some w :: t, i + 1, k, v, h => by
    have := lvl_at (g := g) (k := k + 1) (show t[i]? = some (some v) from h)
    rw [show k + 1 + i = k + (i + 1) by omega] at this
    exact List.mem_cons_of_mem _ this
theorem lvl_of {g : GL} : ∀ {ls : List (Option RV)} {k : Nat} {q : Nat × Value}, q ∈ lvl g k ls → ∃ i v, ls[i]? = some (some v) ∧ q = (k + i, conc g v)
  | [], _, _, h => by simp [lvl] at h
  | none :: t, k, q, h => by
    obtain ⟨i, v, h1, h2⟩ := lvl_of (ls := t) (k := k + 1) h
    exact ⟨i + 1, v, h1, by rw [h2, show k + 1 + i = k + (i + 1) by omega]⟩
  | some w :: t, k, q, h => by
    rcases List.mem_cons.mp h with h | h
    · exact ⟨0, w, rfl, h⟩
    · obtain ⟨i, v, h1, h2⟩ := lvl_of (ls := t) (k := k + 1) h
      exact ⟨i + 1, v, h1, by rw [h2, show k + 1 + i = k + (i + 1) by omega]⟩
theorem lvh_at {g : GL} {lsA : Array Slot} {n i : Nat} {ls : List (Option RV)} {v : RV} (h : lv_has lsA n (lvl g 0 ls)) (hi : ls[i]? = some (some v)) : lsA[i]? = some (.val (conc g v)) := by
  have h1 := lvl_at (g := g) (k := 0) hi
  rw [Nat.zero_add] at h1
  exact h.2.2 _ h1
theorem lvh_mono {lsA : Array Slot} {n : Nat} {l l' : List (Nat × Value)} (h : lv_has lsA n l) (hs : ∀ q ∈ l', q ∈ l) : lv_has lsA n l' := ⟨h.1, h.2.1, fun q hq => h.2.2 q (hs q hq)⟩
/-- a value of two words below place i -/
def wide1 : Option (Option RV) → Bool
  | some (some (.inl (.long _))) => true
  | some (some (.inl (.double _))) => true
  | _ => false
def okst (ls : List (Option RV)) : Nat → Bool
  | 0 => true
  | i + 1 => !wide1 ls[i]?
theorem wide1_cat {g : GL} {v : RV} (h : wide1 (some (some v)) = false) : ¬ (conc g v).category = 2 := by
  cases v with
  | inl v => cases v <;> first | (simp [wide1] at h; done) | (simp [conc, Value.category])
  | inr r => obtain ⟨a, o⟩ := r; cases a <;> simp [conc, Value.category]
theorem lvh_store {g : GL} {n i : Nat} {ls : List (Option RV)} {v : RV} (ok : okst ls i = true) {lsA : Array Slot} (h : lv_has lsA n ((i, conc g v) :: (lvl g 0 ls).filter (fun q => !(q.1 == i) && !(q.1 + 1 == i && q.2.category == 2)))) : lv_has lsA n (lvl g 0 (ls.set i (some v))) := by
  refine lvh_mono h (fun q hq => ?_)
  obtain ⟨j, w, h1, rfl⟩ := lvl_of hq
  rw [Nat.zero_add]
  by_cases hj : j = i
  · subst hj
    rw [List.getElem?_set] at h1
    split at h1
    · split at h1
      · cases h1
        exact List.mem_cons_self
      · cases h1
    · exact absurd rfl (by assumption)
  · rw [List.getElem?_set_ne (Ne.symm hj)] at h1
    refine List.mem_cons_of_mem _ (List.mem_filter.mpr ⟨?_, ?_⟩)
    · have := lvl_at (g := g) (k := 0) h1
      rwa [Nat.zero_add] at this
    · have e1 : (j == i) = false := by simpa using hj
      by_cases e2 : j + 1 = i
      · subst e2
        have hc := wide1_cat (g := g) (v := w) (by have := ok; simp only [okst, h1] at this; simpa using this)
        simp [hc, e1]
      · simp [e1, e2]
theorem lvh_store2 {g : GL} {n i : Nat} {ls : List (Option RV)} {v : RV} (ok : okst ls i = true) {lsA : Array Slot} (h : lv_has lsA n ((i, conc g v) :: (lvl g 0 ls).filter (fun q => !(q.1 == i) && (!(q.1 == i + 1) && !(q.1 + 1 == i && q.2.category == 2))))) : lv_has lsA n (lvl g 0 ((ls.set i (some v)).set (i + 1) none)) := by
  refine lvh_mono h (fun q hq => ?_)
  obtain ⟨j, w, h1, rfl⟩ := lvl_of hq
  rw [Nat.zero_add]
  by_cases hj1 : j = i + 1
  · subst hj1
    rw [List.getElem?_set] at h1
    split at h1
    · split at h1 <;> cases h1
    · exact absurd rfl (by assumption)
  · rw [List.getElem?_set_ne (Ne.symm hj1)] at h1
    by_cases hj : j = i
    · subst hj
      rw [List.getElem?_set] at h1
      split at h1
      · split at h1
        · cases h1
          exact List.mem_cons_self
        · cases h1
      · exact absurd rfl (by assumption)
    · rw [List.getElem?_set_ne (Ne.symm hj)] at h1
      refine List.mem_cons_of_mem _ (List.mem_filter.mpr ⟨?_, ?_⟩)
      · have := lvl_at (g := g) (k := 0) h1
        rwa [Nat.zero_add] at this
      · have e1 : (j == i) = false := by simpa using hj
        have e3 : (j == i + 1) = false := by simpa using hj1
        by_cases e2 : j + 1 = i
        · subst e2
          have hc := wide1_cat (g := g) (v := w) (by have := ok; simp only [okst, h1] at this; simpa using this)
          simp [hc, e1]
          omega
        · simp [e1, e2, e3]
def one1 : RV → Bool
  | .inl (.long _) => false
  | .inl (.double _) => false
  | _ => true
theorem one1_cat {g : GL} {v : RV} (h : one1 v = true) : (conc g v).category = 1 := by
  cases v with
  | inl v => cases v <;> first | (simp [one1] at h; done) | rfl
  | inr r => obtain ⟨a, o⟩ := r; cases a <;> rfl
theorem ev_iconst {g : GL} {d : Nat} {mi : MI} {pc : Nat} {ls : List (Option RV)} {st : List RV} {M : RM} {mc ms : Nat} {Post : RO → RM → Prop} {n : Int} (hd : decode mi.2.1 pc = .ok (.iconst n, 1)) (k : Ev g d mi (pc + 1) ls (.inl (.int (Int32.ofInt n)) :: st) M mc ms Post) : Ev g d mi pc ls (st) M mc ms Post := by
  intro p e R s m args below meth c H locs cells slots lsA TC TS hC hM hS hl h1 h2 h3 h4
  obtain ⟨hx, hb, hml, hown, hr, hlk, hxt, hts, hK, hf, hlo, hnm⟩ := id hC
  exact lv_iconst hx hb hd rfl (k p e R s m args below meth c H locs cells slots lsA TC TS hC hM hS hl h1 h2 h3 h4)
theorem ev_bipush {g : GL} {d : Nat} {mi : MI} {pc : Nat} {ls : List (Option RV)} {st : List RV} {M : RM} {mc ms : Nat} {Post : RO → RM → Prop} {n : Int} (hd : decode mi.2.1 pc = .ok (.bipush n, 2)) (k : Ev g d mi (pc + 2) ls (.inl (.int (Int8.ofInt n).toInt32) :: st) M mc ms Post) : Ev g d mi pc ls (st) M mc ms Post := by
  intro p e R s m args below meth c H locs cells slots lsA TC TS hC hM hS hl h1 h2 h3 h4
  obtain ⟨hx, hb, hml, hown, hr, hlk, hxt, hts, hK, hf, hlo, hnm⟩ := id hC
  exact lv_bipush hx hb hd rfl (k p e R s m args below meth c H locs cells slots lsA TC TS hC hM hS hl h1 h2 h3 h4)
theorem ev_sipush {g : GL} {d : Nat} {mi : MI} {pc : Nat} {ls : List (Option RV)} {st : List RV} {M : RM} {mc ms : Nat} {Post : RO → RM → Prop} {n : Int} (hd : decode mi.2.1 pc = .ok (.sipush n, 3)) (k : Ev g d mi (pc + 3) ls (.inl (.int (Int16.ofInt n).toInt32) :: st) M mc ms Post) : Ev g d mi pc ls (st) M mc ms Post := by
  intro p e R s m args below meth c H locs cells slots lsA TC TS hC hM hS hl h1 h2 h3 h4
  obtain ⟨hx, hb, hml, hown, hr, hlk, hxt, hts, hK, hf, hlo, hnm⟩ := id hC
  exact lv_sipush hx hb hd rfl (k p e R s m args below meth c H locs cells slots lsA TC TS hC hM hS hl h1 h2 h3 h4)
theorem ev_lconst {g : GL} {d : Nat} {mi : MI} {pc : Nat} {ls : List (Option RV)} {st : List RV} {M : RM} {mc ms : Nat} {Post : RO → RM → Prop} {n : Fin 2} (hd : decode mi.2.1 pc = .ok (.lconst n, 1)) (k : Ev g d mi (pc + 1) ls (.inl (.long (Int64.ofNat (n : Nat))) :: st) M mc ms Post) : Ev g d mi pc ls (st) M mc ms Post := by
  intro p e R s m args below meth c H locs cells slots lsA TC TS hC hM hS hl h1 h2 h3 h4
  obtain ⟨hx, hb, hml, hown, hr, hlk, hxt, hts, hK, hf, hlo, hnm⟩ := id hC
  exact lv_lconst hx hb hd rfl (k p e R s m args below meth c H locs cells slots lsA TC TS hC hM hS hl h1 h2 h3 h4)
theorem ev_fconst0 {g : GL} {d : Nat} {mi : MI} {pc : Nat} {ls : List (Option RV)} {st : List RV} {M : RM} {mc ms : Nat} {Post : RO → RM → Prop}  (hd : decode mi.2.1 pc = .ok (.fconst 0, 1)) (k : Ev g d mi (pc + 1) ls (.inl (.float FP.fconst0) :: st) M mc ms Post) : Ev g d mi pc ls (st) M mc ms Post := by
  intro p e R s m args below meth c H locs cells slots lsA TC TS hC hM hS hl h1 h2 h3 h4
  obtain ⟨hx, hb, hml, hown, hr, hlk, hxt, hts, hK, hf, hlo, hnm⟩ := id hC
  exact lv_fconst0 hx hb hd (k p e R s m args below meth c H locs cells slots lsA TC TS hC hM hS hl h1 h2 h3 h4)
theorem ev_dconst0 {g : GL} {d : Nat} {mi : MI} {pc : Nat} {ls : List (Option RV)} {st : List RV} {M : RM} {mc ms : Nat} {Post : RO → RM → Prop}  (hd : decode mi.2.1 pc = .ok (.dconst 0, 1)) (k : Ev g d mi (pc + 1) ls (.inl (.double FP.dconst0) :: st) M mc ms Post) : Ev g d mi pc ls (st) M mc ms Post := by
  intro p e R s m args below meth c H locs cells slots lsA TC TS hC hM hS hl h1 h2 h3 h4
  obtain ⟨hx, hb, hml, hown, hr, hlk, hxt, hts, hK, hf, hlo, hnm⟩ := id hC
  exact lv_dconst0 hx hb hd (k p e R s m args below meth c H locs cells slots lsA TC TS hC hM hS hl h1 h2 h3 h4)
theorem ev_iload_n {g : GL} {d : Nat} {mi : MI} {pc : Nat} {ls : List (Option RV)} {st : List RV} {M : RM} {mc ms : Nat} {Post : RO → RM → Prop} {k0 : Fin 4} {x : Int32} (hl0 : ls[(k0 : Nat)]? = some (some (.inl (.int x)))) (hd : decode mi.2.1 pc = .ok (.iload_n k0, 1)) (k : Ev g d mi (pc + 1) ls (.inl (.int x) :: st) M mc ms Post) : Ev g d mi pc ls (st) M mc ms Post := by
  intro p e R s m args below meth c H locs cells slots lsA TC TS hC hM hS hl h1 h2 h3 h4
  obtain ⟨hx, hb, hml, hown, hr, hlk, hxt, hts, hK, hf, hlo, hnm⟩ := id hC
  exact lv_iload_n hx hb hd rfl (lvh_at hl hl0) (k p e R s m args below meth c H locs cells slots lsA TC TS hC hM hS hl h1 h2 h3 h4)
theorem ev_iload {g : GL} {d : Nat} {mi : MI} {pc : Nat} {ls : List (Option RV)} {st : List RV} {M : RM} {mc ms : Nat} {Post : RO → RM → Prop} {i : Nat} {x : Int32} (hl0 : ls[i]? = some (some (.inl (.int x)))) (hd : decode mi.2.1 pc = .ok (.iload i, 2)) (k : Ev g d mi (pc + 2) ls (.inl (.int x) :: st) M mc ms Post) : Ev g d mi pc ls (st) M mc ms Post := by
  intro p e R s m args below meth c H locs cells slots lsA TC TS hC hM hS hl h1 h2 h3 h4
  obtain ⟨hx, hb, hml, hown, hr, hlk, hxt, hts, hK, hf, hlo, hnm⟩ := id hC
  exact lv_iload hx hb hd (lvh_at hl hl0) (k p e R s m args below meth c H locs cells slots lsA TC TS hC hM hS hl h1 h2 h3 h4)
theorem ev_fload_n {g : GL} {d : Nat} {mi : MI} {pc : Nat} {ls : List (Option RV)} {st : List RV} {M : RM} {mc ms : Nat} {Post : RO → RM → Prop} {k0 : Fin 4} {x : UInt32} (hl0 : ls[(k0 : Nat)]? = some (some (.inl (.float x)))) (hd : decode mi.2.1 pc = .ok (.fload_n k0, 1)) (k : Ev g d mi (pc + 1) ls (.inl (.float x) :: st) M mc ms Post) : Ev g d mi pc ls (st) M mc ms Post := by
  intro p e R s m args below meth c H locs cells slots lsA TC TS hC hM hS hl h1 h2 h3 h4
  obtain ⟨hx, hb, hml, hown, hr, hlk, hxt, hts, hK, hf, hlo, hnm⟩ := id hC
  exact lv_fload_n hx hb hd rfl (lvh_at hl hl0) (k p e R s m args below meth c H locs cells slots lsA TC TS hC hM hS hl h1 h2 h3 h4)
theorem ev_fload {g : GL} {d : Nat} {mi : MI} {pc : Nat} {ls : List (Option RV)} {st : List RV} {M : RM} {mc ms : Nat} {Post : RO → RM → Prop} {i : Nat} {x : UInt32} (hl0 : ls[i]? = some (some (.inl (.float x)))) (hd : decode mi.2.1 pc = .ok (.fload i, 2)) (k : Ev g d mi (pc + 2) ls (.inl (.float x) :: st) M mc ms Post) : Ev g d mi pc ls (st) M mc ms Post := by
  intro p e R s m args below meth c H locs cells slots lsA TC TS hC hM hS hl h1 h2 h3 h4
  obtain ⟨hx, hb, hml, hown, hr, hlk, hxt, hts, hK, hf, hlo, hnm⟩ := id hC
  exact lv_fload hx hb hd (lvh_at hl hl0) (k p e R s m args below meth c H locs cells slots lsA TC TS hC hM hS hl h1 h2 h3 h4)
theorem ev_dload_n {g : GL} {d : Nat} {mi : MI} {pc : Nat} {ls : List (Option RV)} {st : List RV} {M : RM} {mc ms : Nat} {Post : RO → RM → Prop} {k0 : Fin 4} {x : UInt64} (hl0 : ls[(k0 : Nat)]? = some (some (.inl (.double x)))) (hd : decode mi.2.1 pc = .ok (.dload_n k0, 1)) (k : Ev g d mi (pc + 1) ls (.inl (.double x) :: st) M mc ms Post) : Ev g d mi pc ls (st) M mc ms Post := by
  intro p e R s m args below meth c H locs cells slots lsA TC TS hC hM hS hl h1 h2 h3 h4
  obtain ⟨hx, hb, hml, hown, hr, hlk, hxt, hts, hK, hf, hlo, hnm⟩ := id hC
  exact lv_dload_n hx hb hd rfl (lvh_at hl hl0) (k p e R s m args below meth c H locs cells slots lsA TC TS hC hM hS hl h1 h2 h3 h4)
theorem ev_dload {g : GL} {d : Nat} {mi : MI} {pc : Nat} {ls : List (Option RV)} {st : List RV} {M : RM} {mc ms : Nat} {Post : RO → RM → Prop} {i : Nat} {x : UInt64} (hl0 : ls[i]? = some (some (.inl (.double x)))) (hd : decode mi.2.1 pc = .ok (.dload i, 2)) (k : Ev g d mi (pc + 2) ls (.inl (.double x) :: st) M mc ms Post) : Ev g d mi pc ls (st) M mc ms Post := by
  intro p e R s m args below meth c H locs cells slots lsA TC TS hC hM hS hl h1 h2 h3 h4
  obtain ⟨hx, hb, hml, hown, hr, hlk, hxt, hts, hK, hf, hlo, hnm⟩ := id hC
  exact lv_dload hx hb hd (lvh_at hl hl0) (k p e R s m args below meth c H locs cells slots lsA TC TS hC hM hS hl h1 h2 h3 h4)
theorem ev_lload_n {g : GL} {d : Nat} {mi : MI} {pc : Nat} {ls : List (Option RV)} {st : List RV} {M : RM} {mc ms : Nat} {Post : RO → RM → Prop} {k0 : Fin 4} {x : Int64} (hl0 : ls[(k0 : Nat)]? = some (some (.inl (.long x)))) (hd : decode mi.2.1 pc = .ok (.lload_n k0, 1)) (k : Ev g d mi (pc + 1) ls (.inl (.long x) :: st) M mc ms Post) : Ev g d mi pc ls (st) M mc ms Post := by
  intro p e R s m args below meth c H locs cells slots lsA TC TS hC hM hS hl h1 h2 h3 h4
  obtain ⟨hx, hb, hml, hown, hr, hlk, hxt, hts, hK, hf, hlo, hnm⟩ := id hC
  exact lv_lload_n hx hb hd rfl (lvh_at hl hl0) (k p e R s m args below meth c H locs cells slots lsA TC TS hC hM hS hl h1 h2 h3 h4)
theorem ev_lload {g : GL} {d : Nat} {mi : MI} {pc : Nat} {ls : List (Option RV)} {st : List RV} {M : RM} {mc ms : Nat} {Post : RO → RM → Prop} {i : Nat} {x : Int64} (hl0 : ls[i]? = some (some (.inl (.long x)))) (hd : decode mi.2.1 pc = .ok (.lload i, 2)) (k : Ev g d mi (pc + 2) ls (.inl (.long x) :: st) M mc ms Post) : Ev g d mi pc ls (st) M mc ms Post := by
  intro p e R s m args below meth c H locs cells slots lsA TC TS hC hM hS hl h1 h2 h3 h4
  obtain ⟨hx, hb, hml, hown, hr, hlk, hxt, hts, hK, hf, hlo, hnm⟩ := id hC
  exact lv_lload hx hb hd (lvh_at hl hl0) (k p e R s m args below meth c H locs cells slots lsA TC TS hC hM hS hl h1 h2 h3 h4)
theorem ev_aload_n {g : GL} {d : Nat} {mi : MI} {pc : Nat} {ls : List (Option RV)} {st : List RV} {M : RM} {mc ms : Nat} {Post : RO → RM → Prop} {k0 : Fin 4} {r : Nat × Nat} (hl0 : ls[(k0 : Nat)]? = some (some (.inr r))) (hd : decode mi.2.1 pc = .ok (.aload_n k0, 1)) (k : Ev g d mi (pc + 1) ls (.inr r :: st) M mc ms Post) : Ev g d mi pc ls st M mc ms Post := by
  intro p e R s m args below meth c H locs cells slots lsA TC TS hC hM hS hl h1 h2 h3 h4
  obtain ⟨hx, hb, hml, hown, hr, hlk, hxt, hts, hK, hf, hlo, hnm⟩ := id hC
  have k9 := k p e R s m args below meth c H locs cells slots lsA TC TS hC hM hS hl h1 h2 h3 h4
  rw [List.map_cons, conc_ref] at k9
  exact lv_aload_n hx hb hd rfl (by rw [← conc_ref]; exact lvh_at hl hl0) k9
theorem ev_aload {g : GL} {d : Nat} {mi : MI} {pc : Nat} {ls : List (Option RV)} {st : List RV} {M : RM} {mc ms : Nat} {Post : RO → RM → Prop} {i : Nat} {r : Nat × Nat} (hl0 : ls[i]? = some (some (.inr r))) (hd : decode mi.2.1 pc = .ok (.aload i, 2)) (k : Ev g d mi (pc + 2) ls (.inr r :: st) M mc ms Post) : Ev g d mi pc ls st M mc ms Post := by
  intro p e R s m args below meth c H locs cells slots lsA TC TS hC hM hS hl h1 h2 h3 h4
  obtain ⟨hx, hb, hml, hown, hr, hlk, hxt, hts, hK, hf, hlo, hnm⟩ := id hC
  have k9 := k p e R s m args below meth c H locs cells slots lsA TC TS hC hM hS hl h1 h2 h3 h4
  rw [List.map_cons, conc_ref] at k9
  exact lv_aload hx hb hd (by rw [← conc_ref]; exact lvh_at hl hl0) k9
theorem ev_istore_n {g : GL} {d : Nat} {mi : MI} {pc : Nat} {ls : List (Option RV)} {st : List RV} {M : RM} {mc ms : Nat} {Post : RO → RM → Prop} {k0 : Fin 4} {x : Int32} (ok : okst ls (k0 : Nat) = true) (hn : (k0 : Nat) < mi.2.2.1) (hd : decode mi.2.1 pc = .ok (.istore_n k0, 1)) (k : Ev g d mi (pc + 1) (ls.set (k0 : Nat) (some (.inl (.int x)))) st M mc ms Post) : Ev g d mi pc ls (.inl (.int x) :: st) M mc ms Post := by
  intro p e R s m args below meth c H locs cells slots lsA TC TS hC hM hS hl h1 h2 h3 h4
  obtain ⟨hx, hb, hml, hown, hr, hlk, hxt, hts, hK, hf, hlo, hnm⟩ := id hC
  exact lv_istore_n hx hb hd rfl hl hn rfl (fun ls9 hl9 => k p e R s m args below meth c H locs cells slots ls9 TC TS hC hM hS (lvh_store ok hl9) h1 h2 h3 h4)
theorem ev_istore {g : GL} {d : Nat} {mi : MI} {pc : Nat} {ls : List (Option RV)} {st : List RV} {M : RM} {mc ms : Nat} {Post : RO → RM → Prop} {i : Nat} {x : Int32} (ok : okst ls i = true) (hn : i < mi.2.2.1) (hd : decode mi.2.1 pc = .ok (.istore i, 2)) (k : Ev g d mi (pc + 2) (ls.set i (some (.inl (.int x)))) st M mc ms Post) : Ev g d mi pc ls (.inl (.int x) :: st) M mc ms Post := by
  intro p e R s m args below meth c H locs cells slots lsA TC TS hC hM hS hl h1 h2 h3 h4
  obtain ⟨hx, hb, hml, hown, hr, hlk, hxt, hts, hK, hf, hlo, hnm⟩ := id hC
  exact lv_istore hx hb hd hl hn rfl (fun ls9 hl9 => k p e R s m args below meth c H locs cells slots ls9 TC TS hC hM hS (lvh_store ok hl9) h1 h2 h3 h4)
theorem ev_dstore_n {g : GL} {d : Nat} {mi : MI} {pc : Nat} {ls : List (Option RV)} {st : List RV} {M : RM} {mc ms : Nat} {Post : RO → RM → Prop} {k0 : Fin 4} {x : UInt64} (ok : okst ls (k0 : Nat) = true) (hn : (k0 : Nat) + 1 < mi.2.2.1) (hd : decode mi.2.1 pc = .ok (.dstore_n k0, 1)) (k : Ev g d mi (pc + 1) ((ls.set (k0 : Nat) (some (.inl (.double x)))).set ((k0 : Nat) + 1) none) st M mc ms Post) : Ev g d mi pc ls (.inl (.double x) :: st) M mc ms Post := by
  intro p e R s m args below meth c H locs cells slots lsA TC TS hC hM hS hl h1 h2 h3 h4
  obtain ⟨hx, hb, hml, hown, hr, hlk, hxt, hts, hK, hf, hlo, hnm⟩ := id hC
  exact lv_dstore_n hx hb hd rfl hl hn rfl (fun ls9 hl9 => k p e R s m args below meth c H locs cells slots ls9 TC TS hC hM hS (lvh_store2 ok hl9) h1 h2 h3 h4)
theorem ev_dstore {g : GL} {d : Nat} {mi : MI} {pc : Nat} {ls : List (Option RV)} {st : List RV} {M : RM} {mc ms : Nat} {Post : RO → RM → Prop} {i : Nat} {x : UInt64} (ok : okst ls i = true) (hn : i + 1 < mi.2.2.1) (hd : decode mi.2.1 pc = .ok (.dstore i, 2)) (k : Ev g d mi (pc + 2) ((ls.set i (some (.inl (.double x)))).set (i + 1) none) st M mc ms Post) : Ev g d mi pc ls (.inl (.double x) :: st) M mc ms Post := by
  intro p e R s m args below meth c H locs cells slots lsA TC TS hC hM hS hl h1 h2 h3 h4
  obtain ⟨hx, hb, hml, hown, hr, hlk, hxt, hts, hK, hf, hlo, hnm⟩ := id hC
  exact lv_dstore hx hb hd hl hn rfl (fun ls9 hl9 => k p e R s m args below meth c H locs cells slots ls9 TC TS hC hM hS (lvh_store2 ok hl9) h1 h2 h3 h4)
theorem ev_astore_n {g : GL} {d : Nat} {mi : MI} {pc : Nat} {ls : List (Option RV)} {st : List RV} {M : RM} {mc ms : Nat} {Post : RO → RM → Prop} {k0 : Fin 4} {r : Nat × Nat} (ok : okst ls (k0 : Nat) = true) (hn : (k0 : Nat) < mi.2.2.1) (hd : decode mi.2.1 pc = .ok (.astore_n k0, 1)) (k : Ev g d mi (pc + 1) (ls.set (k0 : Nat) (some (.inr r))) st M mc ms Post) : Ev g d mi pc ls (.inr r :: st) M mc ms Post := by
  intro p e R s m args below meth c H locs cells slots lsA TC TS hC hM hS hl h1 h2 h3 h4
  obtain ⟨hx, hb, hml, hown, hr, hlk, hxt, hts, hK, hf, hlo, hnm⟩ := id hC
  rw [List.map_cons, conc_ref]
  exact lv_astore_n hx hb hd rfl hl hn (by rw [← conc_ref]) (fun ls9 hl9 => k p e R s m args below meth c H locs cells slots ls9 TC TS hC hM hS (lvh_store ok hl9) h1 h2 h3 h4)
theorem ev_astore {g : GL} {d : Nat} {mi : MI} {pc : Nat} {ls : List (Option RV)} {st : List RV} {M : RM} {mc ms : Nat} {Post : RO → RM → Prop} {i : Nat} {r : Nat × Nat} (ok : okst ls i = true) (hn : i < mi.2.2.1) (hd : decode mi.2.1 pc = .ok (.astore i, 2)) (k : Ev g d mi (pc + 2) (ls.set i (some (.inr r))) st M mc ms Post) : Ev g d mi pc ls (.inr r :: st) M mc ms Post := by
  intro p e R s m args below meth c H locs cells slots lsA TC TS hC hM hS hl h1 h2 h3 h4
  obtain ⟨hx, hb, hml, hown, hr, hlk, hxt, hts, hK, hf, hlo, hnm⟩ := id hC
  rw [List.map_cons, conc_ref]
  exact lv_astore hx hb hd hl hn (by rw [← conc_ref]) (fun ls9 hl9 => k p e R s m args below meth c H locs cells slots ls9 TC TS hC hM hS (lvh_store ok hl9) h1 h2 h3 h4)
theorem ev_iinc {g : GL} {d : Nat} {mi : MI} {pc : Nat} {ls : List (Option RV)} {st : List RV} {M : RM} {mc ms : Nat} {Post : RO → RM → Prop} {i : Nat} {n : Int} {x : Int32} (hl0 : ls[i]? = some (some (.inl (.int x)))) (ok : okst ls i = true) (hn : i < mi.2.2.1) (hd : decode mi.2.1 pc = .ok (.iinc i n, 3)) (k : Ev g d mi (pc + 3) (ls.set i (some (.inl (.int (x + Int32.ofInt n))))) st M mc ms Post) : Ev g d mi pc ls st M mc ms Post := by
  intro p e R s m args below meth c H locs cells slots lsA TC TS hC hM hS hl h1 h2 h3 h4
  obtain ⟨hx, hb, hml, hown, hr, hlk, hxt, hts, hK, hf, hlo, hnm⟩ := id hC
  obtain ⟨k9, hk9⟩ := List.getElem?_of_mem (lvl_at (g := g) (k := 0) hl0)
  rw [Nat.zero_add] at hk9
  exact lv_iinc hx hb hd hl hk9 rfl hn rfl (fun ls9 hl9 => k p e R s m args below meth c H locs cells slots ls9 TC TS hC hM hS (lvh_store (v := .inl (.int (x + Int32.ofInt n))) ok hl9) h1 h2 h3 h4)
theorem ev_iadd {g : GL} {d : Nat} {mi : MI} {pc : Nat} {ls : List (Option RV)} {st : List RV} {M : RM} {mc ms : Nat} {Post : RO → RM → Prop} {x y : Int32} (hd : decode mi.2.1 pc = .ok (.iadd, 1)) (k : Ev g d mi (pc + 1) ls (.inl (.int (x + y)) :: st) M mc ms Post) : Ev g d mi pc ls (.inl (.int y) :: .inl (.int x) :: st) M mc ms Post := by
  intro p e R s m args below meth c H locs cells slots lsA TC TS hC hM hS hl h1 h2 h3 h4
  obtain ⟨hx, hb, hml, hown, hr, hlk, hxt, hts, hK, hf, hlo, hnm⟩ := id hC
  exact lv_iadd hx hb hd (k p e R s m args below meth c H locs cells slots lsA TC TS hC hM hS hl h1 h2 h3 h4)
theorem ev_isub {g : GL} {d : Nat} {mi : MI} {pc : Nat} {ls : List (Option RV)} {st : List RV} {M : RM} {mc ms : Nat} {Post : RO → RM → Prop} {x y : Int32} (hd : decode mi.2.1 pc = .ok (.isub, 1)) (k : Ev g d mi (pc + 1) ls (.inl (.int (x - y)) :: st) M mc ms Post) : Ev g d mi pc ls (.inl (.int y) :: .inl (.int x) :: st) M mc ms Post := by
  intro p e R s m args below meth c H locs cells slots lsA TC TS hC hM hS hl h1 h2 h3 h4
  obtain ⟨hx, hb, hml, hown, hr, hlk, hxt, hts, hK, hf, hlo, hnm⟩ := id hC
  exact lv_isub hx hb hd (k p e R s m args below meth c H locs cells slots lsA TC TS hC hM hS hl h1 h2 h3 h4)
theorem ev_imul {g : GL} {d : Nat} {mi : MI} {pc : Nat} {ls : List (Option RV)} {st : List RV} {M : RM} {mc ms : Nat} {Post : RO → RM → Prop} {x y : Int32} (hd : decode mi.2.1 pc = .ok (.imul, 1)) (k : Ev g d mi (pc + 1) ls (.inl (.int (x * y)) :: st) M mc ms Post) : Ev g d mi pc ls (.inl (.int y) :: .inl (.int x) :: st) M mc ms Post := by
  intro p e R s m args below meth c H locs cells slots lsA TC TS hC hM hS hl h1 h2 h3 h4
  obtain ⟨hx, hb, hml, hown, hr, hlk, hxt, hts, hK, hf, hlo, hnm⟩ := id hC
  exact lv_imul hx hb hd (k p e R s m args below meth c H locs cells slots lsA TC TS hC hM hS hl h1 h2 h3 h4)
theorem ev_iand {g : GL} {d : Nat} {mi : MI} {pc : Nat} {ls : List (Option RV)} {st : List RV} {M : RM} {mc ms : Nat} {Post : RO → RM → Prop} {x y : Int32} (hd : decode mi.2.1 pc = .ok (.iand, 1)) (k : Ev g d mi (pc + 1) ls (.inl (.int (x &&& y)) :: st) M mc ms Post) : Ev g d mi pc ls (.inl (.int y) :: .inl (.int x) :: st) M mc ms Post := by
  intro p e R s m args below meth c H locs cells slots lsA TC TS hC hM hS hl h1 h2 h3 h4
  obtain ⟨hx, hb, hml, hown, hr, hlk, hxt, hts, hK, hf, hlo, hnm⟩ := id hC
  exact lv_iand hx hb hd (k p e R s m args below meth c H locs cells slots lsA TC TS hC hM hS hl h1 h2 h3 h4)
theorem ev_ior {g : GL} {d : Nat} {mi : MI} {pc : Nat} {ls : List (Option RV)} {st : List RV} {M : RM} {mc ms : Nat} {Post : RO → RM → Prop} {x y : Int32} (hd : decode mi.2.1 pc = .ok (.ior, 1)) (k : Ev g d mi (pc + 1) ls (.inl (.int (x ||| y)) :: st) M mc ms Post) : Ev g d mi pc ls (.inl (.int y) :: .inl (.int x) :: st) M mc ms Post := by
  intro p e R s m args below meth c H locs cells slots lsA TC TS hC hM hS hl h1 h2 h3 h4
  obtain ⟨hx, hb, hml, hown, hr, hlk, hxt, hts, hK, hf, hlo, hnm⟩ := id hC
  exact lv_ior hx hb hd (k p e R s m args below meth c H locs cells slots lsA TC TS hC hM hS hl h1 h2 h3 h4)
theorem ev_ixor {g : GL} {d : Nat} {mi : MI} {pc : Nat} {ls : List (Option RV)} {st : List RV} {M : RM} {mc ms : Nat} {Post : RO → RM → Prop} {x y : Int32} (hd : decode mi.2.1 pc = .ok (.ixor, 1)) (k : Ev g d mi (pc + 1) ls (.inl (.int (x ^^^ y)) :: st) M mc ms Post) : Ev g d mi pc ls (.inl (.int y) :: .inl (.int x) :: st) M mc ms Post := by
  intro p e R s m args below meth c H locs cells slots lsA TC TS hC hM hS hl h1 h2 h3 h4
  obtain ⟨hx, hb, hml, hown, hr, hlk, hxt, hts, hK, hf, hlo, hnm⟩ := id hC
  exact lv_ixor hx hb hd (k p e R s m args below meth c H locs cells slots lsA TC TS hC hM hS hl h1 h2 h3 h4)
theorem ev_ishl {g : GL} {d : Nat} {mi : MI} {pc : Nat} {ls : List (Option RV)} {st : List RV} {M : RM} {mc ms : Nat} {Post : RO → RM → Prop} {x y : Int32} (hd : decode mi.2.1 pc = .ok (.ishl, 1)) (k : Ev g d mi (pc + 1) ls (.inl (.int (x <<< (y &&& 31))) :: st) M mc ms Post) : Ev g d mi pc ls (.inl (.int y) :: .inl (.int x) :: st) M mc ms Post := by
  intro p e R s m args below meth c H locs cells slots lsA TC TS hC hM hS hl h1 h2 h3 h4
  obtain ⟨hx, hb, hml, hown, hr, hlk, hxt, hts, hK, hf, hlo, hnm⟩ := id hC
  exact lv_ishl hx hb hd (k p e R s m args below meth c H locs cells slots lsA TC TS hC hM hS hl h1 h2 h3 h4)
theorem ev_ishr {g : GL} {d : Nat} {mi : MI} {pc : Nat} {ls : List (Option RV)} {st : List RV} {M : RM} {mc ms : Nat} {Post : RO → RM → Prop} {x y : Int32} (hd : decode mi.2.1 pc = .ok (.ishr, 1)) (k : Ev g d mi (pc + 1) ls (.inl (.int (x >>> (y &&& 31))) :: st) M mc ms Post) : Ev g d mi pc ls (.inl (.int y) :: .inl (.int x) :: st) M mc ms Post := by
  intro p e R s m args below meth c H locs cells slots lsA TC TS hC hM hS hl h1 h2 h3 h4
  obtain ⟨hx, hb, hml, hown, hr, hlk, hxt, hts, hK, hf, hlo, hnm⟩ := id hC
  exact lv_ishr hx hb hd (k p e R s m args below meth c H locs cells slots lsA TC TS hC hM hS hl h1 h2 h3 h4)
theorem ev_iushr {g : GL} {d : Nat} {mi : MI} {pc : Nat} {ls : List (Option RV)} {st : List RV} {M : RM} {mc ms : Nat} {Post : RO → RM → Prop} {x y : Int32} (hd : decode mi.2.1 pc = .ok (.iushr, 1)) (k : Ev g d mi (pc + 1) ls (.inl (.int (x.toUInt32 >>> (y.toUInt32 &&& Int32.toUInt32 31)).toInt32) :: st) M mc ms Post) : Ev g d mi pc ls (.inl (.int y) :: .inl (.int x) :: st) M mc ms Post := by
  intro p e R s m args below meth c H locs cells slots lsA TC TS hC hM hS hl h1 h2 h3 h4
  obtain ⟨hx, hb, hml, hown, hr, hlk, hxt, hts, hK, hf, hlo, hnm⟩ := id hC
  exact lv_iushr hx hb hd rfl (k p e R s m args below meth c H locs cells slots lsA TC TS hC hM hS hl h1 h2 h3 h4)
theorem ev_idiv {g : GL} {d : Nat} {mi : MI} {pc : Nat} {ls : List (Option RV)} {st : List RV} {M : RM} {mc ms : Nat} {Post : RO → RM → Prop} {x y : Int32} (hne : ¬ y = 0) (hd : decode mi.2.1 pc = .ok (.idiv, 1)) (k : Ev g d mi (pc + 1) ls (.inl (.int (x / y)) :: st) M mc ms Post) : Ev g d mi pc ls (.inl (.int y) :: .inl (.int x) :: st) M mc ms Post := by
  intro p e R s m args below meth c H locs cells slots lsA TC TS hC hM hS hl h1 h2 h3 h4
  obtain ⟨hx, hb, hml, hown, hr, hlk, hxt, hts, hK, hf, hlo, hnm⟩ := id hC
  exact lv_idiv hx hb hd hne (k p e R s m args below meth c H locs cells slots lsA TC TS hC hM hS hl h1 h2 h3 h4)
theorem ev_irem {g : GL} {d : Nat} {mi : MI} {pc : Nat} {ls : List (Option RV)} {st : List RV} {M : RM} {mc ms : Nat} {Post : RO → RM → Prop} {x y : Int32} (hne : ¬ y = 0) (hd : decode mi.2.1 pc = .ok (.irem, 1)) (k : Ev g d mi (pc + 1) ls (.inl (.int (x - x / y * y)) :: st) M mc ms Post) : Ev g d mi pc ls (.inl (.int y) :: .inl (.int x) :: st) M mc ms Post := by
  intro p e R s m args below meth c H locs cells slots lsA TC TS hC hM hS hl h1 h2 h3 h4
  obtain ⟨hx, hb, hml, hown, hr, hlk, hxt, hts, hK, hf, hlo, hnm⟩ := id hC
  exact lv_irem hx hb hd hne (k p e R s m args below meth c H locs cells slots lsA TC TS hC hM hS hl h1 h2 h3 h4)
theorem ev_ineg {g : GL} {d : Nat} {mi : MI} {pc : Nat} {ls : List (Option RV)} {st : List RV} {M : RM} {mc ms : Nat} {Post : RO → RM → Prop} {x : Int32} (hd : decode mi.2.1 pc = .ok (.ineg, 1)) (k : Ev g d mi (pc + 1) ls (.inl (.int (-x)) :: st) M mc ms Post) : Ev g d mi pc ls (.inl (.int x) :: st) M mc ms Post := by
  intro p e R s m args below meth c H locs cells slots lsA TC TS hC hM hS hl h1 h2 h3 h4
  obtain ⟨hx, hb, hml, hown, hr, hlk, hxt, hts, hK, hf, hlo, hnm⟩ := id hC
  exact lv_ineg hx hb hd (k p e R s m args below meth c H locs cells slots lsA TC TS hC hM hS hl h1 h2 h3 h4)
theorem ev_i2l {g : GL} {d : Nat} {mi : MI} {pc : Nat} {ls : List (Option RV)} {st : List RV} {M : RM} {mc ms : Nat} {Post : RO → RM → Prop} {x : Int32} (hd : decode mi.2.1 pc = .ok (.i2l, 1)) (k : Ev g d mi (pc + 1) ls (.inl (.long x.toInt64) :: st) M mc ms Post) : Ev g d mi pc ls (.inl (.int x) :: st) M mc ms Post := by
  intro p e R s m args below meth c H locs cells slots lsA TC TS hC hM hS hl h1 h2 h3 h4
  obtain ⟨hx, hb, hml, hown, hr, hlk, hxt, hts, hK, hf, hlo, hnm⟩ := id hC
  exact lv_i2l hx hb hd rfl (k p e R s m args below meth c H locs cells slots lsA TC TS hC hM hS hl h1 h2 h3 h4)
theorem ev_i2c {g : GL} {d : Nat} {mi : MI} {pc : Nat} {ls : List (Option RV)} {st : List RV} {M : RM} {mc ms : Nat} {Post : RO → RM → Prop} {x : Int32} (hd : decode mi.2.1 pc = .ok (.i2c, 1)) (k : Ev g d mi (pc + 1) ls (.inl (.int (x.toUInt32 % 65536).toInt32) :: st) M mc ms Post) : Ev g d mi pc ls (.inl (.int x) :: st) M mc ms Post := by
  intro p e R s m args below meth c H locs cells slots lsA TC TS hC hM hS hl h1 h2 h3 h4
  obtain ⟨hx, hb, hml, hown, hr, hlk, hxt, hts, hK, hf, hlo, hnm⟩ := id hC
  exact lv_i2c hx hb hd rfl (k p e R s m args below meth c H locs cells slots lsA TC TS hC hM hS hl h1 h2 h3 h4)
theorem ev_i2b {g : GL} {d : Nat} {mi : MI} {pc : Nat} {ls : List (Option RV)} {st : List RV} {M : RM} {mc ms : Nat} {Post : RO → RM → Prop} {x : Int32} (hd : decode mi.2.1 pc = .ok (.i2b, 1)) (k : Ev g d mi (pc + 1) ls (.inl (.int x.toInt8.toInt32) :: st) M mc ms Post) : Ev g d mi pc ls (.inl (.int x) :: st) M mc ms Post := by
  intro p e R s m args below meth c H locs cells slots lsA TC TS hC hM hS hl h1 h2 h3 h4
  obtain ⟨hx, hb, hml, hown, hr, hlk, hxt, hts, hK, hf, hlo, hnm⟩ := id hC
  exact lv_i2b hx hb hd rfl (k p e R s m args below meth c H locs cells slots lsA TC TS hC hM hS hl h1 h2 h3 h4)
theorem ev_i2f {g : GL} {d : Nat} {mi : MI} {pc : Nat} {ls : List (Option RV)} {st : List RV} {M : RM} {mc ms : Nat} {Post : RO → RM → Prop} {x : Int32} (hd : decode mi.2.1 pc = .ok (.i2f, 1)) (k : Ev g d mi (pc + 1) ls (.inl (.float (FP.i2f x)) :: st) M mc ms Post) : Ev g d mi pc ls (.inl (.int x) :: st) M mc ms Post := by
  intro p e R s m args below meth c H locs cells slots lsA TC TS hC hM hS hl h1 h2 h3 h4
  obtain ⟨hx, hb, hml, hown, hr, hlk, hxt, hts, hK, hf, hlo, hnm⟩ := id hC
  exact lv_i2f hx hb hd (k p e R s m args below meth c H locs cells slots lsA TC TS hC hM hS hl h1 h2 h3 h4)
theorem ev_i2d {g : GL} {d : Nat} {mi : MI} {pc : Nat} {ls : List (Option RV)} {st : List RV} {M : RM} {mc ms : Nat} {Post : RO → RM → Prop} {x : Int32} (hd : decode mi.2.1 pc = .ok (.i2d, 1)) (k : Ev g d mi (pc + 1) ls (.inl (.double (FP.i2d x)) :: st) M mc ms Post) : Ev g d mi pc ls (.inl (.int x) :: st) M mc ms Post := by
  intro p e R s m args below meth c H locs cells slots lsA TC TS hC hM hS hl h1 h2 h3 h4
  obtain ⟨hx, hb, hml, hown, hr, hlk, hxt, hts, hK, hf, hlo, hnm⟩ := id hC
  exact lv_i2d hx hb hd (k p e R s m args below meth c H locs cells slots lsA TC TS hC hM hS hl h1 h2 h3 h4)
theorem ev_fdiv {g : GL} {d : Nat} {mi : MI} {pc : Nat} {ls : List (Option RV)} {st : List RV} {M : RM} {mc ms : Nat} {Post : RO → RM → Prop} {x y : UInt32} (hne : vf_n32 (FP.fdiv x y)) (hd : decode mi.2.1 pc = .ok (.fdiv, 1)) (k : Ev g d mi (pc + 1) ls (.inl (.float (FP.fdiv x y)) :: st) M mc ms Post) : Ev g d mi pc ls (.inl (.float y) :: .inl (.float x) :: st) M mc ms Post := by
  intro p e R s m args below meth c H locs cells slots lsA TC TS hC hM hS hl h1 h2 h3 h4
  obtain ⟨hx, hb, hml, hown, hr, hlk, hxt, hts, hK, hf, hlo, hnm⟩ := id hC
  exact lv_fdiv hx hb hd hne (k p e R s m args below meth c H locs cells slots lsA TC TS hC hM hS hl h1 h2 h3 h4)
theorem ev_ddiv {g : GL} {d : Nat} {mi : MI} {pc : Nat} {ls : List (Option RV)} {st : List RV} {M : RM} {mc ms : Nat} {Post : RO → RM → Prop} {x y : UInt64} (hne : vf_n64 (FP.ddiv x y)) (hd : decode mi.2.1 pc = .ok (.ddiv, 1)) (k : Ev g d mi (pc + 1) ls (.inl (.double (FP.ddiv x y)) :: st) M mc ms Post) : Ev g d mi pc ls (.inl (.double y) :: .inl (.double x) :: st) M mc ms Post := by
  intro p e R s m args below meth c H locs cells slots lsA TC TS hC hM hS hl h1 h2 h3 h4
  obtain ⟨hx, hb, hml, hown, hr, hlk, hxt, hts, hK, hf, hlo, hnm⟩ := id hC
  exact lv_ddiv hx hb hd hne (k p e R s m args below meth c H locs cells slots lsA TC TS hC hM hS hl h1 h2 h3 h4)
theorem ev_f2d {g : GL} {d : Nat} {mi : MI} {pc : Nat} {ls : List (Option RV)} {st : List RV} {M : RM} {mc ms : Nat} {Post : RO → RM → Prop} {x : UInt32} (hne : vf_n64 (FP.f2d x)) (hd : decode mi.2.1 pc = .ok (.f2d, 1)) (k : Ev g d mi (pc + 1) ls (.inl (.double (FP.f2d x)) :: st) M mc ms Post) : Ev g d mi pc ls (.inl (.float x) :: st) M mc ms Post := by
  intro p e R s m args below meth c H locs cells slots lsA TC TS hC hM hS hl h1 h2 h3 h4
  obtain ⟨hx, hb, hml, hown, hr, hlk, hxt, hts, hK, hf, hlo, hnm⟩ := id hC
  exact lv_f2d hx hb hd hne (k p e R s m args below meth c H locs cells slots lsA TC TS hC hM hS hl h1 h2 h3 h4)
theorem ev_dcmp {g : GL} {d : Nat} {mi : MI} {pc : Nat} {ls : List (Option RV)} {st : List RV} {M : RM} {mc ms : Nat} {Post : RO → RM → Prop} {x y : UInt64} {op : CmpOp} (hd : decode mi.2.1 pc = .ok (.dcmp op, 1)) (k : Ev g d mi (pc + 1) ls (.inl (.int (Op.cmpValue (FP.dcmp x y) op)) :: st) M mc ms Post) : Ev g d mi pc ls (.inl (.double y) :: .inl (.double x) :: st) M mc ms Post := by
  intro p e R s m args below meth c H locs cells slots lsA TC TS hC hM hS hl h1 h2 h3 h4
  obtain ⟨hx, hb, hml, hown, hr, hlk, hxt, hts, hK, hf, hlo, hnm⟩ := id hC
  exact lv_dcmp hx hb hd (k p e R s m args below meth c H locs cells slots lsA TC TS hC hM hS hl h1 h2 h3 h4)
theorem ev_dup {g : GL} {d : Nat} {mi : MI} {pc : Nat} {ls : List (Option RV)} {st : List RV} {M : RM} {mc ms : Nat} {Post : RO → RM → Prop} {v : RV} (o1 : one1 v = true) (hd : decode mi.2.1 pc = .ok (.dup, 1)) (k : Ev g d mi (pc + 1) ls (v :: v :: st) M mc ms Post) : Ev g d mi pc ls (v :: st) M mc ms Post := by
  intro p e R s m args below meth c H locs cells slots lsA TC TS hC hM hS hl h1 h2 h3 h4
  obtain ⟨hx, hb, hml, hown, hr, hlk, hxt, hts, hK, hf, hlo, hnm⟩ := id hC
  exact lv_dup hx hb hd (one1_cat o1) (k p e R s m args below meth c H locs cells slots lsA TC TS hC hM hS hl h1 h2 h3 h4)
theorem ev_pop {g : GL} {d : Nat} {mi : MI} {pc : Nat} {ls : List (Option RV)} {st : List RV} {M : RM} {mc ms : Nat} {Post : RO → RM → Prop} {v : RV} (o1 : one1 v = true) (hd : decode mi.2.1 pc = .ok (.pop, 1)) (k : Ev g d mi (pc + 1) ls (st) M mc ms Post) : Ev g d mi pc ls (v :: st) M mc ms Post := by
  intro p e R s m args below meth c H locs cells slots lsA TC TS hC hM hS hl h1 h2 h3 h4
  obtain ⟨hx, hb, hml, hown, hr, hlk, hxt, hts, hK, hf, hlo, hnm⟩ := id hC
  exact lv_pop hx hb hd (one1_cat o1) (k p e R s m args below meth c H locs cells slots lsA TC TS hC hM hS hl h1 h2 h3 h4)
theorem ev_dup_x1 {g : GL} {d : Nat} {mi : MI} {pc : Nat} {ls : List (Option RV)} {st : List RV} {M : RM} {mc ms : Nat} {Post : RO → RM → Prop} {v w : RV} (o1 : one1 v = true) (o2 : one1 w = true) (hd : decode mi.2.1 pc = .ok (.dup_x1, 1)) (k : Ev g d mi (pc + 1) ls (v :: w :: v :: st) M mc ms Post) : Ev g d mi pc ls (v :: w :: st) M mc ms Post := by
  intro p e R s m args below meth c H locs cells slots lsA TC TS hC hM hS hl h1 h2 h3 h4
  obtain ⟨hx, hb, hml, hown, hr, hlk, hxt, hts, hK, hf, hlo, hnm⟩ := id hC
  exact lv_dup_x1 hx hb hd (one1_cat o1) (one1_cat o2) (k p e R s m args below meth c H locs cells slots lsA TC TS hC hM hS hl h1 h2 h3 h4)
theorem ev_dup2 {g : GL} {d : Nat} {mi : MI} {pc : Nat} {ls : List (Option RV)} {st : List RV} {M : RM} {mc ms : Nat} {Post : RO → RM → Prop} {v w : RV} (o1 : one1 v = true) (o2 : one1 w = true) (hd : decode mi.2.1 pc = .ok (.dup2, 1)) (k : Ev g d mi (pc + 1) ls (v :: w :: v :: w :: st) M mc ms Post) : Ev g d mi pc ls (v :: w :: st) M mc ms Post := by
  intro p e R s m args below meth c H locs cells slots lsA TC TS hC hM hS hl h1 h2 h3 h4
  obtain ⟨hx, hb, hml, hown, hr, hlk, hxt, hts, hK, hf, hlo, hnm⟩ := id hC
  exact lv_dup2_11 hx hb hd (one1_cat o1) (one1_cat o2) (k p e R s m args below meth c H locs cells slots lsA TC TS hC hM hS hl h1 h2 h3 h4)
theorem ev_goto {g : GL} {d : Nat} {mi : MI} {pc : Nat} {ls : List (Option RV)} {st : List RV} {M : RM} {mc ms : Nat} {Post : RO → RM → Prop} {off : Int} {tgt : Nat} (ht : (pc : Int) + off = (tgt : Int)) (hd : decode mi.2.1 pc = .ok (.goto off, 3)) (k : Ev g d mi (tgt) ls (st) M mc ms Post) : Ev g d mi pc ls (st) M mc ms Post := by
  intro p e R s m args below meth c H locs cells slots lsA TC TS hC hM hS hl h1 h2 h3 h4
  obtain ⟨hx, hb, hml, hown, hr, hlk, hxt, hts, hK, hf, hlo, hnm⟩ := id hC
  exact lv_goto hx hb hd ht (k p e R s m args below meth c H locs cells slots lsA TC TS hC hM hS hl h1 h2 h3 h4)
theorem ev_if_eq {g : GL} {d : Nat} {mi : MI} {pc : Nat} {ls : List (Option RV)} {st : List RV} {M : RM} {mc ms : Nat} {Post : RO → RM → Prop} {x : Int32} {off : Int} {tgt : Nat} (ht : (pc : Int) + off = (tgt : Int)) (hd : decode mi.2.1 pc = .ok (.ifCond .eq off, 3)) (kt : x = 0 → Ev g d mi tgt ls st M mc ms Post) (kf : ¬ x = 0 → Ev g d mi (pc + 3) ls st M mc ms Post) : Ev g d mi pc ls (.inl (.int x) :: st) M mc ms Post := by
  intro p e R s m args below meth c H locs cells slots lsA TC TS hC hM hS hl h1 h2 h3 h4
  obtain ⟨hx, hb, hml, hown, hr, hlk, hxt, hts, hK, hf, hlo, hnm⟩ := id hC
  exact lv_if_eq hx hb hd ht (fun q => kt q p e R s m args below meth c H locs cells slots lsA TC TS hC hM hS hl h1 h2 h3 h4) (fun q => kf q p e R s m args below meth c H locs cells slots lsA TC TS hC hM hS hl h1 h2 h3 h4)
theorem ev_icmp_eq {g : GL} {d : Nat} {mi : MI} {pc : Nat} {ls : List (Option RV)} {st : List RV} {M : RM} {mc ms : Nat} {Post : RO → RM → Prop} {x y : Int32} {off : Int} {tgt : Nat} (ht : (pc : Int) + off = (tgt : Int)) (hd : decode mi.2.1 pc = .ok (.if_icmp .eq off, 3)) (kt : x = y → Ev g d mi tgt ls st M mc ms Post) (kf : ¬ x = y → Ev g d mi (pc + 3) ls st M mc ms Post) : Ev g d mi pc ls (.inl (.int y) :: .inl (.int x) :: st) M mc ms Post := by
  intro p e R s m args below meth c H locs cells slots lsA TC TS hC hM hS hl h1 h2 h3 h4
  obtain ⟨hx, hb, hml, hown, hr, hlk, hxt, hts, hK, hf, hlo, hnm⟩ := id hC
  exact lv_icmp_eq hx hb hd ht (fun q => kt q p e R s m args below meth c H locs cells slots lsA TC TS hC hM hS hl h1 h2 h3 h4) (fun q => kf q p e R s m args below meth c H locs cells slots lsA TC TS hC hM hS hl h1 h2 h3 h4)
theorem ev_if_ne {g : GL} {d : Nat} {mi : MI} {pc : Nat} {ls : List (Option RV)} {st : List RV} {M : RM} {mc ms : Nat} {Post : RO → RM → Prop} {x : Int32} {off : Int} {tgt : Nat} (ht : (pc : Int) + off = (tgt : Int)) (hd : decode mi.2.1 pc = .ok (.ifCond .ne off, 3)) (kt : ¬ x = 0 → Ev g d mi tgt ls st M mc ms Post) (kf : x = 0 → Ev g d mi (pc + 3) ls st M mc ms Post) : Ev g d mi pc ls (.inl (.int x) :: st) M mc ms Post := by
  intro p e R s m args below meth c H locs cells slots lsA TC TS hC hM hS hl h1 h2 h3 h4
  obtain ⟨hx, hb, hml, hown, hr, hlk, hxt, hts, hK, hf, hlo, hnm⟩ := id hC
  exact lv_if_ne hx hb hd ht (fun q => kt q p e R s m args below meth c H locs cells slots lsA TC TS hC hM hS hl h1 h2 h3 h4) (fun q => kf q p e R s m args below meth c H locs cells slots lsA TC TS hC hM hS hl h1 h2 h3 h4)
theorem ev_icmp_ne {g : GL} {d : Nat} {mi : MI} {pc : Nat} {ls : List (Option RV)} {st : List RV} {M : RM} {mc ms : Nat} {Post : RO → RM → Prop} {x y : Int32} {off : Int} {tgt : Nat} (ht : (pc : Int) + off = (tgt : Int)) (hd : decode mi.2.1 pc = .ok (.if_icmp .ne off, 3)) (kt : ¬ x = y → Ev g d mi tgt ls st M mc ms Post) (kf : x = y → Ev g d mi (pc + 3) ls st M mc ms Post) : Ev g d mi pc ls (.inl (.int y) :: .inl (.int x) :: st) M mc ms Post := by
  intro p e R s m args below meth c H locs cells slots lsA TC TS hC hM hS hl h1 h2 h3 h4
  obtain ⟨hx, hb, hml, hown, hr, hlk, hxt, hts, hK, hf, hlo, hnm⟩ := id hC
  exact lv_icmp_ne hx hb hd ht (fun q => kt q p e R s m args below meth c H locs cells slots lsA TC TS hC hM hS hl h1 h2 h3 h4) (fun q => kf q p e R s m args below meth c H locs cells slots lsA TC TS hC hM hS hl h1 h2 h3 h4)
theorem ev_if_lt {g : GL} {d : Nat} {mi : MI} {pc : Nat} {ls : List (Option RV)} {st : List RV} {M : RM} {mc ms : Nat} {Post : RO → RM → Prop} {x : Int32} {off : Int} {tgt : Nat} (ht : (pc : Int) + off = (tgt : Int)) (hd : decode mi.2.1 pc = .ok (.ifCond .lt off, 3)) (kt : x < 0 → Ev g d mi tgt ls st M mc ms Post) (kf : ¬ x < 0 → Ev g d mi (pc + 3) ls st M mc ms Post) : Ev g d mi pc ls (.inl (.int x) :: st) M mc ms Post := by
  intro p e R s m args below meth c H locs cells slots lsA TC TS hC hM hS hl h1 h2 h3 h4
  obtain ⟨hx, hb, hml, hown, hr, hlk, hxt, hts, hK, hf, hlo, hnm⟩ := id hC
  exact lv_if_lt hx hb hd ht (fun q => kt q p e R s m args below meth c H locs cells slots lsA TC TS hC hM hS hl h1 h2 h3 h4) (fun q => kf q p e R s m args below meth c H locs cells slots lsA TC TS hC hM hS hl h1 h2 h3 h4)
theorem ev_icmp_lt {g : GL} {d : Nat} {mi : MI} {pc : Nat} {ls : List (Option RV)} {st : List RV} {M : RM} {mc ms : Nat} {Post : RO → RM → Prop} {x y : Int32} {off : Int} {tgt : Nat} (ht : (pc : Int) + off = (tgt : Int)) (hd : decode mi.2.1 pc = .ok (.if_icmp .lt off, 3)) (kt : x < y → Ev g d mi tgt ls st M mc ms Post) (kf : ¬ x < y → Ev g d mi (pc + 3) ls st M mc ms Post) : Ev g d mi pc ls (.inl (.int y) :: .inl (.int x) :: st) M mc ms Post := by
  intro p e R s m args below meth c H locs cells slots lsA TC TS hC hM hS hl h1 h2 h3 h4
  obtain ⟨hx, hb, hml, hown, hr, hlk, hxt, hts, hK, hf, hlo, hnm⟩ := id hC
  exact lv_icmp_lt hx hb hd ht (fun q => kt q p e R s m args below meth c H locs cells slots lsA TC TS hC hM hS hl h1 h2 h3 h4) (fun q => kf q p e R s m args below meth c H locs cells slots lsA TC TS hC hM hS hl h1 h2 h3 h4)
theorem ev_if_ge {g : GL} {d : Nat} {mi : MI} {pc : Nat} {ls : List (Option RV)} {st : List RV} {M : RM} {mc ms : Nat} {Post : RO → RM → Prop} {x : Int32} {off : Int} {tgt : Nat} (ht : (pc : Int) + off = (tgt : Int)) (hd : decode mi.2.1 pc = .ok (.ifCond .ge off, 3)) (kt : 0 ≤ x → Ev g d mi tgt ls st M mc ms Post) (kf : ¬ 0 ≤ x → Ev g d mi (pc + 3) ls st M mc ms Post) : Ev g d mi pc ls (.inl (.int x) :: st) M mc ms Post := by
  intro p e R s m args below meth c H locs cells slots lsA TC TS hC hM hS hl h1 h2 h3 h4
  obtain ⟨hx, hb, hml, hown, hr, hlk, hxt, hts, hK, hf, hlo, hnm⟩ := id hC
  exact lv_if_ge hx hb hd ht (fun q => kt q p e R s m args below meth c H locs cells slots lsA TC TS hC hM hS hl h1 h2 h3 h4) (fun q => kf q p e R s m args below meth c H locs cells slots lsA TC TS hC hM hS hl h1 h2 h3 h4)
theorem ev_icmp_ge {g : GL} {d : Nat} {mi : MI} {pc : Nat} {ls : List (Option RV)} {st : List RV} {M : RM} {mc ms : Nat} {Post : RO → RM → Prop} {x y : Int32} {off : Int} {tgt : Nat} (ht : (pc : Int) + off = (tgt : Int)) (hd : decode mi.2.1 pc = .ok (.if_icmp .ge off, 3)) (kt : y ≤ x → Ev g d mi tgt ls st M mc ms Post) (kf : ¬ y ≤ x → Ev g d mi (pc + 3) ls st M mc ms Post) : Ev g d mi pc ls (.inl (.int y) :: .inl (.int x) :: st) M mc ms Post := by
  intro p e R s m args below meth c H locs cells slots lsA TC TS hC hM hS hl h1 h2 h3 h4
  obtain ⟨hx, hb, hml, hown, hr, hlk, hxt, hts, hK, hf, hlo, hnm⟩ := id hC
  exact lv_icmp_ge hx hb hd ht (fun q => kt q p e R s m args below meth c H locs cells slots lsA TC TS hC hM hS hl h1 h2 h3 h4) (fun q => kf q p e R s m args below meth c H locs cells slots lsA TC TS hC hM hS hl h1 h2 h3 h4)
theorem ev_if_gt {g : GL} {d : Nat} {mi : MI} {pc : Nat} {ls : List (Option RV)} {st : List RV} {M : RM} {mc ms : Nat} {Post : RO → RM → Prop} {x : Int32} {off : Int} {tgt : Nat} (ht : (pc : Int) + off = (tgt : Int)) (hd : decode mi.2.1 pc = .ok (.ifCond .gt off, 3)) (kt : 0 < x → Ev g d mi tgt ls st M mc ms Post) (kf : ¬ 0 < x → Ev g d mi (pc + 3) ls st M mc ms Post) : Ev g d mi pc ls (.inl (.int x) :: st) M mc ms Post := by
  intro p e R s m args below meth c H locs cells slots lsA TC TS hC hM hS hl h1 h2 h3 h4
  obtain ⟨hx, hb, hml, hown, hr, hlk, hxt, hts, hK, hf, hlo, hnm⟩ := id hC
  exact lv_if_gt hx hb hd ht (fun q => kt q p e R s m args below meth c H locs cells slots lsA TC TS hC hM hS hl h1 h2 h3 h4) (fun q => kf q p e R s m args below meth c H locs cells slots lsA TC TS hC hM hS hl h1 h2 h3 h4)
theorem ev_icmp_gt {g : GL} {d : Nat} {mi : MI} {pc : Nat} {ls : List (Option RV)} {st : List RV} {M : RM} {mc ms : Nat} {Post : RO → RM → Prop} {x y : Int32} {off : Int} {tgt : Nat} (ht : (pc : Int) + off = (tgt : Int)) (hd : decode mi.2.1 pc = .ok (.if_icmp .gt off, 3)) (kt : y < x → Ev g d mi tgt ls st M mc ms Post) (kf : ¬ y < x → Ev g d mi (pc + 3) ls st M mc ms Post) : Ev g d mi pc ls (.inl (.int y) :: .inl (.int x) :: st) M mc ms Post := by
  intro p e R s m args below meth c H locs cells slots lsA TC TS hC hM hS hl h1 h2 h3 h4
  obtain ⟨hx, hb, hml, hown, hr, hlk, hxt, hts, hK, hf, hlo, hnm⟩ := id hC
  exact lv_icmp_gt hx hb hd ht (fun q => kt q p e R s m args below meth c H locs cells slots lsA TC TS hC hM hS hl h1 h2 h3 h4) (fun q => kf q p e R s m args below meth c H locs cells slots lsA TC TS hC hM hS hl h1 h2 h3 h4)
theorem ev_if_le {g : GL} {d : Nat} {mi : MI} {pc : Nat} {ls : List (Option RV)} {st : List RV} {M : RM} {mc ms : Nat} {Post : RO → RM → Prop} {x : Int32} {off : Int} {tgt : Nat} (ht : (pc : Int) + off = (tgt : Int)) (hd : decode mi.2.1 pc = .ok (.ifCond .le off, 3)) (kt : x ≤ 0 → Ev g d mi tgt ls st M mc ms Post) (kf : ¬ x ≤ 0 → Ev g d mi (pc + 3) ls st M mc ms Post) : Ev g d mi pc ls (.inl (.int x) :: st) M mc ms Post := by
  intro p e R s m args below meth c H locs cells slots lsA TC TS hC hM hS hl h1 h2 h3 h4
  obtain ⟨hx, hb, hml, hown, hr, hlk, hxt, hts, hK, hf, hlo, hnm⟩ := id hC
  exact lv_if_le hx hb hd ht (fun q => kt q p e R s m args below meth c H locs cells slots lsA TC TS hC hM hS hl h1 h2 h3 h4) (fun q => kf q p e R s m args below meth c H locs cells slots lsA TC TS hC hM hS hl h1 h2 h3 h4)
theorem ev_icmp_le {g : GL} {d : Nat} {mi : MI} {pc : Nat} {ls : List (Option RV)} {st : List RV} {M : RM} {mc ms : Nat} {Post : RO → RM → Prop} {x y : Int32} {off : Int} {tgt : Nat} (ht : (pc : Int) + off = (tgt : Int)) (hd : decode mi.2.1 pc = .ok (.if_icmp .le off, 3)) (kt : x ≤ y → Ev g d mi tgt ls st M mc ms Post) (kf : ¬ x ≤ y → Ev g d mi (pc + 3) ls st M mc ms Post) : Ev g d mi pc ls (.inl (.int y) :: .inl (.int x) :: st) M mc ms Post := by
  intro p e R s m args below meth c H locs cells slots lsA TC TS hC hM hS hl h1 h2 h3 h4
  obtain ⟨hx, hb, hml, hown, hr, hlk, hxt, hts, hK, hf, hlo, hnm⟩ := id hC
  exact lv_icmp_le hx hb hd ht (fun q => kt q p e R s m args below meth c H locs cells slots lsA TC TS hC hM hS hl h1 h2 h3 h4) (fun q => kf q p e R s m args below meth c H locs cells slots lsA TC TS hC hM hS hl h1 h2 h3 h4)
theorem ev_lcmp {g : GL} {d : Nat} {mi : MI} {pc : Nat} {ls : List (Option RV)} {st : List RV} {M : RM} {mc ms : Nat} {Post : RO → RM → Prop} {x y : Int64} (hd : decode mi.2.1 pc = .ok (.lcmp, 1)) (k : Ev g d mi (pc + 1) ls (.inl (.int (lg_cmp x y)) :: st) M mc ms Post) : Ev g d mi pc ls (.inl (.long y) :: .inl (.long x) :: st) M mc ms Post := by
  intro p e R s m args below meth c H locs cells slots lsA TC TS hC hM hS hl h1 h2 h3 h4
  obtain ⟨hx, hb, hml, hown, hr, hlk, hxt, hts, hK, hf, hlo, hnm⟩ := id hC
  exact W.lcmp hx hb hd (k p e R s m args below meth c H locs cells slots lsA TC TS hC hM hS hl h1 h2 h3 h4)
end
section

theorem cellAt.kept {g : GL} {U : State} {H H1 : Heap} {a : Nat} {c : RC} (h : cellAt g U H a c) (e : H1[a]? = H[a]?) : cellAt g U H1 a c := by
  obtain ⟨b, i, n, f⟩ := c
  cases b with
  | false =>
    obtain ⟨r, cell, q1, q2, q3⟩ := h
    exact ⟨r, cell, q1, by rw [e]; exact q2, q3⟩
  | true =>
    obtain ⟨ty, cell, q1, q2, q3⟩ := h
    exact ⟨ty, cell, q1, by rw [e]; exact q2, q3⟩
theorem cellAt.moved {g : GL} {u U : State} {H : Heap} {a : Nat} {c : RC} (hvm : u.vm.Alike U.vm) (h : cellAt g u H a c) : cellAt g U H a c := by
  obtain ⟨b, i, n, f⟩ := c
  cases b with
  | false => exact h
  | true =>
    obtain ⟨ty, cell, q1, q2, q3, q4, q5, q6, q7⟩ := h
    exact ⟨ty, cell, q1, q2, State.isArrayOf_alike hvm q3, q4, q5, ⟨q6.1, fun e hb => by rw [hvm.findClass]; exact q6.2 e hb⟩, q7⟩
theorem cellAt.lt {g : GL} {U : State} {H : Heap} {a : Nat} {c : RC} (h : cellAt g U H a c) : a < H.size := by
  obtain ⟨b, i, n, f⟩ := c
  cases b with
  | false =>
    obtain ⟨r, cell, q1, q2, q3⟩ := h
    exact (Array.getElem?_eq_some_iff.mp q2).1
  | true =>
    obtain ⟨ty, cell, q1, q2, q3⟩ := h
    exact (Array.getElem?_eq_some_iff.mp q2).1
/-- the cell of a reference, in the heap as it is now -/
theorem cell_of {g : GL} {M : RM} {s : State} {H : Heap} {locs : List Loc} (hM : MR g M s H) (hS : va_S (rA g) s.heap H locs) (hK : KU g s s.heap) {r : Nat × Nat} {c : RC} (h : rdM g M r = some c) : cellAt g s H (adM g r) c := by
  obtain ⟨a, o⟩ := r
  cases a with
  | zero => exact hM.2 o c h
  | succ a =>
    obtain ⟨-, -, -, -, -, -, hO, hbs, -⟩ := hK
    obtain ⟨h1, h2⟩ := hO o c h
    exact h2.kept (hS.2.1 _ h2.lt (by show ¬ g.2.2.2.1 ≤ g.2.2.2.2.1 o; omega))
def wrG (G : RG) (o : Nat) (c : RC) : RG := fun q => if q = o then some c else G q
def updF (f : Nat → RV) (k : Nat) (v : RV) : Nat → RV := fun j => if j = k then v else f j
/-- a class of the list, its fields and their words -/
def CO (ci : Nat) (C : String) (T : u_T) (N : Nat) (ty : Nat → FieldType) : Prop :=
  vwCl[ci]? = some (C, T, N) ∧ (∀ w ∈ u_ws C T N, w ∈ lw_good) ∧ (∀ k, k < N → parseFieldDescriptor (T k).2.2.1 = some (ty k)) ∧ ∀ a, a < N → ∀ b, b < N → a ≠ b → (T a).2.1 ≠ (T b).2.1
/-- what an entry of a class's pool says of a field of objects of class ci: its place, whether it is final and of this class, its type -/
def FL (own : String) (idx ci k : Nat) (fin : Bool) (fty : FieldType) : Prop :=
  ∃ (C : String) (T : u_T) (N : Nat) (ty : Nat → FieldType) (ref : String), CO ci C T N ty ∧ k < N ∧ Cond.fieldLink own idx ref (T k).2.1 (T k).2.2.1 ∈ lw_good ∧ (ref = (T k).1 ∨ Cond.sameField ref (T k).1 (T k).2.1 (T k).2.2.1 ∈ lw_good) ∧ (T k).2.2.2 = fin ∧ (fin = true → (T k).1 = own) ∧ ty k = fty
theorem fl_same {s : State} {args : Array Value} {ref o n d : String} (hts : ∀ w ∈ lw_good, w.before args s = true) (h : ref = o ∨ Cond.sameField ref o n d ∈ lw_good) : ∀ x, s.fieldFound? o n d = some x → s.fieldFound? ref n d = some x := by
  rcases h with rfl | h
  · exact fun _ h => h
  · exact fun x hx => u_same (hts _ h) x hx
theorem ev_getf {g : GL} {d : Nat} {mi : MI} {pc : Nat} {ls : List (Option RV)} {st : List RV} {M : RM} {mc ms : Nat} {Post : RO → RM → Prop} {ci kf idx n : Nat} {fin : Bool} {fty : FieldType} {r : Nat × Nat} {f : Nat → RV} (fl : FL mi.1.cls idx ci kf fin fty) (hr0 : rdM g M r = some (false, ci, n, f)) (hd : decode mi.2.1 pc = .ok (.getfield idx, 3)) (k : Ev g d mi (pc + 3) ls (f kf :: st) M mc ms Post) : Ev g d mi pc ls (.inr r :: st) M mc ms Post := by
  intro p e R s m args below meth c H locs cells slots lsA TC TS hC hM hS hl h1 h2 h3 h4
  obtain ⟨hx, hb, hml, hown, hr, hlk, hxt, hts, hK, hf, hlo, hnm⟩ := id hC
  obtain ⟨C, T, N, ty, ref, ⟨co, hin, hty, hnmx⟩, hk, hlink, hsame, hfin, -, hfty⟩ := fl
  obtain ⟨r9, cell, q1, q2, q3, q4, q5, q6, q7⟩ := cell_of hM hS hK hr0
  cases co.symm.trans q1
  obtain ⟨hSl, hfc, kC, hkC, hkind⟩ := hK.2.1.1 ci _ co
  obtain ⟨cf, kf9, fi, fd, hi, hsl⟩ := hSl kf hk
  rw [List.map_cons, conc_ref]
  refine W.getf hx hb hown (hts _ hlink) (fl_same hts hsame _ hi) (u_facts hfc hkC (u_lays hts hin hk) hi).1 q2 q4 (v := conc g (f kf)) ?_ rfl rfl hd (k p e R s m args below meth c H locs cells slots lsA TC TS hC hM hS hl h1 h2 h3 h4)
  rw [hsl]
  exact q7 kf hk
def okv (g : GL) (t : FieldType) (v : RV) : Prop := narrow t (conc g v) = conc g v ∧ fits t (conc g v) = true
theorem conc_upd (g : GL) (f : Nat → RV) (k : Nat) (v : RV) : ∀ j, conc g (updF f k v j) = if j = k then conc g v else conc g (f j) := fun j => by unfold updF; split <;> rfl
/-- a cell of the new ones is written: the memory behind it -/
theorem MR.wr {g : GL} {G : RG} {nx o : Nat} {c c0 : RC} {s : State} {H H1 : Heap} (hM : MR g (G, nx) s H) (h0 : G o = some c0) (hz : H1.size = H.size) (hq : ∀ q, q ≠ g.2.2.2.1 + o → H1[q]? = H[q]?) (hc : cellAt g s H1 (g.2.2.2.1 + o) c) : MR g (wrG G o c, nx) s H1 := by
  refine ⟨by rw [hz]; exact hM.1, fun o1 c1 h1 => ?_⟩
  simp only [wrG] at h1
  by_cases e : o1 = o
  · subst e
    rw [if_pos rfl] at h1
    cases h1
    exact hc
  · rw [if_neg e] at h1
    exact (hM.2 o1 c1 h1).kept (hq _ (fun z => e (by omega)))
theorem slots_set {cell : Cell} {i j : Nat} {v w : Value} (h : cell.slots[j]? = some w) (hi : i < cell.slots.size) : (cell.setSlot i v).slots[j]? = some (if j = i then v else w) := by
  show (cell.slots.setIfInBounds i v)[j]? = _
  rw [Array.getElem?_setIfInBounds]
  by_cases e : i = j
  · subst e; simp [hi]
  · rw [if_neg e, if_neg (Ne.symm e)]; exact h
theorem ev_putf {g : GL} {d : Nat} {mi : MI} {pc : Nat} {ls : List (Option RV)} {st : List RV} {M : RM} {mc ms : Nat} {Post : RO → RM → Prop} {ci kf idx n o nx : Nat} {G : RG} {fty : FieldType} {f : Nat → RV} {v : RV} (fl : FL mi.1.cls idx ci kf false fty) (hr0 : G o = some (false, ci, n, f)) (hv : okv g fty v) (hd : decode mi.2.1 pc = .ok (.putfield idx, 3)) (k : Ev g d mi (pc + 3) ls st (wrG G o (false, ci, n, updF f kf v), nx) mc ms Post) : Ev g d mi pc ls (v :: .inr (0, o) :: st) (G, nx) mc ms Post := by
  intro p e R s m args below meth c H locs cells slots lsA TC TS hC hM hS hl h1 h2 h3 h4
  obtain ⟨hx, hb, hml, hown, hr, hlk, hxt, hts, hK, hf, hlo, hnm⟩ := id hC
  obtain ⟨C, T, N, ty, ref, ⟨co, hin, hty, hnmx⟩, hk, hlink, hsame, hfin, -, hfty⟩ := fl
  obtain ⟨r9, cell, q1, q2, q3, q4, q5, q6, q7⟩ := hM.2 o _ hr0
  cases co.symm.trans q1
  have hap := va_apart (own := mi.1.cls) hts hin ty hty hnmx hK.2.1 co
  obtain ⟨hSl, hfc, kC, hkC, hkind⟩ := hK.2.1.1 ci _ co
  obtain ⟨cf, kf9, fi, fd, hi, hsl⟩ := hSl kf hk
  have hlay := hts _ (hin _ (u_in_lay hk))
  unfold u_lay at hlay
  rw [if_neg (by rw [hfin]; decide)] at hlay
  have hst := (u_facts hfc hkC (u_lays hts hin hk) hi).1
  have h6 := u_store hfc hkC hkind hlay hi ((hty kf hk).trans (congrArg some hfty)) hv.1 hv.2
  have hlt : fd.slot < cell.slots.size := by rw [hsl]; exact k2_hasslot (q7 kf hk)
  refine W.putK hx hb (f := fd) ⟨hown, hts _ hlink, ⟨_, _, _, fl_same hts hsame _ hi⟩, hst⟩ (by rw [q3]; exact h6) q2 (q6 (Nat.le_add_right _ _)) hlt rfl rfl hd fun H' e1 e2 e3 => ?_
  refine k p e R s m args below meth c H' _ cells slots lsA TC TS hC (hM.wr hr0 e2 e3 ⟨_, _, co, e1, q3, q4, q5, q6, fun j hj => ?_⟩) (hS.put e2 e3 (Nat.le_add_right _ _)) hl h1 h2 h3 h4
  rw [slots_set (q7 j hj) hlt, conc_upd, hsl]
  by_cases ej : j = kf
  · subst ej; simp
  · rw [if_neg ej, if_neg (fun z => ej (Classical.byContradiction fun z2 => hap j kf hj hk z2 z))]
theorem ev_putfF {g : GL} {d : Nat} {mi : MI} {pc : Nat} {ls : List (Option RV)} {st : List RV} {M : RM} {mc ms : Nat} {Post : RO → RM → Prop} {ci kf idx n o nx : Nat} {G : RG} {fty : FieldType} {f : Nat → RV} {v : RV} (fl : FL mi.1.cls idx ci kf true fty) (hini : mi.1.name = "<init>") (hr0 : G o = some (false, ci, n, f)) (hv : okv g fty v) (hd : decode mi.2.1 pc = .ok (.putfield idx, 3)) (k : Ev g d mi (pc + 3) ls st (wrG G o (false, ci, n, updF f kf v), nx) mc ms Post) : Ev g d mi pc ls (v :: .inr (0, o) :: st) (G, nx) mc ms Post := by
  intro p e R s m args below meth c H locs cells slots lsA TC TS hC hM hS hl h1 h2 h3 h4
  obtain ⟨hx, hb, hml, hown, hr, hlk, hxt, hts, hK, hf, hlo, hnm⟩ := id hC
  obtain ⟨C, T, N, ty, ref, ⟨co, hin, hty, hnmx⟩, hk, hlink, hsame, hfin, hdecl, hfty⟩ := fl
  obtain ⟨r9, cell, q1, q2, q3, q4, q5, q6, q7⟩ := hM.2 o _ hr0
  cases co.symm.trans q1
  have hap := va_apart (own := mi.1.cls) hts hin ty hty hnmx hK.2.1 co
  obtain ⟨hSl, hfc, kC, hkC, hkind⟩ := hK.2.1.1 ci _ co
  obtain ⟨cf, kf9, fi, fd, hi, hsl⟩ := hSl kf hk
  have hlay := hts _ (hin _ (u_in_lay hk))
  unfold u_lay at hlay
  rw [if_pos hfin] at hlay
  have hst := (u_facts hfc hkC (u_lays hts hin hk) hi).1
  have hcf : m.cls = cf := by
    obtain ⟨_, _, c', _, _, _, -, -, hf', -, -, -, hown2, -⟩ := Cond.laysFinal_spec hlay
    have e1 : c' = cf := by have := hi.symm.trans hf'; simp at this; exact this.1.symm
    rw [hdecl rfl] at hown2
    rw [← e1]; exact Option.some.inj (hown.symm.trans hown2)
  have h6 := u_fits hfc hkC hkind (Or.inr hlay) hi ((hty kf hk).trans (congrArg some hfty)) hv.1 hv.2
  have hlt : fd.slot < cell.slots.size := by rw [hsl]; exact k2_hasslot (q7 kf hk)
  refine W.putFinK hx hb hown (hts _ hlink) (fl_same hts hsame _ hi) hst hcf (by rw [hnm]; exact hini) (by rw [q3]; exact h6) q2 (q6 (Nat.le_add_right _ _)) hlt rfl rfl hd fun H' e1 e2 e3 => ?_
  refine k p e R s m args below meth c H' _ cells slots lsA TC TS hC (hM.wr hr0 e2 e3 ⟨_, _, co, e1, q3, q4, q5, q6, fun j hj => ?_⟩) (hS.put e2 e3 (Nat.le_add_right _ _)) hl h1 h2 h3 h4
  rw [slots_set (q7 j hj) hlt, conc_upd, hsl]
  by_cases ej : j = kf
  · subst ej; simp
  · rw [if_neg ej, if_neg (fun z => ej (Classical.byContradiction fun z2 => hap j kf hj hk z2 z))]
theorem ev_alen {g : GL} {d : Nat} {mi : MI} {pc : Nat} {ls : List (Option RV)} {st : List RV} {M : RM} {mc ms : Nat} {Post : RO → RM → Prop} {ei n : Nat} {r : Nat × Nat} {f : Nat → RV} (hr0 : rdM g M r = some (true, ei, n, f)) (hd : decode mi.2.1 pc = .ok (.arraylength, 1)) (k : Ev g d mi (pc + 1) ls (.inl (.int (Int32.ofNat n)) :: st) M mc ms Post) : Ev g d mi pc ls (.inr r :: st) M mc ms Post := by
  intro p e R s m args below meth c H locs cells slots lsA TC TS hC hM hS hl h1 h2 h3 h4
  obtain ⟨hx, hb, hml, hown, hr, hlk, hxt, hts, hK, hf, hlo, hnm⟩ := id hC
  obtain ⟨ty, cell, q1, q2, q3, q4, q5, q6, q8, q7⟩ := cell_of hM hS hK hr0
  rw [List.map_cons, conc_ref]
  exact W.alen hx hb q2 q3 q5.2 rfl rfl hd (k p e R s m args below meth c H locs cells slots lsA TC TS hC hM hS hl h1 h2 h3 h4)
theorem ev_iald {g : GL} {d : Nat} {mi : MI} {pc : Nat} {ls : List (Option RV)} {st : List RV} {M : RM} {mc ms : Nat} {Post : RO → RM → Prop} {n : Nat} {r : Nat × Nat} {f : Nat → RV} {i : Int32} (hr0 : rdM g M r = some (true, 0, n, f)) (hi : vp_in i n) (hd : decode mi.2.1 pc = .ok (.iaload, 1)) (k : Ev g d mi (pc + 1) ls (f i.toNatClampNeg :: st) M mc ms Post) : Ev g d mi pc ls (.inl (.int i) :: .inr r :: st) M mc ms Post := by
  intro p e R s m args below meth c H locs cells slots lsA TC TS hC hM hS hl h1 h2 h3 h4
  obtain ⟨hx, hb, hml, hown, hr, hlk, hxt, hts, hK, hf, hlo, hnm⟩ := id hC
  obtain ⟨ty, cell, q1, q2, q3, q4, q5, q6, q8, q7⟩ := cell_of hM hS hK hr0
  cases (show some FieldType.int = some ty from q1)
  rw [List.map_cons, List.map_cons, conc_ref]
  exact W.iald hx hb q2 q3 q4 (q5.inn hi) (q7 _ (Nat.not_le.mp fun z => hi (Or.inr z))) rfl rfl hd (k p e R s m args below meth c H locs cells slots lsA TC TS hC hM hS hl h1 h2 h3 h4)
theorem ev_zald {g : GL} {d : Nat} {mi : MI} {pc : Nat} {ls : List (Option RV)} {st : List RV} {M : RM} {mc ms : Nat} {Post : RO → RM → Prop} {n : Nat} {r : Nat × Nat} {f : Nat → RV} {i : Int32} (hr0 : rdM g M r = some (true, 1, n, f)) (hi : vp_in i n) (hd : decode mi.2.1 pc = .ok (.baload, 1)) (k : Ev g d mi (pc + 1) ls (f i.toNatClampNeg :: st) M mc ms Post) : Ev g d mi pc ls (.inl (.int i) :: .inr r :: st) M mc ms Post := by
  intro p e R s m args below meth c H locs cells slots lsA TC TS hC hM hS hl h1 h2 h3 h4
  obtain ⟨hx, hb, hml, hown, hr, hlk, hxt, hts, hK, hf, hlo, hnm⟩ := id hC
  obtain ⟨ty, cell, q1, q2, q3, q4, q5, q6, q8, q7⟩ := cell_of hM hS hK hr0
  cases (show some FieldType.boolean = some ty from q1)
  rw [List.map_cons, List.map_cons, conc_ref]
  exact W.zald hx hb q2 q3 q4 (q5.inn hi) (q7 _ (Nat.not_le.mp fun z => hi (Or.inr z))) rfl rfl hd (k p e R s m args below meth c H locs cells slots lsA TC TS hC hM hS hl h1 h2 h3 h4)
theorem ev_bald {g : GL} {d : Nat} {mi : MI} {pc : Nat} {ls : List (Option RV)} {st : List RV} {M : RM} {mc ms : Nat} {Post : RO → RM → Prop} {n : Nat} {r : Nat × Nat} {f : Nat → RV} {i : Int32} (hr0 : rdM g M r = some (true, 2, n, f)) (hi : vp_in i n) (hd : decode mi.2.1 pc = .ok (.baload, 1)) (k : Ev g d mi (pc + 1) ls (f i.toNatClampNeg :: st) M mc ms Post) : Ev g d mi pc ls (.inl (.int i) :: .inr r :: st) M mc ms Post := by
  intro p e R s m args below meth c H locs cells slots lsA TC TS hC hM hS hl h1 h2 h3 h4
  obtain ⟨hx, hb, hml, hown, hr, hlk, hxt, hts, hK, hf, hlo, hnm⟩ := id hC
  obtain ⟨ty, cell, q1, q2, q3, q4, q5, q6, q8, q7⟩ := cell_of hM hS hK hr0
  cases (show some FieldType.byte = some ty from q1)
  rw [List.map_cons, List.map_cons, conc_ref]
  exact W.bald hx hb q2 q3 q4 (q5.inn hi) (q7 _ (Nat.not_le.mp fun z => hi (Or.inr z))) rfl rfl hd (k p e R s m args below meth c H locs cells slots lsA TC TS hC hM hS hl h1 h2 h3 h4)
theorem ev_aald {g : GL} {d : Nat} {mi : MI} {pc : Nat} {ls : List (Option RV)} {st : List RV} {M : RM} {mc ms : Nat} {Post : RO → RM → Prop} {n ei : Nat} {C : String} {r : Nat × Nat} {f : Nat → RV} {i : Int32} (he : rTy[ei]? = some (.object C)) (hr0 : rdM g M r = some (true, ei, n, f)) (hi : vp_in i n) (hd : decode mi.2.1 pc = .ok (.aaload, 1)) (k : Ev g d mi (pc + 1) ls (f i.toNatClampNeg :: st) M mc ms Post) : Ev g d mi pc ls (.inl (.int i) :: .inr r :: st) M mc ms Post := by
  intro p e R s m args below meth c H locs cells slots lsA TC TS hC hM hS hl h1 h2 h3 h4
  obtain ⟨hx, hb, hml, hown, hr, hlk, hxt, hts, hK, hf, hlo, hnm⟩ := id hC
  obtain ⟨ty, cell, q1, q2, q3, q4, q5, q6, q8, q7⟩ := cell_of hM hS hK hr0
  cases he.symm.trans q1
  rw [List.map_cons, List.map_cons, conc_ref]
  exact W.aald hx hb q2 q3 rfl q4 (q5.inn hi) (q7 _ (Nat.not_le.mp fun z => hi (Or.inr z))) rfl rfl hd (k p e R s m args below meth c H locs cells slots lsA TC TS hC hM hS hl h1 h2 h3 h4)
theorem arrSet9 {g : GL} {U : State} {H1 : Heap} {a ei n i : Nat} {ty : FieldType} {f : Nat → RV} {cell : Cell} {v : RV} (q1 : rTy[ei]? = some ty) (e : H1[a]? = some (cell.setSlot i (conc g v))) (q3 : U.isArrayOf cell ty) (q4 : cell.vm ≠ .unknown) (q5 : szA cell.slots.size n) (q6 : (4 ≤ ei → cell.cls = g.2.2.1 ei) ∧ (ei = 2 → g.2.2.2.1 ≤ a → U.vm.findClass "[B" = some cell.cls)) (q8 : g.2.2.2.1 ≤ a → cell = arrV cell.cls n (fun j => conc g (f j))) (q7 : ∀ j, j < n → cell.slots[j]? = some (conc g (f j))) (hi : i < n) : cellAt g U H1 a (true, ei, n, updF f i v) := by
  refine ⟨ty, _, q1, e, q3, q4, ?_, q6, fun hb => ?_, fun j hj => ?_⟩
  · show szA (cell.slots.setIfInBounds i _).size n
    simpa using q5
  · have h9 := q8 hb
    have h8 : cell.setSlot i (conc g v) = (arrV cell.cls n (fun j => conc g (f j))).setSlot i (conc g v) := by rw [← h9]
    rw [h8, arrV_store]
    show _ = arrV cell.cls n _
    congr 1
    funext j
    rw [conc_upd]
    rfl
  · rw [slots_set (q7 j hj) (Nat.lt_of_lt_of_le hi q5.1), conc_upd]
theorem ev_iast {g : GL} {d : Nat} {mi : MI} {pc : Nat} {ls : List (Option RV)} {st : List RV} {M : RM} {mc ms : Nat} {Post : RO → RM → Prop} {n o nx : Nat} {G : RG} {f : Nat → RV} {i : Int32} {x : Int32} (hr0 : G o = some (true, 0, n, f)) (hi : vp_in i n) (hd : decode mi.2.1 pc = .ok (.iastore, 1)) (k : Ev g d mi (pc + 1) ls st (wrG G o (true, 0, n, updF f i.toNatClampNeg (.inl (.int x))), nx) mc ms Post) : Ev g d mi pc ls (.inl (.int x) :: .inl (.int i) :: .inr (0, o) :: st) (G, nx) mc ms Post := by
  intro p e R s m args below meth c H locs cells slots lsA TC TS hC hM hS hl h1 h2 h3 h4
  obtain ⟨hx, hb, hml, hown, hr, hlk, hxt, hts, hK, hf, hlo, hnm⟩ := id hC
  obtain ⟨ty, cell, q1, q2, q3, q4, q5, q6, q8, q7⟩ := hM.2 o _ hr0
  cases (show some FieldType.int = some ty from q1)
  refine W.iast hx hb q2 q3 q4 (q5.inn hi) rfl rfl hd fun H' e1 e2 e3 => ?_
  exact k p e R s m args below meth c H' _ cells slots lsA TC TS hC (hM.wr hr0 e2 e3 (arrSet9 (v := .inl (.int x)) q1 e1 q3 q4 q5 q6 q8 q7 (Nat.not_le.mp fun z => hi (Or.inr z)))) (hS.put e2 e3 (Nat.le_add_right _ _)) hl h1 h2 h3 h4
theorem ev_zast {g : GL} {d : Nat} {mi : MI} {pc : Nat} {ls : List (Option RV)} {st : List RV} {M : RM} {mc ms : Nat} {Post : RO → RM → Prop} {n o nx : Nat} {G : RG} {f : Nat → RV} {i : Int32} {x : Int32} (hr0 : G o = some (true, 1, n, f)) (hi : vp_in i n) (hd : decode mi.2.1 pc = .ok (.bastore, 1)) (k : Ev g d mi (pc + 1) ls st (wrG G o (true, 1, n, updF f i.toNatClampNeg (.inl (narrow .boolean (.int x)))), nx) mc ms Post) : Ev g d mi pc ls (.inl (.int x) :: .inl (.int i) :: .inr (0, o) :: st) (G, nx) mc ms Post := by
  intro p e R s m args below meth c H locs cells slots lsA TC TS hC hM hS hl h1 h2 h3 h4
  obtain ⟨hx, hb, hml, hown, hr, hlk, hxt, hts, hK, hf, hlo, hnm⟩ := id hC
  obtain ⟨ty, cell, q1, q2, q3, q4, q5, q6, q8, q7⟩ := hM.2 o _ hr0
  cases (show some FieldType.boolean = some ty from q1)
  refine W.zast hx hb q2 q3 q4 (q5.inn hi) rfl rfl hd fun H' e1 e2 e3 => ?_
  exact k p e R s m args below meth c H' _ cells slots lsA TC TS hC (hM.wr hr0 e2 e3 (arrSet9 (v := .inl (narrow .boolean (.int x))) q1 e1 q3 q4 q5 q6 q8 q7 (Nat.not_le.mp fun z => hi (Or.inr z)))) (hS.put e2 e3 (Nat.le_add_right _ _)) hl h1 h2 h3 h4
theorem ev_bast {g : GL} {d : Nat} {mi : MI} {pc : Nat} {ls : List (Option RV)} {st : List RV} {M : RM} {mc ms : Nat} {Post : RO → RM → Prop} {n o nx : Nat} {G : RG} {f : Nat → RV} {i : Int32} {x : Int32} (hr0 : G o = some (true, 2, n, f)) (hi : vp_in i n) (hd : decode mi.2.1 pc = .ok (.bastore, 1)) (k : Ev g d mi (pc + 1) ls st (wrG G o (true, 2, n, updF f i.toNatClampNeg (.inl (narrow .byte (.int x)))), nx) mc ms Post) : Ev g d mi pc ls (.inl (.int x) :: .inl (.int i) :: .inr (0, o) :: st) (G, nx) mc ms Post := by
  intro p e R s m args below meth c H locs cells slots lsA TC TS hC hM hS hl h1 h2 h3 h4
  obtain ⟨hx, hb, hml, hown, hr, hlk, hxt, hts, hK, hf, hlo, hnm⟩ := id hC
  obtain ⟨ty, cell, q1, q2, q3, q4, q5, q6, q8, q7⟩ := hM.2 o _ hr0
  cases (show some FieldType.byte = some ty from q1)
  refine W.bast hx hb q2 q3 q4 (q5.inn hi) rfl rfl hd fun H' e1 e2 e3 => ?_
  exact k p e R s m args below meth c H' _ cells slots lsA TC TS hC (hM.wr hr0 e2 e3 (arrSet9 (v := .inl (narrow .byte (.int x))) q1 e1 q3 q4 q5 q6 q8 q7 (Nat.not_le.mp fun z => hi (Or.inr z)))) (hS.put e2 e3 (Nat.le_add_right _ _)) hl h1 h2 h3 h4
theorem ev_aast {g : GL} {d : Nat} {mi : MI} {pc : Nat} {ls : List (Option RV)} {st : List RV} {M : RM} {mc ms : Nat} {Post : RO → RM → Prop} {n o nx ei ci n2 : Nat} {G : RG} {f f2 : Nat → RV} {i : Int32} {rv : Nat × Nat} {r9 : vw_C} (hc : vwCl[ci]? = some r9) (he : rTy[ei]? = some (.object r9.1)) (h4e : 4 ≤ ei) (hr0 : G o = some (true, ei, n, f)) (hv : rdM g (G, nx) rv = some (false, ci, n2, f2)) (hi : vp_in i n) (hd : decode mi.2.1 pc = .ok (.aastore, 1)) (k : Ev g d mi (pc + 1) ls st (wrG G o (true, ei, n, updF f i.toNatClampNeg (.inr rv)), nx) mc ms Post) : Ev g d mi pc ls (.inr rv :: .inl (.int i) :: .inr (0, o) :: st) (G, nx) mc ms Post := by
  intro p e R s m args below meth c H locs cells slots lsA TC TS hC hM hS hl h1 h2 h3 h4
  obtain ⟨hx, hb, hml, hown, hr, hlk, hxt, hts, hK, hf, hlo, hnm⟩ := id hC
  obtain ⟨ty, cell, q1, q2, q3, q4, q5, q6, q8, q7⟩ := hM.2 o _ hr0
  cases he.symm.trans q1
  obtain ⟨r8, cellV, g1, g2, g3, g4, g5, g6, g7⟩ := cell_of hM hS hK hv
  cases hc.symm.trans g1
  have hcls := (hK.2.1.1 ci r9 hc).2
  have ht : (rTys g)[ei]? = some (g.2.2.1 ei, .object r9.1) := by
    unfold rTys
    rw [List.getElem?_mapIdx, he]
    rfl
  obtain ⟨kA, comp, k1, k2, k3, -⟩ := (hK.2.1.2 ei _ ht).2
  have hcomp : comp = g.2.1.1 ci := Option.some.inj (k3.symm.trans hcls.1)
  subst hcomp
  obtain ⟨kC, hkC, -⟩ := hcls.2
  have hlt : i.toNatClampNeg < n := Nat.not_le.mp fun q => hi (Or.inr q)
  rw [List.map_cons, conc_ref]
  refine W.aast hx hb q2 (fun q h => q3.1 q h) q4 (by rw [q6.1 h4e]; exact k1) k2 rfl hkC ⟨fun q => hi (Or.inl q), Nat.lt_of_lt_of_le hlt q5.1⟩ g2 (fun q h => by rw [h] at g5; exact absurd g5 (by simp [VmData.isStatics])) (by rw [g3]; exact hkC) (by rw [g3]; exact va_assign hcls) rfl rfl hd fun H' e1 e2 e3 => ?_
  exact k p e R s m args below meth c H' _ cells slots lsA TC TS hC (hM.wr hr0 e2 e3 (arrSet9 (v := .inr rv) q1 (by rw [conc_ref]; exact e1) q3 q4 q5 q6 q8 q7 hlt)) (hS.put e2 e3 (Nat.le_add_right _ _)) hl h1 h2 h3 h4
/-- a cell more, behind the last -/
theorem MR.more {g : GL} {G : RG} {nx : Nat} {c : RC} {s : State} {H H1 : Heap} (hM : MR g (G, nx) s H) (hz : H1.size = H.size + 1) (hq : ∀ q, q < H.size → H1[q]? = H[q]?) (hc : cellAt g s H1 (g.2.2.2.1 + nx) c) : MR g (wrG G nx c, nx + 1) s H1 := by
  refine ⟨by rw [hz, hM.1]; show g.2.2.2.1 + nx + 1 = g.2.2.2.1 + (nx + 1); omega, fun o1 c1 h1 => ?_⟩
  simp only [wrG] at h1
  by_cases e : o1 = nx
  · subst e
    rw [if_pos rfl] at h1
    cases h1
    exact hc
  · rw [if_neg e] at h1
    have h9 := hM.2 o1 c1 h1
    exact h9.kept (hq _ h9.lt)
theorem va_S.more {A : Nat → Prop} {H0 H H1 : Heap} {locs : List Loc} (h : va_S A H0 H locs) (hz : H1.size = H.size + 1) (hq : ∀ q, q < H.size → H1[q]? = H[q]?) : va_S A H0 H1 locs := ⟨by rw [hz]; exact Nat.le_succ_of_le h.1, fun q h1 h2 => (hq q (Nat.lt_of_lt_of_le h1 h.1)).trans (h.2.1 q h1 h2), h.2.2⟩
def dflt (ty : Nat → FieldType) : Nat → RV := fun k => .inl (defaultValue (ty k))
theorem ev_new {g : GL} {d : Nat} {mi : MI} {pc : Nat} {ls : List (Option RV)} {st : List RV} {M : RM} {mc ms : Nat} {Post : RO → RM → Prop} {C : String} {T : u_T} {N ci idx nx : Nat} {ty : Nat → FieldType} {G : RG} (co : CO ci C T N ty) (hcl : Cond.classLink mi.1.cls idx C ∈ lw_good) (hins : Cond.instantiable C N ∈ lw_good) (hini : Cond.initialized C ∈ lw_good) (hd : decode mi.2.1 pc = .ok (.new idx, 3)) (k : Ev g d mi (pc + 3) ls (.inr (0, nx) :: st) (wrG G nx (false, ci, 0, dflt ty), nx + 1) mc ms Post) : Ev g d mi pc ls st (G, nx) (mc + 1) (ms + N) Post := by
  intro p e R s m args below meth c H locs cells slots lsA TC TS hC hM hS hl h1 h2 h3 h4
  obtain ⟨hx, hb, hml, hown, hr, hlk, hxt, hts, hK, hf, hlo, hnm⟩ := id hC
  obtain ⟨hc, hin, hty, hnmx⟩ := co
  have hKn := hK.2.1.1 ci _ hc
  have hz0 : H.size = g.2.2.2.1 + nx := hM.1
  refine W.newcK hx hb hown (hts _ hcl) (hts _ hins) (hts _ hini) rfl hd (by omega) (by omega) hKn.2.1 rfl fun H1 kC hkC e1 z1 o1 => ?_
  rw [hz0] at e1
  have ht := u_born ty hts hin hKn hkC e1 hty
  obtain ⟨cell, q1, q2, q3, q4⟩ := ht
  have q5 : cell.vm ≠ .unknown := fun h => by rw [q3] at h; cases h
  have q6 : cell.vm.isStatics = false := by rw [q3]; rfl
  refine W.eq (g2 := F0 m (pc + 3) lsA (((.inr (0, nx) :: st : List RV)).map (conc g))) (by rw [hz0]; rfl) (k p e R s m args below meth c H1 _ (cells + 1) (slots + N) lsA TC TS hC (hM.more z1 o1 ⟨_, cell, hc, q1, q2, q5, q6, fun _ => q3, fun j hj => q4 j hj⟩) (hS.more z1 o1) hl (by omega) (by omega) h3 h4)
theorem ev_newa {g : GL} {d : Nat} {mi : MI} {pc : Nat} {ls : List (Option RV)} {st : List RV} {M : RM} {mc ms : Nat} {Post : RO → RM → Prop} {ei nx n : Nat} {x : Int32} {at0 : ArrayType} {ty : FieldType} {G : RG} (hty : newarray.typeOf at0 = ty) (he : rTy[ei]? = some ty) (h4e : ei < 4) (hat : Cond.arrayClass ty ∈ lw_good) (hx0 : ¬ x < 0) (hn0 : x.toNatClampNeg = n) (hby : n * componentBytes ty ≤ 536870912) (hd : decode mi.2.1 pc = .ok (.newarray at0, 2)) (k : Ev g d mi (pc + 2) ls (.inr (0, nx) :: st) (wrG G nx (true, ei, n, fun _ => .inl (defaultValue ty)), nx + 1) mc ms Post) : Ev g d mi pc ls (.inl (.int x) :: st) (G, nx) (mc + 1) (ms + n) Post := by
  intro p e R s m args below meth c H locs cells slots lsA TC TS hC hM hS hl h1 h2 h3 h4
  obtain ⟨hx, hb, hml, hown, hr, hlk, hxt, hts, hK, hf, hlo, hnm⟩ := id hC
  subst hty
  have hz0 : H.size = g.2.2.2.1 + nx := hM.1
  refine va_newaK hx hb (hts _ hat) rfl hd rfl hx0 hn0 hby (by omega) (by omega) rfl fun H1 cA e1 z1 o1 hAr hNm => ?_
  rw [hz0] at e1
  have h9 : ei = 2 → s.vm.findClass "[B" = some cA := fun e2 => by
    subst e2
    have e9 : newarray.typeOf at0 = FieldType.byte := (Option.some.inj he).symm
    rw [e9] at hNm
    exact hNm
  refine W.eq (g2 := F0 m (pc + 2) lsA ((.inr (0, nx) :: st : List RV).map (conc g))) (by rw [hz0]; rfl) (k p e R s m args below meth c H1 _ (cells + 1) (slots + n) lsA TC TS hC (hM.more z1 o1 ⟨_, _, he, e1, hAr _ _, (fun h => by cases h), szA.of (arrV_size _ _ _), ⟨(fun h => absurd h (by omega)), fun e2 _ => h9 e2⟩, (fun _ => rfl), fun j hj => arrV_read _ _ hj⟩) (hS.more z1 o1) hl (by omega) (by omega) h3 h4)
theorem ev_newq {g : GL} {d : Nat} {mi : MI} {pc : Nat} {ls : List (Option RV)} {st : List RV} {M : RM} {mc ms : Nat} {Post : RO → RM → Prop} {ei idx nx n : Nat} {C : String} {x : Int32} {G : RG} (he : rTy[ei]? = some (.object C)) (hcl : Cond.classLink mi.1.cls idx C ∈ lw_good) (hov : Cond.arrayOver (.object C) ∈ lw_T) (hx0 : ¬ x < 0) (hn0 : x.toNatClampNeg = n) (hby : n * 4 ≤ 536870912) (hd : decode mi.2.1 pc = .ok (.anewarray idx, 3)) (k : Ev g d mi (pc + 3) ls (.inr (0, nx) :: st) (wrG G nx (true, ei, n, fun _ => .inl .null), nx + 1) mc ms Post) : Ev g d mi pc ls (.inl (.int x) :: st) (G, nx) (mc + 1) (ms + n) Post := by
  intro p e R s m args below meth c H locs cells slots lsA TC TS hC hM hS hl h1 h2 h3 h4
  obtain ⟨hx, hb, hml, hown, hr, hlk, hxt, hts, hK, hf, hlo, hnm⟩ := id hC
  subst hn0
  have hz0 : H.size = g.2.2.2.1 + nx := hM.1
  refine W.anew hx hb hown (hts _ hcl) (va_AO.use (hK.2.2.2.2.2.2.2.2.1 _ hov rfl)) rfl hd rfl hx0 hby (by omega) (by omega) fun cA kA comp f1 f2 f3 f4 => ?_
  have ht : (rTys g)[ei]? = some (g.2.2.1 ei, .object C) := by
    unfold rTys
    rw [List.getElem?_mapIdx, he]
    rfl
  obtain ⟨kA9, comp9, k1, k2, k3, k4⟩ := (hK.2.1.2 ei _ ht).2
  have ecA : cA = g.2.2.1 ei := Option.some.inj (f1.symm.trans k4)
  generalize hH1 : H.push ({ cls := cA, slots := Array.replicate x.toNatClampNeg .null, vm := .none } : Cell) = H1
  have z1 : H1.size = H.size + 1 := by rw [← hH1, Array.size_push]
  have e1 : H1[g.2.2.2.1 + nx]? = some (arrV cA x.toNatClampNeg (fun _ => .null)) := by rw [← hz0, ← hH1, Array.getElem?_push_size, ← arrV_new]
  have o1 : ∀ q : Nat, q < H.size → H1[q]? = H[q]? := fun q hq => by rw [← hH1, Array.getElem?_push, if_neg (Nat.ne_of_lt hq)]
  have hAr : ArrOfT s cA (.object C) := fun N z => ⟨(fun k h => by cases h), kA, f2, comp, f3⟩
  refine W.eq (g2 := F0 m (pc + 3) lsA ((.inr (0, nx) :: st : List RV).map (conc g))) (by rw [hz0]; rfl) (k p e R s m args below meth c H1 _ (cells + 1) (slots + x.toNatClampNeg) lsA TC TS hC (hM.more z1 o1 ⟨_, _, he, e1, hAr _ _, (fun h => by cases h), szA.of (arrV_size _ _ _), ⟨fun _ => ecA, fun e2 _ => by subst e2; cases (show some FieldType.byte = some (.object C) from he)⟩, (fun _ => rfl), fun j hj => arrV_read _ _ hj⟩) (hS.more z1 o1) hl (by omega) (by omega) h3 h4)
end
section

theorem MR.moved {g : GL} {M : RM} {u U : State} {H : Heap} (hvm : u.vm.Alike U.vm) (h : MR g M u H) : MR g M U H := ⟨h.1, fun o c hc => (h.2 o c hc).moved hvm⟩
theorem ML.moved {g : GL} {M : RM} {u U : State} {H : Heap} (hvm : u.vm.Alike U.vm) (h : ML g M u H) : ML g M U H := ⟨h.1, fun o c hc => (h.2 o c hc).moved hvm⟩
theorem MR.le {g : GL} {M : RM} {u : State} {H : Heap} (h : MR g M u H) : ML g M u H := ⟨Nat.le_of_eq h.1.symm, h.2⟩
theorem bad_warm {w : Cond} {s U : State} (hb : isBad w = true) (hW : s.WarmedH U.vm) (h : w.before #[] s = true) : w.before #[] U = true := by
  cases w <;> first
    | (simp [isBad] at hb; done)
    | exact va_Nw.warmM hW h
    | exact va_Nw.warmC hW h
    | exact va_Nw.warmD hW h
    | (rename_i t; cases t <;> first | (simp [isBad] at hb; done) | exact va_AO.moved hW.alike h)
theorem KU.warm {g : GL} {s U : State} {H H1 : Heap} (hW : s.WarmedH U.vm) (h : KU g s H) (hz : H.size ≤ H1.size) (hq : ∀ q, q < H.size → ¬ rA g q → H1[q]? = H[q]?) : KU g U H1 := by
  obtain ⟨q1, q2, q3, q4, q5, q6, q7, q8, q9, q10⟩ := h
  exact ⟨q1, q2.moved hW.alike, (q3.kept hq).moved hW.alike, (q4.kept hq).moved hW.alike, fun q h => (q5 q h).warm hW, ⟨fun q h => ((q6.1 q h).kept hq).moved hW.alike, (q6.2.kept hq).moved hW.alike⟩,
    fun i c hc => ⟨(q7 i c hc).1, ((q7 i c hc).2.kept (hq _ (q7 i c hc).2.lt (by have := (q7 i c hc).1; show ¬ g.2.2.2.1 ≤ _; omega))).moved hW.alike⟩, Nat.le_trans q8 hz, fun w hw hwb => bad_warm hwb hW (q9 w hw hwb), fun q h => (q10 q h).moved hW.alike⟩
-- returns
theorem ret_world {g : GL} {M : RM} {s t : State} {H : Heap} {locs : List Loc} (hM : MR g M s H) (hS : va_S (rA g) s.heap H locs) (ht : t.heap = H) (hW : s.WarmedH t.vm) : MR g M t t.heap ∧ va_F (rA g) s t := ⟨by rw [ht]; exact hM.moved hW.alike, hS.F ht⟩
theorem ev_ireturn {g : GL} {d : Nat} {mi : MI} {pc : Nat} {ls : List (Option RV)} {st : List RV} {M : RM} {mc ms : Nat} {Post : RO → RM → Prop} {x : Int32} {ty : FieldType} (hr0 : mi.2.2.2.1 = some ty) (hn0 : narrow ty (.int x) = .int x) (hd : decode mi.2.1 pc = .ok (.ireturn, 1)) (hp : Post (.inr (some (.inl (.int x)))) M) : Ev g d mi pc ls [.inl (.int x)] M mc ms Post := by
  intro p e R s m args below meth c H locs cells slots lsA TC TS hC hM hS hl h1 h2 h3 h4
  obtain ⟨hx, hb, hml, hown, hr, hlk, hxt, hts, hK, hf, hlo, hnm⟩ := id hC
  refine vx_ret (W.widen (k := TC) (n := TS) (by omega) (by omega) (W.zret (v := x) hx hb (hr.trans hr0) hn0 (fun t ht hW => ?_) hS.2.2 hd hlk))
  obtain ⟨w1, w2⟩ := ret_world hM hS ht hW
  exact ⟨⟨some (.inl (.int x)), M, rfl, hp, w1⟩, w2⟩
theorem ev_freturn {g : GL} {d : Nat} {mi : MI} {pc : Nat} {ls : List (Option RV)} {st : List RV} {M : RM} {mc ms : Nat} {Post : RO → RM → Prop} {x : UInt32} (hr0 : mi.2.2.2.1 = some .float) (hd : decode mi.2.1 pc = .ok (.freturn, 1)) (hp : Post (.inr (some (.inl (.float x)))) M) : Ev g d mi pc ls [.inl (.float x)] M mc ms Post := by
  intro p e R s m args below meth c H locs cells slots lsA TC TS hC hM hS hl h1 h2 h3 h4
  obtain ⟨hx, hb, hml, hown, hr, hlk, hxt, hts, hK, hf, hlo, hnm⟩ := id hC
  refine vx_ret (W.widen (k := TC) (n := TS) (by omega) (by omega) (W.fret (v := x) hx hb (hr.trans hr0) (fun t ht hW => ?_) hS.2.2 hd hlk))
  obtain ⟨w1, w2⟩ := ret_world hM hS ht hW
  exact ⟨⟨some (.inl (.float x)), M, rfl, hp, w1⟩, w2⟩
theorem ev_dreturn {g : GL} {d : Nat} {mi : MI} {pc : Nat} {ls : List (Option RV)} {st : List RV} {M : RM} {mc ms : Nat} {Post : RO → RM → Prop} {x : UInt64} (hr0 : mi.2.2.2.1 = some .double) (hd : decode mi.2.1 pc = .ok (.dreturn, 1)) (hp : Post (.inr (some (.inl (.double x)))) M) : Ev g d mi pc ls [.inl (.double x)] M mc ms Post := by
  intro p e R s m args below meth c H locs cells slots lsA TC TS hC hM hS hl h1 h2 h3 h4
  obtain ⟨hx, hb, hml, hown, hr, hlk, hxt, hts, hK, hf, hlo, hnm⟩ := id hC
  refine vx_ret (W.widen (k := TC) (n := TS) (by omega) (by omega) (W.dret (v := x) hx hb (hr.trans hr0) (fun t ht hW => ?_) hS.2.2 hd hlk))
  obtain ⟨w1, w2⟩ := ret_world hM hS ht hW
  exact ⟨⟨some (.inl (.double x)), M, rfl, hp, w1⟩, w2⟩
theorem ev_areturn {g : GL} {d : Nat} {mi : MI} {pc : Nat} {ls : List (Option RV)} {st : List RV} {M : RM} {mc ms : Nat} {Post : RO → RM → Prop} {r : Nat × Nat} {rt : FieldType} (hr0 : mi.2.2.2.1 = some rt) (hrt : (∃ n, rt = .object n) ∨ ∃ t, rt = .array t) (hd : decode mi.2.1 pc = .ok (.areturn, 1)) (hp : Post (.inr (some (.inr r))) M) : Ev g d mi pc ls [.inr r] M mc ms Post := by
  intro p e R s m args below meth c H locs cells slots lsA TC TS hC hM hS hl h1 h2 h3 h4
  obtain ⟨hx, hb, hml, hown, hr, hlk, hxt, hts, hK, hf, hlo, hnm⟩ := id hC
  refine vx_ret (W.widen (k := TC) (n := TS) (by omega) (by omega) (W.aret (v := conc g (.inr r)) hx hb (hr.trans hr0) hrt (Or.inr ⟨_, conc_ref g r⟩) (fun t ht hW => ?_) hS.2.2 hd hlk))
  obtain ⟨w1, w2⟩ := ret_world hM hS ht hW
  exact ⟨⟨some (.inr r), M, rfl, hp, w1⟩, w2⟩
theorem ev_return {g : GL} {d : Nat} {mi : MI} {pc : Nat} {ls : List (Option RV)} {st : List RV} {M : RM} {mc ms : Nat} {Post : RO → RM → Prop} (hr0 : mi.2.2.2.1 = none) (hd : decode mi.2.1 pc = .ok (.return_, 1)) (hp : Post (.inr none) M) : Ev g d mi pc ls [] M mc ms Post := by
  intro p e R s m args below meth c H locs cells slots lsA TC TS hC hM hS hl h1 h2 h3 h4
  obtain ⟨hx, hb, hml, hown, hr, hlk, hxt, hts, hK, hf, hlo, hnm⟩ := id hC
  refine vx_ret (W.widen (k := TC) (n := TS) (by omega) (by omega) (W.vret hx hb (hr.trans hr0) (fun t ht hW => ?_) hS.2.2 hd hlk))
  obtain ⟨w1, w2⟩ := ret_world hM hS ht hW
  exact ⟨⟨none, M, rfl, hp, w1⟩, w2⟩
theorem Ev.post {g : GL} {d : Nat} {mi : MI} {pc : Nat} {ls : List (Option RV)} {st : List RV} {M : RM} {mc ms : Nat} {Post : RO → RM → Prop} {Post2 : RO → RM → Prop} (h : Ev g d mi pc ls st M mc ms Post) (hp : ∀ o M', Post o M' → Post2 o M') : Ev g d mi pc ls st M mc ms Post2 := by
  intro p e R s m args below meth c H locs cells slots lsA TC TS hC hM hS hl h1 h2 h3 h4
  obtain ⟨hx, hb, hml, hown, hr, hlk, hxt, hts, hK, hf, hlo, hnm⟩ := id hC
  intro T hT X
  obtain ⟨t, a1, o, b1, b2, b3⟩ := h p e R s m args below meth c H locs cells slots lsA TC TS hC hM hS hl h1 h2 h3 h4 T hT X
  refine ⟨t, a1, o, b1, b2, ?_⟩
  rcases b3 with ⟨⟨⟨v, M', e1, e2, e3⟩, e4⟩, e5⟩ | ⟨q, e1, E, ce, L, ⟨⟨M', f1, f2⟩, f3⟩, f4⟩
  · exact Or.inl ⟨⟨⟨v, M', e1, hp _ _ e2, e3⟩, e4⟩, e5⟩
  · exact Or.inr ⟨q, e1, E, ce, L, ⟨⟨M', hp _ _ f1, f2⟩, f3⟩, f4⟩
theorem Ev.room {g : GL} {d : Nat} {mi : MI} {pc : Nat} {ls : List (Option RV)} {st : List RV} {M : RM} {mc ms : Nat} {Post : RO → RM → Prop} {mc2 ms2 : Nat} (h : Ev g d mi pc ls st M mc ms Post) (h5 : mc ≤ mc2) (h6 : ms ≤ ms2) : Ev g d mi pc ls st M mc2 ms2 Post := by
  intro p e R s m args below meth c H locs cells slots lsA TC TS hC hM hS hl h1 h2 h3 h4
  obtain ⟨hx, hb, hml, hown, hr, hlk, hxt, hts, hK, hf, hlo, hnm⟩ := id hC
  exact h p e R s m args below meth c H locs cells slots lsA TC TS hC hM hS hl (by omega) (by omega) h3 h4
theorem Ev.depth {g : GL} {d : Nat} {mi : MI} {pc : Nat} {ls : List (Option RV)} {st : List RV} {M : RM} {mc ms : Nat} {Post : RO → RM → Prop} {d2 : Nat} (h : Ev g d mi pc ls st M mc ms Post) (h5 : d ≤ d2) : Ev g d2 mi pc ls st M mc ms Post := by
  intro p e R s m args below meth c H locs cells slots lsA TC TS hC hM hS hl h1 h2 h3 h4
  obtain ⟨hx, hb, hml, hown, hr, hlk, hxt, hts, hK, hf, hlo, hnm⟩ := id hC
  exact h p e R s m args below meth c H locs cells slots lsA TC TS ⟨hx, hb, hml, hown, hr, hlk, hxt, hts, hK, by omega, by omega, hnm⟩ hM hS hl h1 h2 h3 h4
-- methods
def cdW (mi : MI) : Cond := if mi.2.2.2.2 = [] then .code mi.1 mi.2.1 mi.2.2.1 mi.2.2.2.1 else .codeWith mi.1 mi.2.1 mi.2.2.1 mi.2.2.2.1 mi.2.2.2.2
def wsM (mi : MI) : List Cond := cdW mi :: lw_good
def rmD (d mc ms : Nat) : Room := { frames := 10 + d, cells := mc, slots := ms, locals := 200 + 60 * d }
def pcM (g : GL) (vs : List RV) (M : RM) : Array Value → State → Prop := va_Pc (vs.map (conc g)) (fun U => KU g U U.heap ∧ MR g M U U.heap)
def Mt (g : GL) (d : Nat) (mi : MI) (vs : List RV) (M : RM) (mc ms : Nat) (Post : RO → RM → Prop) : Prop :=
  mc ≤ 1000000 → vx_Met g.1 mi.1 (wsM mi) (rmD d mc ms) (pcM g vs M) (QC g Post) (QX g Post) mc ms (rA g)
theorem pcM_blind {g : GL} {vs : List RV} {M : RM} : FrameBlind (pcM g vs M) := fun a U g9 mk h => ⟨h.1, KU.warm (s := U) (U := U.calling g9 mk a) (State.WarmedH.refl U) h.2.1 (Nat.le_refl _) (fun _ _ _ => rfl), h.2.2.moved (Vm.Alike.refl U.vm)⟩
def fill (n : Nat) (vs : List RV) : List (Option RV) := vs.map some ++ List.replicate (n - vs.length) none
theorem lvl_none (g : GL) : ∀ (i n : Nat), lvl g i (List.replicate n none) = []
  | _, 0 => rfl
  | i, n + 1 => lvl_none g (i + 1) n
theorem lvl_args {g : GL} {n : Nat} : ∀ {vs : List RV} {i : Nat}, (∀ v ∈ vs, one1 v = true) → lvl g i (vs.map some ++ List.replicate n none) = lv_args i (vs.map (conc g))
  | [], i, _ => lvl_none g i n
  | v :: vs, i, h => by
    have h1 : ¬ (conc g v).category = 2 := by rw [one1_cat (h v List.mem_cons_self)]; omega
    show (i, conc g v) :: lvl g (i + 1) (vs.map some ++ List.replicate n none) = (i, conc g v) :: lv_args (if (conc g v).category = 2 then i + 2 else i + 1) (vs.map (conc g))
    rw [if_neg h1, lvl_args (fun w hw => h w (List.mem_cons_of_mem _ hw))]
theorem lg_sl_one {g : GL} : ∀ {vs : List RV}, (∀ v ∈ vs, one1 v = true) → (lg_sl (vs.map (conc g))).length = vs.length
  | [], _ => rfl
  | v :: vs, h => by
    have h1 : ¬ (conc g v).category = 2 := by rw [one1_cat (h v List.mem_cons_self)]; omega
    have ih := lg_sl_one (g := g) (vs := vs) (fun w hw => h w (List.mem_cons_of_mem _ hw))
    unfold lg_sl at ih ⊢
    simp only [List.map_cons, List.flatMap_cons, if_neg h1, List.length_append, ih]
    simp
    omega
theorem lvl_lists {g : GL} {vs : List RV} {n : Nat} (ha : ∀ v ∈ vs, one1 v = true) (hn : vs.length ≤ n) : lv_has ((lg_sl (vs.map (conc g)) ++ List.replicate (n - (lg_sl (vs.map (conc g))).length) Slot.unset).toArray) n (lvl g 0 (fill n vs)) := by
  have h1 := lv_entry (vs.map (conc g)) (n := n) (by rw [lg_sl_one ha]; exact hn)
  unfold fill
  rw [lvl_args ha]
  exact h1
theorem Mt.of {g : GL} {d : Nat} {mi : MI} {vs : List RV} {M : RM} {mc ms : Nat} {Post : RO → RM → Prop} (hy : plainName mi.1.cls = true) (hh : mi.2.2.2.2 = []) (ha : ∀ v ∈ vs, one1 v = true) (hn : vs.length ≤ mi.2.2.1) (k : Ev g d mi 0 (fill mi.2.2.1 vs) [] M mc ms Post) : Mt g d mi vs M mc ms Post := by
  intro hmc9
  refine vx_ofW (cc := mi.2.1) (maxL := mi.2.2.1) (ret := mi.2.2.2.1) (ws' := lw_good) hy (by unfold wsM cdW; rw [if_pos hh]) ?_
  intro p e s m args below meth c s₁ B hml ht hv
  obtain ⟨rfl, hKU, hMR⟩ := hv
  have hts := atoms_spec (ws := wsM mi) B.pre
  rw [lg_entry_eq]
  have hx9 : c.exceptionTable.toList = tableOf mi.2.2.2.2 := by
    rw [hh]
    cases hc : c.exceptionTable.toList with
    | nil => rfl
    | cons a l => exact (ht a (by rw [hc]; exact List.mem_cons_self)).elim
  exact k p e (rmD d mc ms) s m _ below meth c s.heap [] 0 0 _ mc ms ⟨B.exec, B.bytes, hml, findClass_of_methodNamed B.named, B.returns, B.notSynchronized, hx9, fun w hw => hts w (List.mem_cons_of_mem _ hw), hKU, Nat.le_refl _, Nat.le_refl _, (name_of_methodNamed B.named B.method).1⟩ hMR va_S.rf (lvl_lists ha hn) (by omega) (by omega) ⟨Nat.le_refl _, hmc9⟩ (Nat.le_refl _)
theorem Mt.ofH {g : GL} {d : Nat} {mi : MI} {vs : List RV} {M : RM} {mc ms : Nat} {Post : RO → RM → Prop} (hy : plainName mi.1.cls = true) (hh : ¬ mi.2.2.2.2 = []) (ha : ∀ v ∈ vs, one1 v = true) (hn : vs.length ≤ mi.2.2.1) (k : Ev g d mi 0 (fill mi.2.2.1 vs) [] M mc ms Post) : Mt g d mi vs M mc ms Post := by
  intro hmc9
  refine vx_ofWH (cc := mi.2.1) (maxL := mi.2.2.1) (ret := mi.2.2.2.1) (hh := mi.2.2.2.2) (ws' := lw_good) hy (by unfold wsM cdW; rw [if_neg hh]) ?_
  intro p e s m args below meth c s₁ B hml hv
  obtain ⟨rfl, hKU, hMR⟩ := hv
  have hts := atoms_spec (ws := wsM mi) B.pre
  rw [lg_entry_eq]
  have hx9 : c.exceptionTable.toList = tableOf mi.2.2.2.2 := vx_table (x := mi.1) B (by have h9 := hts _ List.mem_cons_self; unfold cdW at h9; rw [if_neg hh] at h9; exact h9)
  exact k p e (rmD d mc ms) s m _ below meth c s.heap [] 0 0 _ mc ms ⟨B.exec, B.bytes, hml, findClass_of_methodNamed B.named, B.returns, B.notSynchronized, hx9, fun w hw => hts w (List.mem_cons_of_mem _ hw), hKU, Nat.le_refl _, Nat.le_refl _, (name_of_methodNamed B.named B.method).1⟩ hMR va_S.rf (lvl_lists ha hn) (by omega) (by omega) ⟨Nat.le_refl _, hmc9⟩ (Nat.le_refl _)
-- calls
section RunGo
variable {g : GL} {p : Program} {e : Env} {R : Room} {s : State} {m : MethodId} {args : Array Value} {below : List Frame} {meth : Method} {c : Code} {H : Heap} {locs : List Loc} {cells slots : Nat} {Q : State → Prop}
theorem run_go {mc1 ms1 pc : Nat} {lsA : Array Slot} {st0 rest : List Value} {Post1 : RO → RM → Prop} {a : Array Value} (hr : vx_Run p g.1 e R s m args below meth c H locs cells slots mc1 ms1 (F0 m pc lsA st0) rest (QC g Post1 a) (QX g Post1) (rA g)) (hS : va_S (rA g) s.heap H locs)
    (kx : ∀ (E : String) (ce : Cell) (q9 : Addr) (M1 : RM) (H1 : Heap) (locs1 : List Loc), Post1 (.inl E) M1 → ML g M1 s H1 → va_S (rA g) s.heap H1 locs1 → H1[q9]? = some ce → ce.vm = .none → s.vm.findClass E = some ce.cls → vx_W p g.1 e R s m args below meth c H1 locs1 (cells + mc1) (slots + ms1) Q (F0 m pc lsA rest) q9)
    (kk : ∀ (v : Option RV) (M1 : RM) (H1 : Heap) (locs1 : List Loc), Post1 (.inr v) M1 → MR g M1 s H1 → va_S (rA g) s.heap H1 locs1 → W p g.1 e R s m args below meth c H1 locs1 (cells + mc1) (slots + ms1) Q (F0 m (pc + 3) lsA ((v.map (conc g)).toList ++ rest))) :
    W p g.1 e R s m args below meth c H locs cells slots Q (F0 m pc lsA st0) := by
  intro T hT X
  rcases hr T hT X with ⟨v, st₀, t, T', L, h0, X', hL, e1, e2, ⟨⟨w, M1, hv, hp, hM1⟩, hF⟩, st⟩ | ⟨q, st₀, t, T', L, E, ce, h0, X', hL, e1, e2, ⟨⟨M1, hp, hM1⟩, hF⟩, hce, hcv, hcl, st⟩
  · cases hv
    obtain ⟨k1, k2, k3⟩ := vx_keep h0 e1 hS (fun _ _ h => h) (fun _ h => h) hL hF
    have hal : t.vm.Alike s.vm := by rw [← e2]; exact X'.warmed.alike.symm
    obtain ⟨t2, a1, b1⟩ := kk w M1 T'.heap (locs ++ L) hp (by rw [e1]; exact hM1.moved hal) k3 T' rfl X'
    exact ⟨t2, st t2 a1, b1⟩
  · obtain ⟨k1, k2, k3⟩ := vx_keep h0 e1 hS (fun _ _ h => h) (fun _ h => h) hL hF
    have hal : t.vm.Alike s.vm := by rw [← e2]; exact X'.warmed.alike.symm
    obtain ⟨t2, a1, b1⟩ := kx E ce q M1 T'.heap (locs ++ L) hp (by rw [e1]; exact hM1.moved hal) k3 (by rw [e1]; exact hce) hcv hcl T' rfl X'
    exact ⟨t2, st.trans a1, b1⟩
end RunGo
end
section

/-- the callee's words are among the caller's -/
theorem ws_in {mi2 : MI} (h : cdW mi2 ∈ lw_good) : GoodIn lw_good (wsM mi2) := by
  intro w hw
  have h1 : w ∈ lw_good := by
    rcases List.mem_cons.mp hw with h2 | h2
    · rw [h2]; exact h
    · exact h2
  exact ⟨h1, good_of_word (List.mem_filter.mp h1).2⟩
theorem rm_fits {d maxL mc ms : Nat} {R : Room} (hf : 10 + (d + 1) ≤ R.frames) (hlo : 200 + 60 * (d + 1) ≤ R.locals) (h : maxL ≤ 41) : (rmD d mc ms).frames + 1 ≤ R.frames ∧ 8 + (maxL + 11) + (rmD d mc ms).locals ≤ R.locals := by
  show 10 + d + 1 ≤ R.frames ∧ 8 + (maxL + 11) + (200 + 60 * d) ≤ R.locals
  omega
theorem rest_ok {g : GL} {st : List RV} (h : st.length ≤ 4) : (List.map (fun v => v.category) (st.map (conc g))).sum ≤ 8 := by
  have h1 : ∀ l : List Value, (l.map fun v => v.category).sum ≤ 2 * l.length := by
    intro l
    induction l with
    | nil => simp
    | cons a t ih =>
      simp only [List.map_cons, List.sum_cons, List.length_cons]
      have : a.category ≤ 2 := by cases a <;> simp [Value.category]
      omega
  have h2 := h1 (st.map (conc g))
  simp only [List.length_map] at h2
  omega
theorem pre_at {g : GL} {M : RM} {s U : State} {H : Heap} {locs : List Loc} {vs : List RV} (hM : MR g M s H) (hS : va_S (rA g) s.heap H locs) (hK : KU g s s.heap) (hU : U.heap = H) (hW : s.WarmedH U.vm) : pcM g vs M (vs.map (conc g)).toArray U :=
  ⟨rfl, by rw [hU]; exact KU.warm hW hK hS.1 hS.2.1, by rw [hU]; exact hM.moved hW.alike⟩
/-- what the heap says of the object that is called -/
theorem recv_at {g : GL} {M : RM} {s : State} {H : Heap} {locs : List Loc} {r : Nat × Nat} {ci n : Nat} {f : Nat → RV} {r9 : vw_C} (hM : MR g M s H) (hS : va_S (rA g) s.heap H locs) (hK : KU g s s.heap) (hc : vwCl[ci]? = some r9) (h : rdM g M r = some (false, ci, n, f)) : ∃ cellB : Cell, H[adM g r]? = some cellB ∧ cellB.vm.isStatics = false ∧ s.vm.findClass r9.1 = some cellB.cls := by
  obtain ⟨r8, cell, q1, q2, q3, q4, q5, -⟩ := cell_of hM hS hK h
  cases hc.symm.trans q1
  exact ⟨cell, q2, q5, by rw [q3]; exact (hK.2.1.1 ci _ hc).2.1⟩
def hd0 (mi2 : MI) (n : Nat) : Prop := mi2.1.cls ≠ "java/lang/invoke/MethodHandle" ∧ mi2.1.cls ≠ "java/lang/invoke/VarHandle" ∧ (parseMethodDescriptor mi2.1.desc).map (fun d => d.parameters.length) = some n ∧ mi2.2.2.1 ≤ 41 ∧ cdW mi2 ∈ lw_good
/-- an entry of a class's pool names a method: virtual, inherited, static, constructor; by the nest's host -/
def LV (own : String) (idx ci n : Nat) (mi2 : MI) : Prop := hd0 mi2 n ∧ mi2.2.2.2.2 = [] ∧ (∃ r9, vwCl[ci]? = some r9 ∧ r9.1 = mi2.1.cls) ∧ Cond.methodLink own idx mi2.1 ∈ lw_good ∧ Cond.instanceMethod mi2.1 ∈ lw_good ∧ Cond.selects mi2.1.cls mi2.1 mi2.1 ∈ lw_good ∧ Cond.initialized mi2.1.cls ∈ lw_good
def LU (own : String) (idx ci n : Nat) (mi2 : MI) : Prop := hd0 mi2 n ∧ mi2.2.2.2.2 = [] ∧ ∃ (r9 : vw_C) (x : MethodName), vwCl[ci]? = some r9 ∧ mi2.1 = ⟨mi2.1.cls, x.name, x.desc⟩ ∧ Cond.methodLink own idx x ∈ lw_good ∧ Cond.sameMethod x.cls mi2.1.cls x.name x.desc ∈ lw_good ∧ Cond.selects r9.1 x mi2.1 ∈ lw_good ∧ Cond.instanceMethod mi2.1 ∈ lw_good ∧ Cond.initialized mi2.1.cls ∈ lw_good ∧ (parseMethodDescriptor x.desc).map (fun d => d.parameters.length) = some n
def LST (own : String) (idx n : Nat) (mi2 : MI) : Prop := hd0 mi2 n ∧ Cond.methodLink own idx mi2.1 ∈ lw_good ∧ Cond.static mi2.1 ∈ lw_good ∧ Cond.initialized mi2.1.cls ∈ lw_good
def LSN (own : String) (idx n : Nat) (mi2 : MI) : Prop := hd0 mi2 n ∧ mi2.2.2.2.2 = [] ∧ ∃ host, Cond.methodLinkNest own idx mi2.1 host ∈ lw_T ∧ Cond.static mi2.1 ∈ lw_good ∧ Cond.initialized mi2.1.cls ∈ lw_good
def LI (own : String) (idx n : Nat) (mi2 : MI) : Prop := hd0 mi2 n ∧ mi2.2.2.2.2 = [] ∧ mi2.2.2.2.1 = none ∧ mi2.1.name = "<init>" ∧ Cond.methodLink own idx mi2.1 ∈ lw_good ∧ Cond.instanceMethod mi2.1 ∈ lw_good ∧ Cond.initialized mi2.1.cls ∈ lw_good
def LIN (own : String) (idx n : Nat) (mi2 : MI) : Prop := hd0 mi2 n ∧ mi2.2.2.2.2 = [] ∧ mi2.2.2.2.1 = none ∧ mi2.1.name = "<init>" ∧ ∃ host, Cond.methodLinkNest own idx mi2.1 host ∈ lw_T ∧ Cond.instanceMethod mi2.1 ∈ lw_good ∧ Cond.initialized mi2.1.cls ∈ lw_good
/-- what a caller without handlers makes of the end of a call -/
def Aft (g : GL) (d : Nat) (mi : MI) (pc : Nat) (ls : List (Option RV)) (st : List RV) (mc ms : Nat) (Post1 Post : RO → RM → Prop) : Prop :=
  (∀ v M1, Post1 (.inr v) M1 → Ev g d mi pc ls (v.toList ++ st) M1 mc ms Post) ∧ ∀ E M1, Post1 (.inl E) M1 → mi.2.2.2.2 = [] ∧ Post (.inl E) M1
theorem aft_go {g : GL} {d : Nat} {mi : MI} {pc : Nat} {ls : List (Option RV)} {st st0 : List RV} {mc1 ms1 mc ms : Nat} {Post1 Post : RO → RM → Prop} {p : Program} {e : Env} {R : Room} {s : State} {m : MethodId} {args : Array Value} {below : List Frame} {meth : Method} {c : Code} {H : Heap} {locs : List Loc} {cells slots : Nat} {lsA : Array Slot} {TC TS : Nat} {a : Array Value}
    (hr : vx_Run p g.1 e R s m args below meth c H locs cells slots mc1 ms1 (F0 m pc lsA (st0.map (conc g))) (st.map (conc g)) (QC g Post1 a) (QX g Post1) (rA g)) (hA : Aft g d mi (pc + 3) ls st mc ms Post1 Post)
    (hC : CX g mi d p R s m args meth c) (hS : va_S (rA g) s.heap H locs) (hl : lv_has lsA mi.2.2.1 (lvl g 0 ls)) (h1 : cells + (mc1 + mc) ≤ TC) (h2 : slots + (ms1 + ms) ≤ TS) (h3 : TC ≤ R.cells ∧ TC ≤ 1000000) (h4 : TS ≤ R.slots) :
    W p g.1 e R s m args below meth c H locs cells slots (vx_MQ below (QC g Post) (QX g Post) args s TC TS (rA g)) (F0 m pc lsA (st0.map (conc g))) := by
  refine run_go hr hS (fun E ce q9 M1 H1 locs1 hp hM1 hS1 hce hcv hcl => ?_) (fun v M1 H1 locs1 hp hM1 hS1 => ?_)
  · obtain ⟨hh, hP⟩ := hA.2 E M1 hp
    obtain ⟨hx, hb, hml, hown, hr9, hlk, hxt, hts, hK, hf, hlo, hnm⟩ := id hC
    refine vx_out (fun x hx9 => by rw [hxt, hh] at hx9; cases hx9) hlk hce hcv hcl (fun t ht hal => ⟨⟨M1, hP, by rw [ht]; exact hM1.moved hal⟩, hS1.F ht⟩) hS1.2.2 (by omega) (by omega)
  · refine W.eq (g2 := F0 m (pc + 3) lsA ((v.toList ++ st).map (conc g))) (by cases v <;> rfl) (hA.1 v M1 hp p e R s m args below meth c H1 locs1 (cells + mc1) (slots + ms1) lsA TC TS hC hM1 hS1 hl (by omega) (by omega) h3 h4)
theorem ev_invV {g : GL} {d : Nat} {mi : MI} {pc : Nat} {ls : List (Option RV)} {st : List RV} {M : RM} {mc ms : Nat} {Post : RO → RM → Prop} {idx n mc1 ms1 : Nat} {mi2 : MI} {vs : List RV} {Post1 : RO → RM → Prop} {ci n2 : Nat} {r : Nat × Nat} {f : Nat → RV} (hr0 : rdM g M r = some (false, ci, n2, f)) (hlk9 : LV mi.1.cls idx ci n mi2) (hM9 : Mt g d mi2 (.inr r :: vs) M mc1 ms1 Post1) (hn : vs.length = n) (hst : st.length ≤ 4) (hd : decode mi.2.1 pc = .ok (.invokevirtual idx, 3)) (hA : Aft g (d + 1) mi (pc + 3) ls st mc ms Post1 Post) : Ev g (d + 1) mi pc ls (vs.reverse ++ .inr r :: st) M (mc1 + mc) (ms1 + ms) Post := by
  intro p e R s m args below meth c H locs cells slots lsA TC TS hC hM hS hl h1 h2 h3 h4
  obtain ⟨hx, hb, hml, hown, hr, hlk, hxt, hts, hK, hf, hlo, hnm⟩ := id hC
  obtain ⟨⟨y1, y2, y3, y4, y5⟩, hh, ⟨r9, e9, e8⟩, w1, w2, w3, w4⟩ := hlk9
  have hcd : cdW mi2 = .code mi2.1 mi2.2.1 mi2.2.2.1 mi2.2.2.2.1 := by unfold cdW; rw [if_pos hh]
  have hG : GoodIn lw_good (wsV mi.1.cls idx mi2.1.cls mi2.1 (wsM mi2)) := fun w hw => by
    rcases List.mem_append.mp hw with h9 | h9
    · have : w ∈ lw_good := by simp only [List.mem_cons, List.not_mem_nil, or_false] at h9; rcases h9 with rfl | rfl | rfl | rfl <;> assumption
      exact ⟨this, good_of_word (List.mem_filter.mp this).2⟩
    · exact ws_in y5 w h9
  refine aft_go (st0 := vs.reverse ++ .inr r :: st) (vx_runV (C := mi2.1.cls) (b := adM g r) (As := vs.map (conc g)) (rest := st.map (conc g)) ⟨hx, hb, hml, hown, hts⟩ (hM9 (by omega)) (cwV n hts hG (by unfold wsM; rw [hcd]) rfl rfl ⟨rfl, y1, y2, y3⟩ (rm_fits hf hlo y4)) ⟨pcM_blind, by rw [← e8]; exact recv_at hM hS hK e9 hr0, fun U hU hW => by rw [← conc_ref]; exact pre_at (vs := .inr r :: vs) hM hS hK hU hW⟩ rfl (by rw [List.length_map]; exact hn) hl.1 (by rw [List.map_append, List.map_reverse]; simp only [List.map_cons, conc_ref]) (lv_room (rest_ok hst)) hd ⟨by omega, by omega⟩) hA hC hS hl h1 h2 h3 h4

theorem ev_invU {g : GL} {d : Nat} {mi : MI} {pc : Nat} {ls : List (Option RV)} {st : List RV} {M : RM} {mc ms : Nat} {Post : RO → RM → Prop} {idx n mc1 ms1 : Nat} {mi2 : MI} {vs : List RV} {Post1 : RO → RM → Prop} {ci n2 : Nat} {r : Nat × Nat} {f : Nat → RV} (hr0 : rdM g M r = some (false, ci, n2, f)) (hlk9 : LU mi.1.cls idx ci n mi2) (hM9 : Mt g d mi2 (.inr r :: vs) M mc1 ms1 Post1) (hn : vs.length = n) (hst : st.length ≤ 4) (hd : decode mi.2.1 pc = .ok (.invokevirtual idx, 3)) (hA : Aft g (d + 1) mi (pc + 3) ls st mc ms Post1 Post) : Ev g (d + 1) mi pc ls (vs.reverse ++ .inr r :: st) M (mc1 + mc) (ms1 + ms) Post := by
  intro p e R s m args below meth c H locs cells slots lsA TC TS hC hM hS hl h1 h2 h3 h4
  obtain ⟨hx, hb, hml, hown, hr, hlk, hxt, hts, hK, hf, hlo, hnm⟩ := id hC
  obtain ⟨⟨y1, y2, y3, y4, y5⟩, hh, r9, x9, e9, e8, w1, w2, w3, w4, w5, y6⟩ := hlk9
  have hcd : cdW mi2 = .code mi2.1 mi2.2.1 mi2.2.2.1 mi2.2.2.2.1 := by unfold cdW; rw [if_pos hh]
  have hG : GoodIn lw_good (va_wsU mi.1.cls idx r9.1 mi2.1.cls x9 mi2.1 (wsM mi2)) := fun w hw => by
    rcases List.mem_append.mp hw with h9 | h9
    · have : w ∈ lw_good := by simp only [List.mem_cons, List.not_mem_nil, or_false] at h9; rcases h9 with rfl | rfl | rfl | rfl | rfl <;> assumption
      exact ⟨this, good_of_word (List.mem_filter.mp this).2⟩
    · exact ws_in y5 w h9
  refine aft_go (st0 := vs.reverse ++ .inr r :: st) (vx_runU (C := r9.1) (owner := mi2.1.cls) (x := x9) (b := adM g r) (As := vs.map (conc g)) (rest := st.map (conc g)) ⟨hx, hb, hml, hown, hts⟩ (hM9 (by omega)) (va_cwU n hts hG (by unfold wsM; rw [hcd]) rfl rfl e8 ⟨y1, y2, y6⟩ (rm_fits hf hlo y4)) ⟨pcM_blind, recv_at hM hS hK e9 hr0, fun U hU hW => by rw [← conc_ref]; exact pre_at (vs := .inr r :: vs) hM hS hK hU hW⟩ rfl (by rw [List.length_map]; exact hn) hl.1 (by rw [List.map_append, List.map_reverse]; simp only [List.map_cons, conc_ref]) (lv_room (rest_ok hst)) hd ⟨by omega, by omega⟩) hA hC hS hl h1 h2 h3 h4

theorem ev_invS {g : GL} {d : Nat} {mi : MI} {pc : Nat} {ls : List (Option RV)} {st : List RV} {M : RM} {mc ms : Nat} {Post : RO → RM → Prop} {idx n mc1 ms1 : Nat} {mi2 : MI} {vs : List RV} {Post1 : RO → RM → Prop} (hh : mi2.2.2.2.2 = []) (hlk9 : LST mi.1.cls idx n mi2) (hM9 : Mt g d mi2 (vs) M mc1 ms1 Post1) (hn : vs.length = n) (hst : st.length ≤ 4) (hd : decode mi.2.1 pc = .ok (.invokestatic idx, 3)) (hA : Aft g (d + 1) mi (pc + 3) ls st mc ms Post1 Post) : Ev g (d + 1) mi pc ls (vs.reverse ++ st) M (mc1 + mc) (ms1 + ms) Post := by
  intro p e R s m args below meth c H locs cells slots lsA TC TS hC hM hS hl h1 h2 h3 h4
  obtain ⟨hx, hb, hml, hown, hr, hlk, hxt, hts, hK, hf, hlo, hnm⟩ := id hC
  obtain ⟨⟨y1, y2, y3, y4, y5⟩, w1, w2, w3⟩ := hlk9
  have hG : GoodIn lw_good (va_wsS mi.1.cls idx mi2.1 (wsM mi2)) := fun w hw => by
    rcases List.mem_append.mp hw with h9 | h9
    · have : w ∈ lw_good := by simp only [List.mem_cons, List.not_mem_nil, or_false] at h9; rcases h9 with rfl | rfl | rfl <;> assumption
      exact ⟨this, good_of_word (List.mem_filter.mp this).2⟩
    · exact ws_in y5 w h9
  have hcd : cdW mi2 = .code mi2.1 mi2.2.1 mi2.2.2.1 mi2.2.2.2.1 := by unfold cdW; rw [if_pos hh]
  refine aft_go (st0 := vs.reverse ++ st) (vx_runS (As := vs.map (conc g)) (rest := st.map (conc g)) ⟨hx, hb, hml, hown, hts⟩ (hM9 (by omega)) (va_cwS n hts hG (by unfold wsM; rw [hcd]) rfl rfl ⟨y1, y2, y3⟩ (rm_fits hf hlo y4)) ⟨pcM_blind, fun U hU hW => pre_at hM hS hK hU hW⟩ rfl (by rw [List.length_map]; exact hn) hl.1 (by rw [List.map_append, List.map_reverse]) (lv_room (rest_ok hst)) hd ⟨by omega, by omega⟩) hA hC hS hl h1 h2 h3 h4

theorem ev_invSH {g : GL} {d : Nat} {mi : MI} {pc : Nat} {ls : List (Option RV)} {st : List RV} {M : RM} {mc ms : Nat} {Post : RO → RM → Prop} {idx n mc1 ms1 : Nat} {mi2 : MI} {vs : List RV} {Post1 : RO → RM → Prop} (hh : ¬ mi2.2.2.2.2 = []) (hlk9 : LST mi.1.cls idx n mi2) (hM9 : Mt g d mi2 (vs) M mc1 ms1 Post1) (hn : vs.length = n) (hst : st.length ≤ 4) (hd : decode mi.2.1 pc = .ok (.invokestatic idx, 3)) (hA : Aft g (d + 1) mi (pc + 3) ls st mc ms Post1 Post) : Ev g (d + 1) mi pc ls (vs.reverse ++ st) M (mc1 + mc) (ms1 + ms) Post := by
  intro p e R s m args below meth c H locs cells slots lsA TC TS hC hM hS hl h1 h2 h3 h4
  obtain ⟨hx, hb, hml, hown, hr, hlk, hxt, hts, hK, hf, hlo, hnm⟩ := id hC
  obtain ⟨⟨y1, y2, y3, y4, y5⟩, w1, w2, w3⟩ := hlk9
  have hG : GoodIn lw_good (va_wsS mi.1.cls idx mi2.1 (wsM mi2)) := fun w hw => by
    rcases List.mem_append.mp hw with h9 | h9
    · have : w ∈ lw_good := by simp only [List.mem_cons, List.not_mem_nil, or_false] at h9; rcases h9 with rfl | rfl | rfl <;> assumption
      exact ⟨this, good_of_word (List.mem_filter.mp this).2⟩
    · exact ws_in y5 w h9
  have hcd : cdW mi2 = .codeWith mi2.1 mi2.2.1 mi2.2.2.1 mi2.2.2.2.1 mi2.2.2.2.2 := by unfold cdW; rw [if_neg hh]
  refine aft_go (st0 := vs.reverse ++ st) (vx_runSX (As := vs.map (conc g)) (rest := st.map (conc g)) ⟨hx, hb, hml, hown, hts⟩ (hM9 (by omega)) (vx_cwSW n hts hG (by unfold wsM; rw [hcd]) rfl rfl ⟨y1, y2, y3⟩ (rm_fits hf hlo y4)) ⟨pcM_blind, fun U hU hW => pre_at hM hS hK hU hW⟩ rfl (by rw [List.length_map]; exact hn) hl.1 (by rw [List.map_append, List.map_reverse]) (lv_room (rest_ok hst)) hd ⟨by omega, by omega⟩) hA hC hS hl h1 h2 h3 h4

theorem ev_invSN {g : GL} {d : Nat} {mi : MI} {pc : Nat} {ls : List (Option RV)} {st : List RV} {M : RM} {mc ms : Nat} {Post : RO → RM → Prop} {idx n mc1 ms1 : Nat} {mi2 : MI} {vs : List RV} {Post1 : RO → RM → Prop}  (hlk9 : LSN mi.1.cls idx n mi2) (hM9 : Mt g d mi2 (vs) M mc1 ms1 Post1) (hn : vs.length = n) (hst : st.length ≤ 4) (hd : decode mi.2.1 pc = .ok (.invokestatic idx, 3)) (hA : Aft g (d + 1) mi (pc + 3) ls st mc ms Post1 Post) : Ev g (d + 1) mi pc ls (vs.reverse ++ st) M (mc1 + mc) (ms1 + ms) Post := by
  intro p e R s m args below meth c H locs cells slots lsA TC TS hC hM hS hl h1 h2 h3 h4
  obtain ⟨hx, hb, hml, hown, hr, hlk, hxt, hts, hK, hf, hlo, hnm⟩ := id hC
  obtain ⟨⟨y1, y2, y3, y4, y5⟩, hh, host, w1, w2, w3⟩ := hlk9
  have hcd : cdW mi2 = .code mi2.1 mi2.2.1 mi2.2.2.1 mi2.2.2.2.1 := by unfold cdW; rw [if_pos hh]
  refine aft_go (st0 := vs.reverse ++ st) (vx_runSN (As := vs.map (conc g)) (rest := st.map (conc g)) ⟨hx, hb, hml, hown, hts⟩ (hM9 (by omega)) ⟨va_cnB n hts (ws_in y5) (by unfold wsM; rw [hcd]) rfl rfl (va_Nw.of rfl (hK.2.2.2.2.2.2.2.2.1 _ w1 rfl)) (hts _ w3) ⟨y1, y2, y3⟩ (rm_fits hf hlo y4), hts _ w2, trivial⟩ ⟨pcM_blind, fun U hU hW => pre_at hM hS hK hU hW⟩ rfl (by rw [List.length_map]; exact hn) hl.1 (by rw [List.map_append, List.map_reverse]) (lv_room (rest_ok hst)) hd ⟨by omega, by omega⟩) hA hC hS hl h1 h2 h3 h4

theorem ev_invI {g : GL} {d : Nat} {mi : MI} {pc : Nat} {ls : List (Option RV)} {st : List RV} {M : RM} {mc ms : Nat} {Post : RO → RM → Prop} {idx n mc1 ms1 : Nat} {mi2 : MI} {vs : List RV} {Post1 : RO → RM → Prop} {r : Nat × Nat} (hlk9 : LI mi.1.cls idx n mi2) (hM9 : Mt g d mi2 (.inr r :: vs) M mc1 ms1 Post1) (hn : vs.length = n) (hst : st.length ≤ 4) (hd : decode mi.2.1 pc = .ok (.invokespecial idx, 3)) (hA : Aft g (d + 1) mi (pc + 3) ls st mc ms Post1 Post) : Ev g (d + 1) mi pc ls (vs.reverse ++ .inr r :: st) M (mc1 + mc) (ms1 + ms) Post := by
  intro p e R s m args below meth c H locs cells slots lsA TC TS hC hM hS hl h1 h2 h3 h4
  obtain ⟨hx, hb, hml, hown, hr, hlk, hxt, hts, hK, hf, hlo, hnm⟩ := id hC
  obtain ⟨⟨y1, y2, y3, y4, y5⟩, hh, hn0, hnm2, w1, w2, w3⟩ := hlk9
  have hcd : cdW mi2 = .code mi2.1 mi2.2.1 mi2.2.2.1 none := by unfold cdW; rw [if_pos hh, hn0]
  refine aft_go (st0 := vs.reverse ++ .inr r :: st) (vx_runI (b := adM g r) (As := vs.map (conc g)) (rest := st.map (conc g)) ⟨hx, hb, hml, hown, hts⟩ (hM9 (by omega)) (cwI n hts (ws_in y5) (by unfold wsM; rw [hcd]) rfl rfl (hts _ w3) (hts _ w1) (hts _ w2) hnm2 ⟨y1, y2, y3⟩ (rm_fits hf hlo y4)) ⟨pcM_blind, fun U hU hW => by rw [← conc_ref]; exact pre_at (vs := .inr r :: vs) hM hS hK hU hW⟩ rfl (by rw [List.length_map]; exact hn) hl.1 (by rw [List.map_append, List.map_reverse]; simp only [List.map_cons, conc_ref]) (lv_room (rest_ok hst)) hd ⟨by omega, by omega⟩) hA hC hS hl h1 h2 h3 h4

theorem ev_invIN {g : GL} {d : Nat} {mi : MI} {pc : Nat} {ls : List (Option RV)} {st : List RV} {M : RM} {mc ms : Nat} {Post : RO → RM → Prop} {idx n mc1 ms1 : Nat} {mi2 : MI} {vs : List RV} {Post1 : RO → RM → Prop} {r : Nat × Nat} (hlk9 : LIN mi.1.cls idx n mi2) (hM9 : Mt g d mi2 (.inr r :: vs) M mc1 ms1 Post1) (hn : vs.length = n) (hst : st.length ≤ 4) (hd : decode mi.2.1 pc = .ok (.invokespecial idx, 3)) (hA : Aft g (d + 1) mi (pc + 3) ls st mc ms Post1 Post) : Ev g (d + 1) mi pc ls (vs.reverse ++ .inr r :: st) M (mc1 + mc) (ms1 + ms) Post := by
  intro p e R s m args below meth c H locs cells slots lsA TC TS hC hM hS hl h1 h2 h3 h4
  obtain ⟨hx, hb, hml, hown, hr, hlk, hxt, hts, hK, hf, hlo, hnm⟩ := id hC
  obtain ⟨⟨y1, y2, y3, y4, y5⟩, hh, hn0, hnm2, host, w1, w2, w3⟩ := hlk9
  have hcd : cdW mi2 = .code mi2.1 mi2.2.1 mi2.2.2.1 none := by unfold cdW; rw [if_pos hh, hn0]
  refine aft_go (st0 := vs.reverse ++ .inr r :: st) (vx_runIN (b := adM g r) (As := vs.map (conc g)) (rest := st.map (conc g)) ⟨hx, hb, hml, hown, hts⟩ (hM9 (by omega)) ⟨va_cnB n hts (ws_in y5) (by unfold wsM; rw [hcd]) rfl rfl (va_Nw.of rfl (hK.2.2.2.2.2.2.2.2.1 _ w1 rfl)) (hts _ w3) ⟨y1, y2, y3⟩ (rm_fits hf hlo y4), hnm2, hts _ w2⟩ ⟨pcM_blind, fun U hU hW => by rw [← conc_ref]; exact pre_at (vs := .inr r :: vs) hM hS hK hU hW⟩ rfl (by rw [List.length_map]; exact hn) hl.1 (by rw [List.map_append, List.map_reverse]; simp only [List.map_cons, conc_ref]) (lv_room (rest_ok hst)) hd ⟨by omega, by omega⟩) hA hC hS hl h1 h2 h3 h4
end
section

theorem ev_ldc {g : GL} {d : Nat} {mi : MI} {pc : Nat} {ls : List (Option RV)} {st : List RV} {M : RM} {mc ms : Nat} {Post : RO → RM → Prop} {idx : Nat} {v : Int32} (hw : Cond.constant mi.1.cls idx v ∈ lw_good) (hd : decode mi.2.1 pc = .ok (.ldc idx, 2)) (k : Ev g d mi (pc + 2) ls (.inl (.int v) :: st) M mc ms Post) : Ev g d mi pc ls st M mc ms Post := by
  intro p e R s m args below meth c H locs cells slots lsA TC TS hC hM hS hl h1 h2 h3 h4
  obtain ⟨hx, hb, hml, hown, hr, hlk, hxt, hts, hK, hf, hlo, hnm⟩ := id hC
  exact lv_ldc hx hb hown (hts _ hw) hd (k p e R s m args below meth c H locs cells slots lsA TC TS hC hM hS hl h1 h2 h3 h4)
theorem ev_ldcS {g : GL} {d : Nat} {mi : MI} {pc : Nat} {ls : List (Option RV)} {st : List RV} {M : RM} {mc ms : Nat} {Post : RO → RM → Prop} {idx i : Nat} {tx : String} (hw : (mi.1.cls, idx, tx, i) ∈ rStr) (hd : decode mi.2.1 pc = .ok (.ldc idx, 2)) (k : Ev g d mi (pc + 2) ls (.inr (1, i) :: st) M mc ms Post) : Ev g d mi pc ls st M mc ms Post := by
  intro p e R s m args below meth c H locs cells slots lsA TC TS hC hM hS hl h1 h2 h3 h4
  obtain ⟨hx, hb, hml, hown, hr, hlk, hxt, hts, hK, hf, hlo, hnm⟩ := id hC
  exact va_ldcS hx hb hown (hK.2.2.2.2.1 _ hw) hd (k p e R s m args below meth c H locs cells slots lsA TC TS hC hM hS hl h1 h2 h3 h4)
theorem ev_gets {g : GL} {d : Nat} {mi : MI} {pc : Nat} {ls : List (Option RV)} {st : List RV} {M : RM} {mc ms : Nat} {Post : RO → RM → Prop} {idx : Nat} {C n ds ref : String} {v : RV} (hw : (C, n, ds, v) ∈ rSta) (hlink : Cond.fieldLink mi.1.cls idx ref n ds ∈ lw_good) (hsame : ref = C ∨ Cond.sameField ref C n ds ∈ lw_good) (hd : decode mi.2.1 pc = .ok (.getstatic idx, 3)) (k : Ev g d mi (pc + 3) ls (v :: st) M mc ms Post) : Ev g d mi pc ls st M mc ms Post := by
  intro p e R s m args below meth c H locs cells slots lsA TC TS hC hM hS hl h1 h2 h3 h4
  obtain ⟨hx, hb, hml, hown, hr, hlk, hxt, hts, hK, hf, hlo, hnm⟩ := id hC
  exact va_gets hx hb (hK.2.2.2.2.2.1.1 _ hw) hS hown (hts _ hlink) (fl_same hts hsame) hd (k p e R s m args below meth c H locs cells slots lsA TC TS hC hM hS hl h1 h2 h3 h4)
theorem ev_tabIn {g : GL} {d : Nat} {mi : MI} {pc : Nat} {ls : List (Option RV)} {st : List RV} {M : RM} {mc ms : Nat} {Post : RO → RM → Prop} {dflt lo hi : Int} {offs : Array Int} {len : Nat} {x : Int32} {off : Int} {tgt : Nat} (g1 : ¬ x.toInt < lo) (g2 : ¬ hi < x.toInt) (ho : offs[(x.toInt - lo).toNat]? = some off) (ht : (pc : Int) + off = (tgt : Int)) (hd : decode mi.2.1 pc = .ok (.tableswitch dflt lo hi offs, len)) (k : Ev g d mi tgt ls st M mc ms Post) : Ev g d mi pc ls (.inl (.int x) :: st) M mc ms Post := by
  intro p e R s m args below meth c H locs cells slots lsA TC TS hC hM hS hl h1 h2 h3 h4
  obtain ⟨hx, hb, hml, hown, hr, hlk, hxt, hts, hK, hf, hlo, hnm⟩ := id hC
  exact lv_tableIn hx hb hd g1 g2 ho ht (k p e R s m args below meth c H locs cells slots lsA TC TS hC hM hS hl h1 h2 h3 h4)
theorem ev_tabOut {g : GL} {d : Nat} {mi : MI} {pc : Nat} {ls : List (Option RV)} {st : List RV} {M : RM} {mc ms : Nat} {Post : RO → RM → Prop} {dflt lo hi : Int} {offs : Array Int} {len : Nat} {x : Int32} {tgt : Nat} (g1 : x.toInt < lo ∨ hi < x.toInt) (ht : (pc : Int) + dflt = (tgt : Int)) (hd : decode mi.2.1 pc = .ok (.tableswitch dflt lo hi offs, len)) (k : Ev g d mi tgt ls st M mc ms Post) : Ev g d mi pc ls (.inl (.int x) :: st) M mc ms Post := by
  intro p e R s m args below meth c H locs cells slots lsA TC TS hC hM hS hl h1 h2 h3 h4
  obtain ⟨hx, hb, hml, hown, hr, hlk, hxt, hts, hK, hf, hlo, hnm⟩ := id hC
  exact lv_tableOut hx hb hd g1 ht (k p e R s m args below meth c H locs cells slots lsA TC TS hC hM hS hl h1 h2 h3 h4)
theorem ev_objInit {g : GL} {d : Nat} {mi : MI} {pc : Nat} {ls : List (Option RV)} {st : List RV} {M : RM} {mc ms : Nat} {Post : RO → RM → Prop} {idx : Nat} {r : Nat × Nat} (hst : st.length ≤ 4) (hw : Cond.methodLink mi.1.cls idx objectInit ∈ lw_good) (hw2 : Cond.instanceMethod objectInit ∈ lw_good) (hw3 : Cond.code objectInit ⟨#[0xb1]⟩ 1 none ∈ lw_good) (hd : decode mi.2.1 pc = .ok (.invokespecial idx, 3)) (k : Ev g d mi (pc + 3) ls st M mc ms Post) : Ev g d mi pc ls (.inr r :: st) M mc ms Post := by
  intro p e R s m args below meth c H locs cells slots lsA TC TS hC hM hS hl h1 h2 h3 h4
  obtain ⟨hx, hb, hml, hown, hr, hlk, hxt, hts, hK, hf, hlo, hnm⟩ := id hC
  have h9 := rest_ok (g := g) hst
  rw [List.map_cons, conc_ref]
  exact W.objInit hx hb hown (hts _ hw) (hts _ hw2) (hts _ hw3) rfl (by rw [hml]; exact hl.1) rfl hd (by omega) (by show 2 * 0 + _ + 12 ≤ _; omega) (k p e R s m args below meth c H locs cells slots lsA TC TS hC hM hS hl h1 h2 h3 h4)
def mathW (n : String) (k : Nat) (b : ByteArray) (ds : String) (own : String) (idx : Nat) : Prop := Cond.methodLink own idx ⟨"java/lang/Math", n, ds⟩ ∈ lw_good ∧ Cond.static ⟨"java/lang/Math", n, ds⟩ ∈ lw_good ∧ Cond.initialized "java/lang/Math" ∈ lw_good ∧ Cond.code ⟨"java/lang/Math", n, ds⟩ b k (some .int) ∈ lw_good
theorem ev_mmin {g : GL} {d : Nat} {mi : MI} {pc : Nat} {ls : List (Option RV)} {st : List RV} {M : RM} {mc ms : Nat} {Post : RO → RM → Prop} {idx : Nat} {x y : Int32} (hst : st.length ≤ 4) (hw : Cond.methodLink mi.1.cls idx Lib.Math.min.name ∈ lw_good ∧ Cond.static Lib.Math.min.name ∈ lw_good ∧ Cond.initialized "java/lang/Math" ∈ lw_good ∧ Cond.code Lib.Math.min.name Lib.Math.min.code 2 (some .int) ∈ lw_good) (hd : decode mi.2.1 pc = .ok (.invokestatic idx, 3)) (k : Ev g d mi (pc + 3) ls (.inl (.int (if y < x then y else x)) :: st) M mc ms Post) : Ev g d mi pc ls (.inl (.int y) :: .inl (.int x) :: st) M mc ms Post := by
  intro p e R s m args below meth c H locs cells slots lsA TC TS hC hM hS hl h1 h2 h3 h4
  obtain ⟨hx, hb, hml, hown, hr, hlk, hxt, hts, hK, hf, hlo, hnm⟩ := id hC
  have h9 := rest_ok (g := g) hst
  exact va_mmin hx hb (by rw [hml]; exact hl.1.symm) hown (hts _ hw.1) (hts _ hw.2.1) (hts _ hw.2.2.1) (hts _ hw.2.2.2) (by omega) (by omega) (by omega) (by omega) hd (k p e R s m args below meth c H locs cells slots lsA TC TS hC hM hS hl h1 h2 h3 h4)
theorem ev_mmax {g : GL} {d : Nat} {mi : MI} {pc : Nat} {ls : List (Option RV)} {st : List RV} {M : RM} {mc ms : Nat} {Post : RO → RM → Prop} {idx : Nat} {x y : Int32} (hst : st.length ≤ 4) (hw : Cond.methodLink mi.1.cls idx Lib.Math.max.name ∈ lw_good ∧ Cond.static Lib.Math.max.name ∈ lw_good ∧ Cond.initialized "java/lang/Math" ∈ lw_good ∧ Cond.code Lib.Math.max.name Lib.Math.max.code 2 (some .int) ∈ lw_good) (hd : decode mi.2.1 pc = .ok (.invokestatic idx, 3)) (k : Ev g d mi (pc + 3) ls (.inl (.int (if x < y then y else x)) :: st) M mc ms Post) : Ev g d mi pc ls (.inl (.int y) :: .inl (.int x) :: st) M mc ms Post := by
  intro p e R s m args below meth c H locs cells slots lsA TC TS hC hM hS hl h1 h2 h3 h4
  obtain ⟨hx, hb, hml, hown, hr, hlk, hxt, hts, hK, hf, hlo, hnm⟩ := id hC
  have h9 := rest_ok (g := g) hst
  exact va_mmax hx hb (by rw [hml]; exact hl.1.symm) hown (hts _ hw.1) (hts _ hw.2.1) (hts _ hw.2.2.1) (hts _ hw.2.2.2) (by omega) (by omega) (by omega) (by omega) hd (k p e R s m args below meth c H locs cells slots lsA TC TS hC hM hS hl h1 h2 h3 h4)
theorem ev_mabs {g : GL} {d : Nat} {mi : MI} {pc : Nat} {ls : List (Option RV)} {st : List RV} {M : RM} {mc ms : Nat} {Post : RO → RM → Prop} {idx : Nat} {x : Int32} (hst : st.length ≤ 4) (hw : Cond.methodLink mi.1.cls idx Lib.Math.abs.name ∈ lw_good ∧ Cond.static Lib.Math.abs.name ∈ lw_good ∧ Cond.initialized "java/lang/Math" ∈ lw_good ∧ Cond.code Lib.Math.abs.name Lib.Math.abs.code 1 (some .int) ∈ lw_good) (hd : decode mi.2.1 pc = .ok (.invokestatic idx, 3)) (k : Ev g d mi (pc + 3) ls (.inl (.int (if 0 ≤ x then x else 0 - x)) :: st) M mc ms Post) : Ev g d mi pc ls (.inl (.int x) :: st) M mc ms Post := by
  intro p e R s m args below meth c H locs cells slots lsA TC TS hC hM hS hl h1 h2 h3 h4
  obtain ⟨hx, hb, hml, hown, hr, hlk, hxt, hts, hK, hf, hlo, hnm⟩ := id hC
  have h9 := rest_ok (g := g) hst
  exact va_mabs hx hb (by rw [hml]; exact hl.1.symm) hown (hts _ hw.1) (hts _ hw.2.1) (hts _ hw.2.2.1) (hts _ hw.2.2.2) (by omega) (by omega) (by omega) (by omega) hd (k p e R s m args below meth c H locs cells slots lsA TC TS hC hM hS hl h1 h2 h3 h4)
/-- new E(text), thrown at once -/
def TH (mi : MI) (pc : Nat) (cls : String) : Prop := ∃ (ik is ic : Nat) (names : List String) (text : String) (k : Nat), Bundle.fit cls = true ∧ (∀ n ∈ names, Bundle.fit n = true) ∧ names.length ≤ 6 ∧ Cond.classLink mi.1.cls ik cls ∈ lw_good ∧ Cond.initialized cls ∈ lw_good ∧ (mi.1.cls, is, text, k) ∈ rStr ∧
  (∀ w ∈ vx_atS mi.1.cls ic cls names, w ∈ lw_good ∨ (w ∈ lw_T ∧ isBad w = true)) ∧ (∀ w ∈ Cond.classLink mi.1.cls ik cls :: Cond.initialized cls :: vx_atS mi.1.cls ic cls names, vx_ot w = true) ∧
  decode mi.2.1 pc = .ok (.new ik, 3) ∧ decode mi.2.1 (pc + 3) = .ok (.dup, 1) ∧ decode mi.2.1 (pc + 4) = .ok (.ldc is, 2) ∧ decode mi.2.1 (pc + 6) = .ok (.invokespecial ic, 3) ∧ decode mi.2.1 (pc + 9) = .ok (.athrow, 1)
theorem bad_any {w : Cond} (hb : isBad w = true) {A : Array Value} {U : State} (h : w.before #[] U = true) : w.before A U = true := by
  cases w <;> first
    | (simp [isBad] at hb; done)
    | exact va_tabs rfl rfl h
    | exact h
theorem ev_throw {g : GL} {d : Nat} {mi : MI} {pc : Nat} {ls : List (Option RV)} {st : List RV} {M : RM} {mc ms : Nat} {Post : RO → RM → Prop} {cls : String} (hth : TH mi pc cls) (hh : mi.2.2.2.2 = []) (hst : st.length ≤ 4) (hp : Post (.inl cls) M) : Ev g d mi pc ls st M (mc + 1) (ms + 6) Post := by
  intro p e R s m args below meth c H locs cells slots lsA TC TS hC hM hS hl h1 h2 h3 h4
  obtain ⟨hx, hb, hml, hown, hr, hlk, hxt, hts, hK, hf, hlo, hnm⟩ := id hC
  obtain ⟨ik, is, ic, names, text, k, t1, t2, t3, t4, t5, t6, t7, t8, d0, d3, d4, d6, d9⟩ := hth
  have h9 := rest_ok (g := g) hst
  refine vx_throwS hx hb hK.1 hown t1 t2 (hts _ t4) (hts _ t5) (hK.2.2.2.2.1 _ t6) (fun w hw => ?_) t8 hK.2.2.1 hK.2.2.2.1 hS (by rw [hml]; exact hl.1) d0 d3 d4 d6 d9 (fun x hx9 => by rw [hxt, hh] at hx9; cases hx9) (by omega) (by omega) (by omega) (by omega) hlk (fun t hal hz hq => ?_) hS.2.2 (by omega) (by omega)
  · rcases t7 w hw with h | ⟨h, h'⟩
    · exact hts _ h
    · exact bad_any h' (hK.2.2.2.2.2.2.2.2.1 _ h h')
  · refine ⟨⟨M, hp, ⟨Nat.le_trans (Nat.le_of_eq hM.1.symm) hz, fun o cc hc => ?_⟩⟩, Nat.le_trans hS.1 hz, fun q hq1 hq2 => (hq q (Nat.lt_of_lt_of_le hq1 hS.1)).trans (hS.2.1 q hq1 hq2)⟩
    have h8 := hM.2 o cc hc
    exact (h8.kept (hq _ h8.lt)).moved hal
theorem nn9 {z : Int32} (hz : ¬ z < 0) : z.toInt = (z.toNatClampNeg : Int) := by
  have hz0 : (0 : Int) ≤ z.toInt := by
    have := Int32.not_lt.mp hz
    simpa using Int32.le_iff_toInt_le.mp this
  show z.toInt = ((z.toInt.toNat : Nat) : Int)
  omega
theorem ev_copy {g : GL} {d : Nat} {mi : MI} {pc : Nat} {ls : List (Option RV)} {st : List RV} {mc ms : Nat} {Post : RO → RM → Prop} {G : RG} {idx nx o0 o1 ei n0 n1 : Nat} {ty : FieldType} {f0 f1 : Nat → RV} {sp dp n : Int32} (hst : st.length ≤ 4) (he : rTy[ei]? = some ty) (hprim : refKind ty = false) (hw : Cond.methodLink mi.1.cls idx arraycopyName ∈ lw_good ∧ Cond.native arraycopyName ∈ lw_good ∧ Cond.static arraycopyName ∈ lw_good ∧ Cond.initialized "java/lang/System" ∈ lw_good)
    (ha0 : G o0 = some (true, ei, n0, f0)) (ha1 : G o1 = some (true, ei, n1, f1)) (g1 : ¬ sp < 0) (g2 : ¬ dp < 0) (g3 : ¬ n < 0) (g4 : sp.toNatClampNeg + n.toNatClampNeg ≤ n0) (g5 : dp.toNatClampNeg + n.toNatClampNeg ≤ n1) (hfit : ∀ i, i < n.toNatClampNeg → ∃ x, f0 (sp.toNatClampNeg + i) = .inl (.int x) ∧ fits ty (.int x) = true)
    (hd : decode mi.2.1 pc = .ok (.invokestatic idx, 3)) (k : Ev g d mi (pc + 3) ls st (wrG G o1 (true, ei, n1, va_cpy f0 f1 sp.toNatClampNeg dp.toNatClampNeg n.toNatClampNeg), nx) mc ms Post) : Ev g d mi pc ls (.inl (.int n) :: .inl (.int dp) :: .inr (0, o1) :: .inl (.int sp) :: .inr (0, o0) :: st) (G, nx) mc ms Post := by
  intro p e R s m args below meth c H locs cells slots lsA TC TS hC hM hS hl h1 h2 h3 h4
  obtain ⟨hx, hb, hml, hown, hr, hlk, hxt, hts, hK, hf, hlo, hnm⟩ := id hC
  have h9 := rest_ok (g := g) hst
  obtain ⟨ty0, cs, p1, p2, p3, p4, p5, p6, p8, p7⟩ := hM.2 o0 _ ha0
  obtain ⟨ty1, cd, q1, q2, q3, q4, q5, q6, q8, q7⟩ := hM.2 o1 _ ha1
  cases he.symm.trans p1
  cases he.symm.trans q1
  have hloc9 : 2 * 0 + ((st.map (conc g)).map fun v => v.category).sum + (nativeFrameWords "java/lang/System" "arraycopy" 5 + 11) ≤ R.locals := by
    have : nativeFrameWords "java/lang/System" "arraycopy" 5 + 11 ≤ 100 := by decide +kernel
    omega
  have hcs := p8 (Nat.le_add_right _ _)
  have hcd := q8 (Nat.le_add_right _ _)
  intro T hT X
  subst hT
  obtain ⟨hp3, k0, hk0, cm0, hkk0⟩ := id p3
  obtain ⟨hq3, k1, hk1, cm1, hkk1⟩ := id q3
  obtain ⟨vm', X', step⟩ := X.arraycopy hx hown (hts _ hw.1) (hts _ hw.2.1) (hts _ hw.2.2.1) (hts _ hw.2.2.2) (src := g.2.2.2.1 + o0) (dst := g.2.2.2.1 + o1) (cs := cs) (cd := cd) (srcPos := sp) (destPos := dp) (n := n) p2 q2 hp3 hq3 p4 q4 hk0 hk1 hkk0 hkk1 (by simp [hprim]) g1 g2 g3
    (by rw [nn9 g1, nn9 g3]; have := p5.1; omega) (by rw [nn9 g2, nn9 g3]; have := q5.1; omega)
    (fun vm₁ _ i hi => by
      obtain ⟨x, e1, e2⟩ := hfit i hi
      have e : cs.slots.getD (sp.toNatClampNeg + i) .null = .int x := by
        rw [Array.getD_eq_getD_getElem?, p7 _ (by omega), e1]
        rfl
      rw [e]
      exact ⟨e2, trivial⟩)
    (g := F0 m pc lsA (.int n :: .int dp :: .ref (g.2.2.2.1 + o1) :: .int sp :: .ref (g.2.2.2.1 + o0) :: st.map (conc g))) rfl (by rw [hml]; exact hl.1) (rest := st.map (conc g)) rfl (by rw [hb]; exact hd) (by omega) hloc9
  have e1 : copied cs cd sp dp n = arrV cd.cls n1 (fun j => conc g (va_cpy f0 f1 sp.toNatClampNeg dp.toNatClampNeg n.toNatClampNeg j)) := by
    rw [hcs, hcd]
    exact va_copied (conc g) cs.cls cd.cls f0 f1 g4
  rw [e1] at X' step
  have hl9 : g.2.2.2.1 + o1 < T.heap.size := (Array.getElem?_eq_some_iff.mp q2).1
  have hheap : ((T.setVm vm').setCell (g.2.2.2.1 + o1) (arrV cd.cls n1 (fun j => conc g (va_cpy f0 f1 sp.toNatClampNeg dp.toNatClampNeg n.toNatClampNeg j)))).heap = T.heap.setIfInBounds (g.2.2.2.1 + o1) (arrV cd.cls n1 (fun j => conc g (va_cpy f0 f1 sp.toNatClampNeg dp.toNatClampNeg n.toNatClampNeg j))) := rfl
  have oq : ∀ q : Nat, q ≠ g.2.2.2.1 + o1 → (T.heap.setIfInBounds (g.2.2.2.1 + o1) (arrV cd.cls n1 (fun j => conc g (va_cpy f0 f1 sp.toNatClampNeg dp.toNatClampNeg n.toNatClampNeg j))))[q]? = T.heap[q]? := fun q hq => by simp [Array.getElem?_setIfInBounds, Ne.symm hq]
  obtain ⟨t, a1, b1⟩ := k p e R s m args below meth c _ _ cells slots lsA TC TS hC (hM.wr ha1 (by simp) oq ⟨ty, arrV cd.cls n1 (fun j => conc g (va_cpy f0 f1 sp.toNatClampNeg dp.toNatClampNeg n.toNatClampNeg j)), q1, by simp [Array.getElem?_setIfInBounds, hl9], ⟨fun k h => (by cases h), k1, hk1, cm1, hkk1⟩, fun h => (by cases h), szA.of (arrV_size _ _ _), q6, fun _ => rfl, fun j hj => arrV_read _ _ hj⟩) ⟨by simp; exact hS.1, fun q g1 g2 => by
      rw [oq q (fun e => g2 (by rw [e]; exact Nat.le_add_right _ _))]
      exact hS.2.1 q g1 g2, fun q hq => by
      rcases List.mem_append.mp hq with h | h
      · exact hS.2.2 q h
      · obtain ⟨z, -, hz⟩ := List.mem_map.mp h
        rw [← hz]
        exact Nat.le_add_right _ _⟩ hl h1 h2 h3 h4 _ hheap X'
  exact ⟨t, step t a1, b1⟩
end
section

theorem ldcWString9 {p : Program} {l : Launch} {e : Env} {R : Room} {s : State} {m : MethodId} {args : Array Value} {below : List Frame} {meth : Method} {c : Code} {T : State} {locs : List Loc} {cells slots : Nat}
    (X : Stand p l e R s m args below meth c T locs cells slots) (hexec : p.tables.exec = Jvm.exec) {own text : String} {index : Nat} {a : Addr} (hown : s.vm.findClass own = some m.cls)
    (hconst : (Cond.stringRef own index text).before args s = true) (hev : (Term.string own index).eval args s none [] s = some (.ref a)) {g : JFrame} (hg : g.method = m) (hdg : decode c.code g.pc = .ok (.ldc_w index, 3)) :
    ∀ target, Steps p.tables e below (T.setTop { g with pc := g.pc + 3, stack := .ref a :: g.stack }) target → Steps p.tables e below (T.setTop g) target := by
  obtain ⟨k, cf, i, a', hk, hcf, hcp, -, hr, hev'⟩ := Cond.stringRef_spec hown hconst
  cases hev.symm.trans hev'
  obtain ⟨k', hk', he⟩ := X.warmed.alike.2.2 _ _ hk
  have hr' : k'.resolved[index]? = some (some (.string a)) := by
    rcases X.warmed.entry hk hk' index with h | ⟨h, -⟩
    · rw [h]; exact hr
    · rw [hr] at h; cases h
  intro target hrest
  subst hg
  jvm_step X.here [hexec, hdg, ldc_w.wp_string (e := e) (s := T) (f := g) X.here.top hk' (by rw [he]; exact hcf) hcp hr']
  exact hrest
theorem ev_ldcwS {g : GL} {d : Nat} {mi : MI} {pc : Nat} {ls : List (Option RV)} {st : List RV} {M : RM} {mc ms : Nat} {Post : RO → RM → Prop} {idx i : Nat} {tx : String} (hw : (mi.1.cls, idx, tx, i) ∈ rStr) (hd : decode mi.2.1 pc = .ok (.ldc_w idx, 3)) (k : Ev g d mi (pc + 3) ls (.inr (1, i) :: st) M mc ms Post) : Ev g d mi pc ls st M mc ms Post := by
  intro p e R s m args below meth c H locs cells slots lsA TC TS hC hM hS hl h1 h2 h3 h4
  obtain ⟨hx, hb, hml, hown, hr, hlk, hxt, hts, hK, hf, hlo, hnm⟩ := id hC
  have hZ := hK.2.2.2.2.1 _ hw
  intro T hT X
  obtain ⟨t, a1, b1⟩ := k p e R s m args below meth c H locs cells slots lsA TC TS hC hM hS hl h1 h2 h3 h4 T hT X
  exact ⟨t, ldcWString9 X hx hown (text := tx) (a := g.2.2.2.2.1 i) hZ.1 hZ.2 (g := F0 m pc lsA (st.map (conc g))) rfl (by rw [hb]; exact hd) t a1, b1⟩
def THW (mi : MI) (pc : Nat) (cls : String) : Prop := ∃ (ik is ic : Nat) (names : List String) (text : String) (k : Nat), Bundle.fit cls = true ∧ (∀ n ∈ names, Bundle.fit n = true) ∧ names.length ≤ 6 ∧ Cond.classLink mi.1.cls ik cls ∈ lw_good ∧ Cond.initialized cls ∈ lw_good ∧ (mi.1.cls, is, text, k) ∈ rStr ∧
  (∀ w ∈ vx_atS mi.1.cls ic cls names, w ∈ lw_good ∨ (w ∈ lw_T ∧ isBad w = true)) ∧ (∀ w ∈ Cond.classLink mi.1.cls ik cls :: Cond.initialized cls :: vx_atS mi.1.cls ic cls names, vx_ot w = true) ∧
  decode mi.2.1 pc = .ok (.new ik, 3) ∧ decode mi.2.1 (pc + 3) = .ok (.dup, 1) ∧ decode mi.2.1 (pc + 4) = .ok (.ldc_w is, 3) ∧ decode mi.2.1 (pc + 7) = .ok (.invokespecial ic, 3) ∧ decode mi.2.1 (pc + 10) = .ok (.athrow, 1)
theorem ev_throwW {g : GL} {d : Nat} {mi : MI} {pc : Nat} {ls : List (Option RV)} {st : List RV} {M : RM} {mc ms : Nat} {Post : RO → RM → Prop} {cls : String} (hth : THW mi pc cls) (hh : mi.2.2.2.2 = []) (hst : st.length ≤ 4) (hp : Post (.inl cls) M) : Ev g d mi pc ls st M (mc + 1) (ms + 6) Post := by
  intro p e R s m args below meth c H locs cells slots lsA TC TS hC hM hS hl h1 h2 h3 h4
  obtain ⟨hx, hb, hml, hown, hr, hlk, hxt, hts, hK, hf, hlo, hnm⟩ := id hC
  obtain ⟨ik, is, ic, names, text, k, t1, t2, t3, t4, t5, t6, t7, t8, d0, d3, d4, d6, d9⟩ := hth
  have h9 := rest_ok (g := g) hst
  refine vx_throwSW hx hb hK.1 hown t1 t2 (hts _ t4) (hts _ t5) (hK.2.2.2.2.1 _ t6) (fun w hw => ?_) t8 hK.2.2.1 hK.2.2.2.1 hS (by rw [hml]; exact hl.1) d0 d3 d4 d6 d9 (fun x hx9 => by rw [hxt, hh] at hx9; cases hx9) (by omega) (by omega) (by omega) (by omega) hlk (fun t hal hz hq => ?_) hS.2.2 (by omega) (by omega)
  · rcases t7 w hw with h | ⟨h, h'⟩
    · exact hts _ h
    · exact bad_any h' (hK.2.2.2.2.2.2.2.2.1 _ h h')
  · refine ⟨⟨M, hp, ⟨Nat.le_trans (Nat.le_of_eq hM.1.symm) hz, fun o cc hc => ?_⟩⟩, Nat.le_trans hS.1 hz, fun q hq1 hq2 => (hq q (Nat.lt_of_lt_of_le hq1 hS.1)).trans (hS.2.1 q hq1 hq2)⟩
    have h8 := hM.2 o cc hc
    exact (h8.kept (hq _ h8.lt)).moved hal
/-- a handler of the method takes E, thrown out of the call at pc -/
def CT (mi : MI) (pc : Nat) (E : String) (hpc : Nat) : Prop := ∃ (pre : List ExceptionTableEntry) (x : ExceptionTableEntry) (suf : List ExceptionTableEntry) (name : String), tableOf mi.2.2.2.2 = pre ++ x :: suf ∧
  (∀ z ∈ pre, covers z pc = false ∨ (z.catchType ≠ 0 ∧ ∃ nm : String, Cond.classLink mi.1.cls z.catchType nm ∈ lw_good ∧ (E, nm) ∈ rNc)) ∧ covers x pc = true ∧ x.catchType ≠ 0 ∧ Cond.classLink mi.1.cls x.catchType name ∈ lw_good ∧ Cond.castable E name ∈ lw_T ∧ x.handlerPc = hpc
def AftH (g : GL) (d : Nat) (mi : MI) (pc : Nat) (ls : List (Option RV)) (st : List RV) (n0 mc ms : Nat) (Post1 Post : RO → RM → Prop) : Prop :=
  (∀ v M1, Post1 (.inr v) M1 → Ev g d mi (pc + 3) ls (v.toList ++ st) M1 mc ms Post) ∧ ∀ E M1, Post1 (.inl E) M1 → ∃ hpc, CT mi pc E hpc ∧ ∀ q9 nx, M1.2 ≤ nx → nx ≤ n0 + 1000000 → Ev g d mi hpc ls [.inl (.ref q9)] (M1.1, nx) mc ms Post
theorem aft_goH {g : GL} {d : Nat} {mi : MI} {pc : Nat} {ls : List (Option RV)} {st st0 : List RV} {mc1 ms1 mc ms : Nat} {Post1 Post : RO → RM → Prop} {p : Program} {e : Env} {R : Room} {s : State} {m : MethodId} {args : Array Value} {below : List Frame} {meth : Method} {c : Code} {H : Heap} {locs : List Loc} {cells slots : Nat} {lsA : Array Slot} {TC TS : Nat} {a : Array Value}
    (hr : vx_Run p g.1 e R s m args below meth c H locs cells slots mc1 ms1 (F0 m pc lsA (st0.map (conc g))) (st.map (conc g)) (QC g Post1 a) (QX g Post1) (rA g)) {n0 : Nat} (hA : AftH g d mi pc ls st n0 mc ms Post1 Post)
    (hC : CX g mi d p R s m args meth c) (hS : va_S (rA g) s.heap H locs) (hl : lv_has lsA mi.2.2.1 (lvl g 0 ls)) (h1 : cells + (mc1 + mc) ≤ TC) (h2 : slots + (ms1 + ms) ≤ TS) (h3 : TC ≤ R.cells ∧ TC ≤ 1000000) {M : RM} (hM : MR g M s H) (hn0 : n0 = M.2) (h4 : TS ≤ R.slots) :
    W p g.1 e R s m args below meth c H locs cells slots (vx_MQ below (QC g Post) (QX g Post) args s TC TS (rA g)) (F0 m pc lsA (st0.map (conc g))) := by
  refine run_go hr hS (fun E ce q9 M1 H1 locs1 hp hM1 hS1 hce hcv hcl => ?_) (fun v M1 H1 locs1 hp hM1 hS1 => ?_)
  · obtain ⟨hpc, ⟨pre, x, suf, name, c1, c2, c3, c4, c5, c6, c7⟩, kE⟩ := hA.2 E M1 hp
    obtain ⟨hx, hb, hml, hown, hr9, hlk, hxt, hts, hK, hf, hlo, hnm⟩ := id hC
    have hsz := hM1.1
    subst c7
    refine vx_catch hown pre x suf (hxt.trans c1) (fun z hz => ?_) c3 c4 (hts _ c5) (bad_any rfl (hK.2.2.2.2.2.2.2.2.1 _ c6 rfl)) hce hcv hcl ?_
    · rcases c2 z hz with h | ⟨h, nm, hw, hn⟩
      · exact Or.inl h
      · exact Or.inr ⟨h, nm, hts _ hw, hK.2.2.2.2.2.2.2.2.2 _ hn⟩
    · intro T hT X
      have hsz2 := X.heapSize
      rw [hT] at hsz2
      have hsz3 := hM.1
      have hsz4 := hS.1
      refine kE q9 (H1.size - g.2.2.2.1) (by omega) (by omega) p e R s m args below meth c H1 locs1 (cells + mc1) (slots + ms1) lsA TC TS hC ⟨?_, hM1.2⟩ hS1 hl (by omega) (by omega) h3 h4 T hT X
      show H1.size = g.2.2.2.1 + (H1.size - g.2.2.2.1)
      omega
  · refine W.eq (g2 := F0 m (pc + 3) lsA ((v.toList ++ st).map (conc g))) (by cases v <;> rfl) (hA.1 v M1 hp p e R s m args below meth c H1 locs1 (cells + mc1) (slots + ms1) lsA TC TS hC hM1 hS1 hl (by omega) (by omega) h3 h4)
theorem ev_astoreR {g : GL} {d : Nat} {mi : MI} {pc : Nat} {ls : List (Option RV)} {st : List RV} {M : RM} {mc ms : Nat} {Post : RO → RM → Prop} {i : Nat} {q : Nat} (ok : okst ls i = true) (hn : i < mi.2.2.1) (hd : decode mi.2.1 pc = .ok (.astore i, 2)) (k : Ev g d mi (pc + 2) (ls.set i (some (.inl (.ref q)))) st M mc ms Post) : Ev g d mi pc ls (.inl (.ref q) :: st) M mc ms Post := by
  intro p e R s m args below meth c H locs cells slots lsA TC TS hC hM hS hl h1 h2 h3 h4
  obtain ⟨hx, hb, hml, hown, hr, hlk, hxt, hts, hK, hf, hlo, hnm⟩ := id hC
  exact lv_astore hx hb hd hl hn rfl (fun ls9 hl9 => k p e R s m args below meth c H locs cells slots ls9 TC TS hC hM hS (lvh_store (v := .inl (.ref q)) ok hl9) h1 h2 h3 h4)
theorem ev_astoreR_n {g : GL} {d : Nat} {mi : MI} {pc : Nat} {ls : List (Option RV)} {st : List RV} {M : RM} {mc ms : Nat} {Post : RO → RM → Prop} {k0 : Fin 4} {q : Nat} (ok : okst ls (k0 : Nat) = true) (hn : (k0 : Nat) < mi.2.2.1) (hd : decode mi.2.1 pc = .ok (.astore_n k0, 1)) (k : Ev g d mi (pc + 1) (ls.set (k0 : Nat) (some (.inl (.ref q)))) st M mc ms Post) : Ev g d mi pc ls (.inl (.ref q) :: st) M mc ms Post := by
  intro p e R s m args below meth c H locs cells slots lsA TC TS hC hM hS hl h1 h2 h3 h4
  obtain ⟨hx, hb, hml, hown, hr, hlk, hxt, hts, hK, hf, hlo, hnm⟩ := id hC
  exact lv_astore_n hx hb hd rfl hl hn rfl (fun ls9 hl9 => k p e R s m args below meth c H locs cells slots ls9 TC TS hC hM hS (lvh_store (v := .inl (.ref q)) ok hl9) h1 h2 h3 h4)
theorem ev_invVH {g : GL} {d : Nat} {mi : MI} {pc : Nat} {ls : List (Option RV)} {st : List RV} {M : RM} {mc ms : Nat} {Post : RO → RM → Prop} {idx n mc1 ms1 : Nat} {mi2 : MI} {vs : List RV} {Post1 : RO → RM → Prop} {ci n2 : Nat} {r : Nat × Nat} {f : Nat → RV} (hr0 : rdM g M r = some (false, ci, n2, f)) (hlk9 : LV mi.1.cls idx ci n mi2) (hM9 : Mt g d mi2 (.inr r :: vs) M mc1 ms1 Post1) (hn : vs.length = n) (hst : st.length ≤ 4) (hd : decode mi.2.1 pc = .ok (.invokevirtual idx, 3)) (hA : AftH g (d + 1) mi pc ls st M.2 mc ms Post1 Post) : Ev g (d + 1) mi pc ls (vs.reverse ++ .inr r :: st) M (mc1 + mc) (ms1 + ms) Post := by
  intro p e R s m args below meth c H locs cells slots lsA TC TS hC hM hS hl h1 h2 h3 h4
  obtain ⟨hx, hb, hml, hown, hr, hlk, hxt, hts, hK, hf, hlo, hnm⟩ := id hC
  obtain ⟨⟨y1, y2, y3, y4, y5⟩, hh, ⟨r9, e9, e8⟩, w1, w2, w3, w4⟩ := hlk9
  have hcd : cdW mi2 = .code mi2.1 mi2.2.1 mi2.2.2.1 mi2.2.2.2.1 := by unfold cdW; rw [if_pos hh]
  have hG : GoodIn lw_good (wsV mi.1.cls idx mi2.1.cls mi2.1 (wsM mi2)) := fun w hw => by
    rcases List.mem_append.mp hw with h9 | h9
    · have : w ∈ lw_good := by simp only [List.mem_cons, List.not_mem_nil, or_false] at h9; rcases h9 with rfl | rfl | rfl | rfl <;> assumption
      exact ⟨this, good_of_word (List.mem_filter.mp this).2⟩
    · exact ws_in y5 w h9
  refine aft_goH (st0 := vs.reverse ++ .inr r :: st) (vx_runV (C := mi2.1.cls) (b := adM g r) (As := vs.map (conc g)) (rest := st.map (conc g)) ⟨hx, hb, hml, hown, hts⟩ (hM9 (by omega)) (cwV n hts hG (by unfold wsM; rw [hcd]) rfl rfl ⟨rfl, y1, y2, y3⟩ (rm_fits hf hlo y4)) ⟨pcM_blind, by rw [← e8]; exact recv_at hM hS hK e9 hr0, fun U hU hW => by rw [← conc_ref]; exact pre_at (vs := .inr r :: vs) hM hS hK hU hW⟩ rfl (by rw [List.length_map]; exact hn) hl.1 (by rw [List.map_append, List.map_reverse]; simp only [List.map_cons, conc_ref]) (lv_room (rest_ok hst)) hd ⟨by omega, by omega⟩) hA hC hS hl h1 h2 h3 hM rfl h4
end
section
/-! The two systems' memory by kinds: off: where an object lies; cel: its cell; fld: what a place holds, read off a number -/
abbrev Mem : Type := Nat → Nat → Nat → Int32
def sOff (k : Nat) : Nat := 87 + 37 * k + (if k < 2 then 0 else if k < 10 then 2 else 4)
theorem sOff_b (k : Nat) : sOff k ≤ 91 + 37 * k := by
  unfold sOff
  split
  · omega
  · split <;> omega
def off : Nat → Nat → Nat
  | 2, _ => 161
  | 3, j => 68 + 10 * (j / 3) + 2 * (j % 3)
  | 4, j => sOff (j / 5) + 32 + j % 5
  | 5, j => sOff (j / 24) + 8 + j % 24
  | 6, _ => 4
  | 7, j => 67 + 10 * j
  | 8, _ => 3
  | 9, j => sOff j
  | 10, j => 7 + j
  | 11, _ => 1
  | 12, _ => 0
  | 20, _ => 2
  | 21, _ => 5
  | 22, _ => 6
  | 23, j => 69 + 10 * (j / 3) + 2 * (j % 3)
  | 24, j => 74 + 10 * j
  | 25, j => 75 + 10 * j
  | 26, j => 76 + 10 * j
  | 27, j => sOff j + 1
  | 28, j => sOff j + 2
  | 29, j => sOff j + 3
  | 30, j => sOff j + 4
  | 31, j => sOff j + 5
  | 32, j => sOff j + 6
  | 33, j => sOff j + 7
  | 34, _ => 162
  | 35, _ => 459
  | 36, _ => 460
  | 60, j => j
  | 61, j => j + 1
  | 62, j => j + 2
  | 63, j => j + 3
  | 64, j => j + 4
  | 65, j => j + 5
  | 66, j => j + 6
  | 67, j => j + 7
  | 68, j => j + 8
  | 69, j => j + 9
  | 70, j => j + 10
  | 71, j => j + 11
  | 72, j => j + 12
  | 73, j => j + 13
  | 74, j => j + 14
  | 75, j => j + 15
  | 76, j => j + 16
  | 77, j => j + 17
  | 78, j => j + 18
  | 79, j => j + 19
  | 80, j => j + 20
  | _, _ => 0
def isA : Nat → Bool
  | 2 => false
  | 3 => false
  | 4 => false
  | 5 => false
  | 6 => false
  | 7 => false
  | 8 => false
  | 9 => false
  | 10 => false
  | 11 => false
  | 12 => false
  | 20 => true
  | 21 => true
  | 22 => true
  | 23 => true
  | 24 => true
  | 25 => true
  | 26 => true
  | 27 => true
  | 28 => true
  | 29 => true
  | 30 => true
  | 31 => true
  | 32 => true
  | 33 => true
  | 34 => true
  | 35 => true
  | 36 => true
  | 60 => false
  | 61 => true
  | 62 => true
  | 63 => true
  | 64 => true
  | 65 => true
  | 66 => true
  | 67 => true
  | 68 => true
  | 69 => true
  | 70 => true
  | 71 => true
  | 72 => true
  | 73 => true
  | 74 => true
  | 75 => true
  | 76 => true
  | 77 => true
  | 78 => true
  | 79 => true
  | 80 => true
  | _ => false
def ixK : Nat → Nat
  | 2 => 2
  | 3 => 3
  | 4 => 4
  | 5 => 5
  | 6 => 6
  | 7 => 7
  | 8 => 8
  | 9 => 9
  | 10 => 10
  | 11 => 11
  | 12 => 12
  | 20 => 0
  | 21 => 6
  | 22 => 0
  | 23 => 0
  | 24 => 0
  | 25 => 0
  | 26 => 0
  | 27 => 0
  | 28 => 4
  | 29 => 5
  | 30 => 0
  | 31 => 0
  | 32 => 0
  | 33 => 0
  | 34 => 7
  | 35 => 7
  | 36 => 1
  | 60 => 13
  | 61 => 0
  | 62 => 0
  | 63 => 0
  | 64 => 0
  | 65 => 0
  | 66 => 0
  | 67 => 0
  | 68 => 0
  | 69 => 0
  | 70 => 0
  | 71 => 0
  | 72 => 0
  | 73 => 0
  | 74 => 0
  | 75 => 0
  | 76 => 0
  | 77 => 0
  | 78 => 1
  | 79 => 0
  | 80 => 0
  | _ => 0
def lenK : Nat → Nat
  | 20 => 800
  | 21 => 60
  | 22 => 2
  | 23 => 8
  | 24 => 8
  | 25 => 8
  | 26 => 5
  | 27 => 8
  | 28 => 24
  | 29 => 5
  | 30 => 24
  | 31 => 60
  | 32 => 60
  | 33 => 60
  | 34 => 8
  | 35 => 2
  | 36 => 2
  | 61 => 8
  | 62 => 8
  | 63 => 5
  | 64 => 5
  | 65 => 5
  | 66 => 5
  | 67 => 5
  | 68 => 24
  | 69 => 24
  | 70 => 24
  | 71 => 24
  | 72 => 24
  | 73 => 24
  | 74 => 24
  | 75 => 24
  | 76 => 24
  | 77 => 24
  | 78 => 24
  | 79 => 60
  | 80 => 60
  | _ => 0
def vc : Nat → Nat → Prop
  | 2, j => j = 0
  | 3, j => j < 6
  | 4, j => j < 60
  | 5, j => j < 288
  | 6, j => j = 0
  | 7, j => j < 2
  | 8, j => j = 0
  | 9, j => j < 12
  | 10, j => j < 60
  | 11, j => j = 0
  | 12, j => j = 0
  | 20, j => j = 0
  | 21, j => j = 0
  | 22, j => j = 0
  | 23, j => j < 6
  | 24, j => j < 2
  | 25, j => j < 2
  | 26, j => j < 2
  | 27, j => j < 12
  | 28, j => j < 12
  | 29, j => j < 12
  | 30, j => j < 12
  | 31, j => j < 12
  | 32, j => j < 12
  | 33, j => j < 12
  | 34, j => j = 0
  | 35, j => j = 0
  | 36, j => j = 0
  | _, _ => False
/-- an Own that begins at b -/
def vo (b : Nat) : Nat → Nat → Prop := fun K j => 60 ≤ K ∧ K ≤ 80 ∧ j = b
def fld : Nat → Nat → Nat → Int32 → RV
  | 2, _, 0, _ => .inr (0, off 34 0)
  | 3, j, 0, _ => .inr (0, off 23 j)
  | 6, _, 0, _ => .inr (0, off 11 0)
  | 6, _, 6, _ => .inr (0, off 21 0)
  | 6, _, 9, _ => .inr (0, off 22 0)
  | 7, j, 5, _ => .inr (0, off 3 (3 * j))
  | 7, j, 6, _ => .inr (0, off 3 (3 * j + 1))
  | 7, j, 7, _ => .inr (0, off 3 (3 * j + 2))
  | 7, j, 8, _ => .inr (0, off 24 j)
  | 7, j, 9, _ => .inr (0, off 25 j)
  | 7, j, 10, _ => .inr (0, off 26 j)
  | 8, _, 0, _ => .inr (0, off 11 0)
  | 9, _, 0, x => .inr (0, off 7 x.toNatClampNeg)
  | 9, j, 3, _ => .inr (0, off 27 j)
  | 9, j, 4, _ => .inr (0, off 28 j)
  | 9, j, 6, _ => .inr (0, off 29 j)
  | 9, j, 7, _ => .inr (0, off 30 j)
  | 9, j, 9, _ => .inr (0, off 31 j)
  | 9, j, 10, _ => .inr (0, off 32 j)
  | 9, j, 11, _ => .inr (0, off 33 j)
  | 11, _, 0, _ => .inr (0, off 20 0)
  | 12, _, 0, _ => .inr (0, off 11 0)
  | 12, _, 1, _ => .inr (0, off 8 0)
  | 12, _, 2, _ => .inr (0, off 6 0)
  | 12, _, 3, x => .inr (0, off 7 x.toNatClampNeg)
  | 12, _, 4, x => .inr (0, off 7 x.toNatClampNeg)
  | 12, _, 5, _ => .inr (0, off 9 0)
  | 12, _, 6, _ => .inr (0, off 9 1)
  | 12, _, 7, _ => .inr (0, off 2 0)
  | 12, _, 8, _ => .inr (0, off 35 0)
  | 12, _, 9, _ => .inr (0, off 36 0)
  | 60, j, 15, _ => .inr (0, off 61 j)
  | 60, j, 16, _ => .inr (0, off 62 j)
  | 60, j, 17, _ => .inr (0, off 63 j)
  | 60, j, 18, _ => .inr (0, off 64 j)
  | 60, j, 19, _ => .inr (0, off 65 j)
  | 60, j, 20, _ => .inr (0, off 66 j)
  | 60, j, 21, _ => .inr (0, off 67 j)
  | 60, j, 22, _ => .inr (0, off 68 j)
  | 60, j, 23, _ => .inr (0, off 69 j)
  | 60, j, 24, _ => .inr (0, off 70 j)
  | 60, j, 25, _ => .inr (0, off 71 j)
  | 60, j, 26, _ => .inr (0, off 72 j)
  | 60, j, 27, _ => .inr (0, off 73 j)
  | 60, j, 28, _ => .inr (0, off 74 j)
  | 60, j, 29, _ => .inr (0, off 75 j)
  | 60, j, 30, _ => .inr (0, off 76 j)
  | 60, j, 31, _ => .inr (0, off 77 j)
  | 60, j, 32, _ => .inr (0, off 78 j)
  | 60, j, 33, _ => .inr (0, off 79 j)
  | 60, j, 34, _ => .inr (0, off 80 j)
  | 12, _, 12, x => if x < 0 then .inr (1, 0) else .inr (0, x.toNatClampNeg)
  | 21, _, f, _ => .inr (0, off 10 f)
  | 28, j, f, _ => .inr (0, off 5 (24 * j + f))
  | 29, j, f, _ => .inr (0, off 4 (5 * j + f))
  | 34, _, _, x => .inr (0, off 9 x.toNatClampNeg)
  | 35, _, f, _ => .inr (0, off 9 (10 + f))
  | _, _, _, x => .inl (.int x)

def cel (μ : Mem) (K j : Nat) : RC := (isA K, ixK K, lenK K, fun f => fld K j f (μ K j f))
def st3 (μ : Mem) (K j f : Nat) (x : Int32) : Mem := fun K' j' f' => if K' = K ∧ j' = j ∧ f' = f then x else μ K' j' f'
/-- a stretch of an array is copied -/
def cp3 (μ : Mem) (K1 j1 K2 j2 sp dp n : Nat) : Mem := fun K j f => if K = K2 ∧ j = j2 then va_cpy (μ K1 j1) (μ K2 j2) sp dp n f else μ K j f
/-- the memory G holds the numbers μ at the places of V; F elsewhere -/
def LM (V : Nat → Nat → Prop) (lo hi : Nat) (μ : Mem) (F G : RG) : Prop := (∀ K j, V K j → G (off K j) = some (cel μ K j)) ∧ ∀ o, (o < lo ∨ hi ≤ o) → G o = F o
def OKV (V : Nat → Nat → Prop) (lo hi : Nat) : Prop := (∀ K j K' j', V K j → V K' j' → off K j = off K' j' → K = K' ∧ j = j') ∧ ∀ K j, V K j → lo ≤ off K j ∧ off K j < hi
theorem LM.put {V : Nat → Nat → Prop} {lo hi : Nat} {μ : Mem} {F G : RG} (h : LM V lo hi μ F G) (hO : OKV V lo hi) {K j f : Nat} {x : Int32} (hv : V K j) : LM V lo hi (st3 μ K j f x) F (wrG G (off K j) (isA K, ixK K, lenK K, updF (fun f => fld K j f (μ K j f)) f (fld K j f x))) := by
  refine ⟨fun K' j' hv' => ?_, fun o ho => ?_⟩
  · unfold wrG
    by_cases e : off K' j' = off K j
    · obtain ⟨rfl, rfl⟩ := hO.1 _ _ _ _ hv' hv e
      rw [if_pos rfl]
      unfold cel
      congr 4
      funext f'
      unfold updF st3
      by_cases ef : f' = f
      · subst ef; simp
      · simp [ef]
    · rw [if_neg e, h.1 K' j' hv']
      unfold cel
      congr 4
      funext f'
      unfold st3
      rw [if_neg]
      rintro ⟨rfl, rfl, -⟩
      exact e rfl
  · have := hO.2 K j hv
    unfold wrG
    rw [if_neg (by omega)]
    exact h.2 o ho
theorem LM.copy {V : Nat → Nat → Prop} {lo hi : Nat} {μ : Mem} {F G : RG} (h : LM V lo hi μ F G) (hO : OKV V lo hi) {K1 j1 K2 j2 sp dp n : Nat} (hv : V K2 j2) (h1 : ∀ f x, fld K1 j1 f x = .inl (.int x)) (h2 : ∀ f x, fld K2 j2 f x = .inl (.int x)) : LM V lo hi (cp3 μ K1 j1 K2 j2 sp dp n) F (wrG G (off K2 j2) (isA K2, ixK K2, lenK K2, va_cpy (fun f => fld K1 j1 f (μ K1 j1 f)) (fun f => fld K2 j2 f (μ K2 j2 f)) sp dp n)) := by
  refine ⟨fun K' j' hv' => ?_, fun o ho => ?_⟩
  · unfold wrG
    by_cases e : off K' j' = off K2 j2
    · obtain ⟨rfl, rfl⟩ := hO.1 _ _ _ _ hv' hv e
      rw [if_pos rfl]
      unfold cel
      congr 4
      funext f'
      unfold va_cpy cp3
      rw [h2]
      simp only [h1, h2, va_cpy, and_self, if_true]
      split <;> rfl
    · rw [if_neg e, h.1 K' j' hv']
      unfold cel
      congr 4
      funext f'
      unfold cp3
      rw [if_neg]
      rintro ⟨rfl, rfl⟩
      exact e rfl
  · have := hO.2 K2 j2 hv
    unfold wrG
    rw [if_neg (by omega)]
    exact h.2 o ho
def decS (k o : Nat) : Nat × Nat := if o = 0 then (9, k) else if o = 1 then (27, k) else if o = 2 then (28, k) else if o = 3 then (29, k) else if o = 4 then (30, k) else if o = 5 then (31, k) else if o = 6 then (32, k) else if o = 7 then (33, k) else if o < 32 then (5, 24 * k + (o - 8)) else (4, 5 * k + (o - 32))
def decU (s o : Nat) : Nat × Nat := if o = 0 then (7, s) else if o = 1 then (3, 3 * s) else if o = 2 then (23, 3 * s) else if o = 3 then (3, 3 * s + 1) else if o = 4 then (23, 3 * s + 1) else if o = 5 then (3, 3 * s + 2) else if o = 6 then (23, 3 * s + 2) else if o = 7 then (24, s) else if o = 8 then (25, s) else (26, s)
def decO (o : Nat) : Nat × Nat := if o = 0 then (12, 0) else if o = 1 then (11, 0) else if o = 2 then (20, 0) else if o = 3 then (8, 0) else if o = 4 then (6, 0) else if o = 5 then (21, 0) else if o = 6 then (22, 0) else if o < 67 then (10, o - 7) else if o < 87 then decU ((o - 67) / 10) ((o - 67) % 10)
  else if o < 161 then decS ((o - 87) / 37) ((o - 87) % 37) else if o = 161 then (2, 0) else if o = 162 then (34, 0) else if o < 459 then decS ((o - 89) / 37) ((o - 89) % 37) else if o = 459 then (35, 0) else if o = 460 then (36, 0) else if o < 535 then decS ((o - 91) / 37) ((o - 91) % 37)
  else (if o = 535 then 13 else o - 496, 0)
theorem decO_s {k c : Nat} (hk : k < 12) (hc : c < 37) : decO (sOff k + c) = decS k c := by
  unfold decO sOff
  by_cases h1 : k < 2
  · rw [if_pos h1]
    rw [if_neg (by omega), if_neg (by omega), if_neg (by omega), if_neg (by omega), if_neg (by omega), if_neg (by omega), if_neg (by omega), if_neg (by omega), if_neg (by omega), if_pos (by omega)]
    congr 1 <;> omega
  · rw [if_neg h1]
    by_cases h2 : k < 10
    · rw [if_pos h2]
      rw [if_neg (by omega), if_neg (by omega), if_neg (by omega), if_neg (by omega), if_neg (by omega), if_neg (by omega), if_neg (by omega), if_neg (by omega), if_neg (by omega), if_neg (by omega), if_neg (by omega), if_neg (by omega), if_pos (by omega)]
      congr 1 <;> omega
    · rw [if_neg h2]
      rw [if_neg (by omega), if_neg (by omega), if_neg (by omega), if_neg (by omega), if_neg (by omega), if_neg (by omega), if_neg (by omega), if_neg (by omega), if_neg (by omega), if_neg (by omega), if_neg (by omega), if_neg (by omega), if_neg (by omega), if_neg (by omega), if_neg (by omega), if_pos (by omega)]
      congr 1 <;> omega
theorem decO_u {s c : Nat} (hs : s < 2) (hc : c < 10) : decO (67 + 10 * s + c) = decU s c := by
  unfold decO
  rw [if_neg (by omega), if_neg (by omega), if_neg (by omega), if_neg (by omega), if_neg (by omega), if_neg (by omega), if_neg (by omega), if_neg (by omega), if_pos (by omega)]
  congr 1 <;> omega
theorem dec_2 {j : Nat} (h : vc 2 j) : decO (off 2 j) = (2, j) := by
  have h2 : j = 0 := h
  subst h2
  rfl
theorem dec_3 {j : Nat} (h : vc 3 j) : decO (off 3 j) = (3, j) := by
  have h2 : j < 6 := h
  rcases (show j = 0 ∨ j = 1 ∨ j = 2 ∨ j = 3 ∨ j = 4 ∨ j = 5 by omega) with rfl | rfl | rfl | rfl | rfl | rfl <;> rfl
theorem dec_4 {j : Nat} (h : vc 4 j) : decO (off 4 j) = (4, j) := by
  have h1 : off 4 j = sOff (j / 5) + (32 + j % 5) := by show sOff (j / 5) + 32 + j % 5 = _; omega
  have h2 : j < 60 := h
  rw [h1, decO_s (by omega) (by omega)]
  unfold decS
  rw [if_neg (by omega), if_neg (by omega), if_neg (by omega), if_neg (by omega), if_neg (by omega), if_neg (by omega), if_neg (by omega), if_neg (by omega), if_neg (by omega)]
  congr 1; omega
theorem dec_5 {j : Nat} (h : vc 5 j) : decO (off 5 j) = (5, j) := by
  have h1 : off 5 j = sOff (j / 24) + (8 + j % 24) := by show sOff (j / 24) + 8 + j % 24 = _; omega
  have h2 : j < 288 := h
  rw [h1, decO_s (by omega) (by omega)]
  unfold decS
  rw [if_neg (by omega), if_neg (by omega), if_neg (by omega), if_neg (by omega), if_neg (by omega), if_neg (by omega), if_neg (by omega), if_neg (by omega), if_pos (by omega)]
  congr 1; omega
theorem dec_6 {j : Nat} (h : vc 6 j) : decO (off 6 j) = (6, j) := by
  have h2 : j = 0 := h
  subst h2
  rfl
theorem dec_7 {j : Nat} (h : vc 7 j) : decO (off 7 j) = (7, j) := by
  have h2 : j < 2 := h
  have h1 : off 7 j = 67 + 10 * j + 0 := by show 67 + 10 * j = _; omega
  rw [h1, decO_u h2 (by omega)]
  rfl
theorem dec_8 {j : Nat} (h : vc 8 j) : decO (off 8 j) = (8, j) := by
  have h2 : j = 0 := h
  subst h2
  rfl
theorem dec_9 {j : Nat} (h : vc 9 j) : decO (off 9 j) = (9, j) := by
  have h2 : j < 12 := h
  exact (decO_s (c := 0) h2 (by omega)).trans rfl
theorem dec_10 {j : Nat} (h : vc 10 j) : decO (off 10 j) = (10, j) := by
  have h2 : j < 60 := h
  show decO (7 + j) = _
  unfold decO
  rw [if_neg (by omega), if_neg (by omega), if_neg (by omega), if_neg (by omega), if_neg (by omega), if_neg (by omega), if_neg (by omega), if_pos (by omega)]
  congr 1; omega
theorem dec_11 {j : Nat} (h : vc 11 j) : decO (off 11 j) = (11, j) := by
  have h2 : j = 0 := h
  subst h2
  rfl
theorem dec_12 {j : Nat} (h : vc 12 j) : decO (off 12 j) = (12, j) := by
  have h2 : j = 0 := h
  subst h2
  rfl
theorem dec_20 {j : Nat} (h : vc 20 j) : decO (off 20 j) = (20, j) := by
  have h2 : j = 0 := h
  subst h2
  rfl
theorem dec_21 {j : Nat} (h : vc 21 j) : decO (off 21 j) = (21, j) := by
  have h2 : j = 0 := h
  subst h2
  rfl
theorem dec_22 {j : Nat} (h : vc 22 j) : decO (off 22 j) = (22, j) := by
  have h2 : j = 0 := h
  subst h2
  rfl
theorem dec_23 {j : Nat} (h : vc 23 j) : decO (off 23 j) = (23, j) := by
  have h2 : j < 6 := h
  rcases (show j = 0 ∨ j = 1 ∨ j = 2 ∨ j = 3 ∨ j = 4 ∨ j = 5 by omega) with rfl | rfl | rfl | rfl | rfl | rfl <;> rfl
theorem dec_24 {j : Nat} (h : vc 24 j) : decO (off 24 j) = (24, j) := by
  have h2 : j < 2 := h
  have h1 : off 24 j = 67 + 10 * j + 7 := by show 74 + 10 * j = _; omega
  rw [h1, decO_u h2 (by omega)]
  rfl
theorem dec_25 {j : Nat} (h : vc 25 j) : decO (off 25 j) = (25, j) := by
  have h2 : j < 2 := h
  have h1 : off 25 j = 67 + 10 * j + 8 := by show 75 + 10 * j = _; omega
  rw [h1, decO_u h2 (by omega)]
  rfl
theorem dec_26 {j : Nat} (h : vc 26 j) : decO (off 26 j) = (26, j) := by
  have h2 : j < 2 := h
  have h1 : off 26 j = 67 + 10 * j + 9 := by show 76 + 10 * j = _; omega
  rw [h1, decO_u h2 (by omega)]
  rfl
theorem dec_27 {j : Nat} (h : vc 27 j) : decO (off 27 j) = (27, j) := by
  have h2 : j < 12 := h
  exact (decO_s (c := 1) h2 (by omega)).trans rfl
theorem dec_28 {j : Nat} (h : vc 28 j) : decO (off 28 j) = (28, j) := by
  have h2 : j < 12 := h
  exact (decO_s (c := 2) h2 (by omega)).trans rfl
theorem dec_29 {j : Nat} (h : vc 29 j) : decO (off 29 j) = (29, j) := by
  have h2 : j < 12 := h
  exact (decO_s (c := 3) h2 (by omega)).trans rfl
theorem dec_30 {j : Nat} (h : vc 30 j) : decO (off 30 j) = (30, j) := by
  have h2 : j < 12 := h
  exact (decO_s (c := 4) h2 (by omega)).trans rfl
theorem dec_31 {j : Nat} (h : vc 31 j) : decO (off 31 j) = (31, j) := by
  have h2 : j < 12 := h
  exact (decO_s (c := 5) h2 (by omega)).trans rfl
theorem dec_32 {j : Nat} (h : vc 32 j) : decO (off 32 j) = (32, j) := by
  have h2 : j < 12 := h
  exact (decO_s (c := 6) h2 (by omega)).trans rfl
theorem dec_33 {j : Nat} (h : vc 33 j) : decO (off 33 j) = (33, j) := by
  have h2 : j < 12 := h
  exact (decO_s (c := 7) h2 (by omega)).trans rfl
theorem dec_34 {j : Nat} (h : vc 34 j) : decO (off 34 j) = (34, j) := by
  have h2 : j = 0 := h
  subst h2
  rfl
theorem dec_35 {j : Nat} (h : vc 35 j) : decO (off 35 j) = (35, j) := by
  have h2 : j = 0 := h
  subst h2
  rfl
theorem dec_36 {j : Nat} (h : vc 36 j) : decO (off 36 j) = (36, j) := by
  have h2 : j = 0 := h
  subst h2
  rfl
theorem vc_dec : ∀ {K j : Nat}, vc K j → decO (off K j) = (K, j) := by
  intro K j h
  unfold vc at h
  split at h
  · exact dec_2 h
  · exact dec_3 h
  · exact dec_4 h
  · exact dec_5 h
  · exact dec_6 h
  · exact dec_7 h
  · exact dec_8 h
  · exact dec_9 h
  · exact dec_10 h
  · exact dec_11 h
  · exact dec_12 h
  · exact dec_20 h
  · exact dec_21 h
  · exact dec_22 h
  · exact dec_23 h
  · exact dec_24 h
  · exact dec_25 h
  · exact dec_26 h
  · exact dec_27 h
  · exact dec_28 h
  · exact dec_29 h
  · exact dec_30 h
  · exact dec_31 h
  · exact dec_32 h
  · exact dec_33 h
  · exact dec_34 h
  · exact dec_35 h
  · exact dec_36 h
  · exact h.elim
theorem vc_lt : ∀ {K j : Nat}, vc K j → 0 ≤ off K j ∧ off K j < 535 := by
  intro K j h
  unfold vc at h
  split at h
  · exact ⟨Nat.zero_le _, by show 161 < 535; omega⟩
  · exact ⟨Nat.zero_le _, by show 68 + 10 * (j / 3) + 2 * (j % 3) < 535; omega⟩
  · exact ⟨Nat.zero_le _, by show sOff (j / 5) + 32 + j % 5 < 535; have := sOff_b ((j / 5)); omega⟩
  · exact ⟨Nat.zero_le _, by show sOff (j / 24) + 8 + j % 24 < 535; have := sOff_b ((j / 24)); omega⟩
  · exact ⟨Nat.zero_le _, by show 4 < 535; omega⟩
  · exact ⟨Nat.zero_le _, by show 67 + 10 * j < 535; omega⟩
  · exact ⟨Nat.zero_le _, by show 3 < 535; omega⟩
  · exact ⟨Nat.zero_le _, by show sOff j < 535; have := sOff_b (j); omega⟩
  · exact ⟨Nat.zero_le _, by show 7 + j < 535; omega⟩
  · exact ⟨Nat.zero_le _, by show 1 < 535; omega⟩
  · exact ⟨Nat.zero_le _, by show 0 < 535; omega⟩
  · exact ⟨Nat.zero_le _, by show 2 < 535; omega⟩
  · exact ⟨Nat.zero_le _, by show 5 < 535; omega⟩
  · exact ⟨Nat.zero_le _, by show 6 < 535; omega⟩
  · exact ⟨Nat.zero_le _, by show 69 + 10 * (j / 3) + 2 * (j % 3) < 535; omega⟩
  · exact ⟨Nat.zero_le _, by show 74 + 10 * j < 535; omega⟩
  · exact ⟨Nat.zero_le _, by show 75 + 10 * j < 535; omega⟩
  · exact ⟨Nat.zero_le _, by show 76 + 10 * j < 535; omega⟩
  · exact ⟨Nat.zero_le _, by show sOff j + 1 < 535; have := sOff_b (j); omega⟩
  · exact ⟨Nat.zero_le _, by show sOff j + 2 < 535; have := sOff_b (j); omega⟩
  · exact ⟨Nat.zero_le _, by show sOff j + 3 < 535; have := sOff_b (j); omega⟩
  · exact ⟨Nat.zero_le _, by show sOff j + 4 < 535; have := sOff_b (j); omega⟩
  · exact ⟨Nat.zero_le _, by show sOff j + 5 < 535; have := sOff_b (j); omega⟩
  · exact ⟨Nat.zero_le _, by show sOff j + 6 < 535; have := sOff_b (j); omega⟩
  · exact ⟨Nat.zero_le _, by show sOff j + 7 < 535; have := sOff_b (j); omega⟩
  · exact ⟨Nat.zero_le _, by show 162 < 535; omega⟩
  · exact ⟨Nat.zero_le _, by show 459 < 535; omega⟩
  · exact ⟨Nat.zero_le _, by show 460 < 535; omega⟩
  · exact h.elim
theorem okC : OKV vc 0 535 := ⟨fun K j K' j' h h' e => by have := (vc_dec h).symm.trans ((congrArg decO e).trans (vc_dec h')); exact ⟨congrArg Prod.fst this, congrArg Prod.snd this⟩, fun _ _ h => vc_lt h⟩
theorem off_o {K j : Nat} (h1 : 60 ≤ K) (h2 : K ≤ 80) : off K j = j + (K - 60) := by
  rcases (show K = 60 ∨ K = 61 ∨ K = 62 ∨ K = 63 ∨ K = 64 ∨ K = 65 ∨ K = 66 ∨ K = 67 ∨ K = 68 ∨ K = 69 ∨ K = 70 ∨ K = 71 ∨ K = 72 ∨ K = 73 ∨ K = 74 ∨ K = 75 ∨ K = 76 ∨ K = 77 ∨ K = 78 ∨ K = 79 ∨ K = 80 by omega) with rfl | rfl | rfl | rfl | rfl | rfl | rfl | rfl | rfl | rfl | rfl | rfl | rfl | rfl | rfl | rfl | rfl | rfl | rfl | rfl | rfl <;> rfl
theorem okO {b : Nat} : OKV (vo b) b (b + 21) := ⟨fun K j K' j' h h' e => by
    obtain ⟨h1, h2, rfl⟩ := h
    obtain ⟨h3, h4, rfl⟩ := h'
    rw [off_o h1 h2, off_o h3 h4] at e
    exact ⟨by omega, rfl⟩, fun K j h => by
    obtain ⟨h1, h2, rfl⟩ := h
    rw [off_o h1 h2]
    omega⟩
theorem vo_0 {b : Nat} : vo b 60 b := ⟨by decide, by decide, rfl⟩
end
section

def inb (i : Int32) (n : Nat) : Bool := decide (¬ (i < 0 ∨ n ≤ i.toNatClampNeg))
theorem inb_vp {i : Int32} {n : Nat} (h : inb i n = true) : vp_in i n := by
  have h1 : ¬ (i < 0 ∨ n ≤ i.toNatClampNeg) := of_decide_eq_true h
  exact h1
theorem inb_lt {i : Int32} {n : Nat} (h : inb i n = true) : i.toNatClampNeg < n := Nat.not_le.mp fun q => inb_vp h (Or.inr q)
/-- a number that is one of a narrow type -/
def nb (ty : FieldType) (x : Int32) : Bool := decide (narrow ty (.int x) = .int x)
theorem nb_eq {ty : FieldType} {x : Int32} (h : nb ty x = true) : narrow ty (.int x) = .int x := of_decide_eq_true h
def chk {α : Type} (b : Bool) (e : Option α) : Option α := if b = true then e else none
theorem chk_some {α : Type} {b : Bool} {e : Option α} {o : α} (h : chk b e = some o) : b = true ∧ e = some o := by
  unfold chk at h
  split at h
  · exact ⟨by assumption, h⟩
  · cases h
theorem bind_some9 {α β : Type} {a : Option α} {f : α → Option β} {o : β} (h : a.bind f = some o) : ∃ r, a = some r ∧ f r = some o := by
  cases a with
  | none => cases h
  | some r => exact ⟨r, rfl, h⟩
/-- a loop, at most n times round -/
def it {S R : Type} (f : S → Option (S ⊕ R)) : Nat → S → Option R
  | 0, _ => none
  | n + 1, s => match f s with
    | none => none
    | some (.inl s') => it f n s'
    | some (.inr r) => some r
def LIM : Nat := 3000000
theorem it_ev {S R : Type} {f : S → Option (S ⊕ R)} {W : S → Prop} {X : R → Prop} {r0 : R} (hX : X r0)
    (hstep : ∀ s o, f s = some o → (∀ s', o = .inl s' → W s') → (∀ r, o = .inr r → X r) → W s) : ∀ n s, it f n s = some r0 → W s := by
  intro n
  induction n with
  | zero => intro s h; cases h
  | succ n ih =>
    intro s h
    unfold it at h
    cases hf : f s with
    | none => rw [hf] at h; cases h
    | some o =>
      rw [hf] at h
      refine hstep s o hf (fun s' e => ?_) (fun r e => ?_)
      · subst e; exact ih s' h
      · subst e; cases h; exact hX
theorem Ev.cong {g : GL} {d : Nat} {mi : MI} {pc : Nat} {ls ls' : List (Option RV)} {st st' : List RV} {M : RM} {mc ms : Nat} {Post : RO → RM → Prop} (h : Ev g d mi pc ls' st' M mc ms Post) (e1 : ls = ls') (e2 : st = st') : Ev g d mi pc ls st M mc ms Post := by subst e1; subst e2; exact h
-- constants and locals, the new state written out
theorem cv_iconst {g : GL} {d : Nat} {mi : MI} {pc : Nat} {ls : List (Option RV)} {st : List RV} {mc ms : Nat} {Post : RO → RM → Prop} {V : Nat → Nat → Prop} {lo hi nx : Nat} {μ : Mem} {F G : RG} {n : Int} (v : Int32) (hd : decode mi.2.1 pc = .ok (.iconst n, 1)) (hv : Int32.ofInt n = v) (k : Ev g d mi (pc + 1) ls (.inl (.int v) :: st) (G, nx) mc ms Post) : Ev g d mi pc ls st (G, nx) mc ms Post := by subst hv; exact ev_iconst hd k
theorem cv_bipush {g : GL} {d : Nat} {mi : MI} {pc : Nat} {ls : List (Option RV)} {st : List RV} {mc ms : Nat} {Post : RO → RM → Prop} {V : Nat → Nat → Prop} {lo hi nx : Nat} {μ : Mem} {F G : RG} {n : Int} (v : Int32) (hd : decode mi.2.1 pc = .ok (.bipush n, 2)) (hv : (Int8.ofInt n).toInt32 = v) (k : Ev g d mi (pc + 2) ls (.inl (.int v) :: st) (G, nx) mc ms Post) : Ev g d mi pc ls st (G, nx) mc ms Post := by subst hv; exact ev_bipush hd k
theorem cv_sipush {g : GL} {d : Nat} {mi : MI} {pc : Nat} {ls : List (Option RV)} {st : List RV} {mc ms : Nat} {Post : RO → RM → Prop} {V : Nat → Nat → Prop} {lo hi nx : Nat} {μ : Mem} {F G : RG} {n : Int} (v : Int32) (hd : decode mi.2.1 pc = .ok (.sipush n, 3)) (hv : (Int16.ofInt n).toInt32 = v) (k : Ev g d mi (pc + 3) ls (.inl (.int v) :: st) (G, nx) mc ms Post) : Ev g d mi pc ls st (G, nx) mc ms Post := by subst hv; exact ev_sipush hd k
theorem cv_istore_n {g : GL} {d : Nat} {mi : MI} {pc : Nat} {ls : List (Option RV)} {st : List RV} {mc ms : Nat} {Post : RO → RM → Prop} {V : Nat → Nat → Prop} {lo hi nx : Nat} {μ : Mem} {F G : RG} {k0 : Fin 4} {x : Int32} (ls' : List (Option RV)) (hd : decode mi.2.1 pc = .ok (.istore_n k0, 1)) (ok : okst ls (k0 : Nat) = true) (hn : (k0 : Nat) < mi.2.2.1) (hs : ls.set (k0 : Nat) (some (.inl (.int x))) = ls') (k : Ev g d mi (pc + 1) ls' st (G, nx) mc ms Post) : Ev g d mi pc ls (.inl (.int x) :: st) (G, nx) mc ms Post := by subst hs; exact ev_istore_n ok hn hd k
theorem cv_istore {g : GL} {d : Nat} {mi : MI} {pc : Nat} {ls : List (Option RV)} {st : List RV} {mc ms : Nat} {Post : RO → RM → Prop} {V : Nat → Nat → Prop} {lo hi nx : Nat} {μ : Mem} {F G : RG} {i : Nat} {x : Int32} (ls' : List (Option RV)) (hd : decode mi.2.1 pc = .ok (.istore i, 2)) (ok : okst ls i = true) (hn : i < mi.2.2.1) (hs : ls.set i (some (.inl (.int x))) = ls') (k : Ev g d mi (pc + 2) ls' st (G, nx) mc ms Post) : Ev g d mi pc ls (.inl (.int x) :: st) (G, nx) mc ms Post := by subst hs; exact ev_istore ok hn hd k
theorem cv_astore_n {g : GL} {d : Nat} {mi : MI} {pc : Nat} {ls : List (Option RV)} {st : List RV} {mc ms : Nat} {Post : RO → RM → Prop} {V : Nat → Nat → Prop} {lo hi nx : Nat} {μ : Mem} {F G : RG} {k0 : Fin 4} {r : Nat × Nat} (ls' : List (Option RV)) (hd : decode mi.2.1 pc = .ok (.astore_n k0, 1)) (ok : okst ls (k0 : Nat) = true) (hn : (k0 : Nat) < mi.2.2.1) (hs : ls.set (k0 : Nat) (some (.inr r)) = ls') (k : Ev g d mi (pc + 1) ls' st (G, nx) mc ms Post) : Ev g d mi pc ls (.inr r :: st) (G, nx) mc ms Post := by subst hs; exact ev_astore_n ok hn hd k
theorem cv_astore {g : GL} {d : Nat} {mi : MI} {pc : Nat} {ls : List (Option RV)} {st : List RV} {mc ms : Nat} {Post : RO → RM → Prop} {V : Nat → Nat → Prop} {lo hi nx : Nat} {μ : Mem} {F G : RG} {i : Nat} {r : Nat × Nat} (ls' : List (Option RV)) (hd : decode mi.2.1 pc = .ok (.astore i, 2)) (ok : okst ls i = true) (hn : i < mi.2.2.1) (hs : ls.set i (some (.inr r)) = ls') (k : Ev g d mi (pc + 2) ls' st (G, nx) mc ms Post) : Ev g d mi pc ls (.inr r :: st) (G, nx) mc ms Post := by subst hs; exact ev_astore ok hn hd k
theorem cv_iinc {g : GL} {d : Nat} {mi : MI} {pc : Nat} {ls : List (Option RV)} {st : List RV} {mc ms : Nat} {Post : RO → RM → Prop} {V : Nat → Nat → Prop} {lo hi nx : Nat} {μ : Mem} {F G : RG} {i : Nat} {n : Int} {x : Int32} (y : Int32) (ls' : List (Option RV)) (hd : decode mi.2.1 pc = .ok (.iinc i n, 3)) (hl0 : ls[i]? = some (some (.inl (.int x)))) (ok : okst ls i = true) (hn : i < mi.2.2.1) (hv : Int32.ofInt n = y) (hs : ls.set i (some (.inl (.int (x + y)))) = ls') (k : Ev g d mi (pc + 3) ls' st (G, nx) mc ms Post) : Ev g d mi pc ls st (G, nx) mc ms Post := by subst hv; subst hs; exact ev_iinc hl0 ok hn hd k
-- fields
theorem cv_get {g : GL} {d : Nat} {mi : MI} {pc : Nat} {ls : List (Option RV)} {st : List RV} {mc ms : Nat} {Post : RO → RM → Prop} {V : Nat → Nat → Prop} {lo hi nx : Nat} {μ : Mem} {F G : RG} {K j kf idx : Nat} {fin : Bool} {fty : FieldType} (v : RV) (hG : LM V lo hi μ F G) (hv : V K j) (fl : FL mi.1.cls idx (ixK K) kf fin fty) (hA : isA K = false) (hf : fld K j kf (μ K j kf) = v) (hd : decode mi.2.1 pc = .ok (.getfield idx, 3)) (k : Ev g d mi (pc + 3) ls (v :: st) (G, nx) mc ms Post) : Ev g d mi pc ls (.inr (0, off K j) :: st) (G, nx) mc ms Post := by
  have h1 := hG.1 K j hv
  unfold cel at h1
  rw [hA] at h1
  subst hf
  exact ev_getf (M := (G, nx)) fl h1 hd k
theorem cv_put {g : GL} {d : Nat} {mi : MI} {pc : Nat} {ls : List (Option RV)} {st : List RV} {mc ms : Nat} {Post : RO → RM → Prop} {V : Nat → Nat → Prop} {lo hi nx : Nat} {μ : Mem} {F G : RG} {K j kf idx : Nat} {fty : FieldType} (w : RV) (x : Int32) (hG : LM V lo hi μ F G) (hO : OKV V lo hi) (hv : V K j) (fl : FL mi.1.cls idx (ixK K) kf false fty) (hA : isA K = false) (hw : fld K j kf x = w) (ho : okv g fty w) (hd : decode mi.2.1 pc = .ok (.putfield idx, 3)) (k : ∀ G', LM V lo hi (st3 μ K j kf x) F G' → Ev g d mi (pc + 3) ls st (G', nx) mc ms Post) : Ev g d mi pc ls (w :: .inr (0, off K j) :: st) (G, nx) mc ms Post := by
  have h1 := hG.1 K j hv
  have h2 := hG.put (f := kf) (x := x) hO hv
  unfold cel at h1
  rw [hA] at h1 h2
  subst hw
  exact ev_putf (M := (G, nx)) fl h1 ho hd (k _ h2)
theorem cv_iald {g : GL} {d : Nat} {mi : MI} {pc : Nat} {ls : List (Option RV)} {st : List RV} {mc ms : Nat} {Post : RO → RM → Prop} {V : Nat → Nat → Prop} {lo hi nx : Nat} {μ : Mem} {F G : RG} {K j : Nat} {i : Int32} (hG : LM V lo hi μ F G) (hv : V K j) (hA : isA K = true) (hE : ixK K = 0) (hi0 : inb i (lenK K) = true) (hf : fld K j i.toNatClampNeg (μ K j i.toNatClampNeg) = .inl (.int (μ K j i.toNatClampNeg))) (hd : decode mi.2.1 pc = .ok (.iaload, 1)) (k : Ev g d mi (pc + 1) ls (.inl (.int (μ K j i.toNatClampNeg)) :: st) (G, nx) mc ms Post) : Ev g d mi pc ls (.inl (.int i) :: .inr (0, off K j) :: st) (G, nx) mc ms Post := by
  have h1 := hG.1 K j hv
  unfold cel at h1
  rw [hA, hE] at h1
  refine ev_iald (M := (G, nx)) h1 (inb_vp hi0) hd ?_
  show Ev g d mi (pc + 1) ls (fld K j i.toNatClampNeg (μ K j i.toNatClampNeg) :: st) (G, nx) mc ms Post
  rw [hf]; exact k
theorem cv_zald {g : GL} {d : Nat} {mi : MI} {pc : Nat} {ls : List (Option RV)} {st : List RV} {mc ms : Nat} {Post : RO → RM → Prop} {V : Nat → Nat → Prop} {lo hi nx : Nat} {μ : Mem} {F G : RG} {K j : Nat} {i : Int32} (hG : LM V lo hi μ F G) (hv : V K j) (hA : isA K = true) (hE : ixK K = 1) (hi0 : inb i (lenK K) = true) (hf : fld K j i.toNatClampNeg (μ K j i.toNatClampNeg) = .inl (.int (μ K j i.toNatClampNeg))) (hd : decode mi.2.1 pc = .ok (.baload, 1)) (k : Ev g d mi (pc + 1) ls (.inl (.int (μ K j i.toNatClampNeg)) :: st) (G, nx) mc ms Post) : Ev g d mi pc ls (.inl (.int i) :: .inr (0, off K j) :: st) (G, nx) mc ms Post := by
  have h1 := hG.1 K j hv
  unfold cel at h1
  rw [hA, hE] at h1
  refine ev_zald (M := (G, nx)) h1 (inb_vp hi0) hd ?_
  show Ev g d mi (pc + 1) ls (fld K j i.toNatClampNeg (μ K j i.toNatClampNeg) :: st) (G, nx) mc ms Post
  rw [hf]; exact k
theorem cv_aald {g : GL} {d : Nat} {mi : MI} {pc : Nat} {ls : List (Option RV)} {st : List RV} {mc ms : Nat} {Post : RO → RM → Prop} {V : Nat → Nat → Prop} {lo hi nx : Nat} {μ : Mem} {F G : RG} {K j ei : Nat} {C : String} {i : Int32} (v : RV) (hG : LM V lo hi μ F G) (hv : V K j) (hA : isA K = true) (hE : ixK K = ei) (he : rTy[ei]? = some (.object C)) (hi0 : inb i (lenK K) = true) (hf : fld K j i.toNatClampNeg (μ K j i.toNatClampNeg) = v) (hd : decode mi.2.1 pc = .ok (.aaload, 1)) (k : Ev g d mi (pc + 1) ls (v :: st) (G, nx) mc ms Post) : Ev g d mi pc ls (.inl (.int i) :: .inr (0, off K j) :: st) (G, nx) mc ms Post := by
  have h1 := hG.1 K j hv
  unfold cel at h1
  rw [hA, hE] at h1
  refine ev_aald (M := (G, nx)) he h1 (inb_vp hi0) hd ?_
  show Ev g d mi (pc + 1) ls (fld K j i.toNatClampNeg (μ K j i.toNatClampNeg) :: st) (G, nx) mc ms Post
  rw [hf]; exact k
theorem cv_iast {g : GL} {d : Nat} {mi : MI} {pc : Nat} {ls : List (Option RV)} {st : List RV} {mc ms : Nat} {Post : RO → RM → Prop} {V : Nat → Nat → Prop} {lo hi nx : Nat} {μ : Mem} {F G : RG} {K j : Nat} {i x : Int32} (hG : LM V lo hi μ F G) (hO : OKV V lo hi) (hv : V K j) (hA : isA K = true) (hE : ixK K = 0) (hi0 : inb i (lenK K) = true) (hf : fld K j i.toNatClampNeg x = .inl (.int x)) (hd : decode mi.2.1 pc = .ok (.iastore, 1)) (k : ∀ G', LM V lo hi (st3 μ K j i.toNatClampNeg x) F G' → Ev g d mi (pc + 1) ls st (G', nx) mc ms Post) : Ev g d mi pc ls (.inl (.int x) :: .inl (.int i) :: .inr (0, off K j) :: st) (G, nx) mc ms Post := by
  have h1 := hG.1 K j hv
  have h2 := hG.put (f := i.toNatClampNeg) (x := x) hO hv
  unfold cel at h1
  rw [hA, hE] at h1 h2
  rw [hf] at h2
  exact ev_iast (M := (G, nx)) h1 (inb_vp hi0) hd (k _ h2)
theorem cv_zast {g : GL} {d : Nat} {mi : MI} {pc : Nat} {ls : List (Option RV)} {st : List RV} {mc ms : Nat} {Post : RO → RM → Prop} {V : Nat → Nat → Prop} {lo hi nx : Nat} {μ : Mem} {F G : RG} {K j : Nat} {i x : Int32} (hG : LM V lo hi μ F G) (hO : OKV V lo hi) (hv : V K j) (hA : isA K = true) (hE : ixK K = 1) (hi0 : inb i (lenK K) = true) (hz : narrow .boolean (.int x) = .int x) (hf : fld K j i.toNatClampNeg x = .inl (.int x)) (hd : decode mi.2.1 pc = .ok (.bastore, 1)) (k : ∀ G', LM V lo hi (st3 μ K j i.toNatClampNeg x) F G' → Ev g d mi (pc + 1) ls st (G', nx) mc ms Post) : Ev g d mi pc ls (.inl (.int x) :: .inl (.int i) :: .inr (0, off K j) :: st) (G, nx) mc ms Post := by
  have h1 := hG.1 K j hv
  have h2 := hG.put (f := i.toNatClampNeg) (x := x) hO hv
  unfold cel at h1
  rw [hA, hE] at h1 h2
  rw [hf] at h2
  refine ev_zast (M := (G, nx)) h1 (inb_vp hi0) hd ?_
  rw [hz]
  exact k _ h2
theorem cv_aast {g : GL} {d : Nat} {mi : MI} {pc : Nat} {ls : List (Option RV)} {st : List RV} {mc ms : Nat} {Post : RO → RM → Prop} {V : Nat → Nat → Prop} {lo hi nx : Nat} {μ : Mem} {F G : RG} {K j ei K2 j2 : Nat} {C : String} {i : Int32} {r9 : vw_C} (x : Int32) (hG : LM V lo hi μ F G) (hO : OKV V lo hi) (hv : V K j) (hA : isA K = true) (hE : ixK K = ei) (h4 : 4 ≤ ei) (hv2 : V K2 j2) (hA2 : isA K2 = false) (hc : vwCl[ixK K2]? = some r9) (he : rTy[ei]? = some (.object r9.1)) (hi0 : inb i (lenK K) = true) (hf : fld K j i.toNatClampNeg x = .inr (0, off K2 j2)) (hd : decode mi.2.1 pc = .ok (.aastore, 1)) (k : ∀ G', LM V lo hi (st3 μ K j i.toNatClampNeg x) F G' → Ev g d mi (pc + 1) ls st (G', nx) mc ms Post) : Ev g d mi pc ls (.inr (0, off K2 j2) :: .inl (.int i) :: .inr (0, off K j) :: st) (G, nx) mc ms Post := by
  have h1 := hG.1 K j hv
  have h3 := hG.1 K2 j2 hv2
  have h2 := hG.put (f := i.toNatClampNeg) (x := x) hO hv
  unfold cel at h1 h3
  rw [hA, hE] at h1 h2
  rw [hA2] at h3
  rw [hf] at h2
  exact ev_aast (M := (G, nx)) (rv := (0, off K2 j2)) hc he h4 h1 h3 (inb_vp hi0) hd (k _ h2)
def cpb (sp dp n : Int32) (n0 n1 : Nat) : Bool := decide (¬ sp < 0 ∧ ¬ dp < 0 ∧ ¬ n < 0 ∧ sp.toNatClampNeg + n.toNatClampNeg ≤ n0 ∧ dp.toNatClampNeg + n.toNatClampNeg ≤ n1)
theorem cv_copy {g : GL} {d : Nat} {mi : MI} {pc : Nat} {ls : List (Option RV)} {st : List RV} {mc ms : Nat} {Post : RO → RM → Prop} {V : Nat → Nat → Prop} {lo hi nx : Nat} {μ : Mem} {F G : RG} {idx K1 j1 K2 j2 : Nat} {sp dp n : Int32} (hst : st.length ≤ 4) (hw : Cond.methodLink mi.1.cls idx arraycopyName ∈ lw_good ∧ Cond.native arraycopyName ∈ lw_good ∧ Cond.static arraycopyName ∈ lw_good ∧ Cond.initialized "java/lang/System" ∈ lw_good) (hG : LM V lo hi μ F G) (hO : OKV V lo hi) (hv1 : V K1 j1) (hv2 : V K2 j2) (hA1 : isA K1 = true) (hE1 : ixK K1 = 0) (hA2 : isA K2 = true) (hE2 : ixK K2 = 0) (hb0 : cpb sp dp n (lenK K1) (lenK K2) = true) (h1 : ∀ f x, fld K1 j1 f x = .inl (.int x)) (h2 : ∀ f x, fld K2 j2 f x = .inl (.int x)) (hd : decode mi.2.1 pc = .ok (.invokestatic idx, 3))
    (k : ∀ G', LM V lo hi (cp3 μ K1 j1 K2 j2 sp.toNatClampNeg dp.toNatClampNeg n.toNatClampNeg) F G' → Ev g d mi (pc + 3) ls st (G', nx) mc ms Post) : Ev g d mi pc ls (.inl (.int n) :: .inl (.int dp) :: .inr (0, off K2 j2) :: .inl (.int sp) :: .inr (0, off K1 j1) :: st) (G, nx) mc ms Post := by
  have e1 := hG.1 K1 j1 hv1
  have e2 := hG.1 K2 j2 hv2
  have e3 := hG.copy (sp := sp.toNatClampNeg) (dp := dp.toNatClampNeg) (n := n.toNatClampNeg) hO hv2 h1 h2
  unfold cel at e1 e2
  rw [hA1, hE1] at e1
  rw [hA2, hE2] at e2 e3
  obtain ⟨g1, g2, g3, g4, g5⟩ := of_decide_eq_true hb0
  exact ev_copy hst (ei := 0) rfl rfl hw e1 e2 g1 g2 g3 g4 g5 (fun i _ => ⟨_, h1 _ _, rfl⟩) hd (k _ e3)
theorem okv_int {g : GL} {x : Int32} : okv g .int (.inl (.int x)) := ⟨rfl, rfl⟩
theorem okv_bool {g : GL} {x : Int32} (h : nb .boolean x = true) : okv g .boolean (.inl (.int x)) := by
  have h1 := nb_eq h
  refine ⟨h1, ?_⟩
  have h2 : x = 0 ∨ x = 1 := by
    have h3 : Value.int (x &&& 1) = .int x := h1
    have h4 : x &&& 1 = x := by injection h3
    rw [← h4]
    have : ∀ b : BitVec 32, b &&& 1#32 = 0#32 ∨ b &&& 1#32 = 1#32 := by
      intro b
      rcases Nat.mod_two_eq_zero_or_one b.toNat with h | h
      · left; apply BitVec.eq_of_toNat_eq; simp [BitVec.toNat_and, Nat.and_one_is_mod, h]
      · right; apply BitVec.eq_of_toNat_eq; simp [BitVec.toNat_and, Nat.and_one_is_mod, h]
    rcases this x.toBitVec with h | h
    · left; exact Int32.toBitVec_inj.mp (by simpa using h)
    · right; exact Int32.toBitVec_inj.mp (by simpa using h)
  rcases h2 with rfl | rfl <;> rfl
theorem okv_obj {g : GL} {C : String} {r : Nat × Nat} : okv g (.object C) (.inr r) := by
  unfold okv
  rw [conc_ref]
  exact ⟨rfl, rfl⟩
-- what a call ends with
def pRO (v : RO) (M : RM) : RO → RM → Prop := fun o M' => o = v ∧ M' = M
def pRW (V : Nat → Nat → Prop) (lo hi : Nat) (v : RO) (μ : Mem) (F : RG) (nx : Nat) : RO → RM → Prop := fun o M' => o = v ∧ LM V lo hi μ F M'.1 ∧ M'.2 = nx
def rI (x : Int32) : RO := .inr (some (.inl (.int x)))
def rF (x : UInt32) : RO := .inr (some (.inl (.float x)))
def rD (x : UInt64) : RO := .inr (some (.inl (.double x)))
def rR (K j : Nat) : RO := .inr (some (.inr (0, off K j)))
def rV : RO := .inr none
theorem aft_ro {g : GL} {d : Nat} {mi : MI} {pc : Nat} {ls : List (Option RV)} {st : List RV} {mc ms : Nat} {Post : RO → RM → Prop} {w : Option RV} {M : RM} (k : Ev g d mi pc ls (w.toList ++ st) M mc ms Post) : Aft g d mi pc ls st mc ms (pRO (.inr w) M) Post :=
  ⟨fun v M1 h => by obtain ⟨h1, rfl⟩ := h; cases h1; exact k, fun E M1 h => by obtain ⟨h1, -⟩ := h; cases h1⟩
theorem aft_rw {g : GL} {d : Nat} {mi : MI} {pc : Nat} {ls : List (Option RV)} {st : List RV} {mc ms : Nat} {Post : RO → RM → Prop} {w : Option RV} {V : Nat → Nat → Prop} {lo hi nx : Nat} {μ : Mem} {F : RG} (k : ∀ G', LM V lo hi μ F G' → Ev g d mi pc ls (w.toList ++ st) (G', nx) mc ms Post) : Aft g d mi pc ls st mc ms (pRW V lo hi (.inr w) μ F nx) Post :=
  ⟨fun v M1 h => by obtain ⟨h1, h2, h3⟩ := h; cases h1; obtain ⟨G', n'⟩ := M1; cases h3; exact k G' h2, fun E M1 h => by obtain ⟨h1, -⟩ := h; cases h1⟩
theorem aft_th {g : GL} {d : Nat} {mi : MI} {pc : Nat} {ls : List (Option RV)} {st : List RV} {mc ms : Nat} {Post : RO → RM → Prop} {E : String} {M : RM} (hh : mi.2.2.2.2 = []) (k : Post (.inl E) M) : Aft g d mi pc ls st mc ms (pRO (.inl E) M) Post :=
  ⟨fun v M1 h => (by obtain ⟨h1, -⟩ := h; cases h1), fun E M1 h => by obtain ⟨h1, rfl⟩ := h; cases h1; exact ⟨hh, k⟩⟩
theorem pRW_of {V : Nat → Nat → Prop} {lo hi : Nat} {v : RO} {μ : Mem} {F G : RG} {nx : Nat} (h : LM V lo hi μ F G) : pRW V lo hi v μ F nx v (G, nx) := ⟨rfl, h, rfl⟩
def xISE : String := "java/lang/IllegalStateException"
def xIAE : String := "java/lang/IllegalArgumentException"
def xIOB : String := "java/lang/IndexOutOfBoundsException"
def xNSE : String := "java/util/NoSuchElementException"
end
section

/-- a value gets a name -/
def nm {α β : Type} (x : α) (f : α → β) : β := f x
theorem nm_some {α β : Type} {x : α} {f : α → Option β} {o : β} (h : nm x f = some o) : ∃ y, y = x ∧ f y = some o := ⟨x, rfl, h⟩
def els {A B R : Type} (r : A ⊕ B) (f : A → R) (k : B → R) : R := match r with
  | .inl a => f a
  | .inr b => k b
theorem els_l {A B R : Type} {a : A} {f : A → R} {k : B → R} : els (.inl a) f k = f a := rfl
theorem els_r {A B R : Type} {b : B} {f : A → R} {k : B → R} : els (.inr b) f k = k b := rfl
/-- fewer locals are known -/
def LSb : List (Option RV) → List (Option RV) → Prop
  | [], _ => True
  | none :: t, _ :: t' => LSb t t'
  | none :: _, [] => False
  | some v :: t, w :: t' => w = some v ∧ LSb t t'
  | some _ :: _, [] => False
theorem LSb.z {l : List (Option RV)} : LSb [] l := by cases l <;> trivial
theorem LSb.n {t t' : List (Option RV)} {w : Option RV} (h : LSb t t') : LSb (none :: t) (w :: t') := h
theorem LSb.s {t t' : List (Option RV)} {v : RV} (h : LSb t t') : LSb (some v :: t) (some v :: t') := ⟨rfl, h⟩
theorem LSb.at : ∀ {l l' : List (Option RV)}, LSb l l' → ∀ {i : Nat} {v : RV}, l[i]? = some (some v) → l'[i]? = some (some v)
  | [], _, _, _, _, h => by simp at h
  | none :: t, [], hs, _, _, _ => hs.elim
  | some _ :: t, [], hs, _, _, _ => hs.elim
  | none :: t, w :: t', hs, 0, v, h => by simp at h
  | none :: t, w :: t', hs, i + 1, v, h => LSb.at (l := t) (l' := t') hs (i := i) h
  | some u :: t, w :: t', hs, 0, v, h => by
    obtain ⟨rfl, -⟩ := hs
    exact h
  | some u :: t, w :: t', hs, i + 1, v, h => LSb.at (l := t) (l' := t') hs.2 (i := i) h
theorem Ev.sub {g : GL} {d : Nat} {mi : MI} {pc : Nat} {ls ls' : List (Option RV)} {st : List RV} {M : RM} {mc ms : Nat} {Post : RO → RM → Prop} (hs : LSb ls' ls) (h : Ev g d mi pc ls' st M mc ms Post) : Ev g d mi pc ls st M mc ms Post := by
  intro p e R s m args below meth c H locs cells slots lsA TC TS hC hM hS hl h1 h2 h3 h4
  refine h p e R s m args below meth c H locs cells slots lsA TC TS hC hM hS (lvh_mono hl (fun q hq => ?_)) h1 h2 h3 h4
  obtain ⟨i, v, e1, rfl⟩ := lvl_of hq
  exact lvl_at (g := g) (k := 0) (hs.at e1)
theorem Ev.at {g : GL} {d : Nat} {mi : MI} {pc pc' : Nat} {ls : List (Option RV)} {st : List RV} {M : RM} {mc ms : Nat} {Post : RO → RM → Prop} (e : pc = pc') (h : Ev g d mi pc' ls st M mc ms Post) : Ev g d mi pc ls st M mc ms Post := by subst e; exact h
theorem Mt.of9 {g : GL} {d : Nat} {mi : MI} {vs : List RV} {M : RM} {mc ms : Nat} {Post : RO → RM → Prop} (ls : List (Option RV)) (hy : plainName mi.1.cls = true) (hh : mi.2.2.2.2 = []) (ha : vs.all one1 = true) (hn : Nat.ble vs.length mi.2.2.1 = true) (hl : fill mi.2.2.1 vs = ls) (k : Ev g d mi 0 ls [] M mc ms Post) : Mt g d mi vs M mc ms Post := by
  subst hl
  exact Mt.of hy hh (fun v hv => List.all_eq_true.mp ha v hv) (Nat.le_of_ble_eq_true hn) k
theorem Mt.of9H {g : GL} {d : Nat} {mi : MI} {vs : List RV} {M : RM} {mc ms : Nat} {Post : RO → RM → Prop} (ls : List (Option RV)) (hy : plainName mi.1.cls = true) (hh : ¬ mi.2.2.2.2 = []) (ha : vs.all one1 = true) (hn : Nat.ble vs.length mi.2.2.1 = true) (hl : fill mi.2.2.1 vs = ls) (k : Ev g d mi 0 ls [] M mc ms Post) : Mt g d mi vs M mc ms Post := by
  subst hl
  exact Mt.ofH hy hh (fun v hv => List.all_eq_true.mp ha v hv) (Nat.le_of_ble_eq_true hn) k
-- stores that give a name
theorem cv_istoreN_n {g : GL} {d : Nat} {mi : MI} {pc : Nat} {ls : List (Option RV)} {st : List RV} {mc ms : Nat} {Post : RO → RM → Prop} {V : Nat → Nat → Prop} {lo hi nx : Nat} {μ : Mem} {F G : RG} (k0 : Fin 4) {x : Int32} (y : Int32) (e : y = x) (ls' : List (Option RV)) (hd : decode mi.2.1 pc = .ok (.istore_n k0, 1)) (ok : okst ls (k0 : Nat) = true) (hn : Nat.ble ((k0 : Nat) + 1) mi.2.2.1 = true) (hs : ls.set (k0 : Nat) (some (.inl (.int y))) = ls') (k : Ev g d mi (pc + 1) ls' st (G, nx) mc ms Post) : Ev g d mi pc ls (.inl (.int x) :: st) (G, nx) mc ms Post := by subst e; subst hs; exact ev_istore_n ok (Nat.le_of_ble_eq_true hn) hd k
theorem cv_istoreN {g : GL} {d : Nat} {mi : MI} {pc : Nat} {ls : List (Option RV)} {st : List RV} {mc ms : Nat} {Post : RO → RM → Prop} {V : Nat → Nat → Prop} {lo hi nx : Nat} {μ : Mem} {F G : RG} (i : Nat) {x : Int32} (y : Int32) (e : y = x) (ls' : List (Option RV)) (hd : decode mi.2.1 pc = .ok (.istore i, 2)) (ok : okst ls i = true) (hn : Nat.ble (i + 1) mi.2.2.1 = true) (hs : ls.set i (some (.inl (.int y))) = ls') (k : Ev g d mi (pc + 2) ls' st (G, nx) mc ms Post) : Ev g d mi pc ls (.inl (.int x) :: st) (G, nx) mc ms Post := by subst e; subst hs; exact ev_istore ok (Nat.le_of_ble_eq_true hn) hd k
theorem cv_astoreN_n {g : GL} {d : Nat} {mi : MI} {pc : Nat} {ls : List (Option RV)} {st : List RV} {mc ms : Nat} {Post : RO → RM → Prop} {V : Nat → Nat → Prop} {lo hi nx : Nat} {μ : Mem} {F G : RG} (k0 : Fin 4) {r : Nat × Nat} (ls' : List (Option RV)) (hd : decode mi.2.1 pc = .ok (.astore_n k0, 1)) (ok : okst ls (k0 : Nat) = true) (hn : Nat.ble ((k0 : Nat) + 1) mi.2.2.1 = true) (hs : ls.set (k0 : Nat) (some (.inr r)) = ls') (k : Ev g d mi (pc + 1) ls' st (G, nx) mc ms Post) : Ev g d mi pc ls (.inr r :: st) (G, nx) mc ms Post := by subst hs; exact ev_astore_n ok (Nat.le_of_ble_eq_true hn) hd k
theorem cv_astoreN {g : GL} {d : Nat} {mi : MI} {pc : Nat} {ls : List (Option RV)} {st : List RV} {mc ms : Nat} {Post : RO → RM → Prop} {V : Nat → Nat → Prop} {lo hi nx : Nat} {μ : Mem} {F G : RG} (i : Nat) {r : Nat × Nat} (ls' : List (Option RV)) (hd : decode mi.2.1 pc = .ok (.astore i, 2)) (ok : okst ls i = true) (hn : Nat.ble (i + 1) mi.2.2.1 = true) (hs : ls.set i (some (.inr r)) = ls') (k : Ev g d mi (pc + 2) ls' st (G, nx) mc ms Post) : Ev g d mi pc ls (.inr r :: st) (G, nx) mc ms Post := by subst hs; exact ev_astore ok (Nat.le_of_ble_eq_true hn) hd k
theorem cv_iincN {g : GL} {d : Nat} {mi : MI} {pc : Nat} {ls : List (Option RV)} {st : List RV} {mc ms : Nat} {Post : RO → RM → Prop} {V : Nat → Nat → Prop} {lo hi nx : Nat} {μ : Mem} {F G : RG} (i : Nat) {n : Int} {x : Int32} (y : Int32) (ls' : List (Option RV)) (hd : decode mi.2.1 pc = .ok (.iinc i n, 3)) (hl0 : ls[i]? = some (some (.inl (.int x)))) (ok : okst ls i = true) (hn : Nat.ble (i + 1) mi.2.2.1 = true) (hv : Int32.ofInt n = y) (hs : ls.set i (some (.inl (.int (x + y)))) = ls') (k : Ev g d mi (pc + 3) ls' st (G, nx) mc ms Post) : Ev g d mi pc ls st (G, nx) mc ms Post := by subst hv; subst hs; exact ev_iinc hl0 ok (Nat.le_of_ble_eq_true hn) hd k
-- calls
theorem LM.obj {g : GL} {V : Nat → Nat → Prop} {lo hi nx : Nat} {μ : Mem} {F G : RG} (hG : LM V lo hi μ F G) {K j : Nat} (hv : V K j) (hA : isA K = false) : rdM g (G, nx) (0, off K j) = some (false, ixK K, lenK K, fun f => fld K j f (μ K j f)) := by
  have h1 := hG.1 K j hv
  unfold cel at h1
  rw [hA] at h1
  exact h1
theorem cv_V {g : GL} {d : Nat} {mi : MI} {pc : Nat} {ls : List (Option RV)} {st : List RV} {mc ms : Nat} {Post : RO → RM → Prop} {V : Nat → Nat → Prop} {lo hi nx : Nat} {μ : Mem} {F G : RG} {idx n mc1 ms1 : Nat} {mi2 : MI} (vs : List RV) {Post1 : RO → RM → Prop} {K j : Nat} (hG : LM V lo hi μ F G) (hv : V K j) (hA : isA K = false) (lk : LV mi.1.cls idx (ixK K) n mi2) (hM9 : Mt g d mi2 (.inr (0, off K j) :: vs) (G, nx) mc1 ms1 Post1) (hn : vs.length = n) (hst : Nat.ble st.length 4 = true) (hd : decode mi.2.1 pc = .ok (.invokevirtual idx, 3)) (hA : Aft g (d + 1) mi (pc + 3) ls st mc ms Post1 Post) : Ev g (d + 1) mi pc ls (vs.reverse ++ .inr (0, off K j) :: st) (G, nx) (mc1 + mc) (ms1 + ms) Post :=
  ev_invV (M := (G, nx)) (hG.obj hv ‹_›) lk hM9 hn (Nat.le_of_ble_eq_true hst) hd hA
theorem cv_U {g : GL} {d : Nat} {mi : MI} {pc : Nat} {ls : List (Option RV)} {st : List RV} {mc ms : Nat} {Post : RO → RM → Prop} {V : Nat → Nat → Prop} {lo hi nx : Nat} {μ : Mem} {F G : RG} {idx n mc1 ms1 : Nat} {mi2 : MI} (vs : List RV) {Post1 : RO → RM → Prop} {K j : Nat} (hG : LM V lo hi μ F G) (hv : V K j) (hA : isA K = false) (lk : LU mi.1.cls idx (ixK K) n mi2) (hM9 : Mt g d mi2 (.inr (0, off K j) :: vs) (G, nx) mc1 ms1 Post1) (hn : vs.length = n) (hst : Nat.ble st.length 4 = true) (hd : decode mi.2.1 pc = .ok (.invokevirtual idx, 3)) (hA : Aft g (d + 1) mi (pc + 3) ls st mc ms Post1 Post) : Ev g (d + 1) mi pc ls (vs.reverse ++ .inr (0, off K j) :: st) (G, nx) (mc1 + mc) (ms1 + ms) Post :=
  ev_invU (M := (G, nx)) (hG.obj hv ‹_›) lk hM9 hn (Nat.le_of_ble_eq_true hst) hd hA
theorem cv_S {g : GL} {d : Nat} {mi : MI} {pc : Nat} {ls : List (Option RV)} {st : List RV} {mc ms : Nat} {Post : RO → RM → Prop} {V : Nat → Nat → Prop} {lo hi nx : Nat} {μ : Mem} {F G : RG} {idx n mc1 ms1 : Nat} {mi2 : MI} (vs : List RV) {Post1 : RO → RM → Prop} (lk : mi2.2.2.2.2 = [] ∧ LST mi.1.cls idx n mi2) (hM9 : Mt g d mi2 vs (G, nx) mc1 ms1 Post1) (hn : vs.length = n) (hst : Nat.ble st.length 4 = true) (hd : decode mi.2.1 pc = .ok (.invokestatic idx, 3)) (hA : Aft g (d + 1) mi (pc + 3) ls st mc ms Post1 Post) : Ev g (d + 1) mi pc ls (vs.reverse ++ st) (G, nx) (mc1 + mc) (ms1 + ms) Post :=
  ev_invS lk.1 lk.2 hM9 hn (Nat.le_of_ble_eq_true hst) hd hA
theorem cv_SN {g : GL} {d : Nat} {mi : MI} {pc : Nat} {ls : List (Option RV)} {st : List RV} {mc ms : Nat} {Post : RO → RM → Prop} {V : Nat → Nat → Prop} {lo hi nx : Nat} {μ : Mem} {F G : RG} {idx n mc1 ms1 : Nat} {mi2 : MI} (vs : List RV) {Post1 : RO → RM → Prop} (lk : LSN mi.1.cls idx n mi2) (hM9 : Mt g d mi2 vs (G, nx) mc1 ms1 Post1) (hn : vs.length = n) (hst : Nat.ble st.length 4 = true) (hd : decode mi.2.1 pc = .ok (.invokestatic idx, 3)) (hA : Aft g (d + 1) mi (pc + 3) ls st mc ms Post1 Post) : Ev g (d + 1) mi pc ls (vs.reverse ++ st) (G, nx) (mc1 + mc) (ms1 + ms) Post :=
  ev_invSN lk hM9 hn (Nat.le_of_ble_eq_true hst) hd hA
theorem aft_thw {g : GL} {d : Nat} {mi : MI} {pc : Nat} {ls : List (Option RV)} {st : List RV} {mc ms : Nat} {Post : RO → RM → Prop} {V : Nat → Nat → Prop} {lo hi nx : Nat} {μ : Mem} {F G : RG} {E : String} (hh : mi.2.2.2.2 = []) (k : ∀ G', LM V lo hi μ F G' → Post (.inl E) (G', nx)) : Aft g d mi pc ls st mc ms (pRW V lo hi (.inl E) μ F nx) Post :=
  ⟨fun v M1 h => (by obtain ⟨h1, -⟩ := h; cases h1), fun E M1 h => by obtain ⟨h1, h2, h3⟩ := h; cases h1; obtain ⟨G', n'⟩ := M1; cases h3; exact ⟨hh, k G' h2⟩⟩
/-- what a method's number or exception is as an outcome -/
def thR {T : Type} (f : T → RO) : String ⊕ T → RO
  | .inl E => .inl E
  | .inr v => f v
theorem nc_ofNat {j : Nat} (h : j < 4096) : (Int32.ofNat j).toNatClampNeg = j := by
  have := nI_clamp (n := j) (by omega)
  exact this
theorem fldx {K j : Nat} (h : j < 4096) : (.inr (0, off K (Int32.ofNat j).toNatClampNeg) : RV) = .inr (0, off K j) := by rw [nc_ofNat h]
theorem hd0_of {mi2 : MI} {n : Nat} (h1 : mi2.1.cls ≠ "java/lang/invoke/MethodHandle") (h2 : mi2.1.cls ≠ "java/lang/invoke/VarHandle") (h3 : (parseMethodDescriptor mi2.1.desc).map (fun d => d.parameters.length) = some n) (h4 : Nat.ble mi2.2.2.1 41 = true) (hh : mi2.2.2.2.2 = []) (hw : Cond.code mi2.1 mi2.2.1 mi2.2.2.1 mi2.2.2.2.1 ∈ lw_good) : hd0 mi2 n :=
  ⟨h1, h2, h3, Nat.le_of_ble_eq_true h4, by unfold cdW; rw [if_pos hh]; exact hw⟩
theorem hd0_ofH {mi2 : MI} {n : Nat} (h1 : mi2.1.cls ≠ "java/lang/invoke/MethodHandle") (h2 : mi2.1.cls ≠ "java/lang/invoke/VarHandle") (h3 : (parseMethodDescriptor mi2.1.desc).map (fun d => d.parameters.length) = some n) (h4 : Nat.ble mi2.2.2.1 41 = true) (hh : ¬ mi2.2.2.2.2 = []) (hw : Cond.codeWith mi2.1 mi2.2.1 mi2.2.2.1 mi2.2.2.2.1 mi2.2.2.2.2 ∈ lw_good) : hd0 mi2 n :=
  ⟨h1, h2, h3, Nat.le_of_ble_eq_true h4, by unfold cdW; rw [if_neg hh]; exact hw⟩
/-- a switch over 0 to n, past its end -/
theorem tab_out {x : Int32} {n : Nat} (hn : n < 1000) (h : ∀ k, k ≤ n → x ≠ Int32.ofNat k) : x.toInt < 0 ∨ (n : Int) < x.toInt := by
  rcases Int.lt_or_le x.toInt 0 with h1 | h1
  · exact Or.inl h1
  · refine Or.inr (Int.not_le.mp fun h2 => h x.toInt.toNat (by omega) ?_)
    apply Int32.toInt_inj.mp
    rw [Int32.toInt_ofNat_of_lt (by omega)]
    omega
end
section
theorem i_vc : Claimed_1_1 ∧ Claimed_1_2 := sorry
end
