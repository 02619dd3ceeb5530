/-! Names: classes, fields, methods, words of the tables; by program (wip/whole/gen/names.py) out of the listing and the Statement -/
/-- the words that a callee may be given -/
def TB : List Cond := lw_tbl.filter goodWord
theorem tb_good {w : Cond} (h : w ∈ TB) : goodWord w = true := (List.mem_filter.mp h).2
theorem tb_lw {w : Cond} (h : w ∈ TB) : w ∈ lw_tbl := (List.mem_filter.mp h).1
theorem tb_t {w : Cond} (i : Nat) (h : tables_1[i]? = some w) (g : goodWord w = true) : w ∈ TB := List.mem_filter.mpr ⟨List.mem_append_right _ (List.mem_of_getElem? h), g⟩
theorem tb_s {q : MethodName × Nat} (i : Nat) (h : lw_privs[i]? = some q) (g : goodWord (Cond.selects q.1.cls q.1 q.1) = true) : Cond.selects q.1.cls q.1 q.1 ∈ TB := List.mem_filter.mpr ⟨List.mem_append_left _ (List.mem_map.mpr ⟨q, List.mem_of_getElem? h, rfl⟩), g⟩
theorem tb_x {w : Cond} (i : Nat) (h : tables_1[i]? = some w) : w ∈ lw_tbl := List.mem_append_right _ (List.mem_of_getElem? h)
def R_D : String := "QueueDrive"
def F_D : u_T := fun k => match k with
  | 0 => ("QueueDrive", "flashWords", "[J", true)
  | 1 => ("QueueDrive", "cache", "LQueueDrive$Cache;", true)
  | 2 => ("QueueDrive", "queues", "[LQueueDrive$CommandQueue;", true)
  | 3 => ("QueueDrive", "latestNumber", "I", false)
  | 4 => ("QueueDrive", "takenNumber", "I", false)
  | 5 => ("QueueDrive", "takenResult", "J", false)
  | 6 => ("QueueDrive", "unitsStored", "I", false)
  | 7 => ("QueueDrive", "pagesWritten", "I", false)
  | _ => ("QueueDrive", "pagesLeft", "I", false)
def t_D : Nat → FieldType := fun k => match k with
  | 0 => .array .long
  | 1 => .object "QueueDrive$Cache"
  | 2 => .array (.object "QueueDrive$CommandQueue")
  | 3 => .int
  | 4 => .int
  | 5 => .long
  | 6 => .int
  | 7 => .int
  | _ => .int
theorem n_D : ∀ a, a < 9 → ∀ b, b < 9 → a ≠ b → (F_D a).2.1 ≠ (F_D b).2.1 := by decide +kernel
theorem t_D_ok : ∀ k, k < 9 → parseFieldDescriptor (F_D k).2.2.1 = some (t_D k) := by decide +kernel
def R_C : String := "QueueDrive$Cache"
def F_C : u_T := fun k => match k with
  | 0 => ("QueueDrive$Cache", "units", "[LQueueDrive$Unit;", true)
  | _ => ("QueueDrive$Cache", "size", "I", false)
def t_C : Nat → FieldType := fun k => match k with
  | 0 => .array (.object "QueueDrive$Unit")
  | _ => .int
theorem n_C : ∀ a, a < 2 → ∀ b, b < 2 → a ≠ b → (F_C a).2.1 ≠ (F_C b).2.1 := by decide +kernel
theorem t_C_ok : ∀ k, k < 2 → parseFieldDescriptor (F_C k).2.2.1 = some (t_C k) := by decide +kernel
def R_K : String := "QueueDrive$Command"
def F_K : u_T := fun k => match k with
  | 0 => ("QueueDrive$Command", "unit", "LQueueDrive$Unit;", true)
  | 1 => ("QueueDrive$Command", "number", "I", false)
  | _ => ("QueueDrive$Command", "kind", "I", false)
def t_K : Nat → FieldType := fun k => match k with
  | 0 => .object "QueueDrive$Unit"
  | 1 => .int
  | _ => .int
theorem n_K : ∀ a, a < 3 → ∀ b, b < 3 → a ≠ b → (F_K a).2.1 ≠ (F_K b).2.1 := by decide +kernel
theorem t_K_ok : ∀ k, k < 3 → parseFieldDescriptor (F_K k).2.2.1 = some (t_K k) := by decide +kernel
def R_Q : String := "QueueDrive$CommandQueue"
def F_Q : u_T := fun k => match k with
  | 0 => ("QueueDrive$CommandQueue", "pending", "[LQueueDrive$Command;", true)
  | 1 => ("QueueDrive$CommandQueue", "completedNumbers", "[I", true)
  | 2 => ("QueueDrive$CommandQueue", "completedResults", "[J", true)
  | 3 => ("QueueDrive$CommandQueue", "pendingCount", "I", false)
  | _ => ("QueueDrive$CommandQueue", "completionCount", "I", false)
def t_Q : Nat → FieldType := fun k => match k with
  | 0 => .array (.object "QueueDrive$Command")
  | 1 => .array .int
  | 2 => .array .long
  | 3 => .int
  | _ => .int
theorem n_Q : ∀ a, a < 5 → ∀ b, b < 5 → a ≠ b → (F_Q a).2.1 ≠ (F_Q b).2.1 := by decide +kernel
theorem t_Q_ok : ∀ k, k < 5 → parseFieldDescriptor (F_Q k).2.2.1 = some (t_Q k) := by decide +kernel
def R_U : String := "QueueDrive$Unit"
def F_U : u_T := fun k => match k with
  | 0 => ("QueueDrive$Unit", "first", "I", false)
  | 1 => ("QueueDrive$Unit", "length", "I", false)
  | 2 => ("QueueDrive$Unit", "value", "I", false)
  | _ => ("QueueDrive$Unit", "takesAway", "Z", false)
def t_U : Nat → FieldType := fun k => match k with
  | 0 => .int
  | 1 => .int
  | 2 => .int
  | _ => .boolean
theorem n_U : ∀ a, a < 4 → ∀ b, b < 4 → a ≠ b → (F_U a).2.1 ≠ (F_U b).2.1 := by decide +kernel
theorem t_U_ok : ∀ k, k < 4 → parseFieldDescriptor (F_U k).2.2.1 = some (t_U k) := by decide +kernel
def R_M : String := "QueueDriveModel"
def F_M : u_T := fun k => match k with
  | 0 => ("QueueDriveModel", "limit", "I", true)
  | 1 => ("QueueDriveModel", "first", "[I", true)
  | 2 => ("QueueDriveModel", "size", "[I", true)
  | 3 => ("QueueDriveModel", "value", "[I", true)
  | 4 => ("QueueDriveModel", "away", "[Z", true)
  | 5 => ("QueueDriveModel", "when", "[I", true)
  | 6 => ("QueueDriveModel", "cached", "[Z", true)
  | 7 => ("QueueDriveModel", "units", "I", false)
  | 8 => ("QueueDriveModel", "stored", "I", false)
  | 9 => ("QueueDriveModel", "pages", "I", false)
  | 10 => ("QueueDriveModel", "budget", "I", false)
  | 11 => ("QueueDriveModel", "queueOf", "[I", true)
  | 12 => ("QueueDriveModel", "kind", "[I", true)
  | 13 => ("QueueDriveModel", "address", "[I", true)
  | 14 => ("QueueDriveModel", "count", "[I", true)
  | 15 => ("QueueDriveModel", "word", "[I", true)
  | 16 => ("QueueDriveModel", "commands", "I", false)
  | 17 => ("QueueDriveModel", "doneQueue", "[I", true)
  | 18 => ("QueueDriveModel", "doneNumber", "[I", true)
  | 19 => ("QueueDriveModel", "doneResult", "[J", true)
  | 20 => ("QueueDriveModel", "completions", "I", false)
  | 21 => ("QueueDriveModel", "taken", "I", false)
  | _ => ("QueueDriveModel", "result", "J", false)
def t_M : Nat → FieldType := fun k => match k with
  | 0 => .int
  | 1 => .array .int
  | 2 => .array .int
  | 3 => .array .int
  | 4 => .array .boolean
  | 5 => .array .int
  | 6 => .array .boolean
  | 7 => .int
  | 8 => .int
  | 9 => .int
  | 10 => .int
  | 11 => .array .int
  | 12 => .array .int
  | 13 => .array .int
  | 14 => .array .int
  | 15 => .array .int
  | 16 => .int
  | 17 => .array .int
  | 18 => .array .int
  | 19 => .array .long
  | 20 => .int
  | 21 => .int
  | _ => .long
theorem n_M : ∀ a, a < 23 → ∀ b, b < 23 → a ≠ b → (F_M a).2.1 ≠ (F_M b).2.1 := by decide +kernel
theorem t_M_ok : ∀ k, k < 23 → parseFieldDescriptor (F_M k).2.2.1 = some (t_M k) := by decide +kernel
def R_L : String := "QueueDriveLaw"
abbrev cl : List vw_C := [(R_D, F_D, 9), (R_C, F_C, 2), (R_K, F_K, 3), (R_Q, F_Q, 5), (R_U, F_U, 4), (R_M, F_M, 23)]
abbrev b_D_init : ByteArray := prog_1_method_1_code
def y_D_init : MethodName := ⟨R_D, "<init>", "(I)V"⟩
abbrev c_D_init : Cond := .code y_D_init b_D_init 3 (none : Option Jvm.ClassFile.FieldType)
theorem hd_D_init : y_D_init.cls ≠ "java/lang/invoke/MethodHandle" ∧ y_D_init.cls ≠ "java/lang/invoke/VarHandle" ∧ (parseMethodDescriptor y_D_init.desc).map (fun d => d.parameters.length) = some 1 := by decide +kernel
abbrev b_D_submit : ByteArray := prog_1_method_2_code
def y_D_submit : MethodName := ⟨R_D, "submit", "(IIIII)I"⟩
abbrev c_D_submit : Cond := .code y_D_submit b_D_submit 8 (some .int)
theorem hd_D_submit : y_D_submit.cls ≠ "java/lang/invoke/MethodHandle" ∧ y_D_submit.cls ≠ "java/lang/invoke/VarHandle" ∧ (parseMethodDescriptor y_D_submit.desc).map (fun d => d.parameters.length) = some 5 := by decide +kernel
abbrev b_D_step : ByteArray := prog_1_method_3_code
def y_D_step : MethodName := ⟨R_D, "step", "(II)I"⟩
abbrev c_D_step : Cond := .code y_D_step b_D_step 8 (some .int)
theorem hd_D_step : y_D_step.cls ≠ "java/lang/invoke/MethodHandle" ∧ y_D_step.cls ≠ "java/lang/invoke/VarHandle" ∧ (parseMethodDescriptor y_D_step.desc).map (fun d => d.parameters.length) = some 2 := by decide +kernel
abbrev b_D_take : ByteArray := prog_1_method_4_code
def y_D_take : MethodName := ⟨R_D, "take", "(I)I"⟩
abbrev c_D_take : Cond := .code y_D_take b_D_take 3 (some .int)
theorem hd_D_take : y_D_take.cls ≠ "java/lang/invoke/MethodHandle" ∧ y_D_take.cls ≠ "java/lang/invoke/VarHandle" ∧ (parseMethodDescriptor y_D_take.desc).map (fun d => d.parameters.length) = some 1 := by decide +kernel
abbrev b_D_result : ByteArray := prog_1_method_5_code
def y_D_result : MethodName := ⟨R_D, "result", "()J"⟩
abbrev c_D_result : Cond := .code y_D_result b_D_result 1 (some .long)
theorem hd_D_result : y_D_result.cls ≠ "java/lang/invoke/MethodHandle" ∧ y_D_result.cls ≠ "java/lang/invoke/VarHandle" ∧ (parseMethodDescriptor y_D_result.desc).map (fun d => d.parameters.length) = some 0 := by decide +kernel
abbrev b_D_reset : ByteArray := prog_1_method_6_code
def y_D_reset : MethodName := ⟨R_D, "reset", "()I"⟩
abbrev c_D_reset : Cond := .code y_D_reset b_D_reset 1 (some .int)
theorem hd_D_reset : y_D_reset.cls ≠ "java/lang/invoke/MethodHandle" ∧ y_D_reset.cls ≠ "java/lang/invoke/VarHandle" ∧ (parseMethodDescriptor y_D_reset.desc).map (fun d => d.parameters.length) = some 0 := by decide +kernel
abbrev b_D_power : ByteArray := prog_1_method_7_code
def y_D_power : MethodName := ⟨R_D, "power", "()I"⟩
abbrev c_D_power : Cond := .code y_D_power b_D_power 1 (some .int)
theorem hd_D_power : y_D_power.cls ≠ "java/lang/invoke/MethodHandle" ∧ y_D_power.cls ≠ "java/lang/invoke/VarHandle" ∧ (parseMethodDescriptor y_D_power.desc).map (fun d => d.parameters.length) = some 0 := by decide +kernel
abbrev b_D_powerDuring : ByteArray := prog_1_method_8_code
def y_D_powerDuring : MethodName := ⟨R_D, "powerDuring", "(III)I"⟩
abbrev c_D_powerDuring : Cond := .code y_D_powerDuring b_D_powerDuring 5 (some .int)
theorem hd_D_powerDuring : y_D_powerDuring.cls ≠ "java/lang/invoke/MethodHandle" ∧ y_D_powerDuring.cls ≠ "java/lang/invoke/VarHandle" ∧ (parseMethodDescriptor y_D_powerDuring.desc).map (fun d => d.parameters.length) = some 3 := by decide +kernel
abbrev b_D_word : ByteArray := prog_1_method_9_code
def y_D_word : MethodName := ⟨R_D, "word", "(I)J"⟩
abbrev c_D_word : Cond := .code y_D_word b_D_word 2 (some .long)
theorem hd_D_word : y_D_word.cls ≠ "java/lang/invoke/MethodHandle" ∧ y_D_word.cls ≠ "java/lang/invoke/VarHandle" ∧ (parseMethodDescriptor y_D_word.desc).map (fun d => d.parameters.length) = some 1 := by decide +kernel
abbrev b_D_flash : ByteArray := prog_1_method_10_code
def y_D_flash : MethodName := ⟨R_D, "flash", "(I)J"⟩
abbrev c_D_flash : Cond := .code y_D_flash b_D_flash 2 (some .long)
theorem hd_D_flash : y_D_flash.cls ≠ "java/lang/invoke/MethodHandle" ∧ y_D_flash.cls ≠ "java/lang/invoke/VarHandle" ∧ (parseMethodDescriptor y_D_flash.desc).map (fun d => d.parameters.length) = some 1 := by decide +kernel
abbrev b_D_queue : ByteArray := prog_1_method_11_code
def y_D_queue : MethodName := ⟨R_D, "queue", "(II)I"⟩
abbrev c_D_queue : Cond := .code y_D_queue b_D_queue 4 (some .int)
theorem hd_D_queue : y_D_queue.cls ≠ "java/lang/invoke/MethodHandle" ∧ y_D_queue.cls ≠ "java/lang/invoke/VarHandle" ∧ (parseMethodDescriptor y_D_queue.desc).map (fun d => d.parameters.length) = some 2 := by decide +kernel
abbrev b_D_unit : ByteArray := prog_1_method_12_code
def y_D_unit : MethodName := ⟨R_D, "unit", "(II)I"⟩
abbrev c_D_unit : Cond := .code y_D_unit b_D_unit 4 (some .int)
theorem hd_D_unit : y_D_unit.cls ≠ "java/lang/invoke/MethodHandle" ∧ y_D_unit.cls ≠ "java/lang/invoke/VarHandle" ∧ (parseMethodDescriptor y_D_unit.desc).map (fun d => d.parameters.length) = some 2 := by decide +kernel
abbrev b_D_count : ByteArray := prog_1_method_13_code
def y_D_count : MethodName := ⟨R_D, "count", "(I)I"⟩
abbrev c_D_count : Cond := .code y_D_count b_D_count 2 (some .int)
theorem hd_D_count : y_D_count.cls ≠ "java/lang/invoke/MethodHandle" ∧ y_D_count.cls ≠ "java/lang/invoke/VarHandle" ∧ (parseMethodDescriptor y_D_count.desc).map (fun d => d.parameters.length) = some 1 := by decide +kernel
abbrev b_D_isQueue : ByteArray := prog_1_method_14_code
def y_D_isQueue : MethodName := ⟨R_D, "isQueue", "(I)Z"⟩
abbrev c_D_isQueue : Cond := .code y_D_isQueue b_D_isQueue 1 (some .boolean)
theorem hd_D_isQueue : y_D_isQueue.cls ≠ "java/lang/invoke/MethodHandle" ∧ y_D_isQueue.cls ≠ "java/lang/invoke/VarHandle" ∧ (parseMethodDescriptor y_D_isQueue.desc).map (fun d => d.parameters.length) = some 1 := by decide +kernel
abbrev b_D_isAddress : ByteArray := prog_1_method_15_code
def y_D_isAddress : MethodName := ⟨R_D, "isAddress", "(I)Z"⟩
abbrev c_D_isAddress : Cond := .code y_D_isAddress b_D_isAddress 1 (some .boolean)
theorem hd_D_isAddress : y_D_isAddress.cls ≠ "java/lang/invoke/MethodHandle" ∧ y_D_isAddress.cls ≠ "java/lang/invoke/VarHandle" ∧ (parseMethodDescriptor y_D_isAddress.desc).map (fun d => d.parameters.length) = some 1 := by decide +kernel
abbrev b_D_areAddresses : ByteArray := prog_1_method_16_code
def y_D_areAddresses : MethodName := ⟨R_D, "areAddresses", "(II)Z"⟩
abbrev c_D_areAddresses : Cond := .code y_D_areAddresses b_D_areAddresses 2 (some .boolean)
theorem hd_D_areAddresses : y_D_areAddresses.cls ≠ "java/lang/invoke/MethodHandle" ∧ y_D_areAddresses.cls ≠ "java/lang/invoke/VarHandle" ∧ (parseMethodDescriptor y_D_areAddresses.desc).map (fun d => d.parameters.length) = some 2 := by decide +kernel
abbrev b_D_refusalOfStep : ByteArray := prog_1_method_17_code
def y_D_refusalOfStep : MethodName := ⟨R_D, "refusalOfStep", "(II)I"⟩
abbrev c_D_refusalOfStep : Cond := .code y_D_refusalOfStep b_D_refusalOfStep 3 (some .int)
theorem hd_D_refusalOfStep : y_D_refusalOfStep.cls ≠ "java/lang/invoke/MethodHandle" ∧ y_D_refusalOfStep.cls ≠ "java/lang/invoke/VarHandle" ∧ (parseMethodDescriptor y_D_refusalOfStep.desc).map (fun d => d.parameters.length) = some 2 := by decide +kernel
abbrev b_D_carryOut : ByteArray := prog_1_method_18_code
def y_D_carryOut : MethodName := ⟨R_D, "carryOut", "(LQueueDrive$Command;I)J"⟩
abbrev c_D_carryOut : Cond := .code y_D_carryOut b_D_carryOut 3 (some .long)
theorem hd_D_carryOut : y_D_carryOut.cls ≠ "java/lang/invoke/MethodHandle" ∧ y_D_carryOut.cls ≠ "java/lang/invoke/VarHandle" ∧ (parseMethodDescriptor y_D_carryOut.desc).map (fun d => d.parameters.length) = some 2 := by decide +kernel
abbrev b_D_sumOfHeld : ByteArray := prog_1_method_19_code
def y_D_sumOfHeld : MethodName := ⟨R_D, "sumOfHeld", "(LQueueDrive$Unit;)J"⟩
abbrev c_D_sumOfHeld : Cond := .code y_D_sumOfHeld b_D_sumOfHeld 7 (some .long)
theorem hd_D_sumOfHeld : y_D_sumOfHeld.cls ≠ "java/lang/invoke/MethodHandle" ∧ y_D_sumOfHeld.cls ≠ "java/lang/invoke/VarHandle" ∧ (parseMethodDescriptor y_D_sumOfHeld.desc).map (fun d => d.parameters.length) = some 1 := by decide +kernel
abbrev b_D_mismatches : ByteArray := prog_1_method_20_code
def y_D_mismatches : MethodName := ⟨R_D, "mismatches", "(LQueueDrive$Unit;)I"⟩
abbrev c_D_mismatches : Cond := .code y_D_mismatches b_D_mismatches 4 (some .int)
theorem hd_D_mismatches : y_D_mismatches.cls ≠ "java/lang/invoke/MethodHandle" ∧ y_D_mismatches.cls ≠ "java/lang/invoke/VarHandle" ∧ (parseMethodDescriptor y_D_mismatches.desc).map (fun d => d.parameters.length) = some 1 := by decide +kernel
abbrev b_D_cacheUnit : ByteArray := prog_1_method_21_code
def y_D_cacheUnit : MethodName := ⟨R_D, "cacheUnit", "(LQueueDrive$Unit;)V"⟩
abbrev c_D_cacheUnit : Cond := .code y_D_cacheUnit b_D_cacheUnit 2 (none : Option Jvm.ClassFile.FieldType)
theorem hd_D_cacheUnit : y_D_cacheUnit.cls ≠ "java/lang/invoke/MethodHandle" ∧ y_D_cacheUnit.cls ≠ "java/lang/invoke/VarHandle" ∧ (parseMethodDescriptor y_D_cacheUnit.desc).map (fun d => d.parameters.length) = some 1 := by decide +kernel
abbrev b_D_force : ByteArray := prog_1_method_22_code
def y_D_force : MethodName := ⟨R_D, "force", "(LQueueDrive$Unit;)V"⟩
abbrev c_D_force : Cond := .code y_D_force b_D_force 2 (none : Option Jvm.ClassFile.FieldType)
theorem hd_D_force : y_D_force.cls ≠ "java/lang/invoke/MethodHandle" ∧ y_D_force.cls ≠ "java/lang/invoke/VarHandle" ∧ (parseMethodDescriptor y_D_force.desc).map (fun d => d.parameters.length) = some 1 := by decide +kernel
abbrev b_D_flush : ByteArray := prog_1_method_23_code
def y_D_flush : MethodName := ⟨R_D, "flush", "()I"⟩
abbrev c_D_flush : Cond := .code y_D_flush b_D_flush 2 (some .int)
theorem hd_D_flush : y_D_flush.cls ≠ "java/lang/invoke/MethodHandle" ∧ y_D_flush.cls ≠ "java/lang/invoke/VarHandle" ∧ (parseMethodDescriptor y_D_flush.desc).map (fun d => d.parameters.length) = some 0 := by decide +kernel
abbrev b_D_emptyCache : ByteArray := prog_1_method_24_code
def y_D_emptyCache : MethodName := ⟨R_D, "emptyCache", "()Z"⟩
abbrev c_D_emptyCache : Cond := .code y_D_emptyCache b_D_emptyCache 3 (some .boolean)
theorem hd_D_emptyCache : y_D_emptyCache.cls ≠ "java/lang/invoke/MethodHandle" ∧ y_D_emptyCache.cls ≠ "java/lang/invoke/VarHandle" ∧ (parseMethodDescriptor y_D_emptyCache.desc).map (fun d => d.parameters.length) = some 0 := by decide +kernel
abbrev b_D_storeOldest : ByteArray := prog_1_method_25_code
def y_D_storeOldest : MethodName := ⟨R_D, "storeOldest", "()Z"⟩
abbrev c_D_storeOldest : Cond := .code y_D_storeOldest b_D_storeOldest 1 (some .boolean)
theorem hd_D_storeOldest : y_D_storeOldest.cls ≠ "java/lang/invoke/MethodHandle" ∧ y_D_storeOldest.cls ≠ "java/lang/invoke/VarHandle" ∧ (parseMethodDescriptor y_D_storeOldest.desc).map (fun d => d.parameters.length) = some 0 := by decide +kernel
abbrev b_D_store : ByteArray := prog_1_method_26_code
def y_D_store : MethodName := ⟨R_D, "store", "(LQueueDrive$Unit;)Z"⟩
abbrev c_D_store : Cond := .code y_D_store b_D_store 3 (some .boolean)
theorem hd_D_store : y_D_store.cls ≠ "java/lang/invoke/MethodHandle" ∧ y_D_store.cls ≠ "java/lang/invoke/VarHandle" ∧ (parseMethodDescriptor y_D_store.desc).map (fun d => d.parameters.length) = some 1 := by decide +kernel
abbrev b_D_heldWord : ByteArray := prog_1_method_27_code
def y_D_heldWord : MethodName := ⟨R_D, "heldWord", "(I)J"⟩
abbrev c_D_heldWord : Cond := .code y_D_heldWord b_D_heldWord 3 (some .long)
theorem hd_D_heldWord : y_D_heldWord.cls ≠ "java/lang/invoke/MethodHandle" ∧ y_D_heldWord.cls ≠ "java/lang/invoke/VarHandle" ∧ (parseMethodDescriptor y_D_heldWord.desc).map (fun d => d.parameters.length) = some 1 := by decide +kernel
abbrev b_D_losePower : ByteArray := prog_1_method_28_code
def y_D_losePower : MethodName := ⟨R_D, "losePower", "()I"⟩
abbrev c_D_losePower : Cond := .code y_D_losePower b_D_losePower 2 (some .int)
theorem hd_D_losePower : y_D_losePower.cls ≠ "java/lang/invoke/MethodHandle" ∧ y_D_losePower.cls ≠ "java/lang/invoke/VarHandle" ∧ (parseMethodDescriptor y_D_losePower.desc).map (fun d => d.parameters.length) = some 0 := by decide +kernel
abbrev b_D_clearQueues : ByteArray := prog_1_method_29_code
def y_D_clearQueues : MethodName := ⟨R_D, "clearQueues", "()I"⟩
abbrev c_D_clearQueues : Cond := .code y_D_clearQueues b_D_clearQueues 3 (some .int)
theorem hd_D_clearQueues : y_D_clearQueues.cls ≠ "java/lang/invoke/MethodHandle" ∧ y_D_clearQueues.cls ≠ "java/lang/invoke/VarHandle" ∧ (parseMethodDescriptor y_D_clearQueues.desc).map (fun d => d.parameters.length) = some 0 := by decide +kernel
abbrev b_M_init : ByteArray := prog_7_method_1_code
def y_M_init : MethodName := ⟨R_M, "<init>", "(I)V"⟩
abbrev c_M_init : Cond := .code y_M_init b_M_init 2 (none : Option Jvm.ClassFile.FieldType)
theorem hd_M_init : y_M_init.cls ≠ "java/lang/invoke/MethodHandle" ∧ y_M_init.cls ≠ "java/lang/invoke/VarHandle" ∧ (parseMethodDescriptor y_M_init.desc).map (fun d => d.parameters.length) = some 1 := by decide +kernel
abbrev b_M_in : ByteArray := prog_7_method_2_code
def y_M_in : MethodName := ⟨R_M, "in", "(II)Z"⟩
abbrev c_M_in : Cond := .code y_M_in b_M_in 2 (some .boolean)
theorem hd_M_in : y_M_in.cls ≠ "java/lang/invoke/MethodHandle" ∧ y_M_in.cls ≠ "java/lang/invoke/VarHandle" ∧ (parseMethodDescriptor y_M_in.desc).map (fun d => d.parameters.length) = some 2 := by decide +kernel
abbrev b_M_inCache : ByteArray := prog_7_method_3_code
def y_M_inCache : MethodName := ⟨R_M, "inCache", "()I"⟩
abbrev c_M_inCache : Cond := .code y_M_inCache b_M_inCache 3 (some .int)
theorem hd_M_inCache : y_M_inCache.cls ≠ "java/lang/invoke/MethodHandle" ∧ y_M_inCache.cls ≠ "java/lang/invoke/VarHandle" ∧ (parseMethodDescriptor y_M_inCache.desc).map (fun d => d.parameters.length) = some 0 := by decide +kernel
abbrev b_M_wordOf : ByteArray := prog_7_method_4_code
def y_M_wordOf : MethodName := ⟨R_M, "wordOf", "(II)J"⟩
abbrev c_M_wordOf : Cond := .code y_M_wordOf b_M_wordOf 3 (some .long)
theorem hd_M_wordOf : y_M_wordOf.cls ≠ "java/lang/invoke/MethodHandle" ∧ y_M_wordOf.cls ≠ "java/lang/invoke/VarHandle" ∧ (parseMethodDescriptor y_M_wordOf.desc).map (fun d => d.parameters.length) = some 2 := by decide +kernel
abbrev b_M_covers : ByteArray := prog_7_method_5_code
def y_M_covers : MethodName := ⟨R_M, "covers", "(II)Z"⟩
abbrev c_M_covers : Cond := .code y_M_covers b_M_covers 3 (some .boolean)
theorem hd_M_covers : y_M_covers.cls ≠ "java/lang/invoke/MethodHandle" ∧ y_M_covers.cls ≠ "java/lang/invoke/VarHandle" ∧ (parseMethodDescriptor y_M_covers.desc).map (fun d => d.parameters.length) = some 2 := by decide +kernel
abbrev b_M_inFlash : ByteArray := prog_7_method_6_code
def y_M_inFlash : MethodName := ⟨R_M, "inFlash", "(I)J"⟩
abbrev c_M_inFlash : Cond := .code y_M_inFlash b_M_inFlash 4 (some .long)
theorem hd_M_inFlash : y_M_inFlash.cls ≠ "java/lang/invoke/MethodHandle" ∧ y_M_inFlash.cls ≠ "java/lang/invoke/VarHandle" ∧ (parseMethodDescriptor y_M_inFlash.desc).map (fun d => d.parameters.length) = some 1 := by decide +kernel
abbrev b_M_holds : ByteArray := prog_7_method_7_code
def y_M_holds : MethodName := ⟨R_M, "holds", "(I)J"⟩
abbrev c_M_holds : Cond := .code y_M_holds b_M_holds 3 (some .long)
theorem hd_M_holds : y_M_holds.cls ≠ "java/lang/invoke/MethodHandle" ∧ y_M_holds.cls ≠ "java/lang/invoke/VarHandle" ∧ (parseMethodDescriptor y_M_holds.desc).map (fun d => d.parameters.length) = some 1 := by decide +kernel
abbrev b_M_store : ByteArray := prog_7_method_8_code
def y_M_store : MethodName := ⟨R_M, "store", "(I)Z"⟩
abbrev c_M_store : Cond := .code y_M_store b_M_store 3 (some .boolean)
theorem hd_M_store : y_M_store.cls ≠ "java/lang/invoke/MethodHandle" ∧ y_M_store.cls ≠ "java/lang/invoke/VarHandle" ∧ (parseMethodDescriptor y_M_store.desc).map (fun d => d.parameters.length) = some 1 := by decide +kernel
abbrev b_M_storeOldest : ByteArray := prog_7_method_9_code
def y_M_storeOldest : MethodName := ⟨R_M, "storeOldest", "()Z"⟩
abbrev c_M_storeOldest : Cond := .code y_M_storeOldest b_M_storeOldest 2 (some .boolean)
theorem hd_M_storeOldest : y_M_storeOldest.cls ≠ "java/lang/invoke/MethodHandle" ∧ y_M_storeOldest.cls ≠ "java/lang/invoke/VarHandle" ∧ (parseMethodDescriptor y_M_storeOldest.desc).map (fun d => d.parameters.length) = some 0 := by decide +kernel
abbrev b_M_empty : ByteArray := prog_7_method_10_code
def y_M_empty : MethodName := ⟨R_M, "empty", "()Z"⟩
abbrev c_M_empty : Cond := .code y_M_empty b_M_empty 2 (some .boolean)
theorem hd_M_empty : y_M_empty.cls ≠ "java/lang/invoke/MethodHandle" ∧ y_M_empty.cls ≠ "java/lang/invoke/VarHandle" ∧ (parseMethodDescriptor y_M_empty.desc).map (fun d => d.parameters.length) = some 0 := by decide +kernel
abbrev b_M_make : ByteArray := prog_7_method_11_code
def y_M_make : MethodName := ⟨R_M, "make", "(I)I"⟩
abbrev c_M_make : Cond := .code y_M_make b_M_make 2 (some .int)
theorem hd_M_make : y_M_make.cls ≠ "java/lang/invoke/MethodHandle" ∧ y_M_make.cls ≠ "java/lang/invoke/VarHandle" ∧ (parseMethodDescriptor y_M_make.desc).map (fun d => d.parameters.length) = some 1 := by decide +kernel
abbrev b_M_total : ByteArray := prog_7_method_12_code
def y_M_total : MethodName := ⟨R_M, "total", "(I)J"⟩
abbrev c_M_total : Cond := .code y_M_total b_M_total 7 (some .long)
theorem hd_M_total : y_M_total.cls ≠ "java/lang/invoke/MethodHandle" ∧ y_M_total.cls ≠ "java/lang/invoke/VarHandle" ∧ (parseMethodDescriptor y_M_total.desc).map (fun d => d.parameters.length) = some 1 := by decide +kernel
abbrev b_M_differing : ByteArray := prog_7_method_13_code
def y_M_differing : MethodName := ⟨R_M, "differing", "(I)I"⟩
abbrev c_M_differing : Cond := .code y_M_differing b_M_differing 4 (some .int)
theorem hd_M_differing : y_M_differing.cls ≠ "java/lang/invoke/MethodHandle" ∧ y_M_differing.cls ≠ "java/lang/invoke/VarHandle" ∧ (parseMethodDescriptor y_M_differing.desc).map (fun d => d.parameters.length) = some 1 := by decide +kernel
abbrev b_M_work : ByteArray := prog_7_method_14_code
def y_M_work : MethodName := ⟨R_M, "work", "(I)J"⟩
abbrev c_M_work : Cond := .code y_M_work b_M_work 4 (some .long)
theorem hd_M_work : y_M_work.cls ≠ "java/lang/invoke/MethodHandle" ∧ y_M_work.cls ≠ "java/lang/invoke/VarHandle" ∧ (parseMethodDescriptor y_M_work.desc).map (fun d => d.parameters.length) = some 1 := by decide +kernel
abbrev b_M_pending : ByteArray := prog_7_method_15_code
def y_M_pending : MethodName := ⟨R_M, "pending", "(I)I"⟩
abbrev c_M_pending : Cond := .code y_M_pending b_M_pending 4 (some .int)
theorem hd_M_pending : y_M_pending.cls ≠ "java/lang/invoke/MethodHandle" ∧ y_M_pending.cls ≠ "java/lang/invoke/VarHandle" ∧ (parseMethodDescriptor y_M_pending.desc).map (fun d => d.parameters.length) = some 1 := by decide +kernel
abbrev b_M_picked : ByteArray := prog_7_method_16_code
def y_M_picked : MethodName := ⟨R_M, "picked", "(II)I"⟩
abbrev c_M_picked : Cond := .code y_M_picked b_M_picked 5 (some .int)
theorem hd_M_picked : y_M_picked.cls ≠ "java/lang/invoke/MethodHandle" ∧ y_M_picked.cls ≠ "java/lang/invoke/VarHandle" ∧ (parseMethodDescriptor y_M_picked.desc).map (fun d => d.parameters.length) = some 2 := by decide +kernel
abbrev b_M_done : ByteArray := prog_7_method_17_code
def y_M_done : MethodName := ⟨R_M, "done", "(I)I"⟩
abbrev c_M_done : Cond := .code y_M_done b_M_done 4 (some .int)
theorem hd_M_done : y_M_done.cls ≠ "java/lang/invoke/MethodHandle" ∧ y_M_done.cls ≠ "java/lang/invoke/VarHandle" ∧ (parseMethodDescriptor y_M_done.desc).map (fun d => d.parameters.length) = some 1 := by decide +kernel
abbrev b_M_submit : ByteArray := prog_7_method_18_code
def y_M_submit : MethodName := ⟨R_M, "submit", "(IIIII)I"⟩
abbrev c_M_submit : Cond := .code y_M_submit b_M_submit 6 (some .int)
theorem hd_M_submit : y_M_submit.cls ≠ "java/lang/invoke/MethodHandle" ∧ y_M_submit.cls ≠ "java/lang/invoke/VarHandle" ∧ (parseMethodDescriptor y_M_submit.desc).map (fun d => d.parameters.length) = some 5 := by decide +kernel
abbrev b_M_step : ByteArray := prog_7_method_19_code
def y_M_step : MethodName := ⟨R_M, "step", "(II)I"⟩
abbrev c_M_step : Cond := .code y_M_step b_M_step 4 (some .int)
theorem hd_M_step : y_M_step.cls ≠ "java/lang/invoke/MethodHandle" ∧ y_M_step.cls ≠ "java/lang/invoke/VarHandle" ∧ (parseMethodDescriptor y_M_step.desc).map (fun d => d.parameters.length) = some 2 := by decide +kernel
abbrev b_M_take : ByteArray := prog_7_method_20_code
def y_M_take : MethodName := ⟨R_M, "take", "(I)I"⟩
abbrev c_M_take : Cond := .code y_M_take b_M_take 3 (some .int)
theorem hd_M_take : y_M_take.cls ≠ "java/lang/invoke/MethodHandle" ∧ y_M_take.cls ≠ "java/lang/invoke/VarHandle" ∧ (parseMethodDescriptor y_M_take.desc).map (fun d => d.parameters.length) = some 1 := by decide +kernel
abbrev b_M_result : ByteArray := prog_7_method_21_code
def y_M_result : MethodName := ⟨R_M, "result", "()J"⟩
abbrev c_M_result : Cond := .code y_M_result b_M_result 1 (some .long)
theorem hd_M_result : y_M_result.cls ≠ "java/lang/invoke/MethodHandle" ∧ y_M_result.cls ≠ "java/lang/invoke/VarHandle" ∧ (parseMethodDescriptor y_M_result.desc).map (fun d => d.parameters.length) = some 0 := by decide +kernel
abbrev b_M_reset : ByteArray := prog_7_method_22_code
def y_M_reset : MethodName := ⟨R_M, "reset", "()I"⟩
abbrev c_M_reset : Cond := .code y_M_reset b_M_reset 3 (some .int)
theorem hd_M_reset : y_M_reset.cls ≠ "java/lang/invoke/MethodHandle" ∧ y_M_reset.cls ≠ "java/lang/invoke/VarHandle" ∧ (parseMethodDescriptor y_M_reset.desc).map (fun d => d.parameters.length) = some 0 := by decide +kernel
abbrev b_M_power : ByteArray := prog_7_method_23_code
def y_M_power : MethodName := ⟨R_M, "power", "()I"⟩
abbrev c_M_power : Cond := .code y_M_power b_M_power 3 (some .int)
theorem hd_M_power : y_M_power.cls ≠ "java/lang/invoke/MethodHandle" ∧ y_M_power.cls ≠ "java/lang/invoke/VarHandle" ∧ (parseMethodDescriptor y_M_power.desc).map (fun d => d.parameters.length) = some 0 := by decide +kernel
abbrev b_M_powerDuring : ByteArray := prog_7_method_24_code
def y_M_powerDuring : MethodName := ⟨R_M, "powerDuring", "(III)I"⟩
abbrev c_M_powerDuring : Cond := .code y_M_powerDuring b_M_powerDuring 8 (some .int)
theorem hd_M_powerDuring : y_M_powerDuring.cls ≠ "java/lang/invoke/MethodHandle" ∧ y_M_powerDuring.cls ≠ "java/lang/invoke/VarHandle" ∧ (parseMethodDescriptor y_M_powerDuring.desc).map (fun d => d.parameters.length) = some 3 := by decide +kernel
abbrev b_M_word : ByteArray := prog_7_method_25_code
def y_M_word : MethodName := ⟨R_M, "word", "(I)J"⟩
abbrev c_M_word : Cond := .code y_M_word b_M_word 2 (some .long)
theorem hd_M_word : y_M_word.cls ≠ "java/lang/invoke/MethodHandle" ∧ y_M_word.cls ≠ "java/lang/invoke/VarHandle" ∧ (parseMethodDescriptor y_M_word.desc).map (fun d => d.parameters.length) = some 1 := by decide +kernel
abbrev b_M_flash : ByteArray := prog_7_method_26_code
def y_M_flash : MethodName := ⟨R_M, "flash", "(I)J"⟩
abbrev c_M_flash : Cond := .code y_M_flash b_M_flash 2 (some .long)
theorem hd_M_flash : y_M_flash.cls ≠ "java/lang/invoke/MethodHandle" ∧ y_M_flash.cls ≠ "java/lang/invoke/VarHandle" ∧ (parseMethodDescriptor y_M_flash.desc).map (fun d => d.parameters.length) = some 1 := by decide +kernel
abbrev b_M_queue : ByteArray := prog_7_method_27_code
def y_M_queue : MethodName := ⟨R_M, "queue", "(II)I"⟩
abbrev c_M_queue : Cond := .code y_M_queue b_M_queue 4 (some .int)
theorem hd_M_queue : y_M_queue.cls ≠ "java/lang/invoke/MethodHandle" ∧ y_M_queue.cls ≠ "java/lang/invoke/VarHandle" ∧ (parseMethodDescriptor y_M_queue.desc).map (fun d => d.parameters.length) = some 2 := by decide +kernel
abbrev b_M_unit : ByteArray := prog_7_method_28_code
def y_M_unit : MethodName := ⟨R_M, "unit", "(II)I"⟩
abbrev c_M_unit : Cond := .code y_M_unit b_M_unit 5 (some .int)
theorem hd_M_unit : y_M_unit.cls ≠ "java/lang/invoke/MethodHandle" ∧ y_M_unit.cls ≠ "java/lang/invoke/VarHandle" ∧ (parseMethodDescriptor y_M_unit.desc).map (fun d => d.parameters.length) = some 2 := by decide +kernel
abbrev b_M_count : ByteArray := prog_7_method_29_code
def y_M_count : MethodName := ⟨R_M, "count", "(I)I"⟩
abbrev c_M_count : Cond := .code y_M_count b_M_count 2 (some .int)
theorem hd_M_count : y_M_count.cls ≠ "java/lang/invoke/MethodHandle" ∧ y_M_count.cls ≠ "java/lang/invoke/VarHandle" ∧ (parseMethodDescriptor y_M_count.desc).map (fun d => d.parameters.length) = some 1 := by decide +kernel
abbrev b_C_init : ByteArray := prog_2_method_1_code
def y_C_init : MethodName := ⟨R_C, "<init>", "(I)V"⟩
abbrev c_C_init : Cond := .code y_C_init b_C_init 3 (none : Option Jvm.ClassFile.FieldType)
theorem hd_C_init : y_C_init.cls ≠ "java/lang/invoke/MethodHandle" ∧ y_C_init.cls ≠ "java/lang/invoke/VarHandle" ∧ (parseMethodDescriptor y_C_init.desc).map (fun d => d.parameters.length) = some 1 := by decide +kernel
abbrev b_C_isFull : ByteArray := prog_2_method_2_code
def y_C_isFull : MethodName := ⟨R_C, "isFull", "()Z"⟩
abbrev c_C_isFull : Cond := .code y_C_isFull b_C_isFull 1 (some .boolean)
theorem hd_C_isFull : y_C_isFull.cls ≠ "java/lang/invoke/MethodHandle" ∧ y_C_isFull.cls ≠ "java/lang/invoke/VarHandle" ∧ (parseMethodDescriptor y_C_isFull.desc).map (fun d => d.parameters.length) = some 0 := by decide +kernel
abbrev b_C_add : ByteArray := prog_2_method_3_code
def y_C_add : MethodName := ⟨R_C, "add", "(LQueueDrive$Unit;)V"⟩
abbrev c_C_add : Cond := .code y_C_add b_C_add 2 (none : Option Jvm.ClassFile.FieldType)
theorem hd_C_add : y_C_add.cls ≠ "java/lang/invoke/MethodHandle" ∧ y_C_add.cls ≠ "java/lang/invoke/VarHandle" ∧ (parseMethodDescriptor y_C_add.desc).map (fun d => d.parameters.length) = some 1 := by decide +kernel
abbrev b_C_removeOldest : ByteArray := prog_2_method_4_code
def y_C_removeOldest : MethodName := ⟨R_C, "removeOldest", "()V"⟩
abbrev c_C_removeOldest : Cond := .code y_C_removeOldest b_C_removeOldest 3 (none : Option Jvm.ClassFile.FieldType)
theorem hd_C_removeOldest : y_C_removeOldest.cls ≠ "java/lang/invoke/MethodHandle" ∧ y_C_removeOldest.cls ≠ "java/lang/invoke/VarHandle" ∧ (parseMethodDescriptor y_C_removeOldest.desc).map (fun d => d.parameters.length) = some 0 := by decide +kernel
abbrev b_K_init : ByteArray := prog_3_method_1_code
def y_K_init : MethodName := ⟨R_K, "<init>", "()V"⟩
abbrev c_K_init : Cond := .code y_K_init b_K_init 1 (none : Option Jvm.ClassFile.FieldType)
theorem hd_K_init : y_K_init.cls ≠ "java/lang/invoke/MethodHandle" ∧ y_K_init.cls ≠ "java/lang/invoke/VarHandle" ∧ (parseMethodDescriptor y_K_init.desc).map (fun d => d.parameters.length) = some 0 := by decide +kernel
abbrev b_Q_init : ByteArray := prog_4_method_1_code
def y_Q_init : MethodName := ⟨R_Q, "<init>", "()V"⟩
abbrev c_Q_init : Cond := .code y_Q_init b_Q_init 2 (none : Option Jvm.ClassFile.FieldType)
theorem hd_Q_init : y_Q_init.cls ≠ "java/lang/invoke/MethodHandle" ∧ y_Q_init.cls ≠ "java/lang/invoke/VarHandle" ∧ (parseMethodDescriptor y_Q_init.desc).map (fun d => d.parameters.length) = some 0 := by decide +kernel
abbrev b_Q_hasPending : ByteArray := prog_4_method_2_code
def y_Q_hasPending : MethodName := ⟨R_Q, "hasPending", "(I)Z"⟩
abbrev c_Q_hasPending : Cond := .code y_Q_hasPending b_Q_hasPending 2 (some .boolean)
theorem hd_Q_hasPending : y_Q_hasPending.cls ≠ "java/lang/invoke/MethodHandle" ∧ y_Q_hasPending.cls ≠ "java/lang/invoke/VarHandle" ∧ (parseMethodDescriptor y_Q_hasPending.desc).map (fun d => d.parameters.length) = some 1 := by decide +kernel
abbrev b_Q_addPending : ByteArray := prog_4_method_3_code
def y_Q_addPending : MethodName := ⟨R_Q, "addPending", "(II)LQueueDrive$Command;"⟩
abbrev c_Q_addPending : Cond := .code y_Q_addPending b_Q_addPending 4 (some (.object "QueueDrive$Command"))
theorem hd_Q_addPending : y_Q_addPending.cls ≠ "java/lang/invoke/MethodHandle" ∧ y_Q_addPending.cls ≠ "java/lang/invoke/VarHandle" ∧ (parseMethodDescriptor y_Q_addPending.desc).map (fun d => d.parameters.length) = some 2 := by decide +kernel
abbrev b_Q_removePending : ByteArray := prog_4_method_4_code
def y_Q_removePending : MethodName := ⟨R_Q, "removePending", "(I)V"⟩
abbrev c_Q_removePending : Cond := .code y_Q_removePending b_Q_removePending 4 (none : Option Jvm.ClassFile.FieldType)
theorem hd_Q_removePending : y_Q_removePending.cls ≠ "java/lang/invoke/MethodHandle" ∧ y_Q_removePending.cls ≠ "java/lang/invoke/VarHandle" ∧ (parseMethodDescriptor y_Q_removePending.desc).map (fun d => d.parameters.length) = some 1 := by decide +kernel
abbrev b_Q_addCompletion : ByteArray := prog_4_method_5_code
def y_Q_addCompletion : MethodName := ⟨R_Q, "addCompletion", "(IJ)V"⟩
abbrev c_Q_addCompletion : Cond := .code y_Q_addCompletion b_Q_addCompletion 4 (none : Option Jvm.ClassFile.FieldType)
theorem hd_Q_addCompletion : y_Q_addCompletion.cls ≠ "java/lang/invoke/MethodHandle" ∧ y_Q_addCompletion.cls ≠ "java/lang/invoke/VarHandle" ∧ (parseMethodDescriptor y_Q_addCompletion.desc).map (fun d => d.parameters.length) = some 2 := by decide +kernel
abbrev b_Q_removeOldestCompletion : ByteArray := prog_4_method_6_code
def y_Q_removeOldestCompletion : MethodName := ⟨R_Q, "removeOldestCompletion", "()V"⟩
abbrev c_Q_removeOldestCompletion : Cond := .code y_Q_removeOldestCompletion b_Q_removeOldestCompletion 2 (none : Option Jvm.ClassFile.FieldType)
theorem hd_Q_removeOldestCompletion : y_Q_removeOldestCompletion.cls ≠ "java/lang/invoke/MethodHandle" ∧ y_Q_removeOldestCompletion.cls ≠ "java/lang/invoke/VarHandle" ∧ (parseMethodDescriptor y_Q_removeOldestCompletion.desc).map (fun d => d.parameters.length) = some 0 := by decide +kernel
abbrev b_U_init : ByteArray := prog_5_method_1_code
def y_U_init : MethodName := ⟨R_U, "<init>", "()V"⟩
abbrev c_U_init : Cond := .code y_U_init b_U_init 1 (none : Option Jvm.ClassFile.FieldType)
theorem hd_U_init : y_U_init.cls ≠ "java/lang/invoke/MethodHandle" ∧ y_U_init.cls ≠ "java/lang/invoke/VarHandle" ∧ (parseMethodDescriptor y_U_init.desc).map (fun d => d.parameters.length) = some 0 := by decide +kernel
abbrev b_U_set : ByteArray := prog_5_method_2_code
def y_U_set : MethodName := ⟨R_U, "set", "(IIIZ)V"⟩
abbrev c_U_set : Cond := .code y_U_set b_U_set 5 (none : Option Jvm.ClassFile.FieldType)
theorem hd_U_set : y_U_set.cls ≠ "java/lang/invoke/MethodHandle" ∧ y_U_set.cls ≠ "java/lang/invoke/VarHandle" ∧ (parseMethodDescriptor y_U_set.desc).map (fun d => d.parameters.length) = some 4 := by decide +kernel
abbrev b_U_covers : ByteArray := prog_5_method_3_code
def y_U_covers : MethodName := ⟨R_U, "covers", "(I)Z"⟩
abbrev c_U_covers : Cond := .code y_U_covers b_U_covers 2 (some .boolean)
theorem hd_U_covers : y_U_covers.cls ≠ "java/lang/invoke/MethodHandle" ∧ y_U_covers.cls ≠ "java/lang/invoke/VarHandle" ∧ (parseMethodDescriptor y_U_covers.desc).map (fun d => d.parameters.length) = some 1 := by decide +kernel
abbrev b_U_wordAt : ByteArray := prog_5_method_4_code
def y_U_wordAt : MethodName := ⟨R_U, "wordAt", "(I)J"⟩
abbrev c_U_wordAt : Cond := .code y_U_wordAt b_U_wordAt 3 (some .long)
theorem hd_U_wordAt : y_U_wordAt.cls ≠ "java/lang/invoke/MethodHandle" ∧ y_U_wordAt.cls ≠ "java/lang/invoke/VarHandle" ∧ (parseMethodDescriptor y_U_wordAt.desc).map (fun d => d.parameters.length) = some 1 := by decide +kernel
abbrev b_L_cell : ByteArray := method_2_code
def y_L_cell : MethodName := ⟨R_L, "cell", "([II)I"⟩
abbrev c_L_cell : Cond := .code y_L_cell b_L_cell 2 (some .int)
theorem hd_L_cell : y_L_cell.cls ≠ "java/lang/invoke/MethodHandle" ∧ y_L_cell.cls ≠ "java/lang/invoke/VarHandle" ∧ (parseMethodDescriptor y_L_cell.desc).map (fun d => d.parameters.length) = some 2 := by decide +kernel
