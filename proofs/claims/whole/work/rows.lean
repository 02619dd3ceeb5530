section
-- ===== PART A: goes FIRST, ahead of the names: the tables' words, and 'selects' of the private methods out of them =====
/-- a private method of a class that the tables say can be made, by its rows of tables_1 -/
def lw_okq (q : MethodName × Nat) : Prop := (q.1.cls ≠ "java/lang/invoke/MethodHandle" ∧ q.1.cls ≠ "java/lang/invoke/VarHandle") ∧ Cond.instantiable q.1.cls q.2 ∈ tables_1 ∧ Cond.privateMethod q.1 ∈ tables_1 ∧ Cond.instanceMethod q.1 ∈ tables_1
theorem lw_p0 : lw_okq (⟨"QueueDrive", "refusalOfStep", "(II)I"⟩, 9) := ⟨⟨by decide +kernel, by decide +kernel⟩, List.mem_of_getElem? (i := 9) (by decide +kernel), List.mem_of_getElem? (i := 168) (by decide +kernel), List.mem_of_getElem? (i := 169) (by decide +kernel)⟩
theorem lw_p1 : lw_okq (⟨"QueueDrive", "carryOut", "(LQueueDrive$Command;I)J"⟩, 9) := ⟨⟨by decide +kernel, by decide +kernel⟩, List.mem_of_getElem? (i := 9) (by decide +kernel), List.mem_of_getElem? (i := 176) (by decide +kernel), List.mem_of_getElem? (i := 177) (by decide +kernel)⟩
theorem lw_p2 : lw_okq (⟨"QueueDrive", "sumOfHeld", "(LQueueDrive$Unit;)J"⟩, 9) := ⟨⟨by decide +kernel, by decide +kernel⟩, List.mem_of_getElem? (i := 9) (by decide +kernel), List.mem_of_getElem? (i := 180) (by decide +kernel), List.mem_of_getElem? (i := 181) (by decide +kernel)⟩
theorem lw_p3 : lw_okq (⟨"QueueDrive", "heldWord", "(I)J"⟩, 9) := ⟨⟨by decide +kernel, by decide +kernel⟩, List.mem_of_getElem? (i := 9) (by decide +kernel), List.mem_of_getElem? (i := 184) (by decide +kernel), List.mem_of_getElem? (i := 185) (by decide +kernel)⟩
theorem lw_p4 : lw_okq (⟨"QueueDrive", "cacheUnit", "(LQueueDrive$Unit;)V"⟩, 9) := ⟨⟨by decide +kernel, by decide +kernel⟩, List.mem_of_getElem? (i := 9) (by decide +kernel), List.mem_of_getElem? (i := 197) (by decide +kernel), List.mem_of_getElem? (i := 198) (by decide +kernel)⟩
theorem lw_p5 : lw_okq (⟨"QueueDrive", "storeOldest", "()Z"⟩, 9) := ⟨⟨by decide +kernel, by decide +kernel⟩, List.mem_of_getElem? (i := 9) (by decide +kernel), List.mem_of_getElem? (i := 205) (by decide +kernel), List.mem_of_getElem? (i := 206) (by decide +kernel)⟩
theorem lw_p6 : lw_okq (⟨"QueueDrive", "store", "(LQueueDrive$Unit;)Z"⟩, 9) := ⟨⟨by decide +kernel, by decide +kernel⟩, List.mem_of_getElem? (i := 9) (by decide +kernel), List.mem_of_getElem? (i := 209) (by decide +kernel), List.mem_of_getElem? (i := 210) (by decide +kernel)⟩
theorem lw_p7 : lw_okq (⟨"QueueDrive", "force", "(LQueueDrive$Unit;)V"⟩, 9) := ⟨⟨by decide +kernel, by decide +kernel⟩, List.mem_of_getElem? (i := 9) (by decide +kernel), List.mem_of_getElem? (i := 223) (by decide +kernel), List.mem_of_getElem? (i := 224) (by decide +kernel)⟩
theorem lw_p8 : lw_okq (⟨"QueueDrive", "emptyCache", "()Z"⟩, 9) := ⟨⟨by decide +kernel, by decide +kernel⟩, List.mem_of_getElem? (i := 9) (by decide +kernel), List.mem_of_getElem? (i := 227) (by decide +kernel), List.mem_of_getElem? (i := 228) (by decide +kernel)⟩
theorem lw_p9 : lw_okq (⟨"QueueDrive", "flush", "()I"⟩, 9) := ⟨⟨by decide +kernel, by decide +kernel⟩, List.mem_of_getElem? (i := 9) (by decide +kernel), List.mem_of_getElem? (i := 231) (by decide +kernel), List.mem_of_getElem? (i := 232) (by decide +kernel)⟩
theorem lw_p10 : lw_okq (⟨"QueueDrive", "mismatches", "(LQueueDrive$Unit;)I"⟩, 9) := ⟨⟨by decide +kernel, by decide +kernel⟩, List.mem_of_getElem? (i := 9) (by decide +kernel), List.mem_of_getElem? (i := 235) (by decide +kernel), List.mem_of_getElem? (i := 236) (by decide +kernel)⟩
theorem lw_p11 : lw_okq (⟨"QueueDrive", "clearQueues", "()I"⟩, 9) := ⟨⟨by decide +kernel, by decide +kernel⟩, List.mem_of_getElem? (i := 9) (by decide +kernel), List.mem_of_getElem? (i := 264) (by decide +kernel), List.mem_of_getElem? (i := 265) (by decide +kernel)⟩
theorem lw_p12 : lw_okq (⟨"QueueDrive", "losePower", "()I"⟩, 9) := ⟨⟨by decide +kernel, by decide +kernel⟩, List.mem_of_getElem? (i := 9) (by decide +kernel), List.mem_of_getElem? (i := 272) (by decide +kernel), List.mem_of_getElem? (i := 273) (by decide +kernel)⟩
theorem lw_p13 : lw_okq (⟨"QueueDriveModel", "pending", "(I)I"⟩, 23) := ⟨⟨by decide +kernel, by decide +kernel⟩, List.mem_of_getElem? (i := 306) (by decide +kernel), List.mem_of_getElem? (i := 391) (by decide +kernel), List.mem_of_getElem? (i := 392) (by decide +kernel)⟩
theorem lw_p14 : lw_okq (⟨"QueueDriveModel", "picked", "(II)I"⟩, 23) := ⟨⟨by decide +kernel, by decide +kernel⟩, List.mem_of_getElem? (i := 306) (by decide +kernel), List.mem_of_getElem? (i := 399) (by decide +kernel), List.mem_of_getElem? (i := 400) (by decide +kernel)⟩
theorem lw_p15 : lw_okq (⟨"QueueDriveModel", "done", "(I)I"⟩, 23) := ⟨⟨by decide +kernel, by decide +kernel⟩, List.mem_of_getElem? (i := 306) (by decide +kernel), List.mem_of_getElem? (i := 403) (by decide +kernel), List.mem_of_getElem? (i := 404) (by decide +kernel)⟩
def lw_privs_1 : List (MethodName × Nat) := [(⟨"QueueDrive", "refusalOfStep", "(II)I"⟩, 9), (⟨"QueueDrive", "carryOut", "(LQueueDrive$Command;I)J"⟩, 9), (⟨"QueueDrive", "sumOfHeld", "(LQueueDrive$Unit;)J"⟩, 9), (⟨"QueueDrive", "heldWord", "(I)J"⟩, 9), (⟨"QueueDrive", "cacheUnit", "(LQueueDrive$Unit;)V"⟩, 9), (⟨"QueueDrive", "storeOldest", "()Z"⟩, 9), (⟨"QueueDrive", "store", "(LQueueDrive$Unit;)Z"⟩, 9), (⟨"QueueDrive", "force", "(LQueueDrive$Unit;)V"⟩, 9), (⟨"QueueDrive", "emptyCache", "()Z"⟩, 9), (⟨"QueueDrive", "flush", "()I"⟩, 9), (⟨"QueueDrive", "mismatches", "(LQueueDrive$Unit;)I"⟩, 9), (⟨"QueueDrive", "clearQueues", "()I"⟩, 9), (⟨"QueueDrive", "losePower", "()I"⟩, 9), (⟨"QueueDriveModel", "pending", "(I)I"⟩, 23), (⟨"QueueDriveModel", "picked", "(II)I"⟩, 23), (⟨"QueueDriveModel", "done", "(I)I"⟩, 23)]
theorem lw_r1 : ∀ q ∈ lw_privs_1, lw_okq q := List.forall_mem_cons.mpr ⟨lw_p0, List.forall_mem_cons.mpr ⟨lw_p1, List.forall_mem_cons.mpr ⟨lw_p2, List.forall_mem_cons.mpr ⟨lw_p3, List.forall_mem_cons.mpr ⟨lw_p4, List.forall_mem_cons.mpr ⟨lw_p5, List.forall_mem_cons.mpr ⟨lw_p6, List.forall_mem_cons.mpr ⟨lw_p7, List.forall_mem_cons.mpr ⟨lw_p8, List.forall_mem_cons.mpr ⟨lw_p9, List.forall_mem_cons.mpr ⟨lw_p10, List.forall_mem_cons.mpr ⟨lw_p11, List.forall_mem_cons.mpr ⟨lw_p12, List.forall_mem_cons.mpr ⟨lw_p13, List.forall_mem_cons.mpr ⟨lw_p14, List.forall_mem_cons.mpr ⟨lw_p15, fun _ h => absurd h List.not_mem_nil⟩⟩⟩⟩⟩⟩⟩⟩⟩⟩⟩⟩⟩⟩⟩⟩
theorem lw_p16 : lw_okq (⟨"QueueDriveModel", "work", "(I)J"⟩, 23) := ⟨⟨by decide +kernel, by decide +kernel⟩, List.mem_of_getElem? (i := 306) (by decide +kernel), List.mem_of_getElem? (i := 407) (by decide +kernel), List.mem_of_getElem? (i := 408) (by decide +kernel)⟩
theorem lw_p17 : lw_okq (⟨"QueueDriveModel", "total", "(I)J"⟩, 23) := ⟨⟨by decide +kernel, by decide +kernel⟩, List.mem_of_getElem? (i := 306) (by decide +kernel), List.mem_of_getElem? (i := 411) (by decide +kernel), List.mem_of_getElem? (i := 412) (by decide +kernel)⟩
theorem lw_p18 : lw_okq (⟨"QueueDriveModel", "holds", "(I)J"⟩, 23) := ⟨⟨by decide +kernel, by decide +kernel⟩, List.mem_of_getElem? (i := 306) (by decide +kernel), List.mem_of_getElem? (i := 415) (by decide +kernel), List.mem_of_getElem? (i := 416) (by decide +kernel)⟩
theorem lw_p19 : lw_okq (⟨"QueueDriveModel", "covers", "(II)Z"⟩, 23) := ⟨⟨by decide +kernel, by decide +kernel⟩, List.mem_of_getElem? (i := 306) (by decide +kernel), List.mem_of_getElem? (i := 419) (by decide +kernel), List.mem_of_getElem? (i := 420) (by decide +kernel)⟩
theorem lw_p20 : lw_okq (⟨"QueueDriveModel", "wordOf", "(II)J"⟩, 23) := ⟨⟨by decide +kernel, by decide +kernel⟩, List.mem_of_getElem? (i := 306) (by decide +kernel), List.mem_of_getElem? (i := 423) (by decide +kernel), List.mem_of_getElem? (i := 424) (by decide +kernel)⟩
theorem lw_p21 : lw_okq (⟨"QueueDriveModel", "inFlash", "(I)J"⟩, 23) := ⟨⟨by decide +kernel, by decide +kernel⟩, List.mem_of_getElem? (i := 306) (by decide +kernel), List.mem_of_getElem? (i := 427) (by decide +kernel), List.mem_of_getElem? (i := 428) (by decide +kernel)⟩
theorem lw_p22 : lw_okq (⟨"QueueDriveModel", "differing", "(I)I"⟩, 23) := ⟨⟨by decide +kernel, by decide +kernel⟩, List.mem_of_getElem? (i := 306) (by decide +kernel), List.mem_of_getElem? (i := 431) (by decide +kernel), List.mem_of_getElem? (i := 432) (by decide +kernel)⟩
theorem lw_p23 : lw_okq (⟨"QueueDriveModel", "inCache", "()I"⟩, 23) := ⟨⟨by decide +kernel, by decide +kernel⟩, List.mem_of_getElem? (i := 306) (by decide +kernel), List.mem_of_getElem? (i := 435) (by decide +kernel), List.mem_of_getElem? (i := 436) (by decide +kernel)⟩
theorem lw_p24 : lw_okq (⟨"QueueDriveModel", "empty", "()Z"⟩, 23) := ⟨⟨by decide +kernel, by decide +kernel⟩, List.mem_of_getElem? (i := 306) (by decide +kernel), List.mem_of_getElem? (i := 439) (by decide +kernel), List.mem_of_getElem? (i := 440) (by decide +kernel)⟩
theorem lw_p25 : lw_okq (⟨"QueueDriveModel", "storeOldest", "()Z"⟩, 23) := ⟨⟨by decide +kernel, by decide +kernel⟩, List.mem_of_getElem? (i := 306) (by decide +kernel), List.mem_of_getElem? (i := 443) (by decide +kernel), List.mem_of_getElem? (i := 444) (by decide +kernel)⟩
theorem lw_p26 : lw_okq (⟨"QueueDriveModel", "store", "(I)Z"⟩, 23) := ⟨⟨by decide +kernel, by decide +kernel⟩, List.mem_of_getElem? (i := 306) (by decide +kernel), List.mem_of_getElem? (i := 447) (by decide +kernel), List.mem_of_getElem? (i := 448) (by decide +kernel)⟩
theorem lw_p27 : lw_okq (⟨"QueueDriveModel", "make", "(I)I"⟩, 23) := ⟨⟨by decide +kernel, by decide +kernel⟩, List.mem_of_getElem? (i := 306) (by decide +kernel), List.mem_of_getElem? (i := 451) (by decide +kernel), List.mem_of_getElem? (i := 452) (by decide +kernel)⟩
def lw_privs_2 : List (MethodName × Nat) := [(⟨"QueueDriveModel", "work", "(I)J"⟩, 23), (⟨"QueueDriveModel", "total", "(I)J"⟩, 23), (⟨"QueueDriveModel", "holds", "(I)J"⟩, 23), (⟨"QueueDriveModel", "covers", "(II)Z"⟩, 23), (⟨"QueueDriveModel", "wordOf", "(II)J"⟩, 23), (⟨"QueueDriveModel", "inFlash", "(I)J"⟩, 23), (⟨"QueueDriveModel", "differing", "(I)I"⟩, 23), (⟨"QueueDriveModel", "inCache", "()I"⟩, 23), (⟨"QueueDriveModel", "empty", "()Z"⟩, 23), (⟨"QueueDriveModel", "storeOldest", "()Z"⟩, 23), (⟨"QueueDriveModel", "store", "(I)Z"⟩, 23), (⟨"QueueDriveModel", "make", "(I)I"⟩, 23)]
theorem lw_r2 : ∀ q ∈ lw_privs_2, lw_okq q := List.forall_mem_cons.mpr ⟨lw_p16, List.forall_mem_cons.mpr ⟨lw_p17, List.forall_mem_cons.mpr ⟨lw_p18, List.forall_mem_cons.mpr ⟨lw_p19, List.forall_mem_cons.mpr ⟨lw_p20, List.forall_mem_cons.mpr ⟨lw_p21, List.forall_mem_cons.mpr ⟨lw_p22, List.forall_mem_cons.mpr ⟨lw_p23, List.forall_mem_cons.mpr ⟨lw_p24, List.forall_mem_cons.mpr ⟨lw_p25, List.forall_mem_cons.mpr ⟨lw_p26, List.forall_mem_cons.mpr ⟨lw_p27, fun _ h => absurd h List.not_mem_nil⟩⟩⟩⟩⟩⟩⟩⟩⟩⟩⟩⟩
def lw_privs : List (MethodName × Nat) := lw_privs_1 ++ (lw_privs_2)
def lw_tbl : List Cond := k2_sels lw_privs ++ tables_1
theorem lw_privs_ok : ∀ q ∈ lw_privs, lw_okq q := by
  show ∀ q ∈ lw_privs_1 ++ (lw_privs_2), lw_okq q
  exact List.forall_mem_append.mpr ⟨lw_r1, lw_r2⟩
-- ===== end of PART A; then your names; then what follows =====
end
section
/-! Names: classes, fields, methods, words of the tables; by program (wip/whole/gen/names.py) out of the listing and the Statement -/
/-- the words that a callee may be given -/
def TB : List Cond := lw_tbl.filter goodWord
theorem tb_good {w : Cond} (h : w ∈ TB) : goodWord w = true := (List.mem_filter.mp h).2
theorem tb_lw {w : Cond} (h : w ∈ TB) : w ∈ lw_tbl := (List.mem_filter.mp h).1
theorem tb_t {w : Cond} (i : Nat) (h : tables_1[i]? = some w) (g : goodWord w = true) : w ∈ TB := List.mem_filter.mpr ⟨List.mem_append_right _ (List.mem_of_getElem? h), g⟩
theorem tb_s {q : MethodName × Nat} (i : Nat) (h : lw_privs[i]? = some q) (g : goodWord (Cond.selects q.1.cls q.1 q.1) = true) : Cond.selects q.1.cls q.1 q.1 ∈ TB := List.mem_filter.mpr ⟨List.mem_append_left _ (List.mem_map.mpr ⟨q, List.mem_of_getElem? h, rfl⟩), g⟩
theorem tb_x {w : Cond} (i : Nat) (h : tables_1[i]? = some w) : w ∈ lw_tbl := List.mem_append_right _ (List.mem_of_getElem? h)
def R_D : String := "QueueDrive"
def F_D : u_T := fun k => match k with
  | 0 => ("QueueDrive", "flashWords", "[J", true)
  | 1 => ("QueueDrive", "cache", "LQueueDrive$Cache;", true)
  | 2 => ("QueueDrive", "queues", "[LQueueDrive$CommandQueue;", true)
  | 3 => ("QueueDrive", "latestNumber", "I", false)
  | 4 => ("QueueDrive", "takenNumber", "I", false)
  | 5 => ("QueueDrive", "takenResult", "J", false)
  | 6 => ("QueueDrive", "unitsStored", "I", false)
  | 7 => ("QueueDrive", "pagesWritten", "I", false)
  | _ => ("QueueDrive", "pagesLeft", "I", false)
def t_D : Nat → FieldType := fun k => match k with
  | 0 => .array .long
  | 1 => .object "QueueDrive$Cache"
  | 2 => .array (.object "QueueDrive$CommandQueue")
  | 3 => .int
  | 4 => .int
  | 5 => .long
  | 6 => .int
  | 7 => .int
  | _ => .int
theorem n_D : ∀ a, a < 9 → ∀ b, b < 9 → a ≠ b → (F_D a).2.1 ≠ (F_D b).2.1 := by decide +kernel
theorem t_D_ok : ∀ k, k < 9 → parseFieldDescriptor (F_D k).2.2.1 = some (t_D k) := by decide +kernel
def R_C : String := "QueueDrive$Cache"
def F_C : u_T := fun k => match k with
  | 0 => ("QueueDrive$Cache", "units", "[LQueueDrive$Unit;", true)
  | _ => ("QueueDrive$Cache", "size", "I", false)
def t_C : Nat → FieldType := fun k => match k with
  | 0 => .array (.object "QueueDrive$Unit")
  | _ => .int
theorem n_C : ∀ a, a < 2 → ∀ b, b < 2 → a ≠ b → (F_C a).2.1 ≠ (F_C b).2.1 := by decide +kernel
theorem t_C_ok : ∀ k, k < 2 → parseFieldDescriptor (F_C k).2.2.1 = some (t_C k) := by decide +kernel
def R_K : String := "QueueDrive$Command"
def F_K : u_T := fun k => match k with
  | 0 => ("QueueDrive$Command", "unit", "LQueueDrive$Unit;", true)
  | 1 => ("QueueDrive$Command", "number", "I", false)
  | _ => ("QueueDrive$Command", "kind", "I", false)
def t_K : Nat → FieldType := fun k => match k with
  | 0 => .object "QueueDrive$Unit"
  | 1 => .int
  | _ => .int
theorem n_K : ∀ a, a < 3 → ∀ b, b < 3 → a ≠ b → (F_K a).2.1 ≠ (F_K b).2.1 := by decide +kernel
theorem t_K_ok : ∀ k, k < 3 → parseFieldDescriptor (F_K k).2.2.1 = some (t_K k) := by decide +kernel
def R_Q : String := "QueueDrive$CommandQueue"
def F_Q : u_T := fun k => match k with
  | 0 => ("QueueDrive$CommandQueue", "pending", "[LQueueDrive$Command;", true)
  | 1 => ("QueueDrive$CommandQueue", "completedNumbers", "[I", true)
  | 2 => ("QueueDrive$CommandQueue", "completedResults", "[J", true)
  | 3 => ("QueueDrive$CommandQueue", "pendingCount", "I", false)
  | _ => ("QueueDrive$CommandQueue", "completionCount", "I", false)
def t_Q : Nat → FieldType := fun k => match k with
  | 0 => .array (.object "QueueDrive$Command")
  | 1 => .array .int
  | 2 => .array .long
  | 3 => .int
  | _ => .int
theorem n_Q : ∀ a, a < 5 → ∀ b, b < 5 → a ≠ b → (F_Q a).2.1 ≠ (F_Q b).2.1 := by decide +kernel
theorem t_Q_ok : ∀ k, k < 5 → parseFieldDescriptor (F_Q k).2.2.1 = some (t_Q k) := by decide +kernel
def R_U : String := "QueueDrive$Unit"
def F_U : u_T := fun k => match k with
  | 0 => ("QueueDrive$Unit", "first", "I", false)
  | 1 => ("QueueDrive$Unit", "length", "I", false)
  | 2 => ("QueueDrive$Unit", "value", "I", false)
  | _ => ("QueueDrive$Unit", "takesAway", "Z", false)
def t_U : Nat → FieldType := fun k => match k with
  | 0 => .int
  | 1 => .int
  | 2 => .int
  | _ => .boolean
theorem n_U : ∀ a, a < 4 → ∀ b, b < 4 → a ≠ b → (F_U a).2.1 ≠ (F_U b).2.1 := by decide +kernel
theorem t_U_ok : ∀ k, k < 4 → parseFieldDescriptor (F_U k).2.2.1 = some (t_U k) := by decide +kernel
def R_M : String := "QueueDriveModel"
def F_M : u_T := fun k => match k with
  | 0 => ("QueueDriveModel", "limit", "I", true)
  | 1 => ("QueueDriveModel", "first", "[I", true)
  | 2 => ("QueueDriveModel", "size", "[I", true)
  | 3 => ("QueueDriveModel", "value", "[I", true)
  | 4 => ("QueueDriveModel", "away", "[Z", true)
  | 5 => ("QueueDriveModel", "when", "[I", true)
  | 6 => ("QueueDriveModel", "cached", "[Z", true)
  | 7 => ("QueueDriveModel", "units", "I", false)
  | 8 => ("QueueDriveModel", "stored", "I", false)
  | 9 => ("QueueDriveModel", "pages", "I", false)
  | 10 => ("QueueDriveModel", "budget", "I", false)
  | 11 => ("QueueDriveModel", "queueOf", "[I", true)
  | 12 => ("QueueDriveModel", "kind", "[I", true)
  | 13 => ("QueueDriveModel", "address", "[I", true)
  | 14 => ("QueueDriveModel", "count", "[I", true)
  | 15 => ("QueueDriveModel", "word", "[I", true)
  | 16 => ("QueueDriveModel", "commands", "I", false)
  | 17 => ("QueueDriveModel", "doneQueue", "[I", true)
  | 18 => ("QueueDriveModel", "doneNumber", "[I", true)
  | 19 => ("QueueDriveModel", "doneResult", "[J", true)
  | 20 => ("QueueDriveModel", "completions", "I", false)
  | 21 => ("QueueDriveModel", "taken", "I", false)
  | _ => ("QueueDriveModel", "result", "J", false)
def t_M : Nat → FieldType := fun k => match k with
  | 0 => .int
  | 1 => .array .int
  | 2 => .array .int
  | 3 => .array .int
  | 4 => .array .boolean
  | 5 => .array .int
  | 6 => .array .boolean
  | 7 => .int
  | 8 => .int
  | 9 => .int
  | 10 => .int
  | 11 => .array .int
  | 12 => .array .int
  | 13 => .array .int
  | 14 => .array .int
  | 15 => .array .int
  | 16 => .int
  | 17 => .array .int
  | 18 => .array .int
  | 19 => .array .long
  | 20 => .int
  | 21 => .int
  | _ => .long
theorem n_M : ∀ a, a < 23 → ∀ b, b < 23 → a ≠ b → (F_M a).2.1 ≠ (F_M b).2.1 := by decide +kernel
theorem t_M_ok : ∀ k, k < 23 → parseFieldDescriptor (F_M k).2.2.1 = some (t_M k) := by decide +kernel
def R_L : String := "QueueDriveLaw"
abbrev cl : List vw_C := [(R_D, F_D, 9), (R_C, F_C, 2), (R_K, F_K, 3), (R_Q, F_Q, 5), (R_U, F_U, 4), (R_M, F_M, 23)]
abbrev b_D_init : ByteArray := prog_1_method_1_code
def y_D_init : MethodName := ⟨R_D, "<init>", "(I)V"⟩
abbrev c_D_init : Cond := .code y_D_init b_D_init 3 (none : Option Jvm.ClassFile.FieldType)
theorem hd_D_init : y_D_init.cls ≠ "java/lang/invoke/MethodHandle" ∧ y_D_init.cls ≠ "java/lang/invoke/VarHandle" ∧ (parseMethodDescriptor y_D_init.desc).map (fun d => d.parameters.length) = some 1 := by decide +kernel
abbrev b_D_submit : ByteArray := prog_1_method_2_code
def y_D_submit : MethodName := ⟨R_D, "submit", "(IIIII)I"⟩
abbrev c_D_submit : Cond := .code y_D_submit b_D_submit 8 (some .int)
theorem hd_D_submit : y_D_submit.cls ≠ "java/lang/invoke/MethodHandle" ∧ y_D_submit.cls ≠ "java/lang/invoke/VarHandle" ∧ (parseMethodDescriptor y_D_submit.desc).map (fun d => d.parameters.length) = some 5 := by decide +kernel
abbrev b_D_step : ByteArray := prog_1_method_3_code
def y_D_step : MethodName := ⟨R_D, "step", "(II)I"⟩
abbrev c_D_step : Cond := .code y_D_step b_D_step 8 (some .int)
theorem hd_D_step : y_D_step.cls ≠ "java/lang/invoke/MethodHandle" ∧ y_D_step.cls ≠ "java/lang/invoke/VarHandle" ∧ (parseMethodDescriptor y_D_step.desc).map (fun d => d.parameters.length) = some 2 := by decide +kernel
abbrev b_D_take : ByteArray := prog_1_method_4_code
def y_D_take : MethodName := ⟨R_D, "take", "(I)I"⟩
abbrev c_D_take : Cond := .code y_D_take b_D_take 3 (some .int)
theorem hd_D_take : y_D_take.cls ≠ "java/lang/invoke/MethodHandle" ∧ y_D_take.cls ≠ "java/lang/invoke/VarHandle" ∧ (parseMethodDescriptor y_D_take.desc).map (fun d => d.parameters.length) = some 1 := by decide +kernel
abbrev b_D_result : ByteArray := prog_1_method_5_code
def y_D_result : MethodName := ⟨R_D, "result", "()J"⟩
abbrev c_D_result : Cond := .code y_D_result b_D_result 1 (some .long)
theorem hd_D_result : y_D_result.cls ≠ "java/lang/invoke/MethodHandle" ∧ y_D_result.cls ≠ "java/lang/invoke/VarHandle" ∧ (parseMethodDescriptor y_D_result.desc).map (fun d => d.parameters.length) = some 0 := by decide +kernel
abbrev b_D_reset : ByteArray := prog_1_method_6_code
def y_D_reset : MethodName := ⟨R_D, "reset", "()I"⟩
abbrev c_D_reset : Cond := .code y_D_reset b_D_reset 1 (some .int)
theorem hd_D_reset : y_D_reset.cls ≠ "java/lang/invoke/MethodHandle" ∧ y_D_reset.cls ≠ "java/lang/invoke/VarHandle" ∧ (parseMethodDescriptor y_D_reset.desc).map (fun d => d.parameters.length) = some 0 := by decide +kernel
abbrev b_D_power : ByteArray := prog_1_method_7_code
def y_D_power : MethodName := ⟨R_D, "power", "()I"⟩
abbrev c_D_power : Cond := .code y_D_power b_D_power 1 (some .int)
theorem hd_D_power : y_D_power.cls ≠ "java/lang/invoke/MethodHandle" ∧ y_D_power.cls ≠ "java/lang/invoke/VarHandle" ∧ (parseMethodDescriptor y_D_power.desc).map (fun d => d.parameters.length) = some 0 := by decide +kernel
abbrev b_D_powerDuring : ByteArray := prog_1_method_8_code
def y_D_powerDuring : MethodName := ⟨R_D, "powerDuring", "(III)I"⟩
abbrev c_D_powerDuring : Cond := .code y_D_powerDuring b_D_powerDuring 5 (some .int)
theorem hd_D_powerDuring : y_D_powerDuring.cls ≠ "java/lang/invoke/MethodHandle" ∧ y_D_powerDuring.cls ≠ "java/lang/invoke/VarHandle" ∧ (parseMethodDescriptor y_D_powerDuring.desc).map (fun d => d.parameters.length) = some 3 := by decide +kernel
abbrev b_D_word : ByteArray := prog_1_method_9_code
def y_D_word : MethodName := ⟨R_D, "word", "(I)J"⟩
abbrev c_D_word : Cond := .code y_D_word b_D_word 2 (some .long)
theorem hd_D_word : y_D_word.cls ≠ "java/lang/invoke/MethodHandle" ∧ y_D_word.cls ≠ "java/lang/invoke/VarHandle" ∧ (parseMethodDescriptor y_D_word.desc).map (fun d => d.parameters.length) = some 1 := by decide +kernel
abbrev b_D_flash : ByteArray := prog_1_method_10_code
def y_D_flash : MethodName := ⟨R_D, "flash", "(I)J"⟩
abbrev c_D_flash : Cond := .code y_D_flash b_D_flash 2 (some .long)
theorem hd_D_flash : y_D_flash.cls ≠ "java/lang/invoke/MethodHandle" ∧ y_D_flash.cls ≠ "java/lang/invoke/VarHandle" ∧ (parseMethodDescriptor y_D_flash.desc).map (fun d => d.parameters.length) = some 1 := by decide +kernel
abbrev b_D_queue : ByteArray := prog_1_method_11_code
def y_D_queue : MethodName := ⟨R_D, "queue", "(II)I"⟩
abbrev c_D_queue : Cond := .code y_D_queue b_D_queue 4 (some .int)
theorem hd_D_queue : y_D_queue.cls ≠ "java/lang/invoke/MethodHandle" ∧ y_D_queue.cls ≠ "java/lang/invoke/VarHandle" ∧ (parseMethodDescriptor y_D_queue.desc).map (fun d => d.parameters.length) = some 2 := by decide +kernel
abbrev b_D_unit : ByteArray := prog_1_method_12_code
def y_D_unit : MethodName := ⟨R_D, "unit", "(II)I"⟩
abbrev c_D_unit : Cond := .code y_D_unit b_D_unit 4 (some .int)
theorem hd_D_unit : y_D_unit.cls ≠ "java/lang/invoke/MethodHandle" ∧ y_D_unit.cls ≠ "java/lang/invoke/VarHandle" ∧ (parseMethodDescriptor y_D_unit.desc).map (fun d => d.parameters.length) = some 2 := by decide +kernel
abbrev b_D_count : ByteArray := prog_1_method_13_code
def y_D_count : MethodName := ⟨R_D, "count", "(I)I"⟩
abbrev c_D_count : Cond := .code y_D_count b_D_count 2 (some .int)
theorem hd_D_count : y_D_count.cls ≠ "java/lang/invoke/MethodHandle" ∧ y_D_count.cls ≠ "java/lang/invoke/VarHandle" ∧ (parseMethodDescriptor y_D_count.desc).map (fun d => d.parameters.length) = some 1 := by decide +kernel
abbrev b_D_isQueue : ByteArray := prog_1_method_14_code
def y_D_isQueue : MethodName := ⟨R_D, "isQueue", "(I)Z"⟩
abbrev c_D_isQueue : Cond := .code y_D_isQueue b_D_isQueue 1 (some .boolean)
theorem hd_D_isQueue : y_D_isQueue.cls ≠ "java/lang/invoke/MethodHandle" ∧ y_D_isQueue.cls ≠ "java/lang/invoke/VarHandle" ∧ (parseMethodDescriptor y_D_isQueue.desc).map (fun d => d.parameters.length) = some 1 := by decide +kernel
abbrev b_D_isAddress : ByteArray := prog_1_method_15_code
def y_D_isAddress : MethodName := ⟨R_D, "isAddress", "(I)Z"⟩
abbrev c_D_isAddress : Cond := .code y_D_isAddress b_D_isAddress 1 (some .boolean)
theorem hd_D_isAddress : y_D_isAddress.cls ≠ "java/lang/invoke/MethodHandle" ∧ y_D_isAddress.cls ≠ "java/lang/invoke/VarHandle" ∧ (parseMethodDescriptor y_D_isAddress.desc).map (fun d => d.parameters.length) = some 1 := by decide +kernel
abbrev b_D_areAddresses : ByteArray := prog_1_method_16_code
def y_D_areAddresses : MethodName := ⟨R_D, "areAddresses", "(II)Z"⟩
abbrev c_D_areAddresses : Cond := .code y_D_areAddresses b_D_areAddresses 2 (some .boolean)
theorem hd_D_areAddresses : y_D_areAddresses.cls ≠ "java/lang/invoke/MethodHandle" ∧ y_D_areAddresses.cls ≠ "java/lang/invoke/VarHandle" ∧ (parseMethodDescriptor y_D_areAddresses.desc).map (fun d => d.parameters.length) = some 2 := by decide +kernel
abbrev b_D_refusalOfStep : ByteArray := prog_1_method_17_code
def y_D_refusalOfStep : MethodName := ⟨R_D, "refusalOfStep", "(II)I"⟩
abbrev c_D_refusalOfStep : Cond := .code y_D_refusalOfStep b_D_refusalOfStep 3 (some .int)
theorem hd_D_refusalOfStep : y_D_refusalOfStep.cls ≠ "java/lang/invoke/MethodHandle" ∧ y_D_refusalOfStep.cls ≠ "java/lang/invoke/VarHandle" ∧ (parseMethodDescriptor y_D_refusalOfStep.desc).map (fun d => d.parameters.length) = some 2 := by decide +kernel
abbrev b_D_carryOut : ByteArray := prog_1_method_18_code
def y_D_carryOut : MethodName := ⟨R_D, "carryOut", "(LQueueDrive$Command;I)J"⟩
abbrev c_D_carryOut : Cond := .code y_D_carryOut b_D_carryOut 3 (some .long)
theorem hd_D_carryOut : y_D_carryOut.cls ≠ "java/lang/invoke/MethodHandle" ∧ y_D_carryOut.cls ≠ "java/lang/invoke/VarHandle" ∧ (parseMethodDescriptor y_D_carryOut.desc).map (fun d => d.parameters.length) = some 2 := by decide +kernel
abbrev b_D_sumOfHeld : ByteArray := prog_1_method_19_code
def y_D_sumOfHeld : MethodName := ⟨R_D, "sumOfHeld", "(LQueueDrive$Unit;)J"⟩
abbrev c_D_sumOfHeld : Cond := .code y_D_sumOfHeld b_D_sumOfHeld 7 (some .long)
theorem hd_D_sumOfHeld : y_D_sumOfHeld.cls ≠ "java/lang/invoke/MethodHandle" ∧ y_D_sumOfHeld.cls ≠ "java/lang/invoke/VarHandle" ∧ (parseMethodDescriptor y_D_sumOfHeld.desc).map (fun d => d.parameters.length) = some 1 := by decide +kernel
abbrev b_D_mismatches : ByteArray := prog_1_method_20_code
def y_D_mismatches : MethodName := ⟨R_D, "mismatches", "(LQueueDrive$Unit;)I"⟩
abbrev c_D_mismatches : Cond := .code y_D_mismatches b_D_mismatches 4 (some .int)
theorem hd_D_mismatches : y_D_mismatches.cls ≠ "java/lang/invoke/MethodHandle" ∧ y_D_mismatches.cls ≠ "java/lang/invoke/VarHandle" ∧ (parseMethodDescriptor y_D_mismatches.desc).map (fun d => d.parameters.length) = some 1 := by decide +kernel
abbrev b_D_cacheUnit : ByteArray := prog_1_method_21_code
def y_D_cacheUnit : MethodName := ⟨R_D, "cacheUnit", "(LQueueDrive$Unit;)V"⟩
abbrev c_D_cacheUnit : Cond := .code y_D_cacheUnit b_D_cacheUnit 2 (none : Option Jvm.ClassFile.FieldType)
theorem hd_D_cacheUnit : y_D_cacheUnit.cls ≠ "java/lang/invoke/MethodHandle" ∧ y_D_cacheUnit.cls ≠ "java/lang/invoke/VarHandle" ∧ (parseMethodDescriptor y_D_cacheUnit.desc).map (fun d => d.parameters.length) = some 1 := by decide +kernel
abbrev b_D_force : ByteArray := prog_1_method_22_code
def y_D_force : MethodName := ⟨R_D, "force", "(LQueueDrive$Unit;)V"⟩
abbrev c_D_force : Cond := .code y_D_force b_D_force 2 (none : Option Jvm.ClassFile.FieldType)
theorem hd_D_force : y_D_force.cls ≠ "java/lang/invoke/MethodHandle" ∧ y_D_force.cls ≠ "java/lang/invoke/VarHandle" ∧ (parseMethodDescriptor y_D_force.desc).map (fun d => d.parameters.length) = some 1 := by decide +kernel
abbrev b_D_flush : ByteArray := prog_1_method_23_code
def y_D_flush : MethodName := ⟨R_D, "flush", "()I"⟩
abbrev c_D_flush : Cond := .code y_D_flush b_D_flush 2 (some .int)
theorem hd_D_flush : y_D_flush.cls ≠ "java/lang/invoke/MethodHandle" ∧ y_D_flush.cls ≠ "java/lang/invoke/VarHandle" ∧ (parseMethodDescriptor y_D_flush.desc).map (fun d => d.parameters.length) = some 0 := by decide +kernel
abbrev b_D_emptyCache : ByteArray := prog_1_method_24_code
def y_D_emptyCache : MethodName := ⟨R_D, "emptyCache", "()Z"⟩
abbrev c_D_emptyCache : Cond := .code y_D_emptyCache b_D_emptyCache 3 (some .boolean)
theorem hd_D_emptyCache : y_D_emptyCache.cls ≠ "java/lang/invoke/MethodHandle" ∧ y_D_emptyCache.cls ≠ "java/lang/invoke/VarHandle" ∧ (parseMethodDescriptor y_D_emptyCache.desc).map (fun d => d.parameters.length) = some 0 := by decide +kernel
abbrev b_D_storeOldest : ByteArray := prog_1_method_25_code
def y_D_storeOldest : MethodName := ⟨R_D, "storeOldest", "()Z"⟩
abbrev c_D_storeOldest : Cond := .code y_D_storeOldest b_D_storeOldest 1 (some .boolean)
theorem hd_D_storeOldest : y_D_storeOldest.cls ≠ "java/lang/invoke/MethodHandle" ∧ y_D_storeOldest.cls ≠ "java/lang/invoke/VarHandle" ∧ (parseMethodDescriptor y_D_storeOldest.desc).map (fun d => d.parameters.length) = some 0 := by decide +kernel
abbrev b_D_store : ByteArray := prog_1_method_26_code
def y_D_store : MethodName := ⟨R_D, "store", "(LQueueDrive$Unit;)Z"⟩
abbrev c_D_store : Cond := .code y_D_store b_D_store 3 (some .boolean)
theorem hd_D_store : y_D_store.cls ≠ "java/lang/invoke/MethodHandle" ∧ y_D_store.cls ≠ "java/lang/invoke/VarHandle" ∧ (parseMethodDescriptor y_D_store.desc).map (fun d => d.parameters.length) = some 1 := by decide +kernel
abbrev b_D_heldWord : ByteArray := prog_1_method_27_code
def y_D_heldWord : MethodName := ⟨R_D, "heldWord", "(I)J"⟩
abbrev c_D_heldWord : Cond := .code y_D_heldWord b_D_heldWord 3 (some .long)
theorem hd_D_heldWord : y_D_heldWord.cls ≠ "java/lang/invoke/MethodHandle" ∧ y_D_heldWord.cls ≠ "java/lang/invoke/VarHandle" ∧ (parseMethodDescriptor y_D_heldWord.desc).map (fun d => d.parameters.length) = some 1 := by decide +kernel
abbrev b_D_losePower : ByteArray := prog_1_method_28_code
def y_D_losePower : MethodName := ⟨R_D, "losePower", "()I"⟩
abbrev c_D_losePower : Cond := .code y_D_losePower b_D_losePower 2 (some .int)
theorem hd_D_losePower : y_D_losePower.cls ≠ "java/lang/invoke/MethodHandle" ∧ y_D_losePower.cls ≠ "java/lang/invoke/VarHandle" ∧ (parseMethodDescriptor y_D_losePower.desc).map (fun d => d.parameters.length) = some 0 := by decide +kernel
abbrev b_D_clearQueues : ByteArray := prog_1_method_29_code
def y_D_clearQueues : MethodName := ⟨R_D, "clearQueues", "()I"⟩
abbrev c_D_clearQueues : Cond := .code y_D_clearQueues b_D_clearQueues 3 (some .int)
theorem hd_D_clearQueues : y_D_clearQueues.cls ≠ "java/lang/invoke/MethodHandle" ∧ y_D_clearQueues.cls ≠ "java/lang/invoke/VarHandle" ∧ (parseMethodDescriptor y_D_clearQueues.desc).map (fun d => d.parameters.length) = some 0 := by decide +kernel
abbrev b_M_init : ByteArray := prog_7_method_1_code
def y_M_init : MethodName := ⟨R_M, "<init>", "(I)V"⟩
abbrev c_M_init : Cond := .code y_M_init b_M_init 2 (none : Option Jvm.ClassFile.FieldType)
theorem hd_M_init : y_M_init.cls ≠ "java/lang/invoke/MethodHandle" ∧ y_M_init.cls ≠ "java/lang/invoke/VarHandle" ∧ (parseMethodDescriptor y_M_init.desc).map (fun d => d.parameters.length) = some 1 := by decide +kernel
abbrev b_M_in : ByteArray := prog_7_method_2_code
def y_M_in : MethodName := ⟨R_M, "in", "(II)Z"⟩
abbrev c_M_in : Cond := .code y_M_in b_M_in 2 (some .boolean)
theorem hd_M_in : y_M_in.cls ≠ "java/lang/invoke/MethodHandle" ∧ y_M_in.cls ≠ "java/lang/invoke/VarHandle" ∧ (parseMethodDescriptor y_M_in.desc).map (fun d => d.parameters.length) = some 2 := by decide +kernel
abbrev b_M_inCache : ByteArray := prog_7_method_3_code
def y_M_inCache : MethodName := ⟨R_M, "inCache", "()I"⟩
abbrev c_M_inCache : Cond := .code y_M_inCache b_M_inCache 3 (some .int)
theorem hd_M_inCache : y_M_inCache.cls ≠ "java/lang/invoke/MethodHandle" ∧ y_M_inCache.cls ≠ "java/lang/invoke/VarHandle" ∧ (parseMethodDescriptor y_M_inCache.desc).map (fun d => d.parameters.length) = some 0 := by decide +kernel
abbrev b_M_wordOf : ByteArray := prog_7_method_4_code
def y_M_wordOf : MethodName := ⟨R_M, "wordOf", "(II)J"⟩
abbrev c_M_wordOf : Cond := .code y_M_wordOf b_M_wordOf 3 (some .long)
theorem hd_M_wordOf : y_M_wordOf.cls ≠ "java/lang/invoke/MethodHandle" ∧ y_M_wordOf.cls ≠ "java/lang/invoke/VarHandle" ∧ (parseMethodDescriptor y_M_wordOf.desc).map (fun d => d.parameters.length) = some 2 := by decide +kernel
abbrev b_M_covers : ByteArray := prog_7_method_5_code
def y_M_covers : MethodName := ⟨R_M, "covers", "(II)Z"⟩
abbrev c_M_covers : Cond := .code y_M_covers b_M_covers 3 (some .boolean)
theorem hd_M_covers : y_M_covers.cls ≠ "java/lang/invoke/MethodHandle" ∧ y_M_covers.cls ≠ "java/lang/invoke/VarHandle" ∧ (parseMethodDescriptor y_M_covers.desc).map (fun d => d.parameters.length) = some 2 := by decide +kernel
abbrev b_M_inFlash : ByteArray := prog_7_method_6_code
def y_M_inFlash : MethodName := ⟨R_M, "inFlash", "(I)J"⟩
abbrev c_M_inFlash : Cond := .code y_M_inFlash b_M_inFlash 4 (some .long)
theorem hd_M_inFlash : y_M_inFlash.cls ≠ "java/lang/invoke/MethodHandle" ∧ y_M_inFlash.cls ≠ "java/lang/invoke/VarHandle" ∧ (parseMethodDescriptor y_M_inFlash.desc).map (fun d => d.parameters.length) = some 1 := by decide +kernel
abbrev b_M_holds : ByteArray := prog_7_method_7_code
def y_M_holds : MethodName := ⟨R_M, "holds", "(I)J"⟩
abbrev c_M_holds : Cond := .code y_M_holds b_M_holds 3 (some .long)
theorem hd_M_holds : y_M_holds.cls ≠ "java/lang/invoke/MethodHandle" ∧ y_M_holds.cls ≠ "java/lang/invoke/VarHandle" ∧ (parseMethodDescriptor y_M_holds.desc).map (fun d => d.parameters.length) = some 1 := by decide +kernel
abbrev b_M_store : ByteArray := prog_7_method_8_code
def y_M_store : MethodName := ⟨R_M, "store", "(I)Z"⟩
abbrev c_M_store : Cond := .code y_M_store b_M_store 3 (some .boolean)
theorem hd_M_store : y_M_store.cls ≠ "java/lang/invoke/MethodHandle" ∧ y_M_store.cls ≠ "java/lang/invoke/VarHandle" ∧ (parseMethodDescriptor y_M_store.desc).map (fun d => d.parameters.length) = some 1 := by decide +kernel
abbrev b_M_storeOldest : ByteArray := prog_7_method_9_code
def y_M_storeOldest : MethodName := ⟨R_M, "storeOldest", "()Z"⟩
abbrev c_M_storeOldest : Cond := .code y_M_storeOldest b_M_storeOldest 2 (some .boolean)
theorem hd_M_storeOldest : y_M_storeOldest.cls ≠ "java/lang/invoke/MethodHandle" ∧ y_M_storeOldest.cls ≠ "java/lang/invoke/VarHandle" ∧ (parseMethodDescriptor y_M_storeOldest.desc).map (fun d => d.parameters.length) = some 0 := by decide +kernel
abbrev b_M_empty : ByteArray := prog_7_method_10_code
def y_M_empty : MethodName := ⟨R_M, "empty", "()Z"⟩
abbrev c_M_empty : Cond := .code y_M_empty b_M_empty 2 (some .boolean)
theorem hd_M_empty : y_M_empty.cls ≠ "java/lang/invoke/MethodHandle" ∧ y_M_empty.cls ≠ "java/lang/invoke/VarHandle" ∧ (parseMethodDescriptor y_M_empty.desc).map (fun d => d.parameters.length) = some 0 := by decide +kernel
abbrev b_M_make : ByteArray := prog_7_method_11_code
def y_M_make : MethodName := ⟨R_M, "make", "(I)I"⟩
abbrev c_M_make : Cond := .code y_M_make b_M_make 2 (some .int)
theorem hd_M_make : y_M_make.cls ≠ "java/lang/invoke/MethodHandle" ∧ y_M_make.cls ≠ "java/lang/invoke/VarHandle" ∧ (parseMethodDescriptor y_M_make.desc).map (fun d => d.parameters.length) = some 1 := by decide +kernel
abbrev b_M_total : ByteArray := prog_7_method_12_code
def y_M_total : MethodName := ⟨R_M, "total", "(I)J"⟩
abbrev c_M_total : Cond := .code y_M_total b_M_total 7 (some .long)
theorem hd_M_total : y_M_total.cls ≠ "java/lang/invoke/MethodHandle" ∧ y_M_total.cls ≠ "java/lang/invoke/VarHandle" ∧ (parseMethodDescriptor y_M_total.desc).map (fun d => d.parameters.length) = some 1 := by decide +kernel
abbrev b_M_differing : ByteArray := prog_7_method_13_code
def y_M_differing : MethodName := ⟨R_M, "differing", "(I)I"⟩
abbrev c_M_differing : Cond := .code y_M_differing b_M_differing 4 (some .int)
theorem hd_M_differing : y_M_differing.cls ≠ "java/lang/invoke/MethodHandle" ∧ y_M_differing.cls ≠ "java/lang/invoke/VarHandle" ∧ (parseMethodDescriptor y_M_differing.desc).map (fun d => d.parameters.length) = some 1 := by decide +kernel
abbrev b_M_work : ByteArray := prog_7_method_14_code
def y_M_work : MethodName := ⟨R_M, "work", "(I)J"⟩
abbrev c_M_work : Cond := .code y_M_work b_M_work 4 (some .long)
theorem hd_M_work : y_M_work.cls ≠ "java/lang/invoke/MethodHandle" ∧ y_M_work.cls ≠ "java/lang/invoke/VarHandle" ∧ (parseMethodDescriptor y_M_work.desc).map (fun d => d.parameters.length) = some 1 := by decide +kernel
abbrev b_M_pending : ByteArray := prog_7_method_15_code
def y_M_pending : MethodName := ⟨R_M, "pending", "(I)I"⟩
abbrev c_M_pending : Cond := .code y_M_pending b_M_pending 4 (some .int)
theorem hd_M_pending : y_M_pending.cls ≠ "java/lang/invoke/MethodHandle" ∧ y_M_pending.cls ≠ "java/lang/invoke/VarHandle" ∧ (parseMethodDescriptor y_M_pending.desc).map (fun d => d.parameters.length) = some 1 := by decide +kernel
abbrev b_M_picked : ByteArray := prog_7_method_16_code
def y_M_picked : MethodName := ⟨R_M, "picked", "(II)I"⟩
abbrev c_M_picked : Cond := .code y_M_picked b_M_picked 5 (some .int)
theorem hd_M_picked : y_M_picked.cls ≠ "java/lang/invoke/MethodHandle" ∧ y_M_picked.cls ≠ "java/lang/invoke/VarHandle" ∧ (parseMethodDescriptor y_M_picked.desc).map (fun d => d.parameters.length) = some 2 := by decide +kernel
abbrev b_M_done : ByteArray := prog_7_method_17_code
def y_M_done : MethodName := ⟨R_M, "done", "(I)I"⟩
abbrev c_M_done : Cond := .code y_M_done b_M_done 4 (some .int)
theorem hd_M_done : y_M_done.cls ≠ "java/lang/invoke/MethodHandle" ∧ y_M_done.cls ≠ "java/lang/invoke/VarHandle" ∧ (parseMethodDescriptor y_M_done.desc).map (fun d => d.parameters.length) = some 1 := by decide +kernel
abbrev b_M_submit : ByteArray := prog_7_method_18_code
def y_M_submit : MethodName := ⟨R_M, "submit", "(IIIII)I"⟩
abbrev c_M_submit : Cond := .code y_M_submit b_M_submit 6 (some .int)
theorem hd_M_submit : y_M_submit.cls ≠ "java/lang/invoke/MethodHandle" ∧ y_M_submit.cls ≠ "java/lang/invoke/VarHandle" ∧ (parseMethodDescriptor y_M_submit.desc).map (fun d => d.parameters.length) = some 5 := by decide +kernel
abbrev b_M_step : ByteArray := prog_7_method_19_code
def y_M_step : MethodName := ⟨R_M, "step", "(II)I"⟩
abbrev c_M_step : Cond := .code y_M_step b_M_step 4 (some .int)
theorem hd_M_step : y_M_step.cls ≠ "java/lang/invoke/MethodHandle" ∧ y_M_step.cls ≠ "java/lang/invoke/VarHandle" ∧ (parseMethodDescriptor y_M_step.desc).map (fun d => d.parameters.length) = some 2 := by decide +kernel
abbrev b_M_take : ByteArray := prog_7_method_20_code
def y_M_take : MethodName := ⟨R_M, "take", "(I)I"⟩
abbrev c_M_take : Cond := .code y_M_take b_M_take 3 (some .int)
theorem hd_M_take : y_M_take.cls ≠ "java/lang/invoke/MethodHandle" ∧ y_M_take.cls ≠ "java/lang/invoke/VarHandle" ∧ (parseMethodDescriptor y_M_take.desc).map (fun d => d.parameters.length) = some 1 := by decide +kernel
abbrev b_M_result : ByteArray := prog_7_method_21_code
def y_M_result : MethodName := ⟨R_M, "result", "()J"⟩
abbrev c_M_result : Cond := .code y_M_result b_M_result 1 (some .long)
theorem hd_M_result : y_M_result.cls ≠ "java/lang/invoke/MethodHandle" ∧ y_M_result.cls ≠ "java/lang/invoke/VarHandle" ∧ (parseMethodDescriptor y_M_result.desc).map (fun d => d.parameters.length) = some 0 := by decide +kernel
abbrev b_M_reset : ByteArray := prog_7_method_22_code
def y_M_reset : MethodName := ⟨R_M, "reset", "()I"⟩
abbrev c_M_reset : Cond := .code y_M_reset b_M_reset 3 (some .int)
theorem hd_M_reset : y_M_reset.cls ≠ "java/lang/invoke/MethodHandle" ∧ y_M_reset.cls ≠ "java/lang/invoke/VarHandle" ∧ (parseMethodDescriptor y_M_reset.desc).map (fun d => d.parameters.length) = some 0 := by decide +kernel
abbrev b_M_power : ByteArray := prog_7_method_23_code
def y_M_power : MethodName := ⟨R_M, "power", "()I"⟩
abbrev c_M_power : Cond := .code y_M_power b_M_power 3 (some .int)
theorem hd_M_power : y_M_power.cls ≠ "java/lang/invoke/MethodHandle" ∧ y_M_power.cls ≠ "java/lang/invoke/VarHandle" ∧ (parseMethodDescriptor y_M_power.desc).map (fun d => d.parameters.length) = some 0 := by decide +kernel
abbrev b_M_powerDuring : ByteArray := prog_7_method_24_code
def y_M_powerDuring : MethodName := ⟨R_M, "powerDuring", "(III)I"⟩
abbrev c_M_powerDuring : Cond := .code y_M_powerDuring b_M_powerDuring 8 (some .int)
theorem hd_M_powerDuring : y_M_powerDuring.cls ≠ "java/lang/invoke/MethodHandle" ∧ y_M_powerDuring.cls ≠ "java/lang/invoke/VarHandle" ∧ (parseMethodDescriptor y_M_powerDuring.desc).map (fun d => d.parameters.length) = some 3 := by decide +kernel
abbrev b_M_word : ByteArray := prog_7_method_25_code
def y_M_word : MethodName := ⟨R_M, "word", "(I)J"⟩
abbrev c_M_word : Cond := .code y_M_word b_M_word 2 (some .long)
theorem hd_M_word : y_M_word.cls ≠ "java/lang/invoke/MethodHandle" ∧ y_M_word.cls ≠ "java/lang/invoke/VarHandle" ∧ (parseMethodDescriptor y_M_word.desc).map (fun d => d.parameters.length) = some 1 := by decide +kernel
abbrev b_M_flash : ByteArray := prog_7_method_26_code
def y_M_flash : MethodName := ⟨R_M, "flash", "(I)J"⟩
abbrev c_M_flash : Cond := .code y_M_flash b_M_flash 2 (some .long)
theorem hd_M_flash : y_M_flash.cls ≠ "java/lang/invoke/MethodHandle" ∧ y_M_flash.cls ≠ "java/lang/invoke/VarHandle" ∧ (parseMethodDescriptor y_M_flash.desc).map (fun d => d.parameters.length) = some 1 := by decide +kernel
abbrev b_M_queue : ByteArray := prog_7_method_27_code
def y_M_queue : MethodName := ⟨R_M, "queue", "(II)I"⟩
abbrev c_M_queue : Cond := .code y_M_queue b_M_queue 4 (some .int)
theorem hd_M_queue : y_M_queue.cls ≠ "java/lang/invoke/MethodHandle" ∧ y_M_queue.cls ≠ "java/lang/invoke/VarHandle" ∧ (parseMethodDescriptor y_M_queue.desc).map (fun d => d.parameters.length) = some 2 := by decide +kernel
abbrev b_M_unit : ByteArray := prog_7_method_28_code
def y_M_unit : MethodName := ⟨R_M, "unit", "(II)I"⟩
abbrev c_M_unit : Cond := .code y_M_unit b_M_unit 5 (some .int)
theorem hd_M_unit : y_M_unit.cls ≠ "java/lang/invoke/MethodHandle" ∧ y_M_unit.cls ≠ "java/lang/invoke/VarHandle" ∧ (parseMethodDescriptor y_M_unit.desc).map (fun d => d.parameters.length) = some 2 := by decide +kernel
abbrev b_M_count : ByteArray := prog_7_method_29_code
def y_M_count : MethodName := ⟨R_M, "count", "(I)I"⟩
abbrev c_M_count : Cond := .code y_M_count b_M_count 2 (some .int)
theorem hd_M_count : y_M_count.cls ≠ "java/lang/invoke/MethodHandle" ∧ y_M_count.cls ≠ "java/lang/invoke/VarHandle" ∧ (parseMethodDescriptor y_M_count.desc).map (fun d => d.parameters.length) = some 1 := by decide +kernel
abbrev b_C_init : ByteArray := prog_2_method_1_code
def y_C_init : MethodName := ⟨R_C, "<init>", "(I)V"⟩
abbrev c_C_init : Cond := .code y_C_init b_C_init 3 (none : Option Jvm.ClassFile.FieldType)
theorem hd_C_init : y_C_init.cls ≠ "java/lang/invoke/MethodHandle" ∧ y_C_init.cls ≠ "java/lang/invoke/VarHandle" ∧ (parseMethodDescriptor y_C_init.desc).map (fun d => d.parameters.length) = some 1 := by decide +kernel
abbrev b_C_isFull : ByteArray := prog_2_method_2_code
def y_C_isFull : MethodName := ⟨R_C, "isFull", "()Z"⟩
abbrev c_C_isFull : Cond := .code y_C_isFull b_C_isFull 1 (some .boolean)
theorem hd_C_isFull : y_C_isFull.cls ≠ "java/lang/invoke/MethodHandle" ∧ y_C_isFull.cls ≠ "java/lang/invoke/VarHandle" ∧ (parseMethodDescriptor y_C_isFull.desc).map (fun d => d.parameters.length) = some 0 := by decide +kernel
abbrev b_C_add : ByteArray := prog_2_method_3_code
def y_C_add : MethodName := ⟨R_C, "add", "(LQueueDrive$Unit;)V"⟩
abbrev c_C_add : Cond := .code y_C_add b_C_add 2 (none : Option Jvm.ClassFile.FieldType)
theorem hd_C_add : y_C_add.cls ≠ "java/lang/invoke/MethodHandle" ∧ y_C_add.cls ≠ "java/lang/invoke/VarHandle" ∧ (parseMethodDescriptor y_C_add.desc).map (fun d => d.parameters.length) = some 1 := by decide +kernel
abbrev b_C_removeOldest : ByteArray := prog_2_method_4_code
def y_C_removeOldest : MethodName := ⟨R_C, "removeOldest", "()V"⟩
abbrev c_C_removeOldest : Cond := .code y_C_removeOldest b_C_removeOldest 3 (none : Option Jvm.ClassFile.FieldType)
theorem hd_C_removeOldest : y_C_removeOldest.cls ≠ "java/lang/invoke/MethodHandle" ∧ y_C_removeOldest.cls ≠ "java/lang/invoke/VarHandle" ∧ (parseMethodDescriptor y_C_removeOldest.desc).map (fun d => d.parameters.length) = some 0 := by decide +kernel
abbrev b_K_init : ByteArray := prog_3_method_1_code
def y_K_init : MethodName := ⟨R_K, "<init>", "()V"⟩
abbrev c_K_init : Cond := .code y_K_init b_K_init 1 (none : Option Jvm.ClassFile.FieldType)
theorem hd_K_init : y_K_init.cls ≠ "java/lang/invoke/MethodHandle" ∧ y_K_init.cls ≠ "java/lang/invoke/VarHandle" ∧ (parseMethodDescriptor y_K_init.desc).map (fun d => d.parameters.length) = some 0 := by decide +kernel
abbrev b_Q_init : ByteArray := prog_4_method_1_code
def y_Q_init : MethodName := ⟨R_Q, "<init>", "()V"⟩
abbrev c_Q_init : Cond := .code y_Q_init b_Q_init 2 (none : Option Jvm.ClassFile.FieldType)
theorem hd_Q_init : y_Q_init.cls ≠ "java/lang/invoke/MethodHandle" ∧ y_Q_init.cls ≠ "java/lang/invoke/VarHandle" ∧ (parseMethodDescriptor y_Q_init.desc).map (fun d => d.parameters.length) = some 0 := by decide +kernel
abbrev b_Q_hasPending : ByteArray := prog_4_method_2_code
def y_Q_hasPending : MethodName := ⟨R_Q, "hasPending", "(I)Z"⟩
abbrev c_Q_hasPending : Cond := .code y_Q_hasPending b_Q_hasPending 2 (some .boolean)
theorem hd_Q_hasPending : y_Q_hasPending.cls ≠ "java/lang/invoke/MethodHandle" ∧ y_Q_hasPending.cls ≠ "java/lang/invoke/VarHandle" ∧ (parseMethodDescriptor y_Q_hasPending.desc).map (fun d => d.parameters.length) = some 1 := by decide +kernel
abbrev b_Q_addPending : ByteArray := prog_4_method_3_code
def y_Q_addPending : MethodName := ⟨R_Q, "addPending", "(II)LQueueDrive$Command;"⟩
abbrev c_Q_addPending : Cond := .code y_Q_addPending b_Q_addPending 4 (some (.object "QueueDrive$Command"))
theorem hd_Q_addPending : y_Q_addPending.cls ≠ "java/lang/invoke/MethodHandle" ∧ y_Q_addPending.cls ≠ "java/lang/invoke/VarHandle" ∧ (parseMethodDescriptor y_Q_addPending.desc).map (fun d => d.parameters.length) = some 2 := by decide +kernel
abbrev b_Q_removePending : ByteArray := prog_4_method_4_code
def y_Q_removePending : MethodName := ⟨R_Q, "removePending", "(I)V"⟩
abbrev c_Q_removePending : Cond := .code y_Q_removePending b_Q_removePending 4 (none : Option Jvm.ClassFile.FieldType)
theorem hd_Q_removePending : y_Q_removePending.cls ≠ "java/lang/invoke/MethodHandle" ∧ y_Q_removePending.cls ≠ "java/lang/invoke/VarHandle" ∧ (parseMethodDescriptor y_Q_removePending.desc).map (fun d => d.parameters.length) = some 1 := by decide +kernel
abbrev b_Q_addCompletion : ByteArray := prog_4_method_5_code
def y_Q_addCompletion : MethodName := ⟨R_Q, "addCompletion", "(IJ)V"⟩
abbrev c_Q_addCompletion : Cond := .code y_Q_addCompletion b_Q_addCompletion 4 (none : Option Jvm.ClassFile.FieldType)
theorem hd_Q_addCompletion : y_Q_addCompletion.cls ≠ "java/lang/invoke/MethodHandle" ∧ y_Q_addCompletion.cls ≠ "java/lang/invoke/VarHandle" ∧ (parseMethodDescriptor y_Q_addCompletion.desc).map (fun d => d.parameters.length) = some 2 := by decide +kernel
abbrev b_Q_removeOldestCompletion : ByteArray := prog_4_method_6_code
def y_Q_removeOldestCompletion : MethodName := ⟨R_Q, "removeOldestCompletion", "()V"⟩
abbrev c_Q_removeOldestCompletion : Cond := .code y_Q_removeOldestCompletion b_Q_removeOldestCompletion 2 (none : Option Jvm.ClassFile.FieldType)
theorem hd_Q_removeOldestCompletion : y_Q_removeOldestCompletion.cls ≠ "java/lang/invoke/MethodHandle" ∧ y_Q_removeOldestCompletion.cls ≠ "java/lang/invoke/VarHandle" ∧ (parseMethodDescriptor y_Q_removeOldestCompletion.desc).map (fun d => d.parameters.length) = some 0 := by decide +kernel
abbrev b_U_init : ByteArray := prog_5_method_1_code
def y_U_init : MethodName := ⟨R_U, "<init>", "()V"⟩
abbrev c_U_init : Cond := .code y_U_init b_U_init 1 (none : Option Jvm.ClassFile.FieldType)
theorem hd_U_init : y_U_init.cls ≠ "java/lang/invoke/MethodHandle" ∧ y_U_init.cls ≠ "java/lang/invoke/VarHandle" ∧ (parseMethodDescriptor y_U_init.desc).map (fun d => d.parameters.length) = some 0 := by decide +kernel
abbrev b_U_set : ByteArray := prog_5_method_2_code
def y_U_set : MethodName := ⟨R_U, "set", "(IIIZ)V"⟩
abbrev c_U_set : Cond := .code y_U_set b_U_set 5 (none : Option Jvm.ClassFile.FieldType)
theorem hd_U_set : y_U_set.cls ≠ "java/lang/invoke/MethodHandle" ∧ y_U_set.cls ≠ "java/lang/invoke/VarHandle" ∧ (parseMethodDescriptor y_U_set.desc).map (fun d => d.parameters.length) = some 4 := by decide +kernel
abbrev b_U_covers : ByteArray := prog_5_method_3_code
def y_U_covers : MethodName := ⟨R_U, "covers", "(I)Z"⟩
abbrev c_U_covers : Cond := .code y_U_covers b_U_covers 2 (some .boolean)
theorem hd_U_covers : y_U_covers.cls ≠ "java/lang/invoke/MethodHandle" ∧ y_U_covers.cls ≠ "java/lang/invoke/VarHandle" ∧ (parseMethodDescriptor y_U_covers.desc).map (fun d => d.parameters.length) = some 1 := by decide +kernel
abbrev b_U_wordAt : ByteArray := prog_5_method_4_code
def y_U_wordAt : MethodName := ⟨R_U, "wordAt", "(I)J"⟩
abbrev c_U_wordAt : Cond := .code y_U_wordAt b_U_wordAt 3 (some .long)
theorem hd_U_wordAt : y_U_wordAt.cls ≠ "java/lang/invoke/MethodHandle" ∧ y_U_wordAt.cls ≠ "java/lang/invoke/VarHandle" ∧ (parseMethodDescriptor y_U_wordAt.desc).map (fun d => d.parameters.length) = some 1 := by decide +kernel
abbrev b_L_cell : ByteArray := method_2_code
def y_L_cell : MethodName := ⟨R_L, "cell", "([II)I"⟩
abbrev c_L_cell : Cond := .code y_L_cell b_L_cell 2 (some .int)
theorem hd_L_cell : y_L_cell.cls ≠ "java/lang/invoke/MethodHandle" ∧ y_L_cell.cls ≠ "java/lang/invoke/VarHandle" ∧ (parseMethodDescriptor y_L_cell.desc).map (fun d => d.parameters.length) = some 2 := by decide +kernel
end
section
/-! The words of the tables, each by its place -/
theorem k_0 : (Jvm.Cond.initialized "QueueDriveLaw") ∈ TB := tb_t 0 (by decide +kernel) (by decide +kernel)
theorem k_1 : (Jvm.Cond.initialized "QueueDrive") ∈ TB := tb_t 1 (by decide +kernel) (by decide +kernel)
theorem k_2 : (Jvm.Cond.initialized "QueueDrive$Cache") ∈ TB := tb_t 2 (by decide +kernel) (by decide +kernel)
theorem k_3 : (Jvm.Cond.initialized "java/lang/Math") ∈ TB := tb_t 3 (by decide +kernel) (by decide +kernel)
theorem k_4 : (Jvm.Cond.initialized "QueueDrive$Unit") ∈ TB := tb_t 4 (by decide +kernel) (by decide +kernel)
theorem k_5 : (Jvm.Cond.initialized "QueueDrive$CommandQueue") ∈ TB := tb_t 5 (by decide +kernel) (by decide +kernel)
theorem k_6 : (Jvm.Cond.initialized "QueueDrive$Command") ∈ TB := tb_t 6 (by decide +kernel) (by decide +kernel)
theorem k_7 : (Jvm.Cond.initialized "QueueDriveModel") ∈ TB := tb_t 7 (by decide +kernel) (by decide +kernel)
theorem k_8 : (Jvm.Cond.classLink "QueueDriveLaw" (7 : Nat) "QueueDrive") ∈ TB := tb_t 8 (by decide +kernel) (by decide +kernel)
theorem k_9 : (Jvm.Cond.instantiable "QueueDrive" (9 : Nat)) ∈ TB := tb_t 9 (by decide +kernel) (by decide +kernel)
theorem k_10 : (Jvm.Cond.methodLink "QueueDriveLaw" (15 : Nat) ({ cls := "QueueDrive", name := "<init>", desc := "(I)V" } : Jvm.MethodName)) ∈ TB := tb_t 10 (by decide +kernel) (by decide +kernel)
theorem k_11 : (Jvm.Cond.instanceMethod ({ cls := "QueueDrive", name := "<init>", desc := "(I)V" } : Jvm.MethodName)) ∈ TB := tb_t 11 (by decide +kernel) (by decide +kernel)
theorem k_12 : (Jvm.Cond.code ({ cls := "QueueDrive", name := "<init>", desc := "(I)V" } : Jvm.MethodName) prog_1_method_1_code (3 : Nat) (Option.none : Option Jvm.ClassFile.FieldType)) ∈ TB := tb_t 12 (by decide +kernel) (by decide +kernel)
theorem k_13 : (Jvm.Cond.methodLink "QueueDrive" (3 : Nat) ({ cls := "java/lang/Object", name := "<init>", desc := "()V" } : Jvm.MethodName)) ∈ TB := tb_t 13 (by decide +kernel) (by decide +kernel)
theorem k_14 : (Jvm.Cond.instanceMethod ({ cls := "java/lang/Object", name := "<init>", desc := "()V" } : Jvm.MethodName)) ∈ TB := tb_t 14 (by decide +kernel) (by decide +kernel)
theorem k_15 : (Jvm.Cond.code ({ cls := "java/lang/Object", name := "<init>", desc := "()V" } : Jvm.MethodName) object_method_1_code (1 : Nat) (Option.none : Option Jvm.ClassFile.FieldType)) ∈ TB := tb_t 15 (by decide +kernel) (by decide +kernel)
theorem k_16 : (Jvm.Cond.constantLong "QueueDrive" (13 : Nat) (-1000000000000 : Int64)) ∈ TB := tb_t 16 (by decide +kernel) (by decide +kernel)
theorem k_17 : (Jvm.Cond.classLink "QueueDrive" (15 : Nat) "QueueDrive$Cache") ∈ TB := tb_t 17 (by decide +kernel) (by decide +kernel)
theorem k_18 : (Jvm.Cond.instantiable "QueueDrive$Cache" (2 : Nat)) ∈ TB := tb_t 18 (by decide +kernel) (by decide +kernel)
theorem k_19 : (Jvm.Cond.methodLink "QueueDrive" (17 : Nat) ({ cls := "java/lang/Math", name := "min", desc := "(II)I" } : Jvm.MethodName)) ∈ TB := tb_t 19 (by decide +kernel) (by decide +kernel)
theorem k_20 : (Jvm.Cond.static ({ cls := "java/lang/Math", name := "min", desc := "(II)I" } : Jvm.MethodName)) ∈ TB := tb_t 20 (by decide +kernel) (by decide +kernel)
theorem k_21 : (Jvm.Cond.code ({ cls := "java/lang/Math", name := "min", desc := "(II)I" } : Jvm.MethodName) prog_8_method_69_code (2 : Nat) (Option.some Jvm.ClassFile.FieldType.int)) ∈ TB := tb_t 21 (by decide +kernel) (by decide +kernel)
theorem k_22 : (Jvm.Cond.methodLink "QueueDrive" (23 : Nat) ({ cls := "java/lang/Math", name := "max", desc := "(II)I" } : Jvm.MethodName)) ∈ TB := tb_t 22 (by decide +kernel) (by decide +kernel)
theorem k_23 : (Jvm.Cond.static ({ cls := "java/lang/Math", name := "max", desc := "(II)I" } : Jvm.MethodName)) ∈ TB := tb_t 23 (by decide +kernel) (by decide +kernel)
theorem k_24 : (Jvm.Cond.code ({ cls := "java/lang/Math", name := "max", desc := "(II)I" } : Jvm.MethodName) prog_8_method_65_code (2 : Nat) (Option.some Jvm.ClassFile.FieldType.int)) ∈ TB := tb_t 24 (by decide +kernel) (by decide +kernel)
theorem k_25 : (Jvm.Cond.methodLink "QueueDrive" (26 : Nat) ({ cls := "QueueDrive$Cache", name := "<init>", desc := "(I)V" } : Jvm.MethodName)) ∈ TB := tb_t 25 (by decide +kernel) (by decide +kernel)
theorem k_26 : (Jvm.Cond.instanceMethod ({ cls := "QueueDrive$Cache", name := "<init>", desc := "(I)V" } : Jvm.MethodName)) ∈ TB := tb_t 26 (by decide +kernel) (by decide +kernel)
theorem k_27 : (Jvm.Cond.code ({ cls := "QueueDrive$Cache", name := "<init>", desc := "(I)V" } : Jvm.MethodName) prog_2_method_1_code (3 : Nat) (Option.none : Option Jvm.ClassFile.FieldType)) ∈ TB := tb_t 27 (by decide +kernel) (by decide +kernel)
theorem k_28 : (Jvm.Cond.methodLink "QueueDrive$Cache" (1 : Nat) ({ cls := "java/lang/Object", name := "<init>", desc := "()V" } : Jvm.MethodName)) ∈ TB := tb_t 28 (by decide +kernel) (by decide +kernel)
theorem k_29 : (Jvm.Cond.classLink "QueueDrive$Cache" (7 : Nat) "QueueDrive$Unit") ∈ TB := tb_t 29 (by decide +kernel) (by decide +kernel)
theorem k_30 : (Jvm.Cond.arrayOver (Jvm.ClassFile.FieldType.object "QueueDrive$Unit")) ∈ lw_tbl := tb_x 30 (by decide +kernel)
theorem k_31 : (Jvm.Cond.instantiable "QueueDrive$Unit" (4 : Nat)) ∈ TB := tb_t 31 (by decide +kernel) (by decide +kernel)
theorem k_32 : (Jvm.Cond.methodLinkNest "QueueDrive$Cache" (15 : Nat) ({ cls := "QueueDrive$Unit", name := "<init>", desc := "()V" } : Jvm.MethodName) "QueueDrive") ∈ lw_tbl := tb_x 32 (by decide +kernel)
theorem k_33 : (Jvm.Cond.instanceMethod ({ cls := "QueueDrive$Unit", name := "<init>", desc := "()V" } : Jvm.MethodName)) ∈ TB := tb_t 33 (by decide +kernel) (by decide +kernel)
theorem k_34 : (Jvm.Cond.code ({ cls := "QueueDrive$Unit", name := "<init>", desc := "()V" } : Jvm.MethodName) prog_5_method_1_code (1 : Nat) (Option.none : Option Jvm.ClassFile.FieldType)) ∈ TB := tb_t 34 (by decide +kernel) (by decide +kernel)
theorem k_35 : (Jvm.Cond.methodLink "QueueDrive$Unit" (3 : Nat) ({ cls := "java/lang/Object", name := "<init>", desc := "()V" } : Jvm.MethodName)) ∈ TB := tb_t 35 (by decide +kernel) (by decide +kernel)
theorem k_36 : (Jvm.Cond.fieldLink "QueueDrive$Unit" (9 : Nat) "QueueDrive$Unit" "first" "I") ∈ TB := tb_t 36 (by decide +kernel) (by decide +kernel)
theorem k_37 : (Jvm.Cond.fieldLink "QueueDrive$Cache" (24 : Nat) "QueueDrive$Unit" "first" "I") ∈ TB := tb_t 37 (by decide +kernel) (by decide +kernel)
theorem k_38 : (Jvm.Cond.fieldLink "QueueDrive" (139 : Nat) "QueueDrive$Unit" "first" "I") ∈ TB := tb_t 38 (by decide +kernel) (by decide +kernel)
theorem k_39 : (Jvm.Cond.fieldLink "QueueDrive$Unit" (15 : Nat) "QueueDrive$Unit" "length" "I") ∈ TB := tb_t 39 (by decide +kernel) (by decide +kernel)
theorem k_40 : (Jvm.Cond.fieldLink "QueueDrive$Cache" (27 : Nat) "QueueDrive$Unit" "length" "I") ∈ TB := tb_t 40 (by decide +kernel) (by decide +kernel)
theorem k_41 : (Jvm.Cond.fieldLink "QueueDrive" (142 : Nat) "QueueDrive$Unit" "length" "I") ∈ TB := tb_t 41 (by decide +kernel) (by decide +kernel)
theorem k_42 : (Jvm.Cond.fieldLink "QueueDrive$Unit" (18 : Nat) "QueueDrive$Unit" "value" "I") ∈ TB := tb_t 42 (by decide +kernel) (by decide +kernel)
theorem k_43 : (Jvm.Cond.fieldLink "QueueDrive$Cache" (30 : Nat) "QueueDrive$Unit" "value" "I") ∈ TB := tb_t 43 (by decide +kernel) (by decide +kernel)
theorem k_44 : (Jvm.Cond.fieldLink "QueueDrive$Unit" (21 : Nat) "QueueDrive$Unit" "takesAway" "Z") ∈ TB := tb_t 44 (by decide +kernel) (by decide +kernel)
theorem k_45 : (Jvm.Cond.fieldLink "QueueDrive$Cache" (33 : Nat) "QueueDrive$Unit" "takesAway" "Z") ∈ TB := tb_t 45 (by decide +kernel) (by decide +kernel)
theorem k_46 : (Jvm.Cond.fieldLink "QueueDrive" (145 : Nat) "QueueDrive$Unit" "takesAway" "Z") ∈ TB := tb_t 46 (by decide +kernel) (by decide +kernel)
theorem k_56 : (Jvm.Cond.arrayClass Jvm.ClassFile.FieldType.long) ∈ TB := tb_t 56 (by decide +kernel) (by decide +kernel)
theorem k_57 : (Jvm.Cond.fieldLink "QueueDrive$Cache" (9 : Nat) "QueueDrive$Cache" "units" "[LQueueDrive$Unit;") ∈ TB := tb_t 57 (by decide +kernel) (by decide +kernel)
theorem k_58 : (Jvm.Cond.fieldLink "QueueDrive" (135 : Nat) "QueueDrive$Cache" "units" "[LQueueDrive$Unit;") ∈ TB := tb_t 58 (by decide +kernel) (by decide +kernel)
theorem k_59 : (Jvm.Cond.fieldLink "QueueDrive$Cache" (16 : Nat) "QueueDrive$Cache" "size" "I") ∈ TB := tb_t 59 (by decide +kernel) (by decide +kernel)
theorem k_60 : (Jvm.Cond.fieldLink "QueueDrive" (132 : Nat) "QueueDrive$Cache" "size" "I") ∈ TB := tb_t 60 (by decide +kernel) (by decide +kernel)
theorem k_66 : (Jvm.Cond.classLink "QueueDrive" (33 : Nat) "QueueDrive$CommandQueue") ∈ TB := tb_t 66 (by decide +kernel) (by decide +kernel)
theorem k_67 : (Jvm.Cond.arrayOver (Jvm.ClassFile.FieldType.object "QueueDrive$CommandQueue")) ∈ lw_tbl := tb_x 67 (by decide +kernel)
theorem k_68 : (Jvm.Cond.instantiable "QueueDrive$CommandQueue" (5 : Nat)) ∈ TB := tb_t 68 (by decide +kernel) (by decide +kernel)
theorem k_69 : (Jvm.Cond.methodLink "QueueDrive" (39 : Nat) ({ cls := "QueueDrive$CommandQueue", name := "<init>", desc := "()V" } : Jvm.MethodName)) ∈ TB := tb_t 69 (by decide +kernel) (by decide +kernel)
theorem k_70 : (Jvm.Cond.instanceMethod ({ cls := "QueueDrive$CommandQueue", name := "<init>", desc := "()V" } : Jvm.MethodName)) ∈ TB := tb_t 70 (by decide +kernel) (by decide +kernel)
theorem k_71 : (Jvm.Cond.code ({ cls := "QueueDrive$CommandQueue", name := "<init>", desc := "()V" } : Jvm.MethodName) prog_4_method_1_code (2 : Nat) (Option.none : Option Jvm.ClassFile.FieldType)) ∈ TB := tb_t 71 (by decide +kernel) (by decide +kernel)
theorem k_72 : (Jvm.Cond.methodLink "QueueDrive$CommandQueue" (3 : Nat) ({ cls := "java/lang/Object", name := "<init>", desc := "()V" } : Jvm.MethodName)) ∈ TB := tb_t 72 (by decide +kernel) (by decide +kernel)
theorem k_73 : (Jvm.Cond.classLink "QueueDrive$CommandQueue" (9 : Nat) "QueueDrive$Command") ∈ TB := tb_t 73 (by decide +kernel) (by decide +kernel)
theorem k_74 : (Jvm.Cond.arrayOver (Jvm.ClassFile.FieldType.object "QueueDrive$Command")) ∈ lw_tbl := tb_x 74 (by decide +kernel)
theorem k_75 : (Jvm.Cond.instantiable "QueueDrive$Command" (3 : Nat)) ∈ TB := tb_t 75 (by decide +kernel) (by decide +kernel)
theorem k_76 : (Jvm.Cond.methodLinkNest "QueueDrive$CommandQueue" (17 : Nat) ({ cls := "QueueDrive$Command", name := "<init>", desc := "()V" } : Jvm.MethodName) "QueueDrive") ∈ lw_tbl := tb_x 76 (by decide +kernel)
theorem k_77 : (Jvm.Cond.instanceMethod ({ cls := "QueueDrive$Command", name := "<init>", desc := "()V" } : Jvm.MethodName)) ∈ TB := tb_t 77 (by decide +kernel) (by decide +kernel)
theorem k_78 : (Jvm.Cond.code ({ cls := "QueueDrive$Command", name := "<init>", desc := "()V" } : Jvm.MethodName) prog_3_method_1_code (1 : Nat) (Option.none : Option Jvm.ClassFile.FieldType)) ∈ TB := tb_t 78 (by decide +kernel) (by decide +kernel)
theorem k_79 : (Jvm.Cond.methodLink "QueueDrive$Command" (1 : Nat) ({ cls := "java/lang/Object", name := "<init>", desc := "()V" } : Jvm.MethodName)) ∈ TB := tb_t 79 (by decide +kernel) (by decide +kernel)
theorem k_80 : (Jvm.Cond.classLink "QueueDrive$Command" (7 : Nat) "QueueDrive$Unit") ∈ TB := tb_t 80 (by decide +kernel) (by decide +kernel)
theorem k_81 : (Jvm.Cond.methodLinkNest "QueueDrive$Command" (9 : Nat) ({ cls := "QueueDrive$Unit", name := "<init>", desc := "()V" } : Jvm.MethodName) "QueueDrive") ∈ lw_tbl := tb_x 81 (by decide +kernel)
theorem k_82 : (Jvm.Cond.fieldLink "QueueDrive$Command" (10 : Nat) "QueueDrive$Command" "unit" "LQueueDrive$Unit;") ∈ TB := tb_t 82 (by decide +kernel) (by decide +kernel)
theorem k_83 : (Jvm.Cond.fieldLink "QueueDrive" (63 : Nat) "QueueDrive$Command" "unit" "LQueueDrive$Unit;") ∈ TB := tb_t 83 (by decide +kernel) (by decide +kernel)
theorem k_84 : (Jvm.Cond.fieldLink "QueueDrive$CommandQueue" (30 : Nat) "QueueDrive$Command" "number" "I") ∈ TB := tb_t 84 (by decide +kernel) (by decide +kernel)
theorem k_85 : (Jvm.Cond.fieldLink "QueueDrive" (89 : Nat) "QueueDrive$Command" "number" "I") ∈ TB := tb_t 85 (by decide +kernel) (by decide +kernel)
theorem k_86 : (Jvm.Cond.fieldLink "QueueDrive$CommandQueue" (33 : Nat) "QueueDrive$Command" "kind" "I") ∈ TB := tb_t 86 (by decide +kernel) (by decide +kernel)
theorem k_87 : (Jvm.Cond.fieldLink "QueueDrive" (155 : Nat) "QueueDrive$Command" "kind" "I") ∈ TB := tb_t 87 (by decide +kernel) (by decide +kernel)
theorem k_95 : (Jvm.Cond.fieldLink "QueueDrive$CommandQueue" (11 : Nat) "QueueDrive$CommandQueue" "pending" "[LQueueDrive$Command;") ∈ TB := tb_t 95 (by decide +kernel) (by decide +kernel)
theorem k_96 : (Jvm.Cond.fieldLink "QueueDrive" (78 : Nat) "QueueDrive$CommandQueue" "pending" "[LQueueDrive$Command;") ∈ TB := tb_t 96 (by decide +kernel) (by decide +kernel)
theorem k_97 : (Jvm.Cond.fieldLink "QueueDrive$CommandQueue" (18 : Nat) "QueueDrive$CommandQueue" "completedNumbers" "[I") ∈ TB := tb_t 97 (by decide +kernel) (by decide +kernel)
theorem k_98 : (Jvm.Cond.fieldLink "QueueDrive" (99 : Nat) "QueueDrive$CommandQueue" "completedNumbers" "[I") ∈ TB := tb_t 98 (by decide +kernel) (by decide +kernel)
theorem k_99 : (Jvm.Cond.fieldLink "QueueDrive$CommandQueue" (22 : Nat) "QueueDrive$CommandQueue" "completedResults" "[J") ∈ TB := tb_t 99 (by decide +kernel) (by decide +kernel)
theorem k_100 : (Jvm.Cond.fieldLink "QueueDrive" (106 : Nat) "QueueDrive$CommandQueue" "completedResults" "[J") ∈ TB := tb_t 100 (by decide +kernel) (by decide +kernel)
theorem k_101 : (Jvm.Cond.fieldLink "QueueDrive$CommandQueue" (26 : Nat) "QueueDrive$CommandQueue" "pendingCount" "I") ∈ TB := tb_t 101 (by decide +kernel) (by decide +kernel)
theorem k_102 : (Jvm.Cond.fieldLink "QueueDrive" (52 : Nat) "QueueDrive$CommandQueue" "pendingCount" "I") ∈ TB := tb_t 102 (by decide +kernel) (by decide +kernel)
theorem k_103 : (Jvm.Cond.fieldLink "QueueDrive" (96 : Nat) "QueueDrive$CommandQueue" "completionCount" "I") ∈ TB := tb_t 103 (by decide +kernel) (by decide +kernel)
theorem k_104 : (Jvm.Cond.fieldLink "QueueDrive$CommandQueue" (40 : Nat) "QueueDrive$CommandQueue" "completionCount" "I") ∈ TB := tb_t 104 (by decide +kernel) (by decide +kernel)
theorem k_116 : (Jvm.Cond.arrayClass Jvm.ClassFile.FieldType.int) ∈ TB := tb_t 116 (by decide +kernel) (by decide +kernel)
theorem k_117 : (Jvm.Cond.fieldLink "QueueDrive" (9 : Nat) "QueueDrive" "flashWords" "[J") ∈ TB := tb_t 117 (by decide +kernel) (by decide +kernel)
theorem k_118 : (Jvm.Cond.fieldLink "QueueDrive" (29 : Nat) "QueueDrive" "cache" "LQueueDrive$Cache;") ∈ TB := tb_t 118 (by decide +kernel) (by decide +kernel)
theorem k_119 : (Jvm.Cond.fieldLink "QueueDrive" (35 : Nat) "QueueDrive" "queues" "[LQueueDrive$CommandQueue;") ∈ TB := tb_t 119 (by decide +kernel) (by decide +kernel)
theorem k_120 : (Jvm.Cond.fieldLink "QueueDrive" (56 : Nat) "QueueDrive" "latestNumber" "I") ∈ TB := tb_t 120 (by decide +kernel) (by decide +kernel)
theorem k_121 : (Jvm.Cond.fieldLink "QueueDrive" (103 : Nat) "QueueDrive" "takenNumber" "I") ∈ TB := tb_t 121 (by decide +kernel) (by decide +kernel)
theorem k_122 : (Jvm.Cond.fieldLink "QueueDrive" (40 : Nat) "QueueDrive" "takenResult" "J") ∈ TB := tb_t 122 (by decide +kernel) (by decide +kernel)
theorem k_123 : (Jvm.Cond.fieldLink "QueueDrive" (149 : Nat) "QueueDrive" "unitsStored" "I") ∈ TB := tb_t 123 (by decide +kernel) (by decide +kernel)
theorem k_124 : (Jvm.Cond.fieldLink "QueueDrive" (152 : Nat) "QueueDrive" "pagesWritten" "I") ∈ TB := tb_t 124 (by decide +kernel) (by decide +kernel)
theorem k_125 : (Jvm.Cond.fieldLink "QueueDrive" (119 : Nat) "QueueDrive" "pagesLeft" "I") ∈ TB := tb_t 125 (by decide +kernel) (by decide +kernel)
theorem k_145 : (Jvm.Cond.methodLink "QueueDriveLaw" (21 : Nat) ({ cls := "QueueDrive", name := "submit", desc := "(IIIII)I" } : Jvm.MethodName)) ∈ TB := tb_t 145 (by decide +kernel) (by decide +kernel)
theorem k_146 : (Jvm.Cond.instanceMethod ({ cls := "QueueDrive", name := "submit", desc := "(IIIII)I" } : Jvm.MethodName)) ∈ TB := tb_t 146 (by decide +kernel) (by decide +kernel)
theorem k_147 : (Jvm.Cond.selects "QueueDrive" ({ cls := "QueueDrive", name := "submit", desc := "(IIIII)I" } : Jvm.MethodName) ({ cls := "QueueDrive", name := "submit", desc := "(IIIII)I" } : Jvm.MethodName)) ∈ TB := tb_t 147 (by decide +kernel) (by decide +kernel)
theorem k_148 : (Jvm.Cond.code ({ cls := "QueueDrive", name := "submit", desc := "(IIIII)I" } : Jvm.MethodName) prog_1_method_2_code (8 : Nat) (Option.some Jvm.ClassFile.FieldType.int)) ∈ TB := tb_t 148 (by decide +kernel) (by decide +kernel)
theorem k_149 : (Jvm.Cond.methodLink "QueueDrive" (44 : Nat) ({ cls := "QueueDrive", name := "isQueue", desc := "(I)Z" } : Jvm.MethodName)) ∈ TB := tb_t 149 (by decide +kernel) (by decide +kernel)
theorem k_150 : (Jvm.Cond.static ({ cls := "QueueDrive", name := "isQueue", desc := "(I)Z" } : Jvm.MethodName)) ∈ TB := tb_t 150 (by decide +kernel) (by decide +kernel)
theorem k_151 : (Jvm.Cond.code ({ cls := "QueueDrive", name := "isQueue", desc := "(I)Z" } : Jvm.MethodName) prog_1_method_14_code (1 : Nat) (Option.some Jvm.ClassFile.FieldType.boolean)) ∈ TB := tb_t 151 (by decide +kernel) (by decide +kernel)
theorem k_152 : (Jvm.Cond.methodLink "QueueDrive" (48 : Nat) ({ cls := "QueueDrive", name := "areAddresses", desc := "(II)Z" } : Jvm.MethodName)) ∈ TB := tb_t 152 (by decide +kernel) (by decide +kernel)
theorem k_153 : (Jvm.Cond.static ({ cls := "QueueDrive", name := "areAddresses", desc := "(II)Z" } : Jvm.MethodName)) ∈ TB := tb_t 153 (by decide +kernel) (by decide +kernel)
theorem k_154 : (Jvm.Cond.code ({ cls := "QueueDrive", name := "areAddresses", desc := "(II)Z" } : Jvm.MethodName) prog_1_method_16_code (2 : Nat) (Option.some Jvm.ClassFile.FieldType.boolean)) ∈ TB := tb_t 154 (by decide +kernel) (by decide +kernel)
theorem k_155 : (Jvm.Cond.methodLink "QueueDrive" (59 : Nat) ({ cls := "QueueDrive$CommandQueue", name := "addPending", desc := "(II)LQueueDrive$Command;" } : Jvm.MethodName)) ∈ TB := tb_t 155 (by decide +kernel) (by decide +kernel)
theorem k_156 : (Jvm.Cond.instanceMethod ({ cls := "QueueDrive$CommandQueue", name := "addPending", desc := "(II)LQueueDrive$Command;" } : Jvm.MethodName)) ∈ TB := tb_t 156 (by decide +kernel) (by decide +kernel)
theorem k_157 : (Jvm.Cond.selects "QueueDrive$CommandQueue" ({ cls := "QueueDrive$CommandQueue", name := "addPending", desc := "(II)LQueueDrive$Command;" } : Jvm.MethodName) ({ cls := "QueueDrive$CommandQueue", name := "addPending", desc := "(II)LQueueDrive$Command;" } : Jvm.MethodName)) ∈ TB := tb_t 157 (by decide +kernel) (by decide +kernel)
theorem k_158 : (Jvm.Cond.code ({ cls := "QueueDrive$CommandQueue", name := "addPending", desc := "(II)LQueueDrive$Command;" } : Jvm.MethodName) prog_4_method_3_code (4 : Nat) (Option.some (Jvm.ClassFile.FieldType.object "QueueDrive$Command"))) ∈ TB := tb_t 158 (by decide +kernel) (by decide +kernel)
theorem k_159 : (Jvm.Cond.methodLink "QueueDrive" (69 : Nat) ({ cls := "QueueDrive$Unit", name := "set", desc := "(IIIZ)V" } : Jvm.MethodName)) ∈ TB := tb_t 159 (by decide +kernel) (by decide +kernel)
theorem k_160 : (Jvm.Cond.instanceMethod ({ cls := "QueueDrive$Unit", name := "set", desc := "(IIIZ)V" } : Jvm.MethodName)) ∈ TB := tb_t 160 (by decide +kernel) (by decide +kernel)
theorem k_161 : (Jvm.Cond.selects "QueueDrive$Unit" ({ cls := "QueueDrive$Unit", name := "set", desc := "(IIIZ)V" } : Jvm.MethodName) ({ cls := "QueueDrive$Unit", name := "set", desc := "(IIIZ)V" } : Jvm.MethodName)) ∈ TB := tb_t 161 (by decide +kernel) (by decide +kernel)
theorem k_162 : (Jvm.Cond.code ({ cls := "QueueDrive$Unit", name := "set", desc := "(IIIZ)V" } : Jvm.MethodName) prog_5_method_2_code (5 : Nat) (Option.none : Option Jvm.ClassFile.FieldType)) ∈ TB := tb_t 162 (by decide +kernel) (by decide +kernel)
theorem k_163 : (Jvm.Cond.methodLink "QueueDriveLaw" (26 : Nat) ({ cls := "QueueDrive", name := "step", desc := "(II)I" } : Jvm.MethodName)) ∈ TB := tb_t 163 (by decide +kernel) (by decide +kernel)
theorem k_164 : (Jvm.Cond.instanceMethod ({ cls := "QueueDrive", name := "step", desc := "(II)I" } : Jvm.MethodName)) ∈ TB := tb_t 164 (by decide +kernel) (by decide +kernel)
theorem k_165 : (Jvm.Cond.selects "QueueDrive" ({ cls := "QueueDrive", name := "step", desc := "(II)I" } : Jvm.MethodName) ({ cls := "QueueDrive", name := "step", desc := "(II)I" } : Jvm.MethodName)) ∈ TB := tb_t 165 (by decide +kernel) (by decide +kernel)
theorem k_166 : (Jvm.Cond.code ({ cls := "QueueDrive", name := "step", desc := "(II)I" } : Jvm.MethodName) prog_1_method_3_code (8 : Nat) (Option.some Jvm.ClassFile.FieldType.int)) ∈ TB := tb_t 166 (by decide +kernel) (by decide +kernel)
theorem k_167 : (Jvm.Cond.methodLink "QueueDrive" (75 : Nat) ({ cls := "QueueDrive", name := "refusalOfStep", desc := "(II)I" } : Jvm.MethodName)) ∈ TB := tb_t 167 (by decide +kernel) (by decide +kernel)
theorem k_169 : (Jvm.Cond.instanceMethod ({ cls := "QueueDrive", name := "refusalOfStep", desc := "(II)I" } : Jvm.MethodName)) ∈ TB := tb_t 169 (by decide +kernel) (by decide +kernel)
theorem k_170 : (Jvm.Cond.code ({ cls := "QueueDrive", name := "refusalOfStep", desc := "(II)I" } : Jvm.MethodName) prog_1_method_17_code (3 : Nat) (Option.some Jvm.ClassFile.FieldType.int)) ∈ TB := tb_t 170 (by decide +kernel) (by decide +kernel)
theorem k_171 : (Jvm.Cond.methodLink "QueueDrive" (129 : Nat) ({ cls := "QueueDrive$CommandQueue", name := "hasPending", desc := "(I)Z" } : Jvm.MethodName)) ∈ TB := tb_t 171 (by decide +kernel) (by decide +kernel)
theorem k_172 : (Jvm.Cond.instanceMethod ({ cls := "QueueDrive$CommandQueue", name := "hasPending", desc := "(I)Z" } : Jvm.MethodName)) ∈ TB := tb_t 172 (by decide +kernel) (by decide +kernel)
theorem k_173 : (Jvm.Cond.selects "QueueDrive$CommandQueue" ({ cls := "QueueDrive$CommandQueue", name := "hasPending", desc := "(I)Z" } : Jvm.MethodName) ({ cls := "QueueDrive$CommandQueue", name := "hasPending", desc := "(I)Z" } : Jvm.MethodName)) ∈ TB := tb_t 173 (by decide +kernel) (by decide +kernel)
theorem k_174 : (Jvm.Cond.code ({ cls := "QueueDrive$CommandQueue", name := "hasPending", desc := "(I)Z" } : Jvm.MethodName) prog_4_method_2_code (2 : Nat) (Option.some Jvm.ClassFile.FieldType.boolean)) ∈ TB := tb_t 174 (by decide +kernel) (by decide +kernel)
theorem k_175 : (Jvm.Cond.methodLink "QueueDrive" (82 : Nat) ({ cls := "QueueDrive", name := "carryOut", desc := "(LQueueDrive$Command;I)J" } : Jvm.MethodName)) ∈ TB := tb_t 175 (by decide +kernel) (by decide +kernel)
theorem k_177 : (Jvm.Cond.instanceMethod ({ cls := "QueueDrive", name := "carryOut", desc := "(LQueueDrive$Command;I)J" } : Jvm.MethodName)) ∈ TB := tb_t 177 (by decide +kernel) (by decide +kernel)
theorem k_178 : (Jvm.Cond.code ({ cls := "QueueDrive", name := "carryOut", desc := "(LQueueDrive$Command;I)J" } : Jvm.MethodName) prog_1_method_18_code (3 : Nat) (Option.some Jvm.ClassFile.FieldType.long)) ∈ TB := tb_t 178 (by decide +kernel) (by decide +kernel)
theorem k_179 : (Jvm.Cond.methodLink "QueueDrive" (158 : Nat) ({ cls := "QueueDrive", name := "sumOfHeld", desc := "(LQueueDrive$Unit;)J" } : Jvm.MethodName)) ∈ TB := tb_t 179 (by decide +kernel) (by decide +kernel)
theorem k_181 : (Jvm.Cond.instanceMethod ({ cls := "QueueDrive", name := "sumOfHeld", desc := "(LQueueDrive$Unit;)J" } : Jvm.MethodName)) ∈ TB := tb_t 181 (by decide +kernel) (by decide +kernel)
theorem k_182 : (Jvm.Cond.code ({ cls := "QueueDrive", name := "sumOfHeld", desc := "(LQueueDrive$Unit;)J" } : Jvm.MethodName) prog_1_method_19_code (7 : Nat) (Option.some Jvm.ClassFile.FieldType.long)) ∈ TB := tb_t 182 (by decide +kernel) (by decide +kernel)
theorem k_183 : (Jvm.Cond.methodLink "QueueDrive" (125 : Nat) ({ cls := "QueueDrive", name := "heldWord", desc := "(I)J" } : Jvm.MethodName)) ∈ TB := tb_t 183 (by decide +kernel) (by decide +kernel)
theorem k_185 : (Jvm.Cond.instanceMethod ({ cls := "QueueDrive", name := "heldWord", desc := "(I)J" } : Jvm.MethodName)) ∈ TB := tb_t 185 (by decide +kernel) (by decide +kernel)
theorem k_186 : (Jvm.Cond.code ({ cls := "QueueDrive", name := "heldWord", desc := "(I)J" } : Jvm.MethodName) prog_1_method_27_code (3 : Nat) (Option.some Jvm.ClassFile.FieldType.long)) ∈ TB := tb_t 186 (by decide +kernel) (by decide +kernel)
theorem k_187 : (Jvm.Cond.methodLink "QueueDrive" (199 : Nat) ({ cls := "QueueDrive$Unit", name := "covers", desc := "(I)Z" } : Jvm.MethodName)) ∈ TB := tb_t 187 (by decide +kernel) (by decide +kernel)
theorem k_188 : (Jvm.Cond.instanceMethod ({ cls := "QueueDrive$Unit", name := "covers", desc := "(I)Z" } : Jvm.MethodName)) ∈ TB := tb_t 188 (by decide +kernel) (by decide +kernel)
theorem k_189 : (Jvm.Cond.selects "QueueDrive$Unit" ({ cls := "QueueDrive$Unit", name := "covers", desc := "(I)Z" } : Jvm.MethodName) ({ cls := "QueueDrive$Unit", name := "covers", desc := "(I)Z" } : Jvm.MethodName)) ∈ TB := tb_t 189 (by decide +kernel) (by decide +kernel)
theorem k_190 : (Jvm.Cond.code ({ cls := "QueueDrive$Unit", name := "covers", desc := "(I)Z" } : Jvm.MethodName) prog_5_method_3_code (2 : Nat) (Option.some Jvm.ClassFile.FieldType.boolean)) ∈ TB := tb_t 190 (by decide +kernel) (by decide +kernel)
theorem k_191 : (Jvm.Cond.methodLink "QueueDrive" (176 : Nat) ({ cls := "QueueDrive$Unit", name := "wordAt", desc := "(I)J" } : Jvm.MethodName)) ∈ TB := tb_t 191 (by decide +kernel) (by decide +kernel)
theorem k_192 : (Jvm.Cond.instanceMethod ({ cls := "QueueDrive$Unit", name := "wordAt", desc := "(I)J" } : Jvm.MethodName)) ∈ TB := tb_t 192 (by decide +kernel) (by decide +kernel)
theorem k_193 : (Jvm.Cond.selects "QueueDrive$Unit" ({ cls := "QueueDrive$Unit", name := "wordAt", desc := "(I)J" } : Jvm.MethodName) ({ cls := "QueueDrive$Unit", name := "wordAt", desc := "(I)J" } : Jvm.MethodName)) ∈ TB := tb_t 193 (by decide +kernel) (by decide +kernel)
theorem k_194 : (Jvm.Cond.code ({ cls := "QueueDrive$Unit", name := "wordAt", desc := "(I)J" } : Jvm.MethodName) prog_5_method_4_code (3 : Nat) (Option.some Jvm.ClassFile.FieldType.long)) ∈ TB := tb_t 194 (by decide +kernel) (by decide +kernel)
theorem k_195 : (Jvm.Cond.constantLong "QueueDrive$Unit" (25 : Nat) (-1000000000000 : Int64)) ∈ TB := tb_t 195 (by decide +kernel) (by decide +kernel)
theorem k_196 : (Jvm.Cond.methodLink "QueueDrive" (162 : Nat) ({ cls := "QueueDrive", name := "cacheUnit", desc := "(LQueueDrive$Unit;)V" } : Jvm.MethodName)) ∈ TB := tb_t 196 (by decide +kernel) (by decide +kernel)
theorem k_198 : (Jvm.Cond.instanceMethod ({ cls := "QueueDrive", name := "cacheUnit", desc := "(LQueueDrive$Unit;)V" } : Jvm.MethodName)) ∈ TB := tb_t 198 (by decide +kernel) (by decide +kernel)
theorem k_199 : (Jvm.Cond.code ({ cls := "QueueDrive", name := "cacheUnit", desc := "(LQueueDrive$Unit;)V" } : Jvm.MethodName) prog_1_method_21_code (2 : Nat) (Option.none : Option Jvm.ClassFile.FieldType)) ∈ TB := tb_t 199 (by decide +kernel) (by decide +kernel)
theorem k_200 : (Jvm.Cond.methodLink "QueueDrive" (179 : Nat) ({ cls := "QueueDrive$Cache", name := "isFull", desc := "()Z" } : Jvm.MethodName)) ∈ TB := tb_t 200 (by decide +kernel) (by decide +kernel)
theorem k_201 : (Jvm.Cond.instanceMethod ({ cls := "QueueDrive$Cache", name := "isFull", desc := "()Z" } : Jvm.MethodName)) ∈ TB := tb_t 201 (by decide +kernel) (by decide +kernel)
theorem k_202 : (Jvm.Cond.selects "QueueDrive$Cache" ({ cls := "QueueDrive$Cache", name := "isFull", desc := "()Z" } : Jvm.MethodName) ({ cls := "QueueDrive$Cache", name := "isFull", desc := "()Z" } : Jvm.MethodName)) ∈ TB := tb_t 202 (by decide +kernel) (by decide +kernel)
theorem k_203 : (Jvm.Cond.code ({ cls := "QueueDrive$Cache", name := "isFull", desc := "()Z" } : Jvm.MethodName) prog_2_method_2_code (1 : Nat) (Option.some Jvm.ClassFile.FieldType.boolean)) ∈ TB := tb_t 203 (by decide +kernel) (by decide +kernel)
theorem k_204 : (Jvm.Cond.methodLink "QueueDrive" (183 : Nat) ({ cls := "QueueDrive", name := "storeOldest", desc := "()Z" } : Jvm.MethodName)) ∈ TB := tb_t 204 (by decide +kernel) (by decide +kernel)
theorem k_206 : (Jvm.Cond.instanceMethod ({ cls := "QueueDrive", name := "storeOldest", desc := "()Z" } : Jvm.MethodName)) ∈ TB := tb_t 206 (by decide +kernel) (by decide +kernel)
theorem k_207 : (Jvm.Cond.code ({ cls := "QueueDrive", name := "storeOldest", desc := "()Z" } : Jvm.MethodName) prog_1_method_25_code (1 : Nat) (Option.some Jvm.ClassFile.FieldType.boolean)) ∈ TB := tb_t 207 (by decide +kernel) (by decide +kernel)
theorem k_208 : (Jvm.Cond.methodLink "QueueDrive" (192 : Nat) ({ cls := "QueueDrive", name := "store", desc := "(LQueueDrive$Unit;)Z" } : Jvm.MethodName)) ∈ TB := tb_t 208 (by decide +kernel) (by decide +kernel)
theorem k_210 : (Jvm.Cond.instanceMethod ({ cls := "QueueDrive", name := "store", desc := "(LQueueDrive$Unit;)Z" } : Jvm.MethodName)) ∈ TB := tb_t 210 (by decide +kernel) (by decide +kernel)
theorem k_211 : (Jvm.Cond.code ({ cls := "QueueDrive", name := "store", desc := "(LQueueDrive$Unit;)Z" } : Jvm.MethodName) prog_1_method_26_code (3 : Nat) (Option.some Jvm.ClassFile.FieldType.boolean)) ∈ TB := tb_t 211 (by decide +kernel) (by decide +kernel)
theorem k_212 : (Jvm.Cond.methodLink "QueueDrive" (196 : Nat) ({ cls := "QueueDrive$Cache", name := "removeOldest", desc := "()V" } : Jvm.MethodName)) ∈ TB := tb_t 212 (by decide +kernel) (by decide +kernel)
theorem k_213 : (Jvm.Cond.instanceMethod ({ cls := "QueueDrive$Cache", name := "removeOldest", desc := "()V" } : Jvm.MethodName)) ∈ TB := tb_t 213 (by decide +kernel) (by decide +kernel)
theorem k_214 : (Jvm.Cond.selects "QueueDrive$Cache" ({ cls := "QueueDrive$Cache", name := "removeOldest", desc := "()V" } : Jvm.MethodName) ({ cls := "QueueDrive$Cache", name := "removeOldest", desc := "()V" } : Jvm.MethodName)) ∈ TB := tb_t 214 (by decide +kernel) (by decide +kernel)
theorem k_215 : (Jvm.Cond.code ({ cls := "QueueDrive$Cache", name := "removeOldest", desc := "()V" } : Jvm.MethodName) prog_2_method_4_code (3 : Nat) (Option.none : Option Jvm.ClassFile.FieldType)) ∈ TB := tb_t 215 (by decide +kernel) (by decide +kernel)
theorem k_216 : (Jvm.Cond.methodLink "QueueDrive" (186 : Nat) ({ cls := "QueueDrive$Cache", name := "add", desc := "(LQueueDrive$Unit;)V" } : Jvm.MethodName)) ∈ TB := tb_t 216 (by decide +kernel) (by decide +kernel)
theorem k_217 : (Jvm.Cond.instanceMethod ({ cls := "QueueDrive$Cache", name := "add", desc := "(LQueueDrive$Unit;)V" } : Jvm.MethodName)) ∈ TB := tb_t 217 (by decide +kernel) (by decide +kernel)
theorem k_218 : (Jvm.Cond.selects "QueueDrive$Cache" ({ cls := "QueueDrive$Cache", name := "add", desc := "(LQueueDrive$Unit;)V" } : Jvm.MethodName) ({ cls := "QueueDrive$Cache", name := "add", desc := "(LQueueDrive$Unit;)V" } : Jvm.MethodName)) ∈ TB := tb_t 218 (by decide +kernel) (by decide +kernel)
theorem k_219 : (Jvm.Cond.code ({ cls := "QueueDrive$Cache", name := "add", desc := "(LQueueDrive$Unit;)V" } : Jvm.MethodName) prog_2_method_3_code (2 : Nat) (Option.none : Option Jvm.ClassFile.FieldType)) ∈ TB := tb_t 219 (by decide +kernel) (by decide +kernel)
theorem k_220 : (Jvm.Cond.methodLink "QueueDrive$Cache" (20 : Nat) ({ cls := "QueueDrive$Cache", name := "isFull", desc := "()Z" } : Jvm.MethodName)) ∈ TB := tb_t 220 (by decide +kernel) (by decide +kernel)
theorem k_221 : (Jvm.Cond.methodLink "QueueDrive$Cache" (37 : Nat) ({ cls := "QueueDrive$Unit", name := "set", desc := "(IIIZ)V" } : Jvm.MethodName)) ∈ TB := tb_t 221 (by decide +kernel) (by decide +kernel)
theorem k_222 : (Jvm.Cond.methodLink "QueueDrive" (166 : Nat) ({ cls := "QueueDrive", name := "force", desc := "(LQueueDrive$Unit;)V" } : Jvm.MethodName)) ∈ TB := tb_t 222 (by decide +kernel) (by decide +kernel)
theorem k_224 : (Jvm.Cond.instanceMethod ({ cls := "QueueDrive", name := "force", desc := "(LQueueDrive$Unit;)V" } : Jvm.MethodName)) ∈ TB := tb_t 224 (by decide +kernel) (by decide +kernel)
theorem k_225 : (Jvm.Cond.code ({ cls := "QueueDrive", name := "force", desc := "(LQueueDrive$Unit;)V" } : Jvm.MethodName) prog_1_method_22_code (2 : Nat) (Option.none : Option Jvm.ClassFile.FieldType)) ∈ TB := tb_t 225 (by decide +kernel) (by decide +kernel)
theorem k_226 : (Jvm.Cond.methodLink "QueueDrive" (189 : Nat) ({ cls := "QueueDrive", name := "emptyCache", desc := "()Z" } : Jvm.MethodName)) ∈ TB := tb_t 226 (by decide +kernel) (by decide +kernel)
theorem k_228 : (Jvm.Cond.instanceMethod ({ cls := "QueueDrive", name := "emptyCache", desc := "()Z" } : Jvm.MethodName)) ∈ TB := tb_t 228 (by decide +kernel) (by decide +kernel)
theorem k_229 : (Jvm.Cond.code ({ cls := "QueueDrive", name := "emptyCache", desc := "()Z" } : Jvm.MethodName) prog_1_method_24_code (3 : Nat) (Option.some Jvm.ClassFile.FieldType.boolean)) ∈ TB := tb_t 229 (by decide +kernel) (by decide +kernel)
theorem k_230 : (Jvm.Cond.methodLink "QueueDrive" (169 : Nat) ({ cls := "QueueDrive", name := "flush", desc := "()I" } : Jvm.MethodName)) ∈ TB := tb_t 230 (by decide +kernel) (by decide +kernel)
theorem k_232 : (Jvm.Cond.instanceMethod ({ cls := "QueueDrive", name := "flush", desc := "()I" } : Jvm.MethodName)) ∈ TB := tb_t 232 (by decide +kernel) (by decide +kernel)
theorem k_233 : (Jvm.Cond.code ({ cls := "QueueDrive", name := "flush", desc := "()I" } : Jvm.MethodName) prog_1_method_23_code (2 : Nat) (Option.some Jvm.ClassFile.FieldType.int)) ∈ TB := tb_t 233 (by decide +kernel) (by decide +kernel)
theorem k_234 : (Jvm.Cond.methodLink "QueueDrive" (172 : Nat) ({ cls := "QueueDrive", name := "mismatches", desc := "(LQueueDrive$Unit;)I" } : Jvm.MethodName)) ∈ TB := tb_t 234 (by decide +kernel) (by decide +kernel)
theorem k_236 : (Jvm.Cond.instanceMethod ({ cls := "QueueDrive", name := "mismatches", desc := "(LQueueDrive$Unit;)I" } : Jvm.MethodName)) ∈ TB := tb_t 236 (by decide +kernel) (by decide +kernel)
theorem k_237 : (Jvm.Cond.code ({ cls := "QueueDrive", name := "mismatches", desc := "(LQueueDrive$Unit;)I" } : Jvm.MethodName) prog_1_method_20_code (4 : Nat) (Option.some Jvm.ClassFile.FieldType.int)) ∈ TB := tb_t 237 (by decide +kernel) (by decide +kernel)
theorem k_238 : (Jvm.Cond.methodLink "QueueDrive" (86 : Nat) ({ cls := "QueueDrive$CommandQueue", name := "removePending", desc := "(I)V" } : Jvm.MethodName)) ∈ TB := tb_t 238 (by decide +kernel) (by decide +kernel)
theorem k_239 : (Jvm.Cond.instanceMethod ({ cls := "QueueDrive$CommandQueue", name := "removePending", desc := "(I)V" } : Jvm.MethodName)) ∈ TB := tb_t 239 (by decide +kernel) (by decide +kernel)
theorem k_240 : (Jvm.Cond.selects "QueueDrive$CommandQueue" ({ cls := "QueueDrive$CommandQueue", name := "removePending", desc := "(I)V" } : Jvm.MethodName) ({ cls := "QueueDrive$CommandQueue", name := "removePending", desc := "(I)V" } : Jvm.MethodName)) ∈ TB := tb_t 240 (by decide +kernel) (by decide +kernel)
theorem k_241 : (Jvm.Cond.code ({ cls := "QueueDrive$CommandQueue", name := "removePending", desc := "(I)V" } : Jvm.MethodName) prog_4_method_4_code (4 : Nat) (Option.none : Option Jvm.ClassFile.FieldType)) ∈ TB := tb_t 241 (by decide +kernel) (by decide +kernel)
theorem k_242 : (Jvm.Cond.methodLink "QueueDrive$CommandQueue" (36 : Nat) ({ cls := "QueueDrive$CommandQueue", name := "hasPending", desc := "(I)Z" } : Jvm.MethodName)) ∈ TB := tb_t 242 (by decide +kernel) (by decide +kernel)
theorem k_243 : (Jvm.Cond.methodLink "QueueDrive" (92 : Nat) ({ cls := "QueueDrive$CommandQueue", name := "addCompletion", desc := "(IJ)V" } : Jvm.MethodName)) ∈ TB := tb_t 243 (by decide +kernel) (by decide +kernel)
theorem k_244 : (Jvm.Cond.instanceMethod ({ cls := "QueueDrive$CommandQueue", name := "addCompletion", desc := "(IJ)V" } : Jvm.MethodName)) ∈ TB := tb_t 244 (by decide +kernel) (by decide +kernel)
theorem k_245 : (Jvm.Cond.selects "QueueDrive$CommandQueue" ({ cls := "QueueDrive$CommandQueue", name := "addCompletion", desc := "(IJ)V" } : Jvm.MethodName) ({ cls := "QueueDrive$CommandQueue", name := "addCompletion", desc := "(IJ)V" } : Jvm.MethodName)) ∈ TB := tb_t 245 (by decide +kernel) (by decide +kernel)
theorem k_246 : (Jvm.Cond.code ({ cls := "QueueDrive$CommandQueue", name := "addCompletion", desc := "(IJ)V" } : Jvm.MethodName) prog_4_method_5_code (4 : Nat) (Option.none : Option Jvm.ClassFile.FieldType)) ∈ TB := tb_t 246 (by decide +kernel) (by decide +kernel)
theorem k_247 : (Jvm.Cond.methodLink "QueueDriveLaw" (31 : Nat) ({ cls := "QueueDrive", name := "take", desc := "(I)I" } : Jvm.MethodName)) ∈ TB := tb_t 247 (by decide +kernel) (by decide +kernel)
theorem k_248 : (Jvm.Cond.instanceMethod ({ cls := "QueueDrive", name := "take", desc := "(I)I" } : Jvm.MethodName)) ∈ TB := tb_t 248 (by decide +kernel) (by decide +kernel)
theorem k_249 : (Jvm.Cond.selects "QueueDrive" ({ cls := "QueueDrive", name := "take", desc := "(I)I" } : Jvm.MethodName) ({ cls := "QueueDrive", name := "take", desc := "(I)I" } : Jvm.MethodName)) ∈ TB := tb_t 249 (by decide +kernel) (by decide +kernel)
theorem k_250 : (Jvm.Cond.code ({ cls := "QueueDrive", name := "take", desc := "(I)I" } : Jvm.MethodName) prog_1_method_4_code (3 : Nat) (Option.some Jvm.ClassFile.FieldType.int)) ∈ TB := tb_t 250 (by decide +kernel) (by decide +kernel)
theorem k_251 : (Jvm.Cond.methodLink "QueueDrive" (109 : Nat) ({ cls := "QueueDrive$CommandQueue", name := "removeOldestCompletion", desc := "()V" } : Jvm.MethodName)) ∈ TB := tb_t 251 (by decide +kernel) (by decide +kernel)
theorem k_252 : (Jvm.Cond.instanceMethod ({ cls := "QueueDrive$CommandQueue", name := "removeOldestCompletion", desc := "()V" } : Jvm.MethodName)) ∈ TB := tb_t 252 (by decide +kernel) (by decide +kernel)
theorem k_253 : (Jvm.Cond.selects "QueueDrive$CommandQueue" ({ cls := "QueueDrive$CommandQueue", name := "removeOldestCompletion", desc := "()V" } : Jvm.MethodName) ({ cls := "QueueDrive$CommandQueue", name := "removeOldestCompletion", desc := "()V" } : Jvm.MethodName)) ∈ TB := tb_t 253 (by decide +kernel) (by decide +kernel)
theorem k_254 : (Jvm.Cond.code ({ cls := "QueueDrive$CommandQueue", name := "removeOldestCompletion", desc := "()V" } : Jvm.MethodName) prog_4_method_6_code (2 : Nat) (Option.none : Option Jvm.ClassFile.FieldType)) ∈ TB := tb_t 254 (by decide +kernel) (by decide +kernel)
theorem k_255 : (Jvm.Cond.methodLink "QueueDriveLaw" (36 : Nat) ({ cls := "QueueDrive", name := "result", desc := "()J" } : Jvm.MethodName)) ∈ TB := tb_t 255 (by decide +kernel) (by decide +kernel)
theorem k_256 : (Jvm.Cond.instanceMethod ({ cls := "QueueDrive", name := "result", desc := "()J" } : Jvm.MethodName)) ∈ TB := tb_t 256 (by decide +kernel) (by decide +kernel)
theorem k_257 : (Jvm.Cond.selects "QueueDrive" ({ cls := "QueueDrive", name := "result", desc := "()J" } : Jvm.MethodName) ({ cls := "QueueDrive", name := "result", desc := "()J" } : Jvm.MethodName)) ∈ TB := tb_t 257 (by decide +kernel) (by decide +kernel)
theorem k_258 : (Jvm.Cond.code ({ cls := "QueueDrive", name := "result", desc := "()J" } : Jvm.MethodName) prog_1_method_5_code (1 : Nat) (Option.some Jvm.ClassFile.FieldType.long)) ∈ TB := tb_t 258 (by decide +kernel) (by decide +kernel)
theorem k_259 : (Jvm.Cond.methodLink "QueueDriveLaw" (41 : Nat) ({ cls := "QueueDrive", name := "reset", desc := "()I" } : Jvm.MethodName)) ∈ TB := tb_t 259 (by decide +kernel) (by decide +kernel)
theorem k_260 : (Jvm.Cond.instanceMethod ({ cls := "QueueDrive", name := "reset", desc := "()I" } : Jvm.MethodName)) ∈ TB := tb_t 260 (by decide +kernel) (by decide +kernel)
theorem k_261 : (Jvm.Cond.selects "QueueDrive" ({ cls := "QueueDrive", name := "reset", desc := "()I" } : Jvm.MethodName) ({ cls := "QueueDrive", name := "reset", desc := "()I" } : Jvm.MethodName)) ∈ TB := tb_t 261 (by decide +kernel) (by decide +kernel)
theorem k_262 : (Jvm.Cond.code ({ cls := "QueueDrive", name := "reset", desc := "()I" } : Jvm.MethodName) prog_1_method_6_code (1 : Nat) (Option.some Jvm.ClassFile.FieldType.int)) ∈ TB := tb_t 262 (by decide +kernel) (by decide +kernel)
theorem k_263 : (Jvm.Cond.methodLink "QueueDrive" (112 : Nat) ({ cls := "QueueDrive", name := "clearQueues", desc := "()I" } : Jvm.MethodName)) ∈ TB := tb_t 263 (by decide +kernel) (by decide +kernel)
theorem k_265 : (Jvm.Cond.instanceMethod ({ cls := "QueueDrive", name := "clearQueues", desc := "()I" } : Jvm.MethodName)) ∈ TB := tb_t 265 (by decide +kernel) (by decide +kernel)
theorem k_266 : (Jvm.Cond.code ({ cls := "QueueDrive", name := "clearQueues", desc := "()I" } : Jvm.MethodName) prog_1_method_29_code (3 : Nat) (Option.some Jvm.ClassFile.FieldType.int)) ∈ TB := tb_t 266 (by decide +kernel) (by decide +kernel)
theorem k_267 : (Jvm.Cond.methodLink "QueueDriveLaw" (46 : Nat) ({ cls := "QueueDrive", name := "power", desc := "()I" } : Jvm.MethodName)) ∈ TB := tb_t 267 (by decide +kernel) (by decide +kernel)
theorem k_268 : (Jvm.Cond.instanceMethod ({ cls := "QueueDrive", name := "power", desc := "()I" } : Jvm.MethodName)) ∈ TB := tb_t 268 (by decide +kernel) (by decide +kernel)
theorem k_269 : (Jvm.Cond.selects "QueueDrive" ({ cls := "QueueDrive", name := "power", desc := "()I" } : Jvm.MethodName) ({ cls := "QueueDrive", name := "power", desc := "()I" } : Jvm.MethodName)) ∈ TB := tb_t 269 (by decide +kernel) (by decide +kernel)
theorem k_270 : (Jvm.Cond.code ({ cls := "QueueDrive", name := "power", desc := "()I" } : Jvm.MethodName) prog_1_method_7_code (1 : Nat) (Option.some Jvm.ClassFile.FieldType.int)) ∈ TB := tb_t 270 (by decide +kernel) (by decide +kernel)
theorem k_271 : (Jvm.Cond.methodLink "QueueDrive" (116 : Nat) ({ cls := "QueueDrive", name := "losePower", desc := "()I" } : Jvm.MethodName)) ∈ TB := tb_t 271 (by decide +kernel) (by decide +kernel)
theorem k_273 : (Jvm.Cond.instanceMethod ({ cls := "QueueDrive", name := "losePower", desc := "()I" } : Jvm.MethodName)) ∈ TB := tb_t 273 (by decide +kernel) (by decide +kernel)
theorem k_274 : (Jvm.Cond.code ({ cls := "QueueDrive", name := "losePower", desc := "()I" } : Jvm.MethodName) prog_1_method_28_code (2 : Nat) (Option.some Jvm.ClassFile.FieldType.int)) ∈ TB := tb_t 274 (by decide +kernel) (by decide +kernel)
theorem k_275 : (Jvm.Cond.methodLink "QueueDriveLaw" (50 : Nat) ({ cls := "QueueDrive", name := "powerDuring", desc := "(III)I" } : Jvm.MethodName)) ∈ TB := tb_t 275 (by decide +kernel) (by decide +kernel)
theorem k_276 : (Jvm.Cond.instanceMethod ({ cls := "QueueDrive", name := "powerDuring", desc := "(III)I" } : Jvm.MethodName)) ∈ TB := tb_t 276 (by decide +kernel) (by decide +kernel)
theorem k_277 : (Jvm.Cond.selects "QueueDrive" ({ cls := "QueueDrive", name := "powerDuring", desc := "(III)I" } : Jvm.MethodName) ({ cls := "QueueDrive", name := "powerDuring", desc := "(III)I" } : Jvm.MethodName)) ∈ TB := tb_t 277 (by decide +kernel) (by decide +kernel)
theorem k_278 : (Jvm.Cond.code ({ cls := "QueueDrive", name := "powerDuring", desc := "(III)I" } : Jvm.MethodName) prog_1_method_8_code (5 : Nat) (Option.some Jvm.ClassFile.FieldType.int)) ∈ TB := tb_t 278 (by decide +kernel) (by decide +kernel)
theorem k_279 : (Jvm.Cond.methodLink "QueueDriveLaw" (55 : Nat) ({ cls := "QueueDrive", name := "word", desc := "(I)J" } : Jvm.MethodName)) ∈ TB := tb_t 279 (by decide +kernel) (by decide +kernel)
theorem k_280 : (Jvm.Cond.instanceMethod ({ cls := "QueueDrive", name := "word", desc := "(I)J" } : Jvm.MethodName)) ∈ TB := tb_t 280 (by decide +kernel) (by decide +kernel)
theorem k_281 : (Jvm.Cond.selects "QueueDrive" ({ cls := "QueueDrive", name := "word", desc := "(I)J" } : Jvm.MethodName) ({ cls := "QueueDrive", name := "word", desc := "(I)J" } : Jvm.MethodName)) ∈ TB := tb_t 281 (by decide +kernel) (by decide +kernel)
theorem k_282 : (Jvm.Cond.code ({ cls := "QueueDrive", name := "word", desc := "(I)J" } : Jvm.MethodName) prog_1_method_9_code (2 : Nat) (Option.some Jvm.ClassFile.FieldType.long)) ∈ TB := tb_t 282 (by decide +kernel) (by decide +kernel)
theorem k_283 : (Jvm.Cond.methodLink "QueueDrive" (122 : Nat) ({ cls := "QueueDrive", name := "isAddress", desc := "(I)Z" } : Jvm.MethodName)) ∈ TB := tb_t 283 (by decide +kernel) (by decide +kernel)
theorem k_284 : (Jvm.Cond.static ({ cls := "QueueDrive", name := "isAddress", desc := "(I)Z" } : Jvm.MethodName)) ∈ TB := tb_t 284 (by decide +kernel) (by decide +kernel)
theorem k_285 : (Jvm.Cond.code ({ cls := "QueueDrive", name := "isAddress", desc := "(I)Z" } : Jvm.MethodName) prog_1_method_15_code (1 : Nat) (Option.some Jvm.ClassFile.FieldType.boolean)) ∈ TB := tb_t 285 (by decide +kernel) (by decide +kernel)
theorem k_286 : (Jvm.Cond.methodLink "QueueDriveLaw" (60 : Nat) ({ cls := "QueueDrive", name := "flash", desc := "(I)J" } : Jvm.MethodName)) ∈ TB := tb_t 286 (by decide +kernel) (by decide +kernel)
theorem k_287 : (Jvm.Cond.instanceMethod ({ cls := "QueueDrive", name := "flash", desc := "(I)J" } : Jvm.MethodName)) ∈ TB := tb_t 287 (by decide +kernel) (by decide +kernel)
theorem k_288 : (Jvm.Cond.selects "QueueDrive" ({ cls := "QueueDrive", name := "flash", desc := "(I)J" } : Jvm.MethodName) ({ cls := "QueueDrive", name := "flash", desc := "(I)J" } : Jvm.MethodName)) ∈ TB := tb_t 288 (by decide +kernel) (by decide +kernel)
theorem k_289 : (Jvm.Cond.code ({ cls := "QueueDrive", name := "flash", desc := "(I)J" } : Jvm.MethodName) prog_1_method_10_code (2 : Nat) (Option.some Jvm.ClassFile.FieldType.long)) ∈ TB := tb_t 289 (by decide +kernel) (by decide +kernel)
theorem k_290 : (Jvm.Cond.methodLink "QueueDriveLaw" (64 : Nat) ({ cls := "QueueDrive", name := "queue", desc := "(II)I" } : Jvm.MethodName)) ∈ TB := tb_t 290 (by decide +kernel) (by decide +kernel)
theorem k_291 : (Jvm.Cond.instanceMethod ({ cls := "QueueDrive", name := "queue", desc := "(II)I" } : Jvm.MethodName)) ∈ TB := tb_t 291 (by decide +kernel) (by decide +kernel)
theorem k_292 : (Jvm.Cond.selects "QueueDrive" ({ cls := "QueueDrive", name := "queue", desc := "(II)I" } : Jvm.MethodName) ({ cls := "QueueDrive", name := "queue", desc := "(II)I" } : Jvm.MethodName)) ∈ TB := tb_t 292 (by decide +kernel) (by decide +kernel)
theorem k_293 : (Jvm.Cond.code ({ cls := "QueueDrive", name := "queue", desc := "(II)I" } : Jvm.MethodName) prog_1_method_11_code (4 : Nat) (Option.some Jvm.ClassFile.FieldType.int)) ∈ TB := tb_t 293 (by decide +kernel) (by decide +kernel)
theorem k_294 : (Jvm.Cond.methodLink "QueueDriveLaw" (68 : Nat) ({ cls := "QueueDrive", name := "unit", desc := "(II)I" } : Jvm.MethodName)) ∈ TB := tb_t 294 (by decide +kernel) (by decide +kernel)
theorem k_295 : (Jvm.Cond.instanceMethod ({ cls := "QueueDrive", name := "unit", desc := "(II)I" } : Jvm.MethodName)) ∈ TB := tb_t 295 (by decide +kernel) (by decide +kernel)
theorem k_296 : (Jvm.Cond.selects "QueueDrive" ({ cls := "QueueDrive", name := "unit", desc := "(II)I" } : Jvm.MethodName) ({ cls := "QueueDrive", name := "unit", desc := "(II)I" } : Jvm.MethodName)) ∈ TB := tb_t 296 (by decide +kernel) (by decide +kernel)
theorem k_297 : (Jvm.Cond.code ({ cls := "QueueDrive", name := "unit", desc := "(II)I" } : Jvm.MethodName) prog_1_method_12_code (4 : Nat) (Option.some Jvm.ClassFile.FieldType.int)) ∈ TB := tb_t 297 (by decide +kernel) (by decide +kernel)
theorem k_298 : (Jvm.Cond.methodLink "QueueDriveLaw" (72 : Nat) ({ cls := "QueueDrive", name := "count", desc := "(I)I" } : Jvm.MethodName)) ∈ TB := tb_t 298 (by decide +kernel) (by decide +kernel)
theorem k_299 : (Jvm.Cond.instanceMethod ({ cls := "QueueDrive", name := "count", desc := "(I)I" } : Jvm.MethodName)) ∈ TB := tb_t 299 (by decide +kernel) (by decide +kernel)
theorem k_300 : (Jvm.Cond.selects "QueueDrive" ({ cls := "QueueDrive", name := "count", desc := "(I)I" } : Jvm.MethodName) ({ cls := "QueueDrive", name := "count", desc := "(I)I" } : Jvm.MethodName)) ∈ TB := tb_t 300 (by decide +kernel) (by decide +kernel)
theorem k_301 : (Jvm.Cond.code ({ cls := "QueueDrive", name := "count", desc := "(I)I" } : Jvm.MethodName) prog_1_method_13_code (2 : Nat) (Option.some Jvm.ClassFile.FieldType.int)) ∈ TB := tb_t 301 (by decide +kernel) (by decide +kernel)
theorem k_302 : (Jvm.Cond.methodLink "QueueDriveLaw" (9 : Nat) ({ cls := "QueueDriveLaw", name := "cell", desc := "([II)I" } : Jvm.MethodName)) ∈ TB := tb_t 302 (by decide +kernel) (by decide +kernel)
theorem k_303 : (Jvm.Cond.static ({ cls := "QueueDriveLaw", name := "cell", desc := "([II)I" } : Jvm.MethodName)) ∈ TB := tb_t 303 (by decide +kernel) (by decide +kernel)
theorem k_304 : (Jvm.Cond.code ({ cls := "QueueDriveLaw", name := "cell", desc := "([II)I" } : Jvm.MethodName) method_2_code (2 : Nat) (Option.some Jvm.ClassFile.FieldType.int)) ∈ TB := tb_t 304 (by decide +kernel) (by decide +kernel)
theorem k_305 : (Jvm.Cond.classLink "QueueDriveLaw" (18 : Nat) "QueueDriveModel") ∈ TB := tb_t 305 (by decide +kernel) (by decide +kernel)
theorem k_306 : (Jvm.Cond.instantiable "QueueDriveModel" (23 : Nat)) ∈ TB := tb_t 306 (by decide +kernel) (by decide +kernel)
theorem k_307 : (Jvm.Cond.methodLink "QueueDriveLaw" (20 : Nat) ({ cls := "QueueDriveModel", name := "<init>", desc := "(I)V" } : Jvm.MethodName)) ∈ TB := tb_t 307 (by decide +kernel) (by decide +kernel)
theorem k_308 : (Jvm.Cond.instanceMethod ({ cls := "QueueDriveModel", name := "<init>", desc := "(I)V" } : Jvm.MethodName)) ∈ TB := tb_t 308 (by decide +kernel) (by decide +kernel)
theorem k_309 : (Jvm.Cond.code ({ cls := "QueueDriveModel", name := "<init>", desc := "(I)V" } : Jvm.MethodName) prog_7_method_1_code (2 : Nat) (Option.none : Option Jvm.ClassFile.FieldType)) ∈ TB := tb_t 309 (by decide +kernel) (by decide +kernel)
theorem k_310 : (Jvm.Cond.methodLink "QueueDriveModel" (1 : Nat) ({ cls := "java/lang/Object", name := "<init>", desc := "()V" } : Jvm.MethodName)) ∈ TB := tb_t 310 (by decide +kernel) (by decide +kernel)
theorem k_311 : (Jvm.Cond.constantLong "QueueDriveModel" (54 : Nat) (-1000000000000 : Int64)) ∈ TB := tb_t 311 (by decide +kernel) (by decide +kernel)
theorem k_312 : (Jvm.Cond.fieldLink "QueueDriveModel" (60 : Nat) "QueueDriveModel" "limit" "I") ∈ TB := tb_t 312 (by decide +kernel) (by decide +kernel)
theorem k_313 : (Jvm.Cond.fieldLink "QueueDriveModel" (7 : Nat) "QueueDriveModel" "first" "[I") ∈ TB := tb_t 313 (by decide +kernel) (by decide +kernel)
theorem k_314 : (Jvm.Cond.fieldLink "QueueDriveModel" (13 : Nat) "QueueDriveModel" "size" "[I") ∈ TB := tb_t 314 (by decide +kernel) (by decide +kernel)
theorem k_315 : (Jvm.Cond.fieldLink "QueueDriveModel" (16 : Nat) "QueueDriveModel" "value" "[I") ∈ TB := tb_t 315 (by decide +kernel) (by decide +kernel)
theorem k_316 : (Jvm.Cond.fieldLink "QueueDriveModel" (19 : Nat) "QueueDriveModel" "away" "[Z") ∈ TB := tb_t 316 (by decide +kernel) (by decide +kernel)
theorem k_317 : (Jvm.Cond.fieldLink "QueueDriveModel" (23 : Nat) "QueueDriveModel" "when" "[I") ∈ TB := tb_t 317 (by decide +kernel) (by decide +kernel)
theorem k_318 : (Jvm.Cond.fieldLink "QueueDriveModel" (26 : Nat) "QueueDriveModel" "cached" "[Z") ∈ TB := tb_t 318 (by decide +kernel) (by decide +kernel)
theorem k_319 : (Jvm.Cond.fieldLink "QueueDriveModel" (64 : Nat) "QueueDriveModel" "units" "I") ∈ TB := tb_t 319 (by decide +kernel) (by decide +kernel)
theorem k_320 : (Jvm.Cond.fieldLink "QueueDriveModel" (85 : Nat) "QueueDriveModel" "stored" "I") ∈ TB := tb_t 320 (by decide +kernel) (by decide +kernel)
theorem k_321 : (Jvm.Cond.fieldLink "QueueDriveModel" (82 : Nat) "QueueDriveModel" "pages" "I") ∈ TB := tb_t 321 (by decide +kernel) (by decide +kernel)
theorem k_322 : (Jvm.Cond.fieldLink "QueueDriveModel" (79 : Nat) "QueueDriveModel" "budget" "I") ∈ TB := tb_t 322 (by decide +kernel) (by decide +kernel)
theorem k_323 : (Jvm.Cond.fieldLink "QueueDriveModel" (29 : Nat) "QueueDriveModel" "queueOf" "[I") ∈ TB := tb_t 323 (by decide +kernel) (by decide +kernel)
theorem k_324 : (Jvm.Cond.fieldLink "QueueDriveModel" (32 : Nat) "QueueDriveModel" "kind" "[I") ∈ TB := tb_t 324 (by decide +kernel) (by decide +kernel)
theorem k_325 : (Jvm.Cond.fieldLink "QueueDriveModel" (35 : Nat) "QueueDriveModel" "address" "[I") ∈ TB := tb_t 325 (by decide +kernel) (by decide +kernel)
theorem k_326 : (Jvm.Cond.fieldLink "QueueDriveModel" (38 : Nat) "QueueDriveModel" "count" "[I") ∈ TB := tb_t 326 (by decide +kernel) (by decide +kernel)
theorem k_327 : (Jvm.Cond.fieldLink "QueueDriveModel" (41 : Nat) "QueueDriveModel" "word" "[I") ∈ TB := tb_t 327 (by decide +kernel) (by decide +kernel)
theorem k_328 : (Jvm.Cond.fieldLink "QueueDriveModel" (116 : Nat) "QueueDriveModel" "commands" "I") ∈ TB := tb_t 328 (by decide +kernel) (by decide +kernel)
theorem k_329 : (Jvm.Cond.fieldLink "QueueDriveModel" (44 : Nat) "QueueDriveModel" "doneQueue" "[I") ∈ TB := tb_t 329 (by decide +kernel) (by decide +kernel)
theorem k_330 : (Jvm.Cond.fieldLink "QueueDriveModel" (47 : Nat) "QueueDriveModel" "doneNumber" "[I") ∈ TB := tb_t 330 (by decide +kernel) (by decide +kernel)
theorem k_331 : (Jvm.Cond.fieldLink "QueueDriveModel" (50 : Nat) "QueueDriveModel" "doneResult" "[J") ∈ TB := tb_t 331 (by decide +kernel) (by decide +kernel)
theorem k_332 : (Jvm.Cond.fieldLink "QueueDriveModel" (119 : Nat) "QueueDriveModel" "completions" "I") ∈ TB := tb_t 332 (by decide +kernel) (by decide +kernel)
theorem k_333 : (Jvm.Cond.fieldLink "QueueDriveModel" (138 : Nat) "QueueDriveModel" "taken" "I") ∈ TB := tb_t 333 (by decide +kernel) (by decide +kernel)
theorem k_334 : (Jvm.Cond.fieldLink "QueueDriveModel" (56 : Nat) "QueueDriveModel" "result" "J") ∈ TB := tb_t 334 (by decide +kernel) (by decide +kernel)
theorem k_382 : (Jvm.Cond.arrayClass Jvm.ClassFile.FieldType.boolean) ∈ TB := tb_t 382 (by decide +kernel) (by decide +kernel)
theorem k_383 : (Jvm.Cond.methodLink "QueueDriveLaw" (25 : Nat) ({ cls := "QueueDriveModel", name := "submit", desc := "(IIIII)I" } : Jvm.MethodName)) ∈ TB := tb_t 383 (by decide +kernel) (by decide +kernel)
theorem k_384 : (Jvm.Cond.instanceMethod ({ cls := "QueueDriveModel", name := "submit", desc := "(IIIII)I" } : Jvm.MethodName)) ∈ TB := tb_t 384 (by decide +kernel) (by decide +kernel)
theorem k_385 : (Jvm.Cond.selects "QueueDriveModel" ({ cls := "QueueDriveModel", name := "submit", desc := "(IIIII)I" } : Jvm.MethodName) ({ cls := "QueueDriveModel", name := "submit", desc := "(IIIII)I" } : Jvm.MethodName)) ∈ TB := tb_t 385 (by decide +kernel) (by decide +kernel)
theorem k_386 : (Jvm.Cond.code ({ cls := "QueueDriveModel", name := "submit", desc := "(IIIII)I" } : Jvm.MethodName) prog_7_method_18_code (6 : Nat) (Option.some Jvm.ClassFile.FieldType.int)) ∈ TB := tb_t 386 (by decide +kernel) (by decide +kernel)
theorem k_387 : (Jvm.Cond.methodLink "QueueDriveModel" (122 : Nat) ({ cls := "QueueDriveModel", name := "in", desc := "(II)Z" } : Jvm.MethodName)) ∈ TB := tb_t 387 (by decide +kernel) (by decide +kernel)
theorem k_388 : (Jvm.Cond.static ({ cls := "QueueDriveModel", name := "in", desc := "(II)Z" } : Jvm.MethodName)) ∈ TB := tb_t 388 (by decide +kernel) (by decide +kernel)
theorem k_389 : (Jvm.Cond.code ({ cls := "QueueDriveModel", name := "in", desc := "(II)Z" } : Jvm.MethodName) prog_7_method_2_code (2 : Nat) (Option.some Jvm.ClassFile.FieldType.boolean)) ∈ TB := tb_t 389 (by decide +kernel) (by decide +kernel)
theorem k_390 : (Jvm.Cond.methodLink "QueueDriveModel" (125 : Nat) ({ cls := "QueueDriveModel", name := "pending", desc := "(I)I" } : Jvm.MethodName)) ∈ TB := tb_t 390 (by decide +kernel) (by decide +kernel)
theorem k_392 : (Jvm.Cond.instanceMethod ({ cls := "QueueDriveModel", name := "pending", desc := "(I)I" } : Jvm.MethodName)) ∈ TB := tb_t 392 (by decide +kernel) (by decide +kernel)
theorem k_393 : (Jvm.Cond.code ({ cls := "QueueDriveModel", name := "pending", desc := "(I)I" } : Jvm.MethodName) prog_7_method_15_code (4 : Nat) (Option.some Jvm.ClassFile.FieldType.int)) ∈ TB := tb_t 393 (by decide +kernel) (by decide +kernel)
theorem k_394 : (Jvm.Cond.methodLink "QueueDriveLaw" (30 : Nat) ({ cls := "QueueDriveModel", name := "step", desc := "(II)I" } : Jvm.MethodName)) ∈ TB := tb_t 394 (by decide +kernel) (by decide +kernel)
theorem k_395 : (Jvm.Cond.instanceMethod ({ cls := "QueueDriveModel", name := "step", desc := "(II)I" } : Jvm.MethodName)) ∈ TB := tb_t 395 (by decide +kernel) (by decide +kernel)
theorem k_396 : (Jvm.Cond.selects "QueueDriveModel" ({ cls := "QueueDriveModel", name := "step", desc := "(II)I" } : Jvm.MethodName) ({ cls := "QueueDriveModel", name := "step", desc := "(II)I" } : Jvm.MethodName)) ∈ TB := tb_t 396 (by decide +kernel) (by decide +kernel)
theorem k_397 : (Jvm.Cond.code ({ cls := "QueueDriveModel", name := "step", desc := "(II)I" } : Jvm.MethodName) prog_7_method_19_code (4 : Nat) (Option.some Jvm.ClassFile.FieldType.int)) ∈ TB := tb_t 397 (by decide +kernel) (by decide +kernel)
theorem k_398 : (Jvm.Cond.methodLink "QueueDriveModel" (128 : Nat) ({ cls := "QueueDriveModel", name := "picked", desc := "(II)I" } : Jvm.MethodName)) ∈ TB := tb_t 398 (by decide +kernel) (by decide +kernel)
theorem k_400 : (Jvm.Cond.instanceMethod ({ cls := "QueueDriveModel", name := "picked", desc := "(II)I" } : Jvm.MethodName)) ∈ TB := tb_t 400 (by decide +kernel) (by decide +kernel)
theorem k_401 : (Jvm.Cond.code ({ cls := "QueueDriveModel", name := "picked", desc := "(II)I" } : Jvm.MethodName) prog_7_method_16_code (5 : Nat) (Option.some Jvm.ClassFile.FieldType.int)) ∈ TB := tb_t 401 (by decide +kernel) (by decide +kernel)
theorem k_402 : (Jvm.Cond.methodLink "QueueDriveModel" (132 : Nat) ({ cls := "QueueDriveModel", name := "done", desc := "(I)I" } : Jvm.MethodName)) ∈ TB := tb_t 402 (by decide +kernel) (by decide +kernel)
theorem k_404 : (Jvm.Cond.instanceMethod ({ cls := "QueueDriveModel", name := "done", desc := "(I)I" } : Jvm.MethodName)) ∈ TB := tb_t 404 (by decide +kernel) (by decide +kernel)
theorem k_405 : (Jvm.Cond.code ({ cls := "QueueDriveModel", name := "done", desc := "(I)I" } : Jvm.MethodName) prog_7_method_17_code (4 : Nat) (Option.some Jvm.ClassFile.FieldType.int)) ∈ TB := tb_t 405 (by decide +kernel) (by decide +kernel)
theorem k_406 : (Jvm.Cond.methodLink "QueueDriveModel" (135 : Nat) ({ cls := "QueueDriveModel", name := "work", desc := "(I)J" } : Jvm.MethodName)) ∈ TB := tb_t 406 (by decide +kernel) (by decide +kernel)
theorem k_408 : (Jvm.Cond.instanceMethod ({ cls := "QueueDriveModel", name := "work", desc := "(I)J" } : Jvm.MethodName)) ∈ TB := tb_t 408 (by decide +kernel) (by decide +kernel)
theorem k_409 : (Jvm.Cond.code ({ cls := "QueueDriveModel", name := "work", desc := "(I)J" } : Jvm.MethodName) prog_7_method_14_code (4 : Nat) (Option.some Jvm.ClassFile.FieldType.long)) ∈ TB := tb_t 409 (by decide +kernel) (by decide +kernel)
theorem k_410 : (Jvm.Cond.methodLink "QueueDriveModel" (103 : Nat) ({ cls := "QueueDriveModel", name := "total", desc := "(I)J" } : Jvm.MethodName)) ∈ TB := tb_t 410 (by decide +kernel) (by decide +kernel)
theorem k_412 : (Jvm.Cond.instanceMethod ({ cls := "QueueDriveModel", name := "total", desc := "(I)J" } : Jvm.MethodName)) ∈ TB := tb_t 412 (by decide +kernel) (by decide +kernel)
theorem k_413 : (Jvm.Cond.code ({ cls := "QueueDriveModel", name := "total", desc := "(I)J" } : Jvm.MethodName) prog_7_method_12_code (7 : Nat) (Option.some Jvm.ClassFile.FieldType.long)) ∈ TB := tb_t 413 (by decide +kernel) (by decide +kernel)
theorem k_414 : (Jvm.Cond.methodLink "QueueDriveModel" (100 : Nat) ({ cls := "QueueDriveModel", name := "holds", desc := "(I)J" } : Jvm.MethodName)) ∈ TB := tb_t 414 (by decide +kernel) (by decide +kernel)
theorem k_416 : (Jvm.Cond.instanceMethod ({ cls := "QueueDriveModel", name := "holds", desc := "(I)J" } : Jvm.MethodName)) ∈ TB := tb_t 416 (by decide +kernel) (by decide +kernel)
theorem k_417 : (Jvm.Cond.code ({ cls := "QueueDriveModel", name := "holds", desc := "(I)J" } : Jvm.MethodName) prog_7_method_7_code (3 : Nat) (Option.some Jvm.ClassFile.FieldType.long)) ∈ TB := tb_t 417 (by decide +kernel) (by decide +kernel)
theorem k_418 : (Jvm.Cond.methodLink "QueueDriveModel" (67 : Nat) ({ cls := "QueueDriveModel", name := "covers", desc := "(II)Z" } : Jvm.MethodName)) ∈ TB := tb_t 418 (by decide +kernel) (by decide +kernel)
theorem k_420 : (Jvm.Cond.instanceMethod ({ cls := "QueueDriveModel", name := "covers", desc := "(II)Z" } : Jvm.MethodName)) ∈ TB := tb_t 420 (by decide +kernel) (by decide +kernel)
theorem k_421 : (Jvm.Cond.code ({ cls := "QueueDriveModel", name := "covers", desc := "(II)Z" } : Jvm.MethodName) prog_7_method_5_code (3 : Nat) (Option.some Jvm.ClassFile.FieldType.boolean)) ∈ TB := tb_t 421 (by decide +kernel) (by decide +kernel)
theorem k_422 : (Jvm.Cond.methodLink "QueueDriveModel" (71 : Nat) ({ cls := "QueueDriveModel", name := "wordOf", desc := "(II)J" } : Jvm.MethodName)) ∈ TB := tb_t 422 (by decide +kernel) (by decide +kernel)
theorem k_424 : (Jvm.Cond.instanceMethod ({ cls := "QueueDriveModel", name := "wordOf", desc := "(II)J" } : Jvm.MethodName)) ∈ TB := tb_t 424 (by decide +kernel) (by decide +kernel)
theorem k_425 : (Jvm.Cond.code ({ cls := "QueueDriveModel", name := "wordOf", desc := "(II)J" } : Jvm.MethodName) prog_7_method_4_code (3 : Nat) (Option.some Jvm.ClassFile.FieldType.long)) ∈ TB := tb_t 425 (by decide +kernel) (by decide +kernel)
theorem k_426 : (Jvm.Cond.methodLink "QueueDriveModel" (75 : Nat) ({ cls := "QueueDriveModel", name := "inFlash", desc := "(I)J" } : Jvm.MethodName)) ∈ TB := tb_t 426 (by decide +kernel) (by decide +kernel)
theorem k_428 : (Jvm.Cond.instanceMethod ({ cls := "QueueDriveModel", name := "inFlash", desc := "(I)J" } : Jvm.MethodName)) ∈ TB := tb_t 428 (by decide +kernel) (by decide +kernel)
theorem k_429 : (Jvm.Cond.code ({ cls := "QueueDriveModel", name := "inFlash", desc := "(I)J" } : Jvm.MethodName) prog_7_method_6_code (4 : Nat) (Option.some Jvm.ClassFile.FieldType.long)) ∈ TB := tb_t 429 (by decide +kernel) (by decide +kernel)
theorem k_430 : (Jvm.Cond.methodLink "QueueDriveModel" (106 : Nat) ({ cls := "QueueDriveModel", name := "differing", desc := "(I)I" } : Jvm.MethodName)) ∈ TB := tb_t 430 (by decide +kernel) (by decide +kernel)
theorem k_432 : (Jvm.Cond.instanceMethod ({ cls := "QueueDriveModel", name := "differing", desc := "(I)I" } : Jvm.MethodName)) ∈ TB := tb_t 432 (by decide +kernel) (by decide +kernel)
theorem k_433 : (Jvm.Cond.code ({ cls := "QueueDriveModel", name := "differing", desc := "(I)I" } : Jvm.MethodName) prog_7_method_13_code (4 : Nat) (Option.some Jvm.ClassFile.FieldType.int)) ∈ TB := tb_t 433 (by decide +kernel) (by decide +kernel)
theorem k_434 : (Jvm.Cond.methodLink "QueueDriveModel" (92 : Nat) ({ cls := "QueueDriveModel", name := "inCache", desc := "()I" } : Jvm.MethodName)) ∈ TB := tb_t 434 (by decide +kernel) (by decide +kernel)
theorem k_436 : (Jvm.Cond.instanceMethod ({ cls := "QueueDriveModel", name := "inCache", desc := "()I" } : Jvm.MethodName)) ∈ TB := tb_t 436 (by decide +kernel) (by decide +kernel)
theorem k_437 : (Jvm.Cond.code ({ cls := "QueueDriveModel", name := "inCache", desc := "()I" } : Jvm.MethodName) prog_7_method_3_code (3 : Nat) (Option.some Jvm.ClassFile.FieldType.int)) ∈ TB := tb_t 437 (by decide +kernel) (by decide +kernel)
theorem k_438 : (Jvm.Cond.methodLink "QueueDriveModel" (110 : Nat) ({ cls := "QueueDriveModel", name := "empty", desc := "()Z" } : Jvm.MethodName)) ∈ TB := tb_t 438 (by decide +kernel) (by decide +kernel)
theorem k_440 : (Jvm.Cond.instanceMethod ({ cls := "QueueDriveModel", name := "empty", desc := "()Z" } : Jvm.MethodName)) ∈ TB := tb_t 440 (by decide +kernel) (by decide +kernel)
theorem k_441 : (Jvm.Cond.code ({ cls := "QueueDriveModel", name := "empty", desc := "()Z" } : Jvm.MethodName) prog_7_method_10_code (2 : Nat) (Option.some Jvm.ClassFile.FieldType.boolean)) ∈ TB := tb_t 441 (by decide +kernel) (by decide +kernel)
theorem k_442 : (Jvm.Cond.methodLink "QueueDriveModel" (96 : Nat) ({ cls := "QueueDriveModel", name := "storeOldest", desc := "()Z" } : Jvm.MethodName)) ∈ TB := tb_t 442 (by decide +kernel) (by decide +kernel)
theorem k_444 : (Jvm.Cond.instanceMethod ({ cls := "QueueDriveModel", name := "storeOldest", desc := "()Z" } : Jvm.MethodName)) ∈ TB := tb_t 444 (by decide +kernel) (by decide +kernel)
theorem k_445 : (Jvm.Cond.code ({ cls := "QueueDriveModel", name := "storeOldest", desc := "()Z" } : Jvm.MethodName) prog_7_method_9_code (2 : Nat) (Option.some Jvm.ClassFile.FieldType.boolean)) ∈ TB := tb_t 445 (by decide +kernel) (by decide +kernel)
theorem k_446 : (Jvm.Cond.methodLink "QueueDriveModel" (88 : Nat) ({ cls := "QueueDriveModel", name := "store", desc := "(I)Z" } : Jvm.MethodName)) ∈ TB := tb_t 446 (by decide +kernel) (by decide +kernel)
theorem k_448 : (Jvm.Cond.instanceMethod ({ cls := "QueueDriveModel", name := "store", desc := "(I)Z" } : Jvm.MethodName)) ∈ TB := tb_t 448 (by decide +kernel) (by decide +kernel)
theorem k_449 : (Jvm.Cond.code ({ cls := "QueueDriveModel", name := "store", desc := "(I)Z" } : Jvm.MethodName) prog_7_method_8_code (3 : Nat) (Option.some Jvm.ClassFile.FieldType.boolean)) ∈ TB := tb_t 449 (by decide +kernel) (by decide +kernel)
theorem k_450 : (Jvm.Cond.methodLink "QueueDriveModel" (113 : Nat) ({ cls := "QueueDriveModel", name := "make", desc := "(I)I" } : Jvm.MethodName)) ∈ TB := tb_t 450 (by decide +kernel) (by decide +kernel)
theorem k_452 : (Jvm.Cond.instanceMethod ({ cls := "QueueDriveModel", name := "make", desc := "(I)I" } : Jvm.MethodName)) ∈ TB := tb_t 452 (by decide +kernel) (by decide +kernel)
theorem k_453 : (Jvm.Cond.code ({ cls := "QueueDriveModel", name := "make", desc := "(I)I" } : Jvm.MethodName) prog_7_method_11_code (2 : Nat) (Option.some Jvm.ClassFile.FieldType.int)) ∈ TB := tb_t 453 (by decide +kernel) (by decide +kernel)
theorem k_454 : (Jvm.Cond.methodLink "QueueDriveLaw" (35 : Nat) ({ cls := "QueueDriveModel", name := "take", desc := "(I)I" } : Jvm.MethodName)) ∈ TB := tb_t 454 (by decide +kernel) (by decide +kernel)
theorem k_455 : (Jvm.Cond.instanceMethod ({ cls := "QueueDriveModel", name := "take", desc := "(I)I" } : Jvm.MethodName)) ∈ TB := tb_t 455 (by decide +kernel) (by decide +kernel)
theorem k_456 : (Jvm.Cond.selects "QueueDriveModel" ({ cls := "QueueDriveModel", name := "take", desc := "(I)I" } : Jvm.MethodName) ({ cls := "QueueDriveModel", name := "take", desc := "(I)I" } : Jvm.MethodName)) ∈ TB := tb_t 456 (by decide +kernel) (by decide +kernel)
theorem k_457 : (Jvm.Cond.code ({ cls := "QueueDriveModel", name := "take", desc := "(I)I" } : Jvm.MethodName) prog_7_method_20_code (3 : Nat) (Option.some Jvm.ClassFile.FieldType.int)) ∈ TB := tb_t 457 (by decide +kernel) (by decide +kernel)
theorem k_458 : (Jvm.Cond.methodLink "QueueDriveLaw" (40 : Nat) ({ cls := "QueueDriveModel", name := "result", desc := "()J" } : Jvm.MethodName)) ∈ TB := tb_t 458 (by decide +kernel) (by decide +kernel)
theorem k_459 : (Jvm.Cond.instanceMethod ({ cls := "QueueDriveModel", name := "result", desc := "()J" } : Jvm.MethodName)) ∈ TB := tb_t 459 (by decide +kernel) (by decide +kernel)
theorem k_460 : (Jvm.Cond.selects "QueueDriveModel" ({ cls := "QueueDriveModel", name := "result", desc := "()J" } : Jvm.MethodName) ({ cls := "QueueDriveModel", name := "result", desc := "()J" } : Jvm.MethodName)) ∈ TB := tb_t 460 (by decide +kernel) (by decide +kernel)
theorem k_461 : (Jvm.Cond.code ({ cls := "QueueDriveModel", name := "result", desc := "()J" } : Jvm.MethodName) prog_7_method_21_code (1 : Nat) (Option.some Jvm.ClassFile.FieldType.long)) ∈ TB := tb_t 461 (by decide +kernel) (by decide +kernel)
theorem k_462 : (Jvm.Cond.methodLink "QueueDriveLaw" (45 : Nat) ({ cls := "QueueDriveModel", name := "reset", desc := "()I" } : Jvm.MethodName)) ∈ TB := tb_t 462 (by decide +kernel) (by decide +kernel)
theorem k_463 : (Jvm.Cond.instanceMethod ({ cls := "QueueDriveModel", name := "reset", desc := "()I" } : Jvm.MethodName)) ∈ TB := tb_t 463 (by decide +kernel) (by decide +kernel)
theorem k_464 : (Jvm.Cond.selects "QueueDriveModel" ({ cls := "QueueDriveModel", name := "reset", desc := "()I" } : Jvm.MethodName) ({ cls := "QueueDriveModel", name := "reset", desc := "()I" } : Jvm.MethodName)) ∈ TB := tb_t 464 (by decide +kernel) (by decide +kernel)
theorem k_465 : (Jvm.Cond.code ({ cls := "QueueDriveModel", name := "reset", desc := "()I" } : Jvm.MethodName) prog_7_method_22_code (3 : Nat) (Option.some Jvm.ClassFile.FieldType.int)) ∈ TB := tb_t 465 (by decide +kernel) (by decide +kernel)
theorem k_466 : (Jvm.Cond.methodLink "QueueDriveLaw" (49 : Nat) ({ cls := "QueueDriveModel", name := "power", desc := "()I" } : Jvm.MethodName)) ∈ TB := tb_t 466 (by decide +kernel) (by decide +kernel)
theorem k_467 : (Jvm.Cond.instanceMethod ({ cls := "QueueDriveModel", name := "power", desc := "()I" } : Jvm.MethodName)) ∈ TB := tb_t 467 (by decide +kernel) (by decide +kernel)
theorem k_468 : (Jvm.Cond.selects "QueueDriveModel" ({ cls := "QueueDriveModel", name := "power", desc := "()I" } : Jvm.MethodName) ({ cls := "QueueDriveModel", name := "power", desc := "()I" } : Jvm.MethodName)) ∈ TB := tb_t 468 (by decide +kernel) (by decide +kernel)
theorem k_469 : (Jvm.Cond.code ({ cls := "QueueDriveModel", name := "power", desc := "()I" } : Jvm.MethodName) prog_7_method_23_code (3 : Nat) (Option.some Jvm.ClassFile.FieldType.int)) ∈ TB := tb_t 469 (by decide +kernel) (by decide +kernel)
theorem k_470 : (Jvm.Cond.methodLink "QueueDriveModel" (141 : Nat) ({ cls := "QueueDriveModel", name := "reset", desc := "()I" } : Jvm.MethodName)) ∈ TB := tb_t 470 (by decide +kernel) (by decide +kernel)
theorem k_471 : (Jvm.Cond.methodLink "QueueDriveLaw" (54 : Nat) ({ cls := "QueueDriveModel", name := "powerDuring", desc := "(III)I" } : Jvm.MethodName)) ∈ TB := tb_t 471 (by decide +kernel) (by decide +kernel)
theorem k_472 : (Jvm.Cond.instanceMethod ({ cls := "QueueDriveModel", name := "powerDuring", desc := "(III)I" } : Jvm.MethodName)) ∈ TB := tb_t 472 (by decide +kernel) (by decide +kernel)
theorem k_473 : (Jvm.Cond.selects "QueueDriveModel" ({ cls := "QueueDriveModel", name := "powerDuring", desc := "(III)I" } : Jvm.MethodName) ({ cls := "QueueDriveModel", name := "powerDuring", desc := "(III)I" } : Jvm.MethodName)) ∈ TB := tb_t 473 (by decide +kernel) (by decide +kernel)
theorem k_474 : (Jvm.Cond.code ({ cls := "QueueDriveModel", name := "powerDuring", desc := "(III)I" } : Jvm.MethodName) prog_7_method_24_code (8 : Nat) (Option.some Jvm.ClassFile.FieldType.int)) ∈ TB := tb_t 474 (by decide +kernel) (by decide +kernel)
theorem k_475 : (Jvm.Cond.methodLink "QueueDriveModel" (144 : Nat) ({ cls := "QueueDriveModel", name := "power", desc := "()I" } : Jvm.MethodName)) ∈ TB := tb_t 475 (by decide +kernel) (by decide +kernel)
theorem k_476 : (Jvm.Cond.methodLink "QueueDriveLaw" (59 : Nat) ({ cls := "QueueDriveModel", name := "word", desc := "(I)J" } : Jvm.MethodName)) ∈ TB := tb_t 476 (by decide +kernel) (by decide +kernel)
theorem k_477 : (Jvm.Cond.instanceMethod ({ cls := "QueueDriveModel", name := "word", desc := "(I)J" } : Jvm.MethodName)) ∈ TB := tb_t 477 (by decide +kernel) (by decide +kernel)
theorem k_478 : (Jvm.Cond.selects "QueueDriveModel" ({ cls := "QueueDriveModel", name := "word", desc := "(I)J" } : Jvm.MethodName) ({ cls := "QueueDriveModel", name := "word", desc := "(I)J" } : Jvm.MethodName)) ∈ TB := tb_t 478 (by decide +kernel) (by decide +kernel)
theorem k_479 : (Jvm.Cond.code ({ cls := "QueueDriveModel", name := "word", desc := "(I)J" } : Jvm.MethodName) prog_7_method_25_code (2 : Nat) (Option.some Jvm.ClassFile.FieldType.long)) ∈ TB := tb_t 479 (by decide +kernel) (by decide +kernel)
theorem k_480 : (Jvm.Cond.methodLink "QueueDriveLaw" (63 : Nat) ({ cls := "QueueDriveModel", name := "flash", desc := "(I)J" } : Jvm.MethodName)) ∈ TB := tb_t 480 (by decide +kernel) (by decide +kernel)
theorem k_481 : (Jvm.Cond.instanceMethod ({ cls := "QueueDriveModel", name := "flash", desc := "(I)J" } : Jvm.MethodName)) ∈ TB := tb_t 481 (by decide +kernel) (by decide +kernel)
theorem k_482 : (Jvm.Cond.selects "QueueDriveModel" ({ cls := "QueueDriveModel", name := "flash", desc := "(I)J" } : Jvm.MethodName) ({ cls := "QueueDriveModel", name := "flash", desc := "(I)J" } : Jvm.MethodName)) ∈ TB := tb_t 482 (by decide +kernel) (by decide +kernel)
theorem k_483 : (Jvm.Cond.code ({ cls := "QueueDriveModel", name := "flash", desc := "(I)J" } : Jvm.MethodName) prog_7_method_26_code (2 : Nat) (Option.some Jvm.ClassFile.FieldType.long)) ∈ TB := tb_t 483 (by decide +kernel) (by decide +kernel)
theorem k_484 : (Jvm.Cond.methodLink "QueueDriveLaw" (67 : Nat) ({ cls := "QueueDriveModel", name := "queue", desc := "(II)I" } : Jvm.MethodName)) ∈ TB := tb_t 484 (by decide +kernel) (by decide +kernel)
theorem k_485 : (Jvm.Cond.instanceMethod ({ cls := "QueueDriveModel", name := "queue", desc := "(II)I" } : Jvm.MethodName)) ∈ TB := tb_t 485 (by decide +kernel) (by decide +kernel)
theorem k_486 : (Jvm.Cond.selects "QueueDriveModel" ({ cls := "QueueDriveModel", name := "queue", desc := "(II)I" } : Jvm.MethodName) ({ cls := "QueueDriveModel", name := "queue", desc := "(II)I" } : Jvm.MethodName)) ∈ TB := tb_t 486 (by decide +kernel) (by decide +kernel)
theorem k_487 : (Jvm.Cond.code ({ cls := "QueueDriveModel", name := "queue", desc := "(II)I" } : Jvm.MethodName) prog_7_method_27_code (4 : Nat) (Option.some Jvm.ClassFile.FieldType.int)) ∈ TB := tb_t 487 (by decide +kernel) (by decide +kernel)
theorem k_488 : (Jvm.Cond.methodLink "QueueDriveLaw" (71 : Nat) ({ cls := "QueueDriveModel", name := "unit", desc := "(II)I" } : Jvm.MethodName)) ∈ TB := tb_t 488 (by decide +kernel) (by decide +kernel)
theorem k_489 : (Jvm.Cond.instanceMethod ({ cls := "QueueDriveModel", name := "unit", desc := "(II)I" } : Jvm.MethodName)) ∈ TB := tb_t 489 (by decide +kernel) (by decide +kernel)
theorem k_490 : (Jvm.Cond.selects "QueueDriveModel" ({ cls := "QueueDriveModel", name := "unit", desc := "(II)I" } : Jvm.MethodName) ({ cls := "QueueDriveModel", name := "unit", desc := "(II)I" } : Jvm.MethodName)) ∈ TB := tb_t 490 (by decide +kernel) (by decide +kernel)
theorem k_491 : (Jvm.Cond.code ({ cls := "QueueDriveModel", name := "unit", desc := "(II)I" } : Jvm.MethodName) prog_7_method_28_code (5 : Nat) (Option.some Jvm.ClassFile.FieldType.int)) ∈ TB := tb_t 491 (by decide +kernel) (by decide +kernel)
theorem k_492 : (Jvm.Cond.methodLink "QueueDriveLaw" (75 : Nat) ({ cls := "QueueDriveModel", name := "count", desc := "(I)I" } : Jvm.MethodName)) ∈ TB := tb_t 492 (by decide +kernel) (by decide +kernel)
theorem k_493 : (Jvm.Cond.instanceMethod ({ cls := "QueueDriveModel", name := "count", desc := "(I)I" } : Jvm.MethodName)) ∈ TB := tb_t 493 (by decide +kernel) (by decide +kernel)
theorem k_494 : (Jvm.Cond.selects "QueueDriveModel" ({ cls := "QueueDriveModel", name := "count", desc := "(I)I" } : Jvm.MethodName) ({ cls := "QueueDriveModel", name := "count", desc := "(I)I" } : Jvm.MethodName)) ∈ TB := tb_t 494 (by decide +kernel) (by decide +kernel)
theorem k_495 : (Jvm.Cond.code ({ cls := "QueueDriveModel", name := "count", desc := "(I)I" } : Jvm.MethodName) prog_7_method_29_code (2 : Nat) (Option.some Jvm.ClassFile.FieldType.int)) ∈ TB := tb_t 495 (by decide +kernel) (by decide +kernel)
theorem ks_0 : Cond.selects "QueueDrive" ⟨"QueueDrive", "refusalOfStep", "(II)I"⟩ ⟨"QueueDrive", "refusalOfStep", "(II)I"⟩ ∈ TB := tb_s (q := (⟨"QueueDrive", "refusalOfStep", "(II)I"⟩, 9)) 0 (by decide +kernel) (by decide +kernel)
theorem ks_1 : Cond.selects "QueueDrive" ⟨"QueueDrive", "carryOut", "(LQueueDrive$Command;I)J"⟩ ⟨"QueueDrive", "carryOut", "(LQueueDrive$Command;I)J"⟩ ∈ TB := tb_s (q := (⟨"QueueDrive", "carryOut", "(LQueueDrive$Command;I)J"⟩, 9)) 1 (by decide +kernel) (by decide +kernel)
theorem ks_2 : Cond.selects "QueueDrive" ⟨"QueueDrive", "sumOfHeld", "(LQueueDrive$Unit;)J"⟩ ⟨"QueueDrive", "sumOfHeld", "(LQueueDrive$Unit;)J"⟩ ∈ TB := tb_s (q := (⟨"QueueDrive", "sumOfHeld", "(LQueueDrive$Unit;)J"⟩, 9)) 2 (by decide +kernel) (by decide +kernel)
theorem ks_3 : Cond.selects "QueueDrive" ⟨"QueueDrive", "heldWord", "(I)J"⟩ ⟨"QueueDrive", "heldWord", "(I)J"⟩ ∈ TB := tb_s (q := (⟨"QueueDrive", "heldWord", "(I)J"⟩, 9)) 3 (by decide +kernel) (by decide +kernel)
theorem ks_4 : Cond.selects "QueueDrive" ⟨"QueueDrive", "cacheUnit", "(LQueueDrive$Unit;)V"⟩ ⟨"QueueDrive", "cacheUnit", "(LQueueDrive$Unit;)V"⟩ ∈ TB := tb_s (q := (⟨"QueueDrive", "cacheUnit", "(LQueueDrive$Unit;)V"⟩, 9)) 4 (by decide +kernel) (by decide +kernel)
theorem ks_5 : Cond.selects "QueueDrive" ⟨"QueueDrive", "storeOldest", "()Z"⟩ ⟨"QueueDrive", "storeOldest", "()Z"⟩ ∈ TB := tb_s (q := (⟨"QueueDrive", "storeOldest", "()Z"⟩, 9)) 5 (by decide +kernel) (by decide +kernel)
theorem ks_6 : Cond.selects "QueueDrive" ⟨"QueueDrive", "store", "(LQueueDrive$Unit;)Z"⟩ ⟨"QueueDrive", "store", "(LQueueDrive$Unit;)Z"⟩ ∈ TB := tb_s (q := (⟨"QueueDrive", "store", "(LQueueDrive$Unit;)Z"⟩, 9)) 6 (by decide +kernel) (by decide +kernel)
theorem ks_7 : Cond.selects "QueueDrive" ⟨"QueueDrive", "force", "(LQueueDrive$Unit;)V"⟩ ⟨"QueueDrive", "force", "(LQueueDrive$Unit;)V"⟩ ∈ TB := tb_s (q := (⟨"QueueDrive", "force", "(LQueueDrive$Unit;)V"⟩, 9)) 7 (by decide +kernel) (by decide +kernel)
theorem ks_8 : Cond.selects "QueueDrive" ⟨"QueueDrive", "emptyCache", "()Z"⟩ ⟨"QueueDrive", "emptyCache", "()Z"⟩ ∈ TB := tb_s (q := (⟨"QueueDrive", "emptyCache", "()Z"⟩, 9)) 8 (by decide +kernel) (by decide +kernel)
theorem ks_9 : Cond.selects "QueueDrive" ⟨"QueueDrive", "flush", "()I"⟩ ⟨"QueueDrive", "flush", "()I"⟩ ∈ TB := tb_s (q := (⟨"QueueDrive", "flush", "()I"⟩, 9)) 9 (by decide +kernel) (by decide +kernel)
theorem ks_10 : Cond.selects "QueueDrive" ⟨"QueueDrive", "mismatches", "(LQueueDrive$Unit;)I"⟩ ⟨"QueueDrive", "mismatches", "(LQueueDrive$Unit;)I"⟩ ∈ TB := tb_s (q := (⟨"QueueDrive", "mismatches", "(LQueueDrive$Unit;)I"⟩, 9)) 10 (by decide +kernel) (by decide +kernel)
theorem ks_11 : Cond.selects "QueueDrive" ⟨"QueueDrive", "clearQueues", "()I"⟩ ⟨"QueueDrive", "clearQueues", "()I"⟩ ∈ TB := tb_s (q := (⟨"QueueDrive", "clearQueues", "()I"⟩, 9)) 11 (by decide +kernel) (by decide +kernel)
theorem ks_12 : Cond.selects "QueueDrive" ⟨"QueueDrive", "losePower", "()I"⟩ ⟨"QueueDrive", "losePower", "()I"⟩ ∈ TB := tb_s (q := (⟨"QueueDrive", "losePower", "()I"⟩, 9)) 12 (by decide +kernel) (by decide +kernel)
theorem ks_13 : Cond.selects "QueueDriveModel" ⟨"QueueDriveModel", "pending", "(I)I"⟩ ⟨"QueueDriveModel", "pending", "(I)I"⟩ ∈ TB := tb_s (q := (⟨"QueueDriveModel", "pending", "(I)I"⟩, 23)) 13 (by decide +kernel) (by decide +kernel)
theorem ks_14 : Cond.selects "QueueDriveModel" ⟨"QueueDriveModel", "picked", "(II)I"⟩ ⟨"QueueDriveModel", "picked", "(II)I"⟩ ∈ TB := tb_s (q := (⟨"QueueDriveModel", "picked", "(II)I"⟩, 23)) 14 (by decide +kernel) (by decide +kernel)
theorem ks_15 : Cond.selects "QueueDriveModel" ⟨"QueueDriveModel", "done", "(I)I"⟩ ⟨"QueueDriveModel", "done", "(I)I"⟩ ∈ TB := tb_s (q := (⟨"QueueDriveModel", "done", "(I)I"⟩, 23)) 15 (by decide +kernel) (by decide +kernel)
theorem ks_16 : Cond.selects "QueueDriveModel" ⟨"QueueDriveModel", "work", "(I)J"⟩ ⟨"QueueDriveModel", "work", "(I)J"⟩ ∈ TB := tb_s (q := (⟨"QueueDriveModel", "work", "(I)J"⟩, 23)) 16 (by decide +kernel) (by decide +kernel)
theorem ks_17 : Cond.selects "QueueDriveModel" ⟨"QueueDriveModel", "total", "(I)J"⟩ ⟨"QueueDriveModel", "total", "(I)J"⟩ ∈ TB := tb_s (q := (⟨"QueueDriveModel", "total", "(I)J"⟩, 23)) 17 (by decide +kernel) (by decide +kernel)
theorem ks_18 : Cond.selects "QueueDriveModel" ⟨"QueueDriveModel", "holds", "(I)J"⟩ ⟨"QueueDriveModel", "holds", "(I)J"⟩ ∈ TB := tb_s (q := (⟨"QueueDriveModel", "holds", "(I)J"⟩, 23)) 18 (by decide +kernel) (by decide +kernel)
theorem ks_19 : Cond.selects "QueueDriveModel" ⟨"QueueDriveModel", "covers", "(II)Z"⟩ ⟨"QueueDriveModel", "covers", "(II)Z"⟩ ∈ TB := tb_s (q := (⟨"QueueDriveModel", "covers", "(II)Z"⟩, 23)) 19 (by decide +kernel) (by decide +kernel)
theorem ks_20 : Cond.selects "QueueDriveModel" ⟨"QueueDriveModel", "wordOf", "(II)J"⟩ ⟨"QueueDriveModel", "wordOf", "(II)J"⟩ ∈ TB := tb_s (q := (⟨"QueueDriveModel", "wordOf", "(II)J"⟩, 23)) 20 (by decide +kernel) (by decide +kernel)
theorem ks_21 : Cond.selects "QueueDriveModel" ⟨"QueueDriveModel", "inFlash", "(I)J"⟩ ⟨"QueueDriveModel", "inFlash", "(I)J"⟩ ∈ TB := tb_s (q := (⟨"QueueDriveModel", "inFlash", "(I)J"⟩, 23)) 21 (by decide +kernel) (by decide +kernel)
theorem ks_22 : Cond.selects "QueueDriveModel" ⟨"QueueDriveModel", "differing", "(I)I"⟩ ⟨"QueueDriveModel", "differing", "(I)I"⟩ ∈ TB := tb_s (q := (⟨"QueueDriveModel", "differing", "(I)I"⟩, 23)) 22 (by decide +kernel) (by decide +kernel)
theorem ks_23 : Cond.selects "QueueDriveModel" ⟨"QueueDriveModel", "inCache", "()I"⟩ ⟨"QueueDriveModel", "inCache", "()I"⟩ ∈ TB := tb_s (q := (⟨"QueueDriveModel", "inCache", "()I"⟩, 23)) 23 (by decide +kernel) (by decide +kernel)
theorem ks_24 : Cond.selects "QueueDriveModel" ⟨"QueueDriveModel", "empty", "()Z"⟩ ⟨"QueueDriveModel", "empty", "()Z"⟩ ∈ TB := tb_s (q := (⟨"QueueDriveModel", "empty", "()Z"⟩, 23)) 24 (by decide +kernel) (by decide +kernel)
theorem ks_25 : Cond.selects "QueueDriveModel" ⟨"QueueDriveModel", "storeOldest", "()Z"⟩ ⟨"QueueDriveModel", "storeOldest", "()Z"⟩ ∈ TB := tb_s (q := (⟨"QueueDriveModel", "storeOldest", "()Z"⟩, 23)) 25 (by decide +kernel) (by decide +kernel)
theorem ks_26 : Cond.selects "QueueDriveModel" ⟨"QueueDriveModel", "store", "(I)Z"⟩ ⟨"QueueDriveModel", "store", "(I)Z"⟩ ∈ TB := tb_s (q := (⟨"QueueDriveModel", "store", "(I)Z"⟩, 23)) 26 (by decide +kernel) (by decide +kernel)
theorem ks_27 : Cond.selects "QueueDriveModel" ⟨"QueueDriveModel", "make", "(I)I"⟩ ⟨"QueueDriveModel", "make", "(I)I"⟩ ∈ TB := tb_s (q := (⟨"QueueDriveModel", "make", "(I)I"⟩, 23)) 27 (by decide +kernel) (by decide +kernel)
/-- words that no callee may be given, but that stay all the same: arrays over a class, nest mates -/
def aoL : List String := ["QueueDrive$Unit", "QueueDrive$CommandQueue", "QueueDrive$Command"]
def nsL : List (String × Nat × MethodName × String) := [("QueueDrive$Cache", 15, ⟨"QueueDrive$Unit", "<init>", "()V"⟩, "QueueDrive"), ("QueueDrive$CommandQueue", 17, ⟨"QueueDrive$Command", "<init>", "()V"⟩, "QueueDrive"), ("QueueDrive$Command", 9, ⟨"QueueDrive$Unit", "<init>", "()V"⟩, "QueueDrive")]
def mw_X (U : State) : Prop := (∀ C ∈ aoL, va_AO C U) ∧ ∀ q ∈ nsL, va_Nw (.methodLinkNest q.1 q.2.1 q.2.2.1 q.2.2.2) U
theorem mw_X_warm {s U : State} (hW : s.WarmedH U.vm) (h : mw_X s) : mw_X U := ⟨fun C hC => (h.1 C hC).moved hW.alike, fun q hq => va_Nw.warmM hW (h.2 q hq)⟩
theorem mw_X_same {u U : State} (hv : u.vm = U.vm) (h : mw_X u) : mw_X U := ⟨fun C hC => va_AO.moved (by rw [hv]; exact Vm.Alike.refl _) (h.1 C hC), fun q hq => va_Nw.same rfl hv (h.2 q hq)⟩
theorem in_D : ∀ x ∈ u_ws R_D F_D 9, x ∈ TB := by decide +kernel
theorem in_C : ∀ x ∈ u_ws R_C F_C 2, x ∈ TB := by decide +kernel
theorem in_K : ∀ x ∈ u_ws R_K F_K 3, x ∈ TB := by decide +kernel
theorem in_Q : ∀ x ∈ u_ws R_Q F_Q 5, x ∈ TB := by decide +kernel
theorem in_U : ∀ x ∈ u_ws R_U F_U 4, x ∈ TB := by decide +kernel
theorem in_M : ∀ x ∈ u_ws R_M F_M 23, x ∈ TB := by decide +kernel
end
section
/-! MAP WORLDS: the world of a method is ONE partial map from addresses to cells, all of them from n0 on (n0: the heap's size as the law begins). A contract gives the new map; what it does not name stays, by the map itself: no join, no frame. The rows below are the kit's rows, said of maps. -/
abbrev mw : Type := Nat → Option va_E
def mw_up (w : mw) (a : Nat) (e : va_E) : mw := fun b => if b = a then some e else w b
theorem mw_self {w : mw} {a : Nat} {e : va_E} : mw_up w a e a = some e := by simp [mw_up]
theorem mw_ne {w : mw} {a b : Nat} {e : va_E} (h : b ≠ a) : mw_up w a e b = w b := by simp [mw_up, h]
theorem mw_uu {w : mw} {a : Nat} {e e' : va_E} : mw_up (mw_up w a e) a e' = mw_up w a e' := by
  funext b
  by_cases h : b = a <;> simp [mw_up, h]
theorem mw_id {w : mw} {a : Nat} {e : va_E} (h : w a = some e) : mw_up w a e = w := by
  funext b
  by_cases hb : b = a
  · subst hb; simp [mw_up, h]
  · simp [mw_up, hb]
/-- two addresses that hold different things are different -/
theorem mw_apart {w : mw} {a b : Nat} {e f : va_E} (ha : w a = some e) (hb : w b = some f) (h : e ≠ f) : a ≠ b := by
  intro z
  subst z
  rw [ha] at hb
  exact h (Option.some.inj hb)
def mw_M (n0 : Nat) (D : va_G) (cl : List vw_C) (w : mw) (H : Heap) : Prop := ∀ (a : Nat) (e : va_E), w a = some e → n0 ≤ a ∧ va_at D cl (a, e) H
abbrev mw_A (n0 : Nat) : Nat → Prop := fun q => n0 ≤ q
def mw_L (w : mw) (n : Nat) : va_W := (List.range n).filterMap (fun a => (w a).map (fun e => (a, e)))
theorem mw_mem {w : mw} {n : Nat} {q : Nat × va_E} : q ∈ mw_L w n ↔ q.1 < n ∧ w q.1 = some q.2 := by
  unfold mw_L
  rw [List.mem_filterMap]
  constructor
  · rintro ⟨a, ha, hq⟩
    rw [List.mem_range] at ha
    cases hw : w a with
    | none => rw [hw] at hq; cases hq
    | some e =>
      rw [hw] at hq
      cases hq
      exact ⟨ha, hw⟩
  · rintro ⟨h1, h2⟩
    refine ⟨q.1, List.mem_range.mpr h1, ?_⟩
    rw [h2]
    rfl
theorem mw_sorted (w : mw) (n : Nat) : (mw_L w n).Pairwise (fun p q => p.1 < q.1) := by
  unfold mw_L
  refine List.Pairwise.filterMap (R := fun a b => a < b) _ ?_ List.pairwise_lt_range
  intro a a' haa b hb b' hb'
  have e1 : b.1 = a := by
    cases hw : w a with
    | none => rw [hw] at hb; cases hb
    | some x => rw [hw] at hb; cases hb; rfl
  have e2 : b'.1 = a' := by
    cases hw : w a' with
    | none => rw [hw] at hb'; cases hb'
    | some x => rw [hw] at hb'; cases hb'; rfl
  rw [e1, e2]
  exact haa
theorem mw_inj {w : mw} {n i j : Nat} {p q : Nat × va_E} (hi : (mw_L w n)[i]? = some p) (hj : (mw_L w n)[j]? = some q) (h : p.1 = q.1) : i = j := by
  have hs := List.pairwise_iff_getElem.mp (mw_sorted w n)
  obtain ⟨li, ei⟩ := List.getElem?_eq_some_iff.mp hi
  obtain ⟨lj, ej⟩ := List.getElem?_eq_some_iff.mp hj
  rcases Nat.lt_trichotomy i j with hlt | heq | hgt
  · have := hs i j li lj hlt
    rw [ei, ej] at this
    omega
  · exact heq
  · have := hs j i lj li hgt
    rw [ei, ej] at this
    omega
theorem mw_P {n0 : Nat} {D : va_G} {cl : List vw_C} {w : mw} {H : Heap} (h : mw_M n0 D cl w H) : va_P D cl (mw_L w H.size) H := fun _ q hk => (h q.1 q.2 (mw_mem.mp (List.mem_of_getElem? hk)).2).2
theorem mw_D {n0 : Nat} {D : va_G} {cl : List vw_C} {w : mw} {H : Heap} (h : mw_M n0 D cl w H) : va_D (mw_A n0) (mw_L w H.size) := ⟨fun _ _ _ _ hi hj e => mw_inj hi hj e, fun _ q hk => (h q.1 q.2 (mw_mem.mp (List.mem_of_getElem? hk)).2).1⟩
theorem mw_in {n0 : Nat} {D : va_G} {cl : List vw_C} {w : mw} {H : Heap} (h : mw_M n0 D cl w H) {a : Nat} {e : va_E} (ha : w a = some e) : ∃ k : Nat, (mw_L w H.size)[k]? = some (a, e) := List.getElem?_of_mem (mw_mem.mpr ⟨(h a e ha).2.lt, ha⟩)
theorem mw_set {n0 : Nat} {D : va_G} {cl : List vw_C} {w : mw} {H H1 : Heap} {k a : Nat} {e0 e : va_E} (h : mw_M n0 D cl w H) (hk : (mw_L w H.size)[k]? = some (a, e0)) (hP1 : va_P D cl ((mw_L w H.size).set k (a, e)) H1) : mw_M n0 D cl (mw_up w a e) H1 := by
  have hlt := (List.getElem?_eq_some_iff.mp hk).1
  intro b e' hb
  by_cases hba : b = a
  · subst hba
    rw [mw_self] at hb
    cases hb
    exact ⟨(h b e0 (mw_mem.mp (List.mem_of_getElem? hk)).2).1, hP1 k (b, e) (List.getElem?_set_self hlt)⟩
  · rw [mw_ne hba] at hb
    obtain ⟨k', hk'⟩ := mw_in h hb
    have hne : k ≠ k' := by
      intro z
      subst z
      rw [hk] at hk'
      cases hk'
      exact hba rfl
    exact ⟨(h b e' hb).1, hP1 k' (b, e') (by rw [List.getElem?_set_ne hne]; exact hk')⟩
theorem mw_push {n0 : Nat} {D : va_G} {cl : List vw_C} {w : mw} {H H1 : Heap} {q : Nat} {e : va_E} (h : mw_M n0 D cl w H) (hP1 : va_P D cl (mw_L w H.size ++ [(q, e)]) H1) (hD1 : va_D (mw_A n0) (mw_L w H.size ++ [(q, e)])) : mw_M n0 D cl (mw_up w q e) H1 ∧ w q = none := by
  have hl : (mw_L w H.size ++ [(q, e)])[(mw_L w H.size).length]? = some (q, e) := by simp
  have hin : ∀ (b : Nat) (e' : va_E), w b = some e' → ∃ k : Nat, k < (mw_L w H.size).length ∧ (mw_L w H.size ++ [(q, e)])[k]? = some (b, e') := by
    intro b e' hb
    obtain ⟨k, hk⟩ := mw_in h hb
    have hlt := (List.getElem?_eq_some_iff.mp hk).1
    exact ⟨k, hlt, by rw [List.getElem?_append_left hlt]; exact hk⟩
  refine ⟨fun b e' hb => ?_, ?_⟩
  · by_cases hbq : b = q
    · subst hbq
      rw [mw_self] at hb
      cases hb
      exact ⟨hD1.2 _ _ hl, hP1 _ _ hl⟩
    · rw [mw_ne hbq] at hb
      obtain ⟨k, -, hk⟩ := hin b e' hb
      exact ⟨(h b e' hb).1, hP1 _ _ hk⟩
  · cases hw : w q with
    | none => rfl
    | some e0 =>
      obtain ⟨k, hlt, hk⟩ := hin q e0 hw
      have := hD1.1 k _ (q, e0) (q, e) hk hl rfl
      omega
/-- a method's frame, code, tables; the classes and array classes; n0 -/
def mw_G (p : Program) (m : MethodId) (c : Code) (cc : ByteArray) (nL : Nat) (s : State) (args : Array Value) (Ts : List Cond) (own : String) (D : va_G) (cl : List vw_C) (tys : List (ClassId × FieldType)) (n0 : Nat) : Prop := CallFix p m c cc nL s args Ts own ∧ (va_K D cl tys s ∧ mw_X s) ∧ n0 ≤ s.heap.size
/-- the heap holds the map, and nothing below n0 has changed since the method began -/
def mw_H (n0 : Nat) (D : va_G) (cl : List vw_C) (s : State) (w : mw) (H : Heap) (locs : List Loc) : Prop := mw_M n0 D cl w H ∧ va_S (mw_A n0) s.heap H locs
/-- a contract's start -/
def mw_Pc (n0 : Nat) (D : va_G) (cl : List vw_C) (tys : List (ClassId × FieldType)) (av : List Value) (w : mw) : Array Value → State → Prop := va_Pc av (fun U => n0 ≤ U.heap.size ∧ mw_M n0 D cl w U.heap ∧ (va_K D cl tys U ∧ mw_X U))
abbrev mw_B (n0 : Nat) (D : va_G) (cl : List vw_C) : mw → State → Prop := fun w t => mw_M n0 D cl w t.heap
abbrev mw_Qi (n0 : Nat) (D : va_G) (cl : List vw_C) (post : Int32 → mw → Prop) := va_Qi post (mw_B n0 D cl) (mw_A n0)
abbrev mw_Ql (n0 : Nat) (D : va_G) (cl : List vw_C) (post : Int64 → mw → Prop) := va_Ql post (mw_B n0 D cl) (mw_A n0)
abbrev mw_Qv (n0 : Nat) (D : va_G) (cl : List vw_C) (post : mw → Prop) := va_Qv post (mw_B n0 D cl) (mw_A n0)
abbrev mw_Qr (n0 : Nat) (D : va_G) (cl : List vw_C) (post : Nat → mw → Prop) := va_Qr (S := Nat × mw) (fun u => post u.1 u.2) (fun u a t => a = u.1 ∧ mw_M n0 D cl u.2 t.heap) (mw_A n0)
theorem mw_blind {n0 : Nat} {D : va_G} {cl : List vw_C} {tys : List (ClassId × FieldType)} {av : List Value} {w : mw} : FrameBlind (mw_Pc n0 D cl tys av w) := fun a U g mk q => by
  obtain ⟨q0, q1, qP, qK⟩ := q
  exact ⟨q0, q1, qP, va_K.moved (u := U) (U := U.calling g mk a) (Vm.Alike.refl U.vm) qK.1, mw_X_same (u := U) (U := U.calling g mk a) rfl qK.2⟩
section MWR
variable {p : Program} {l : Launch} {e : Env} {R : Room} {s : State} {m : MethodId} {args : Array Value} {below : List Frame} {meth : Method} {c : Code} {H : Heap} {locs : List Loc} {cells slots : Nat} {Q : State → Prop}
variable {cc : ByteArray} {pc : Nat} {ls : Array Slot} {rest : List Value} {D : va_G} {cl : List vw_C} {a : Nat} {tys : List (ClassId × FieldType)} {w : mw} {n0 nL : Nat} {Ts : List Cond} {own : String}
theorem mw_pre (G : mw_G p m c cc nL s args Ts own D cl tys n0) (h : mw_H n0 D cl s w H locs) {av : List Value} : ∀ U : State, U.heap = H → s.WarmedH U.vm → mw_Pc n0 D cl tys av w av.toArray U := fun U hU hW => ⟨rfl, by rw [hU]; exact Nat.le_trans G.2.2 h.2.1, by rw [hU]; exact h.1, va_K.moved hW.alike G.2.1.1, mw_X_warm hW G.2.1.2⟩
theorem mx_get (G : mw_G p m c cc nL s args Ts own D cl tys n0) (h : mw_H n0 D cl s w H locs) {ref C : String} {T : u_T} {N ci index : Nat} {fs : List Value} {v : Value} (ha : w a = some (.inr (ci, fs))) (hc : cl[ci]? = some (C, T, N)) (k : Nat) (hk : k < N) (hin : ∀ x ∈ u_ws C T N, x ∈ Ts) (hlink : Cond.fieldLink own index ref (T k).2.1 (T k).2.2.1 ∈ Ts) (href : (T k).1 = ref) (hv : fs[k]? = some v) (hdg : decode cc pc = .ok (.getfield index, 3))
    (kk : W p l e R s m args below meth c H locs cells slots Q (F0 m (pc + 3) ls (v :: rest))) : W p l e R s m args below meth c H locs cells slots Q (F0 m pc ls (.ref a :: rest)) := by
  obtain ⟨⟨hx, hb, -, hown, hts⟩, ⟨hK, -⟩, -⟩ := G
  obtain ⟨q0, he⟩ := mw_in h.1 ha
  subst href
  exact va_get hx hb hts hin hown hK (mw_P h.1) q0 he hc k hk (hts _ hlink) (fun _ z => z) hv hdg kk
theorem mx_put (G : mw_G p m c cc nL s args Ts own D cl tys n0) (h : mw_H n0 D cl s w H locs) {ref C : String} {T : u_T} {N ci index : Nat} {fs : List Value} {v : Value} (ha : w a = some (.inr (ci, fs))) (hc : cl[ci]? = some (C, T, N)) (k : Nat) (hk : k < N) (hin : ∀ x ∈ u_ws C T N, x ∈ Ts) (ty0 : Nat → FieldType) (hty : ∀ k, k < N → parseFieldDescriptor (T k).2.2.1 = some (ty0 k)) (hnm : ∀ a, a < N → ∀ b, b < N → a ≠ b → (T a).2.1 ≠ (T b).2.1) (hlink : Cond.fieldLink own index ref (T k).2.1 (T k).2.2.1 ∈ Ts) (href : (T k).1 = ref) (hfin : (T k).2.2.2 = false) {ty : FieldType} (hd : ty0 k = ty) (hn : narrow ty v = v) (hfit : fits ty v = true) (hl : k < fs.length) (hdg : decode cc pc = .ok (.putfield index, 3))
    (kk : ∀ (H1 : Heap) (locs1 : List Loc), mw_H n0 D cl s (mw_up w a (.inr (ci, fs.set k v))) H1 locs1 → W p l e R s m args below meth c H1 locs1 cells slots Q (F0 m (pc + 3) ls rest)) : W p l e R s m args below meth c H locs cells slots Q (F0 m pc ls (v :: .ref a :: rest)) := by
  obtain ⟨⟨hx, hb, -, hown, hts⟩, ⟨hK, -⟩, -⟩ := G
  obtain ⟨q0, he⟩ := mw_in h.1 ha
  subst href
  exact va_put hx hb hts hin ty0 hty hnm hown hK (mw_P h.1) (mw_D h.1) h.2 q0 he hc k hk (hts _ hlink) (fun _ z => z) hfin (by rw [hty k hk, hd]) hn hfit hl hdg (fun H1 locs1 hP1 _ hS1 => kk H1 locs1 ⟨mw_set h.1 he hP1, hS1⟩)
theorem mx_putF (G : mw_G p m c cc nL s args Ts own D cl tys n0) (h : mw_H n0 D cl s w H locs) (hin2 : meth.name = "<init>") {ref C : String} {T : u_T} {N ci index : Nat} {fs : List Value} {v : Value} (ha : w a = some (.inr (ci, fs))) (hc : cl[ci]? = some (C, T, N)) (k : Nat) (hk : k < N) (hin : ∀ x ∈ u_ws C T N, x ∈ Ts) (ty0 : Nat → FieldType) (hty : ∀ k, k < N → parseFieldDescriptor (T k).2.2.1 = some (ty0 k)) (hnm : ∀ a, a < N → ∀ b, b < N → a ≠ b → (T a).2.1 ≠ (T b).2.1) (hlink : Cond.fieldLink own index ref (T k).2.1 (T k).2.2.1 ∈ Ts) (href : (T k).1 = ref) (hdecl : (T k).1 = own) (hfin : (T k).2.2.2 = true) {ty : FieldType} (hd : ty0 k = ty) (hn : narrow ty v = v) (hfit : fits ty v = true) (hl : k < fs.length) (hdg : decode cc pc = .ok (.putfield index, 3))
    (kk : ∀ (H1 : Heap) (locs1 : List Loc), mw_H n0 D cl s (mw_up w a (.inr (ci, fs.set k v))) H1 locs1 → W p l e R s m args below meth c H1 locs1 cells slots Q (F0 m (pc + 3) ls rest)) : W p l e R s m args below meth c H locs cells slots Q (F0 m pc ls (v :: .ref a :: rest)) := by
  obtain ⟨⟨hx, hb, -, hown, hts⟩, ⟨hK, -⟩, -⟩ := G
  obtain ⟨q0, he⟩ := mw_in h.1 ha
  subst href
  exact va_putF hx hb hts hin ty0 hty hnm hown hK (mw_P h.1) (mw_D h.1) h.2 q0 he hc k hk (hts _ hlink) (fun _ z => z) hfin hin2 hdecl (by rw [hty k hk, hd]) hn hfit hl hdg (fun H1 locs1 hP1 _ hS1 => kk H1 locs1 ⟨mw_set h.1 he hP1, hS1⟩)
theorem mx_iald (G : mw_G p m c cc nL s args Ts own D cl tys n0) (h : mw_H n0 D cl s w H locs) (t0 : Nat) {cA : ClassId} {n : Nat} {f : Nat → Int32} (ha : w a = some (.inl (cA, n, .inl f))) (ht : tys[t0]? = some (cA, .int)) {i : Int32} (hin : vp_in i n) (hdg : decode cc pc = .ok (.iaload, 1))
    (kk : W p l e R s m args below meth c H locs cells slots Q (F0 m (pc + 1) ls (.int (f i.toNatClampNeg) :: rest))) : W p l e R s m args below meth c H locs cells slots Q (F0 m pc ls (.int i :: .ref a :: rest)) := by
  obtain ⟨q0, he⟩ := mw_in h.1 ha
  exact va_iald G.1.1 G.1.2.1 G.2.1.1 (mw_P h.1) q0 t0 he ht hin hdg kk
theorem mx_zald (G : mw_G p m c cc nL s args Ts own D cl tys n0) (h : mw_H n0 D cl s w H locs) (t0 : Nat) {cA : ClassId} {n : Nat} {f : Nat → Int32} (ha : w a = some (.inl (cA, n, .inl f))) (ht : tys[t0]? = some (cA, .boolean)) {i : Int32} (hin : vp_in i n) (hdg : decode cc pc = .ok (.baload, 1))
    (kk : W p l e R s m args below meth c H locs cells slots Q (F0 m (pc + 1) ls (.int (f i.toNatClampNeg) :: rest))) : W p l e R s m args below meth c H locs cells slots Q (F0 m pc ls (.int i :: .ref a :: rest)) := by
  obtain ⟨q0, he⟩ := mw_in h.1 ha
  exact va_zald G.1.1 G.1.2.1 G.2.1.1 (mw_P h.1) q0 t0 he ht hin hdg kk
theorem mx_lald (G : mw_G p m c cc nL s args Ts own D cl tys n0) (h : mw_H n0 D cl s w H locs) (t0 : Nat) {cA : ClassId} {n : Nat} {f : Nat → Int64} (ha : w a = some (.inl (cA, n, .inr (.inl f)))) (ht : tys[t0]? = some (cA, .long)) {i : Int32} (hin : vp_in i n) (hdg : decode cc pc = .ok (.laload, 1))
    (kk : W p l e R s m args below meth c H locs cells slots Q (F0 m (pc + 1) ls (.long (f i.toNatClampNeg) :: rest))) : W p l e R s m args below meth c H locs cells slots Q (F0 m pc ls (.int i :: .ref a :: rest)) := by
  obtain ⟨q0, he⟩ := mw_in h.1 ha
  exact va_lald G.1.1 G.1.2.1 G.2.1.1 (mw_P h.1) q0 t0 he ht hin hdg kk
theorem mx_aald (G : mw_G p m c cc nL s args Ts own D cl tys n0) (h : mw_H n0 D cl s w H locs) (t0 : Nat) {cA : ClassId} {C : String} {n v : Nat} {f : Nat → Option Nat} (ha : w a = some (.inl (cA, n, .inr (.inr (.inr (.inr f)))))) (ht : tys[t0]? = some (cA, .object C)) {i : Int32} (hin : vp_in i n) (hv : f i.toNatClampNeg = some v) (hdg : decode cc pc = .ok (.aaload, 1))
    (kk : W p l e R s m args below meth c H locs cells slots Q (F0 m (pc + 1) ls (.ref v :: rest))) : W p l e R s m args below meth c H locs cells slots Q (F0 m pc ls (.int i :: .ref a :: rest)) := by
  obtain ⟨q0, he⟩ := mw_in h.1 ha
  exact va_aldq G.1.1 G.1.2.1 G.2.1.1 (mw_P h.1) q0 t0 he ht hin hdg (by rw [hv]; exact kk)
theorem mx_iast (G : mw_G p m c cc nL s args Ts own D cl tys n0) (h : mw_H n0 D cl s w H locs) (t0 : Nat) {cA : ClassId} {n : Nat} {f : Nat → Int32} (ha : w a = some (.inl (cA, n, .inl f))) (ht : tys[t0]? = some (cA, .int)) {i x : Int32} (hin : vp_in i n) (hdg : decode cc pc = .ok (.iastore, 1))
    (kk : ∀ (H1 : Heap) (locs1 : List Loc), mw_H n0 D cl s (mw_up w a (.inl (cA, n, .inl (upd f i.toNatClampNeg x)))) H1 locs1 → W p l e R s m args below meth c H1 locs1 cells slots Q (F0 m (pc + 1) ls rest)) : W p l e R s m args below meth c H locs cells slots Q (F0 m pc ls (.int x :: .int i :: .ref a :: rest)) := by
  obtain ⟨q0, he⟩ := mw_in h.1 ha
  exact va_iast G.1.1 G.1.2.1 G.2.1.1 (mw_P h.1) (mw_D h.1) h.2 q0 t0 he ht hin hdg (fun H1 locs1 hP1 _ hS1 => kk H1 locs1 ⟨mw_set h.1 he hP1, hS1⟩)
theorem mx_zast (G : mw_G p m c cc nL s args Ts own D cl tys n0) (h : mw_H n0 D cl s w H locs) (t0 : Nat) {cA : ClassId} {n : Nat} {f : Nat → Int32} (ha : w a = some (.inl (cA, n, .inl f))) (ht : tys[t0]? = some (cA, .boolean)) {i x : Int32} (hin : vp_in i n) (hdg : decode cc pc = .ok (.bastore, 1))
    (kk : ∀ (H1 : Heap) (locs1 : List Loc), mw_H n0 D cl s (mw_up w a (.inl (cA, n, .inl (upd f i.toNatClampNeg (vp_nar .boolean x))))) H1 locs1 → W p l e R s m args below meth c H1 locs1 cells slots Q (F0 m (pc + 1) ls rest)) : W p l e R s m args below meth c H locs cells slots Q (F0 m pc ls (.int x :: .int i :: .ref a :: rest)) := by
  obtain ⟨q0, he⟩ := mw_in h.1 ha
  exact va_zast G.1.1 G.1.2.1 G.2.1.1 (mw_P h.1) (mw_D h.1) h.2 q0 t0 he ht hin hdg (fun H1 locs1 hP1 _ hS1 => kk H1 locs1 ⟨mw_set h.1 he hP1, hS1⟩)
theorem mx_last (G : mw_G p m c cc nL s args Ts own D cl tys n0) (h : mw_H n0 D cl s w H locs) (t0 : Nat) {cA : ClassId} {n : Nat} {f : Nat → Int64} (ha : w a = some (.inl (cA, n, .inr (.inl f)))) (ht : tys[t0]? = some (cA, .long)) {i : Int32} {x : Int64} (hin : vp_in i n) (hdg : decode cc pc = .ok (.lastore, 1))
    (kk : ∀ (H1 : Heap) (locs1 : List Loc), mw_H n0 D cl s (mw_up w a (.inl (cA, n, .inr (.inl (vp_updL f i.toNatClampNeg x))))) H1 locs1 → W p l e R s m args below meth c H1 locs1 cells slots Q (F0 m (pc + 1) ls rest)) : W p l e R s m args below meth c H locs cells slots Q (F0 m pc ls (.long x :: .int i :: .ref a :: rest)) := by
  obtain ⟨q0, he⟩ := mw_in h.1 ha
  exact va_last G.1.1 G.1.2.1 G.2.1.1 (mw_P h.1) (mw_D h.1) h.2 q0 t0 he ht hin hdg (fun H1 locs1 hP1 _ hS1 => kk H1 locs1 ⟨mw_set h.1 he hP1, hS1⟩)
theorem mx_aast (G : mw_G p m c cc nL s args Ts own D cl tys n0) (h : mw_H n0 D cl s w H locs) (t0 ci : Nat) {cA : ClassId} {r : vw_C} {n v : Nat} {vs : List Value} {f : Nat → Option Nat} (ha : w a = some (.inl (cA, n, .inr (.inr (.inr (.inr f)))))) (ht : tys[t0]? = some (cA, .object r.1)) (hv : w v = some (.inr (ci, vs))) (hc : cl[ci]? = some r) {i : Int32} (hin : vp_in i n) (hdg : decode cc pc = .ok (.aastore, 1))
    (kk : ∀ (H1 : Heap) (locs1 : List Loc), mw_H n0 D cl s (mw_up w a (.inl (cA, n, .inr (.inr (.inr (.inr (va_up f i.toNatClampNeg (some v)))))))) H1 locs1 → W p l e R s m args below meth c H1 locs1 cells slots Q (F0 m (pc + 1) ls rest)) : W p l e R s m args below meth c H locs cells slots Q (F0 m pc ls (.ref v :: .int i :: .ref a :: rest)) := by
  obtain ⟨q0, he⟩ := mw_in h.1 ha
  obtain ⟨qk, hq⟩ := mw_in h.1 hv
  exact va_astq G.1.1 G.1.2.1 G.2.1.1 (mw_P h.1) (mw_D h.1) h.2 q0 t0 qk ci he ht hq hc hin hdg (fun H1 locs1 hP1 _ hS1 => kk H1 locs1 ⟨mw_set h.1 he hP1, hS1⟩)
theorem mx_alen (G : mw_G p m c cc nL s args Ts own D cl tys n0) (h : mw_H n0 D cl s w H locs) (t0 : Nat) {cA : ClassId} {x : vp_A} (ha : w a = some (.inl (cA, x))) {ty : FieldType} (ht : tys[t0]? = some (cA, ty)) {v : Int32} (hv : Int32.ofNat x.1 = v) (hdg : decode cc pc = .ok (.arraylength, 1))
    (kk : W p l e R s m args below meth c H locs cells slots Q (F0 m (pc + 1) ls (.int v :: rest))) : W p l e R s m args below meth c H locs cells slots Q (F0 m pc ls (.ref a :: rest)) := by
  obtain ⟨q0, he⟩ := mw_in h.1 ha
  exact va_alen G.1.1 G.1.2.1 G.2.1.1 (mw_P h.1) q0 t0 he ht hv hdg kk
/-- the class of the arrays of a type is one -/
theorem mw_oneA {U : State} {x y : ClassId} {ty : FieldType} (hx : va_RA U x ty) (hy : va_RA U y ty) : x = y := by
  have key : ∀ z : ClassId, va_RA U z ty → U.vm.findClass ("[" ++ ty.toString) = some z := by
    intro z hz
    cases ty with
    | object C =>
      obtain ⟨-, -, -, -, -, h⟩ := hz
      exact h
    | _ => exact hz
  exact Option.some.inj ((key x hx).symm.trans (key y hy))
theorem mx_newa (G : mw_G p m c cc nL s args Ts own D cl tys n0) (h : mw_H n0 D cl s w H locs) {atype : ArrayType} (harr : Cond.arrayClass (newarray.typeOf atype) ∈ Ts) {ty : FieldType} (hty : newarray.typeOf atype = ty) (t0 : Nat) {cA : ClassId} (ht : tys[t0]? = some (cA, ty)) {n : Int32} {N' : Nat} {a0 : vp_A} (ha : ∀ cA : ClassId, vp_cell cA a0 = arrV cA N' (fun _ => defaultValue ty)) (hn : ¬ n < 0) (hN : n.toNatClampNeg = N') (hbytes : N' * componentBytes ty ≤ 536870912) (hcells : cells + 1 ≤ R.cells) (hslots : slots + N' ≤ R.slots) (hdg : decode cc pc = .ok (.newarray atype, 2))
    (kk : ∀ (q : Nat) (H1 : Heap), w q = none → mw_H n0 D cl s (mw_up w q (.inl (cA, a0))) H1 locs → W p l e R s m args below meth c H1 locs (cells + 1) (slots + N') Q (F0 m (pc + 2) ls (.ref q :: rest))) : W p l e R s m args below meth c H locs cells slots Q (F0 m pc ls (.int n :: rest)) := by
  refine va_newa G.1.1 G.1.2.1 (G.1.2.2.2.2 _ harr) hty G.2.1.1 (mw_P h.1) (mw_D h.1) h.2 (fun q hq => Nat.le_trans G.2.2 hq) ha hn hN hbytes hcells hslots hdg (fun q cA' H1 hK1 hP1 hD1 hS1 => ?_)
  have e1 : cA' = cA := mw_oneA (hK1.2 tys.length (cA', ty) (by simp)).2 (G.2.1.1.2 t0 (cA, ty) ht).2
  subst e1
  exact kk q H1 (mw_push h.1 hP1 hD1).2 ⟨(mw_push h.1 hP1 hD1).1, hS1⟩
theorem mx_newq (G : mw_G p m c cc nL s args Ts own D cl tys n0) (h : mw_H n0 D cl s w H locs) {C : String} {index : Nat} (hclink : Cond.classLink own index C ∈ Ts) (hover : C ∈ aoL) (t0 : Nat) {cA : ClassId} (ht : tys[t0]? = some (cA, .object C)) {n : Int32} {N' : Nat} (hn : ¬ n < 0) (hN : n.toNatClampNeg = N') (hbytes : N' * 4 ≤ 536870912) (hcells : cells + 1 ≤ R.cells) (hslots : slots + N' ≤ R.slots) (hdg : decode cc pc = .ok (.anewarray index, 3))
    (kk : ∀ (q : Nat) (H1 : Heap), w q = none → mw_H n0 D cl s (mw_up w q (.inl (cA, N', .inr (.inr (.inr (.inr (fun _ => none))))))) H1 locs → W p l e R s m args below meth c H1 locs (cells + 1) (slots + N') Q (F0 m (pc + 3) ls (.ref q :: rest))) : W p l e R s m args below meth c H locs cells slots Q (F0 m pc ls (.int n :: rest)) := by
  refine va_newq G.1.1 G.1.2.1 G.1.2.2.2.1 (G.1.2.2.2.2 _ hclink) (G.2.1.2.1 _ hover) G.2.1.1 (mw_P h.1) (mw_D h.1) h.2 (fun q hq => Nat.le_trans G.2.2 hq) hn hN hbytes hcells hslots hdg (fun q cA' H1 hK1 hP1 hD1 hS1 => ?_)
  have e1 : cA' = cA := mw_oneA (hK1.2 tys.length (cA', .object C) (by simp)).2 (G.2.1.1.2 t0 (cA, .object C) ht).2
  subst e1
  exact kk q H1 (mw_push h.1 hP1 hD1).2 ⟨(mw_push h.1 hP1 hD1).1, hS1⟩
theorem mx_new (G : mw_G p m c cc nL s args Ts own D cl tys n0) (h : mw_H n0 D cl s w H locs) {C : String} {T : u_T} {N ci index : Nat} (hc : cl[ci]? = some (C, T, N)) (hin : ∀ x ∈ u_ws C T N, x ∈ Ts) (ty : Nat → FieldType) (hty : ∀ k, k < N → parseFieldDescriptor (T k).2.2.1 = some (ty k)) (hcl : Cond.classLink own index C ∈ Ts) (hinst : Cond.instantiable C N ∈ Ts) (hini : Cond.initialized C ∈ Ts) {fs : List Value} (hfs : ∀ j, j < N → defaultValue (ty j) = vp_V fs j) (hcells : cells + 1 ≤ R.cells) (hslots : slots + N ≤ R.slots) (hdg : decode cc pc = .ok (.new index, 3))
    (kk : ∀ (q : Nat) (H1 : Heap), w q = none → mw_H n0 D cl s (mw_up w q (.inr (ci, fs))) H1 locs → W p l e R s m args below meth c H1 locs (cells + 1) (slots + N) Q (F0 m (pc + 3) ls (.ref q :: rest))) : W p l e R s m args below meth c H locs cells slots Q (F0 m pc ls rest) := by
  obtain ⟨⟨hx, hb, -, hown, hts⟩, ⟨hK, -⟩, hn⟩ := G
  exact va_new hx hb hts hin ty hty hown (hts _ hcl) (hts _ hinst) (hts _ hini) hK (mw_P h.1) (mw_D h.1) h.2 (fun q hq => Nat.le_trans hn hq) hc hfs hcells hslots hdg (fun q H1 hP1 hD1 hS1 => kk q H1 (mw_push h.1 hP1 hD1).2 ⟨(mw_push h.1 hP1 hD1).1, hS1⟩)
/-- behind a call -/
theorem mx_ci {rest st0 : List Value} {av : Array Value} {mc ms : Nat} {post : Int32 → mw → Prop} (hr : va_Run p l e R s m args below meth c H locs cells slots mc ms (F0 m pc ls st0) rest (mw_Qi n0 D cl post av) (mw_A n0)) (h : mw_H n0 D cl s w H locs)
    (kk : ∀ (r : Int32) (w' : mw) (H1 : Heap) (locs1 : List Loc), mw_H n0 D cl s w' H1 locs1 → post r w' → W p l e R s m args below meth c H1 locs1 (cells + mc) (slots + ms) Q (F0 m (pc + 3) ls (.int r :: rest))) : W p l e R s m args below meth c H locs cells slots Q (F0 m pc ls st0) :=
  va_calli hr h.2 (fun _ _ z => z) (fun _ z => z) (fun r w' t H1 locs1 ht _ hp hB _ _ hS => kk r w' H1 locs1 ⟨by rw [← ht]; exact hB, hS⟩ hp)
theorem mx_cl {rest st0 : List Value} {av : Array Value} {mc ms : Nat} {post : Int64 → mw → Prop} (hr : va_Run p l e R s m args below meth c H locs cells slots mc ms (F0 m pc ls st0) rest (mw_Ql n0 D cl post av) (mw_A n0)) (h : mw_H n0 D cl s w H locs)
    (kk : ∀ (r : Int64) (w' : mw) (H1 : Heap) (locs1 : List Loc), mw_H n0 D cl s w' H1 locs1 → post r w' → W p l e R s m args below meth c H1 locs1 (cells + mc) (slots + ms) Q (F0 m (pc + 3) ls (.long r :: rest))) : W p l e R s m args below meth c H locs cells slots Q (F0 m pc ls st0) :=
  va_calll hr h.2 (fun _ _ z => z) (fun _ z => z) (fun r w' t H1 locs1 ht _ hp hB _ _ hS => kk r w' H1 locs1 ⟨by rw [← ht]; exact hB, hS⟩ hp)
theorem mx_cv {rest st0 : List Value} {av : Array Value} {mc ms : Nat} {post : mw → Prop} (hr : va_Run p l e R s m args below meth c H locs cells slots mc ms (F0 m pc ls st0) rest (mw_Qv n0 D cl post av) (mw_A n0)) (h : mw_H n0 D cl s w H locs)
    (kk : ∀ (w' : mw) (H1 : Heap) (locs1 : List Loc), mw_H n0 D cl s w' H1 locs1 → post w' → W p l e R s m args below meth c H1 locs1 (cells + mc) (slots + ms) Q (F0 m (pc + 3) ls rest)) : W p l e R s m args below meth c H locs cells slots Q (F0 m pc ls st0) :=
  va_callv hr h.2 (fun _ _ z => z) (fun _ z => z) (fun w' t H1 locs1 ht _ hp hB _ _ hS => kk w' H1 locs1 ⟨by rw [← ht]; exact hB, hS⟩ hp)
theorem mx_cr {rest st0 : List Value} {av : Array Value} {mc ms : Nat} {post : Nat → mw → Prop} (hr : va_Run p l e R s m args below meth c H locs cells slots mc ms (F0 m pc ls st0) rest (mw_Qr n0 D cl post av) (mw_A n0)) (h : mw_H n0 D cl s w H locs)
    (kk : ∀ (r : Nat) (w' : mw) (H1 : Heap) (locs1 : List Loc), mw_H n0 D cl s w' H1 locs1 → post r w' → W p l e R s m args below meth c H1 locs1 (cells + mc) (slots + ms) Q (F0 m (pc + 3) ls (.ref r :: rest))) : W p l e R s m args below meth c H locs cells slots Q (F0 m pc ls st0) :=
  va_callr hr h.2 (fun _ _ z => z) (fun _ z => z) (fun u ra t H1 locs1 ht _ hp hB _ _ hS => by
    obtain ⟨he, hB⟩ := hB
    subst he
    exact kk u.1 u.2 H1 locs1 ⟨by rw [← ht]; exact hB, hS⟩ hp)
/-- the calls themselves -/
theorem mx_runV (G : mw_G p m c cc nL s args Ts own D cl tys n0) (h : mw_H n0 D cl s w H locs) {y : MethodName} {bytes : ByteArray} {maxL mc ms n index : Nat} {ret : Option FieldType} {ws : List Cond} {rm : Room} {Qc : Array Value → State → Outcome → State → Prop} {C : String} {b ci N : Nat} {T : u_T} {fs : List Value} {As rest st0 : List Value}
    (hM : Met l y ws rm (mw_Pc n0 D cl tys (.ref b :: As) w) Qc mc ms (mw_A n0)) (cw : CallW R s args own C index y bytes maxL ret ws rm mc ms n) (hr : w b = some (.inr (ci, fs))) (hc : cl[ci]? = some (C, T, N)) (hn : As.length = n) (hsize : ls.size = nL) (hst : st0 = As.reverse ++ .ref b :: rest) (hW : (rest.map fun v => v.category).sum ≤ 8) (hdg : decode cc pc = .ok (.invokevirtual index, 3)) (hf : cells + mc ≤ R.cells ∧ slots + ms ≤ R.slots) :
    va_Run p l e R s m args below meth c H locs cells slots mc ms (F0 m pc ls st0) rest (Qc (Value.ref b :: As).toArray) (mw_A n0) := by
  obtain ⟨q0, he⟩ := mw_in h.1 hr
  exact va_runV G.1 hM cw ⟨mw_blind, va_recv G.2.1.1 (mw_P h.1) hc he, mw_pre G h⟩ rfl hn hsize hst (lv_room hW) hdg hf
theorem mx_runS (G : mw_G p m c cc nL s args Ts own D cl tys n0) (h : mw_H n0 D cl s w H locs) {y : MethodName} {bytes : ByteArray} {maxL mc ms n index : Nat} {ret : Option FieldType} {ws : List Cond} {rm : Room} {Qc : Array Value → State → Outcome → State → Prop} {As rest st0 : List Value}
    (hM : Met l y ws rm (mw_Pc n0 D cl tys As w) Qc mc ms (mw_A n0)) (cw : CallB R s args own index y bytes maxL ret ws rm mc ms n ∧ (Cond.static y).before args s = true) (hn : As.length = n) (hsize : ls.size = nL) (hst : st0 = As.reverse ++ rest) (hW : (rest.map fun v => v.category).sum ≤ 8) (hdg : decode cc pc = .ok (.invokestatic index, 3)) (hf : cells + mc ≤ R.cells ∧ slots + ms ≤ R.slots) :
    va_Run p l e R s m args below meth c H locs cells slots mc ms (F0 m pc ls st0) rest (Qc As.toArray) (mw_A n0) :=
  va_runS G.1 hM cw ⟨mw_blind, mw_pre G h⟩ rfl hn hsize hst (lv_room hW) hdg hf
theorem mx_runI (G : mw_G p m c cc nL s args Ts own D cl tys n0) (h : mw_H n0 D cl s w H locs) {y : MethodName} {bytes : ByteArray} {maxL mc ms n index : Nat} {ws : List Cond} {rm : Room} {Qc : Array Value → State → Outcome → State → Prop} {b : Nat} {As rest st0 : List Value}
    (hM : Met l y ws rm (mw_Pc n0 D cl tys (.ref b :: As) w) Qc mc ms (mw_A n0)) (cw : CallB R s args own index y bytes maxL none ws rm mc ms n ∧ y.name = "<init>" ∧ (Cond.instanceMethod y).before args s = true) (hn : As.length = n) (hsize : ls.size = nL) (hst : st0 = As.reverse ++ .ref b :: rest) (hW : (rest.map fun v => v.category).sum ≤ 8) (hdg : decode cc pc = .ok (.invokespecial index, 3)) (hf : cells + mc ≤ R.cells ∧ slots + ms ≤ R.slots) :
    va_Run p l e R s m args below meth c H locs cells slots mc ms (F0 m pc ls st0) rest (Qc (Value.ref b :: As).toArray) (mw_A n0) :=
  va_runI G.1 hM cw ⟨mw_blind, mw_pre G h⟩ rfl hn hsize hst (lv_room hW) hdg hf
theorem mx_runIN (G : mw_G p m c cc nL s args Ts own D cl tys n0) (h : mw_H n0 D cl s w H locs) {y : MethodName} {bytes : ByteArray} {maxL mc ms n index : Nat} {ws : List Cond} {rm : Room} {Qc : Array Value → State → Outcome → State → Prop} {b : Nat} {As rest st0 : List Value} {host : String}
    (hM : Met l y ws rm (mw_Pc n0 D cl tys (.ref b :: As) w) Qc mc ms (mw_A n0)) (cw : va_CN R s args own index y host bytes maxL none ws rm mc ms n ∧ y.name = "<init>" ∧ (Cond.instanceMethod y).before args s = true) (hn : As.length = n) (hsize : ls.size = nL) (hst : st0 = As.reverse ++ .ref b :: rest) (hW : (rest.map fun v => v.category).sum ≤ 8) (hdg : decode cc pc = .ok (.invokespecial index, 3)) (hf : cells + mc ≤ R.cells ∧ slots + ms ≤ R.slots) :
    va_Run p l e R s m args below meth c H locs cells slots mc ms (F0 m pc ls st0) rest (Qc (Value.ref b :: As).toArray) (mw_A n0) :=
  va_runIN G.1 hM cw ⟨mw_blind, mw_pre G h⟩ rfl hn hsize hst (lv_room hW) hdg hf
/-- the ends -/
theorem mx_reti {post : Int32 → mw → Prop} {v : Int32} (G : mw_G p m c cc nL s args Ts own D cl tys n0) (h : mw_H n0 D cl s w H locs) (hr : meth.sig.returnType = some .int) (hlocks : meth.locks = false) (hdg : decode cc pc = .ok (.ireturn, 1)) (hp : post v w) : W p l e R s m args below meth c H locs cells slots (MQ below (mw_Qi n0 D cl post) args s cells slots (mw_A n0)) (F0 m pc ls [.int v]) :=
  W.iret G.1.1 G.1.2.1 hr (fun t ht _ => ⟨⟨v, w, rfl, hp, by show mw_M n0 D cl w t.heap; rw [ht]; exact h.1⟩, h.2.F ht⟩) h.2.2.2 hdg hlocks
theorem mx_retl {post : Int64 → mw → Prop} {v : Int64} (G : mw_G p m c cc nL s args Ts own D cl tys n0) (h : mw_H n0 D cl s w H locs) (hr : meth.sig.returnType = some .long) (hlocks : meth.locks = false) (hdg : decode cc pc = .ok (.lreturn, 1)) (hp : post v w) : W p l e R s m args below meth c H locs cells slots (MQ below (mw_Ql n0 D cl post) args s cells slots (mw_A n0)) (F0 m pc ls [.long v]) :=
  W.lret G.1.1 G.1.2.1 hr (fun t ht _ => ⟨⟨v, w, rfl, hp, by show mw_M n0 D cl w t.heap; rw [ht]; exact h.1⟩, h.2.F ht⟩) h.2.2.2 hdg hlocks
theorem mx_retv {post : mw → Prop} (G : mw_G p m c cc nL s args Ts own D cl tys n0) (h : mw_H n0 D cl s w H locs) (hr : meth.sig.returnType = none) (hlocks : meth.locks = false) (hdg : decode cc pc = .ok (.return_, 1)) (hp : post w) : W p l e R s m args below meth c H locs cells slots (MQ below (mw_Qv n0 D cl post) args s cells slots (mw_A n0)) (F0 m pc ls []) :=
  W.vret G.1.1 G.1.2.1 hr (fun t ht _ => ⟨⟨w, rfl, hp, by show mw_M n0 D cl w t.heap; rw [ht]; exact h.1⟩, h.2.F ht⟩) h.2.2.2 hdg hlocks
theorem mx_retz {post : Int32 → mw → Prop} {v : Int32} (G : mw_G p m c cc nL s args Ts own D cl tys n0) (h : mw_H n0 D cl s w H locs) (hr : meth.sig.returnType = some .boolean) (hlocks : meth.locks = false) (hdg : decode cc pc = .ok (.ireturn, 1)) (hv : narrow .boolean (.int v) = .int v) (hp : post v w) : W p l e R s m args below meth c H locs cells slots (MQ below (mw_Qi n0 D cl post) args s cells slots (mw_A n0)) (F0 m pc ls [.int v]) :=
  W.zret G.1.1 G.1.2.1 hr hv (fun t ht _ => ⟨⟨v, w, rfl, hp, by show mw_M n0 D cl w t.heap; rw [ht]; exact h.1⟩, h.2.F ht⟩) h.2.2.2 hdg hlocks
theorem mx_reta {post : Nat → mw → Prop} {v : Nat} {rt : String} (G : mw_G p m c cc nL s args Ts own D cl tys n0) (h : mw_H n0 D cl s w H locs) (hr : meth.sig.returnType = some (.object rt)) (hlocks : meth.locks = false) (hdg : decode cc pc = .ok (.areturn, 1)) (hp : post v w) : W p l e R s m args below meth c H locs cells slots (MQ below (mw_Qr n0 D cl post) args s cells slots (mw_A n0)) (F0 m pc ls [.ref v]) :=
  W.aret G.1.1 G.1.2.1 hr (Or.inl ⟨rt, rfl⟩) (Or.inr ⟨v, rfl⟩) (fun t ht _ => ⟨⟨(v, w), v, rfl, hp, rfl, by show mw_M n0 D cl w t.heap; rw [ht]; exact h.1⟩, h.2.F ht⟩) h.2.2.2 hdg hlocks
end MWR
/-- a method's entry -/
theorem mw_met {l : Launch} {y : MethodName} {ws ws' : List Cond} {rm : Room} {Qc : Array Value → State → Outcome → State → Prop} {mc ms : Nat} {cc : ByteArray} {maxL : Nat} {ret : Option FieldType} {n0 : Nat} {D : va_G} {cl : List vw_C} {tys : List (ClassId × FieldType)} {av : List Value} {w : mw} (hy : plainName y.cls = true) (hw : ws = Cond.code y cc maxL ret :: ws') (hlen : (lg_sl av).length ≤ maxL)
    (body : ∀ (p : Program) (e : Env) (s : State) (m : MethodId) (below : List Frame) (meth : Method) (c : Code) (ls : Array Slot), mw_G p m c cc maxL s av.toArray ws y.cls D cl tys n0 → meth.sig.returnType = ret → meth.locks = false → meth.name = y.name → mw_H n0 D cl s w s.heap [] → lv_has ls maxL (lv_args 0 av) → W p l e rm s m av.toArray below meth c s.heap [] 0 0 (MQ below Qc av.toArray s mc ms (mw_A n0)) (F0 m 0 ls [])) : Met l y ws rm (mw_Pc n0 D cl tys av w) Qc mc ms (mw_A n0) := by
  refine Met.ofW (cc := cc) (maxL := maxL) (ret := ret) hy hw ?_
  intro p e s m args below meth c s₁ B hml hv
  obtain ⟨rfl, hn, hM, hK⟩ := hv
  have hl := lv_entry av (n := maxL) hlen
  rw [lg_entry_eq]
  exact body p e s m below meth c _ ⟨⟨B.exec, B.bytes, hml, findClass_of_methodNamed B.named, atoms_spec (ws := ws) B.pre⟩, hK, hn⟩ B.returns B.notSynchronized (name_of_methodNamed B.named B.method).1 ⟨hM, va_S.rf⟩ hl
end
section
/-! Rows over the tables' words TB: what every method of this claim uses -/
abbrev tys (cA : Nat → ClassId) : List (ClassId × FieldType) := [(cA 0, .int), (cA 1, .long), (cA 2, .boolean), (cA 3, .object R_U), (cA 4, .object R_K), (cA 5, .object R_Q)]
abbrev rmd (d : Nat) : Room := { frames := d, cells := 0, slots := 0, locals := 40 * d }
abbrev NN : Int64 := -1000000000000
theorem tb_c {c w : Cond} (h : w ∈ TB) : w ∈ c :: TB := List.mem_cons_of_mem _ h
theorem tb_in {c : Cond} {L : List Cond} (h : ∀ x ∈ L, x ∈ TB) : ∀ x ∈ L, x ∈ c :: TB := fun x hx => tb_c (h x hx)
theorem tb_gd {cx cy : Cond} (h : cy ∈ TB) : GoodIn (cx :: TB) (cy :: TB) := fun w hw => by
  have hw : w ∈ TB := (List.mem_cons.mp hw).elim (fun e => e ▸ h) id
  exact ⟨tb_c hw, good_of_word (tb_good hw)⟩
theorem tb_gV {cx cy : Cond} {own C : String} {idx : Nat} {y : MethodName} (kl : Cond.methodLink own idx y ∈ TB) (ki : Cond.instanceMethod y ∈ TB) (ks : Cond.selects C y y ∈ TB) (kn : Cond.initialized C ∈ TB) (kc : cy ∈ TB) : GoodIn (cx :: TB) (wsV own idx C y (cy :: TB)) := fun w hw => by
  have hw : w ∈ TB := by
    unfold wsV at hw
    rcases List.mem_append.mp hw with h | h
    · simp only [List.mem_cons, List.not_mem_nil, or_false] at h
      rcases h with rfl | rfl | rfl | rfl
      · exact kl
      · exact ki
      · exact ks
      · exact kn
    · exact (List.mem_cons.mp h).elim (fun e => e ▸ kc) id
  exact ⟨tb_c hw, good_of_word (tb_good hw)⟩
theorem tb_gS {cx cy : Cond} {own : String} {idx : Nat} {y : MethodName} (kl : Cond.methodLink own idx y ∈ TB) (ks : Cond.static y ∈ TB) (kn : Cond.initialized own ∈ TB) (kc : cy ∈ TB) : GoodIn (cx :: TB) (wsS own idx y (cy :: TB)) := fun w hw => by
  have hw : w ∈ TB := by
    unfold wsS at hw
    rcases List.mem_append.mp hw with h | h
    · simp only [List.mem_cons, List.not_mem_nil, or_false] at h
      rcases h with rfl | rfl | rfl
      · exact kl
      · exact ks
      · exact kn
    · exact (List.mem_cons.mp h).elim (fun e => e ▸ kc) id
  exact ⟨tb_c hw, good_of_word (tb_good hw)⟩
/-- contracts: an int, a long, nothing, a reference comes back; no cell is made -/
abbrev Mi (l : Launch) (D : va_G) (cA : Nat → ClassId) (n0 : Nat) (y : MethodName) (cy : Cond) (rm : Room) (av : List Value) (w : mw) (post : Int32 → mw → Prop) : Prop := Met l y (cy :: TB) rm (mw_Pc n0 D cl (tys cA) av w) (mw_Qi n0 D cl post) 0 0 (mw_A n0)
abbrev Ml (l : Launch) (D : va_G) (cA : Nat → ClassId) (n0 : Nat) (y : MethodName) (cy : Cond) (rm : Room) (av : List Value) (w : mw) (post : Int64 → mw → Prop) : Prop := Met l y (cy :: TB) rm (mw_Pc n0 D cl (tys cA) av w) (mw_Ql n0 D cl post) 0 0 (mw_A n0)
abbrev Mv (l : Launch) (D : va_G) (cA : Nat → ClassId) (n0 : Nat) (y : MethodName) (cy : Cond) (rm : Room) (av : List Value) (w : mw) (post : mw → Prop) : Prop := Met l y (cy :: TB) rm (mw_Pc n0 D cl (tys cA) av w) (mw_Qv n0 D cl post) 0 0 (mw_A n0)
abbrev Mr (l : Launch) (D : va_G) (cA : Nat → ClassId) (n0 : Nat) (y : MethodName) (cy : Cond) (rm : Room) (av : List Value) (w : mw) (post : Nat → mw → Prop) : Prop := Met l y (cy :: TB) rm (mw_Pc n0 D cl (tys cA) av w) (mw_Qr n0 D cl post) 0 0 (mw_A n0)
/-- a constructor's: mc cells of ms slots are made -/
abbrev Mc (l : Launch) (D : va_G) (cA : Nat → ClassId) (n0 : Nat) (y : MethodName) (cy : Cond) (d mc ms : Nat) (av : List Value) (w : mw) (post : mw → Prop) : Prop := Met l y (cy :: TB) { frames := d, cells := mc, slots := ms, locals := 40 * d } (mw_Pc n0 D cl (tys cA) av w) (mw_Qv n0 D cl post) mc ms (mw_A n0)
section TBR
variable {p : Program} {l : Launch} {e : Env} {R : Room} {s : State} {m : MethodId} {args : Array Value} {below : List Frame} {meth : Method} {c : Code} {H : Heap} {locs : List Loc} {cells slots : Nat} {Q : State → Prop}
variable {cc : ByteArray} {pc : Nat} {ls : Array Slot} {rest : List Value} {D : va_G} {a : Nat} {w : mw} {n0 nL : Nat} {cx : Cond} {own : String} {cA : Nat → ClassId}
theorem cV (G : mw_G p m c cc nL s args (cx :: TB) own D cl (tys cA) n0) (h : mw_H n0 D cl s w H locs) {y : MethodName} {bytes : ByteArray} {maxL mc ms n index : Nat} {ret : Option FieldType} {rm : Room} {Qc : Array Value → State → Outcome → State → Prop} {b ci N : Nat} {T : u_T} {fs : List Value} {As rest st0 : List Value}
    (hM : Met l y (Cond.code y bytes maxL ret :: TB) rm (mw_Pc n0 D cl (tys cA) (.ref b :: As) w) Qc mc ms (mw_A n0)) (kl : Cond.methodLink own index y ∈ TB) (ki : Cond.instanceMethod y ∈ TB) (ks : Cond.selects y.cls y y ∈ TB) (kn : Cond.initialized y.cls ∈ TB) (kc : Cond.code y bytes maxL ret ∈ TB) (hd : y.cls ≠ "java/lang/invoke/MethodHandle" ∧ y.cls ≠ "java/lang/invoke/VarHandle" ∧ (parseMethodDescriptor y.desc).map (fun d => d.parameters.length) = some n) (hrc : rm.cells = mc) (hrs : rm.slots = ms) (hR : rm.frames + 1 ≤ R.frames ∧ 8 + (maxL + 11) + rm.locals ≤ R.locals)
    (hr : w b = some (.inr (ci, fs))) (hc : cl[ci]? = some (y.cls, T, N)) (hn : As.length = n) (hsize : ls.size = nL) (hst : st0 = As.reverse ++ .ref b :: rest) (hW : (rest.map fun v => v.category).sum ≤ 8) (hdg : decode cc pc = .ok (.invokevirtual index, 3)) (hf : cells + mc ≤ R.cells ∧ slots + ms ≤ R.slots) :
    va_Run p l e R s m args below meth c H locs cells slots mc ms (F0 m pc ls st0) rest (Qc (Value.ref b :: As).toArray) (mw_A n0) :=
  mx_runV G h hM (cwV n G.1.2.2.2.2 (tb_gV kl ki ks kn kc) rfl hrc hrs ⟨rfl, hd⟩ hR) hr hc hn hsize hst hW hdg hf
theorem cS (G : mw_G p m c cc nL s args (cx :: TB) own D cl (tys cA) n0) (h : mw_H n0 D cl s w H locs) {y : MethodName} {bytes : ByteArray} {maxL mc ms n index : Nat} {ret : Option FieldType} {rm : Room} {Qc : Array Value → State → Outcome → State → Prop} {As rest st0 : List Value}
    (hM : Met l y (Cond.code y bytes maxL ret :: TB) rm (mw_Pc n0 D cl (tys cA) As w) Qc mc ms (mw_A n0)) (kl : Cond.methodLink own index y ∈ TB) (ks : Cond.static y ∈ TB) (kn : Cond.initialized own ∈ TB) (kc : Cond.code y bytes maxL ret ∈ TB) (hown : y.cls = own) (hd : y.cls ≠ "java/lang/invoke/MethodHandle" ∧ y.cls ≠ "java/lang/invoke/VarHandle" ∧ (parseMethodDescriptor y.desc).map (fun d => d.parameters.length) = some n) (hrc : rm.cells = mc) (hrs : rm.slots = ms) (hR : rm.frames + 1 ≤ R.frames ∧ 8 + (maxL + 11) + rm.locals ≤ R.locals)
    (hn : As.length = n) (hsize : ls.size = nL) (hst : st0 = As.reverse ++ rest) (hW : (rest.map fun v => v.category).sum ≤ 8) (hdg : decode cc pc = .ok (.invokestatic index, 3)) (hf : cells + mc ≤ R.cells ∧ slots + ms ≤ R.slots) :
    va_Run p l e R s m args below meth c H locs cells slots mc ms (F0 m pc ls st0) rest (Qc As.toArray) (mw_A n0) :=
  mx_runS G h hM (cwS n G.1.2.2.2.2 (tb_gS kl ks kn kc) rfl hrc hrs ⟨hown, hd⟩ hR) hn hsize hst hW hdg hf
theorem cI (G : mw_G p m c cc nL s args (cx :: TB) own D cl (tys cA) n0) (h : mw_H n0 D cl s w H locs) {y : MethodName} {bytes : ByteArray} {maxL mc ms n index : Nat} {rm : Room} {Qc : Array Value → State → Outcome → State → Prop} {b : Nat} {As rest st0 : List Value}
    (hM : Met l y (Cond.code y bytes maxL none :: TB) rm (mw_Pc n0 D cl (tys cA) (.ref b :: As) w) Qc mc ms (mw_A n0)) (kl : Cond.methodLink own index y ∈ TB) (ki : Cond.instanceMethod y ∈ TB) (kn : Cond.initialized y.cls ∈ TB) (kc : Cond.code y bytes maxL none ∈ TB) (hy : y.name = "<init>") (hd : y.cls ≠ "java/lang/invoke/MethodHandle" ∧ y.cls ≠ "java/lang/invoke/VarHandle" ∧ (parseMethodDescriptor y.desc).map (fun d => d.parameters.length) = some n) (hrc : rm.cells = mc) (hrs : rm.slots = ms) (hR : rm.frames + 1 ≤ R.frames ∧ 8 + (maxL + 11) + rm.locals ≤ R.locals)
    (hn : As.length = n) (hsize : ls.size = nL) (hst : st0 = As.reverse ++ .ref b :: rest) (hW : (rest.map fun v => v.category).sum ≤ 8) (hdg : decode cc pc = .ok (.invokespecial index, 3)) (hf : cells + mc ≤ R.cells ∧ slots + ms ≤ R.slots) :
    va_Run p l e R s m args below meth c H locs cells slots mc ms (F0 m pc ls st0) rest (Qc (Value.ref b :: As).toArray) (mw_A n0) :=
  mx_runI G h hM (cwI n G.1.2.2.2.2 (tb_gd kc) rfl hrc hrs (G.1.2.2.2.2 _ (tb_c kn)) (G.1.2.2.2.2 _ (tb_c kl)) (G.1.2.2.2.2 _ (tb_c ki)) hy hd hR) hn hsize hst hW hdg hf
theorem cIN (G : mw_G p m c cc nL s args (cx :: TB) own D cl (tys cA) n0) (h : mw_H n0 D cl s w H locs) {y : MethodName} {bytes : ByteArray} {maxL mc ms n index : Nat} {rm : Room} {Qc : Array Value → State → Outcome → State → Prop} {b : Nat} {As rest st0 : List Value} {host : String}
    (hM : Met l y (Cond.code y bytes maxL none :: TB) rm (mw_Pc n0 D cl (tys cA) (.ref b :: As) w) Qc mc ms (mw_A n0)) (kl : (own, index, y, host) ∈ nsL) (ki : Cond.instanceMethod y ∈ TB) (kn : Cond.initialized y.cls ∈ TB) (kc : Cond.code y bytes maxL none ∈ TB) (hy : y.name = "<init>") (hd : y.cls ≠ "java/lang/invoke/MethodHandle" ∧ y.cls ≠ "java/lang/invoke/VarHandle" ∧ (parseMethodDescriptor y.desc).map (fun d => d.parameters.length) = some n) (hrc : rm.cells = mc) (hrs : rm.slots = ms) (hR : rm.frames + 1 ≤ R.frames ∧ 8 + (maxL + 11) + rm.locals ≤ R.locals)
    (hn : As.length = n) (hsize : ls.size = nL) (hst : st0 = As.reverse ++ .ref b :: rest) (hW : (rest.map fun v => v.category).sum ≤ 8) (hdg : decode cc pc = .ok (.invokespecial index, 3)) (hf : cells + mc ≤ R.cells ∧ slots + ms ≤ R.slots) :
    va_Run p l e R s m args below meth c H locs cells slots mc ms (F0 m pc ls st0) rest (Qc (Value.ref b :: As).toArray) (mw_A n0) :=
  mx_runIN G h hM ⟨va_cnB n G.1.2.2.2.2 (tb_gd kc) rfl hrc hrs (G.2.1.2.2 _ kl) (G.1.2.2.2.2 _ (tb_c kn)) hd hR, hy, G.1.2.2.2.2 _ (tb_c ki)⟩ hn hsize hst hW hdg hf
/-- the places of arrays by natural numbers -/
theorem vp_j {i : Int32} {j n : Nat} (e : i = nI j) (hj : j < n) (hn : n < 2 ^ 31) : vp_in i n := by rw [e]; exact vp_in_nI hj hn
theorem cl_j {i : Int32} {j n : Nat} (e : i = nI j) (hj : j < n) (hn : n < 2 ^ 31) : i.toNatClampNeg = j := by rw [e]; exact nI_clamp (by omega)
theorem ax_i (G : mw_G p m c cc nL s args (cx :: TB) own D cl (tys cA) n0) (h : mw_H n0 D cl s w H locs) {n : Nat} {f : Nat → Int32} (ha : w a = some (.inl (cA 0, n, .inl f))) {i : Int32} (j : Nat) (e1 : i = nI j) (hj : j < n) (hn : n < 2 ^ 31) (hdg : decode cc pc = .ok (.iaload, 1))
    (kk : W p l e R s m args below meth c H locs cells slots Q (F0 m (pc + 1) ls (.int (f j) :: rest))) : W p l e R s m args below meth c H locs cells slots Q (F0 m pc ls (.int i :: .ref a :: rest)) :=
  mx_iald G h 0 ha rfl (vp_j e1 hj hn) hdg (by rw [cl_j e1 hj hn]; exact kk)
theorem ax_z (G : mw_G p m c cc nL s args (cx :: TB) own D cl (tys cA) n0) (h : mw_H n0 D cl s w H locs) {n : Nat} {f : Nat → Int32} (ha : w a = some (.inl (cA 2, n, .inl f))) {i : Int32} (j : Nat) (e1 : i = nI j) (hj : j < n) (hn : n < 2 ^ 31) (hdg : decode cc pc = .ok (.baload, 1))
    (kk : W p l e R s m args below meth c H locs cells slots Q (F0 m (pc + 1) ls (.int (f j) :: rest))) : W p l e R s m args below meth c H locs cells slots Q (F0 m pc ls (.int i :: .ref a :: rest)) :=
  mx_zald G h 2 ha rfl (vp_j e1 hj hn) hdg (by rw [cl_j e1 hj hn]; exact kk)
theorem ax_l (G : mw_G p m c cc nL s args (cx :: TB) own D cl (tys cA) n0) (h : mw_H n0 D cl s w H locs) {n : Nat} {f : Nat → Int64} (ha : w a = some (.inl (cA 1, n, .inr (.inl f)))) {i : Int32} (j : Nat) (e1 : i = nI j) (hj : j < n) (hn : n < 2 ^ 31) (hdg : decode cc pc = .ok (.laload, 1))
    (kk : W p l e R s m args below meth c H locs cells slots Q (F0 m (pc + 1) ls (.long (f j) :: rest))) : W p l e R s m args below meth c H locs cells slots Q (F0 m pc ls (.int i :: .ref a :: rest)) :=
  mx_lald G h 1 ha rfl (vp_j e1 hj hn) hdg (by rw [cl_j e1 hj hn]; exact kk)
theorem ax_a (G : mw_G p m c cc nL s args (cx :: TB) own D cl (tys cA) n0) (h : mw_H n0 D cl s w H locs) (t0 : Nat) {C : String} {x : ClassId} {n v : Nat} {f : Nat → Option Nat} (ha : w a = some (.inl (x, n, .inr (.inr (.inr (.inr f)))))) (ht : (tys cA)[t0]? = some (x, .object C)) {i : Int32} (j : Nat) (e1 : i = nI j) (hj : j < n) (hn : n < 2 ^ 31) (hv : f j = some v) (hdg : decode cc pc = .ok (.aaload, 1))
    (kk : W p l e R s m args below meth c H locs cells slots Q (F0 m (pc + 1) ls (.ref v :: rest))) : W p l e R s m args below meth c H locs cells slots Q (F0 m pc ls (.int i :: .ref a :: rest)) :=
  mx_aald G h t0 ha ht (vp_j e1 hj hn) (by rw [cl_j e1 hj hn]; exact hv) hdg kk
theorem ax_si (G : mw_G p m c cc nL s args (cx :: TB) own D cl (tys cA) n0) (h : mw_H n0 D cl s w H locs) {n : Nat} {f : Nat → Int32} (ha : w a = some (.inl (cA 0, n, .inl f))) {i x : Int32} (j : Nat) (e1 : i = nI j) (hj : j < n) (hn : n < 2 ^ 31) (hdg : decode cc pc = .ok (.iastore, 1))
    (kk : ∀ (H1 : Heap) (locs1 : List Loc), mw_H n0 D cl s (mw_up w a (.inl (cA 0, n, .inl (upd f j x)))) H1 locs1 → W p l e R s m args below meth c H1 locs1 cells slots Q (F0 m (pc + 1) ls rest)) : W p l e R s m args below meth c H locs cells slots Q (F0 m pc ls (.int x :: .int i :: .ref a :: rest)) :=
  mx_iast G h 0 ha rfl (vp_j e1 hj hn) hdg (by rw [cl_j e1 hj hn]; exact kk)
theorem ax_sl (G : mw_G p m c cc nL s args (cx :: TB) own D cl (tys cA) n0) (h : mw_H n0 D cl s w H locs) {n : Nat} {f : Nat → Int64} (ha : w a = some (.inl (cA 1, n, .inr (.inl f)))) {i : Int32} {x : Int64} (j : Nat) (e1 : i = nI j) (hj : j < n) (hn : n < 2 ^ 31) (hdg : decode cc pc = .ok (.lastore, 1))
    (kk : ∀ (H1 : Heap) (locs1 : List Loc), mw_H n0 D cl s (mw_up w a (.inl (cA 1, n, .inr (.inl (vp_updL f j x))))) H1 locs1 → W p l e R s m args below meth c H1 locs1 cells slots Q (F0 m (pc + 1) ls rest)) : W p l e R s m args below meth c H locs cells slots Q (F0 m pc ls (.long x :: .int i :: .ref a :: rest)) :=
  mx_last G h 1 ha rfl (vp_j e1 hj hn) hdg (by rw [cl_j e1 hj hn]; exact kk)
theorem ax_sz (G : mw_G p m c cc nL s args (cx :: TB) own D cl (tys cA) n0) (h : mw_H n0 D cl s w H locs) {n : Nat} {f : Nat → Int32} (ha : w a = some (.inl (cA 2, n, .inl f))) {i x : Int32} (j : Nat) (e1 : i = nI j) (hj : j < n) (hn : n < 2 ^ 31) (hx : vp_nar .boolean x = x) (hdg : decode cc pc = .ok (.bastore, 1))
    (kk : ∀ (H1 : Heap) (locs1 : List Loc), mw_H n0 D cl s (mw_up w a (.inl (cA 2, n, .inl (upd f j x)))) H1 locs1 → W p l e R s m args below meth c H1 locs1 cells slots Q (F0 m (pc + 1) ls rest)) : W p l e R s m args below meth c H locs cells slots Q (F0 m pc ls (.int x :: .int i :: .ref a :: rest)) :=
  mx_zast G h 2 ha rfl (vp_j e1 hj hn) hdg (by rw [cl_j e1 hj hn, hx]; exact kk)
theorem ax_sa (G : mw_G p m c cc nL s args (cx :: TB) own D cl (tys cA) n0) (h : mw_H n0 D cl s w H locs) (t0 ci : Nat) {x : ClassId} {r : vw_C} {n v : Nat} {vs : List Value} {f : Nat → Option Nat} (ha : w a = some (.inl (x, n, .inr (.inr (.inr (.inr f)))))) (ht : (tys cA)[t0]? = some (x, .object r.1)) (hv : w v = some (.inr (ci, vs))) (hc : cl[ci]? = some r) {i : Int32} (j : Nat) (e1 : i = nI j) (hj : j < n) (hn : n < 2 ^ 31) (hdg : decode cc pc = .ok (.aastore, 1))
    (kk : ∀ (H1 : Heap) (locs1 : List Loc), mw_H n0 D cl s (mw_up w a (.inl (x, n, .inr (.inr (.inr (.inr (va_up f j (some v)))))))) H1 locs1 → W p l e R s m args below meth c H1 locs1 cells slots Q (F0 m (pc + 1) ls rest)) : W p l e R s m args below meth c H locs cells slots Q (F0 m pc ls (.ref v :: .int i :: .ref a :: rest)) :=
  mx_aast G h t0 ci ha ht hv hc (vp_j e1 hj hn) hdg (by rw [cl_j e1 hj hn]; exact kk)
end TBR
end
section
/-! A unit: first address, number of addresses, value, 1 if it takes words away -/
abbrev uU : Type := Int32 × Int32 × Int32 × Int32
abbrev ucell (u : uU) : va_E := .inr (4, [.int u.1, .int u.2.1, .int u.2.2.1, .int u.2.2.2])
def bI (P : Prop) [Decidable P] : Int32 := if P then 1 else 0
theorem bI_t {P : Prop} [Decidable P] (h : P) : bI P = 1 := if_pos h
theorem bI_f {P : Prop} [Decidable P] (h : ¬ P) : bI P = 0 := if_neg h
theorem bI_0 {P : Prop} [Decidable P] (h : bI P = 0) : ¬ P := fun z => by rw [bI_t z] at h; exact absurd h (by decide)
theorem bI_n {P : Prop} [Decidable P] (h : ¬ bI P = 0) : P := Decidable.byContradiction (fun z => h (bI_f z))
theorem bI_01 (P : Prop) [Decidable P] : bI P = 0 ∨ bI P = 1 := by
  by_cases h : P
  · exact Or.inr (bI_t h)
  · exact Or.inl (bI_f h)
theorem z_nar {x : Int32} (h : x = 0 ∨ x = 1) : narrow .boolean (.int x) = .int x := by rcases h with rfl | rfl <;> rfl
theorem z_fit {x : Int32} (h : x = 0 ∨ x = 1) : fits .boolean (.int x) = true := by rcases h with rfl | rfl <;> rfl
theorem z_vp {x : Int32} (h : x = 0 ∨ x = 1) : vp_nar .boolean x = x := by rcases h with rfl | rfl <;> rfl
/-- the unit covers the address; its word there -/
abbrev cov (u : uU) (x : Int32) : Prop := u.1 ≤ x ∧ x < u.1 + u.2.1
def wrd (u : uU) (x : Int32) : Int64 := if u.2.2.2 = 0 then (u.2.2.1 + (x - u.1)).toInt64 else NN
theorem d_U_set_0 : decode b_U_set 0 = .ok (.aload_n 0, 1) := by decide +kernel
theorem d_U_set_1 : decode b_U_set 1 = .ok (.iload_n 1, 1) := by decide +kernel
theorem d_U_set_2 : decode b_U_set 2 = .ok (.putfield 9, 3) := by decide +kernel
theorem d_U_set_5 : decode b_U_set 5 = .ok (.aload_n 0, 1) := by decide +kernel
theorem d_U_set_6 : decode b_U_set 6 = .ok (.iload_n 2, 1) := by decide +kernel
theorem d_U_set_7 : decode b_U_set 7 = .ok (.putfield 15, 3) := by decide +kernel
theorem d_U_set_10 : decode b_U_set 10 = .ok (.aload_n 0, 1) := by decide +kernel
theorem d_U_set_11 : decode b_U_set 11 = .ok (.iload_n 3, 1) := by decide +kernel
theorem d_U_set_12 : decode b_U_set 12 = .ok (.putfield 18, 3) := by decide +kernel
theorem d_U_set_15 : decode b_U_set 15 = .ok (.aload_n 0, 1) := by decide +kernel
theorem d_U_set_16 : decode b_U_set 16 = .ok (.iload 4, 2) := by decide +kernel
theorem d_U_set_18 : decode b_U_set 18 = .ok (.putfield 21, 3) := by decide +kernel
theorem d_U_set_21 : decode b_U_set 21 = .ok (.return_, 1) := by decide +kernel
theorem d_U_covers_0 : decode b_U_covers 0 = .ok (.iload_n 1, 1) := by decide +kernel
theorem d_U_covers_1 : decode b_U_covers 1 = .ok (.aload_n 0, 1) := by decide +kernel
theorem d_U_covers_2 : decode b_U_covers 2 = .ok (.getfield 9, 3) := by decide +kernel
theorem d_U_covers_5 : decode b_U_covers 5 = .ok (.if_icmp .lt 20, 3) := by decide +kernel
theorem d_U_covers_8 : decode b_U_covers 8 = .ok (.iload_n 1, 1) := by decide +kernel
theorem d_U_covers_9 : decode b_U_covers 9 = .ok (.aload_n 0, 1) := by decide +kernel
theorem d_U_covers_10 : decode b_U_covers 10 = .ok (.getfield 9, 3) := by decide +kernel
theorem d_U_covers_13 : decode b_U_covers 13 = .ok (.aload_n 0, 1) := by decide +kernel
theorem d_U_covers_14 : decode b_U_covers 14 = .ok (.getfield 15, 3) := by decide +kernel
theorem d_U_covers_17 : decode b_U_covers 17 = .ok (.iadd, 1) := by decide +kernel
theorem d_U_covers_18 : decode b_U_covers 18 = .ok (.if_icmp .ge 7, 3) := by decide +kernel
theorem d_U_covers_21 : decode b_U_covers 21 = .ok (.iconst 1, 1) := by decide +kernel
theorem d_U_covers_22 : decode b_U_covers 22 = .ok (.goto 4, 3) := by decide +kernel
theorem d_U_covers_25 : decode b_U_covers 25 = .ok (.iconst 0, 1) := by decide +kernel
theorem d_U_covers_26 : decode b_U_covers 26 = .ok (.ireturn, 1) := by decide +kernel
theorem d_U_wordAt_0 : decode b_U_wordAt 0 = .ok (.aload_n 0, 1) := by decide +kernel
theorem d_U_wordAt_1 : decode b_U_wordAt 1 = .ok (.getfield 21, 3) := by decide +kernel
theorem d_U_wordAt_4 : decode b_U_wordAt 4 = .ok (.ifCond .eq 7, 3) := by decide +kernel
theorem d_U_wordAt_7 : decode b_U_wordAt 7 = .ok (.ldc2_w 25, 3) := by decide +kernel
theorem d_U_wordAt_10 : decode b_U_wordAt 10 = .ok (.lreturn, 1) := by decide +kernel
theorem d_U_wordAt_11 : decode b_U_wordAt 11 = .ok (.aload_n 0, 1) := by decide +kernel
theorem d_U_wordAt_12 : decode b_U_wordAt 12 = .ok (.getfield 18, 3) := by decide +kernel
theorem d_U_wordAt_15 : decode b_U_wordAt 15 = .ok (.iload_n 1, 1) := by decide +kernel
theorem d_U_wordAt_16 : decode b_U_wordAt 16 = .ok (.aload_n 0, 1) := by decide +kernel
theorem d_U_wordAt_17 : decode b_U_wordAt 17 = .ok (.getfield 9, 3) := by decide +kernel
theorem d_U_wordAt_20 : decode b_U_wordAt 20 = .ok (.isub, 1) := by decide +kernel
theorem d_U_wordAt_21 : decode b_U_wordAt 21 = .ok (.iadd, 1) := by decide +kernel
theorem d_U_wordAt_22 : decode b_U_wordAt 22 = .ok (.istore_n 2, 1) := by decide +kernel
theorem d_U_wordAt_23 : decode b_U_wordAt 23 = .ok (.iload_n 2, 1) := by decide +kernel
theorem d_U_wordAt_24 : decode b_U_wordAt 24 = .ok (.i2l, 1) := by decide +kernel
theorem d_U_wordAt_25 : decode b_U_wordAt 25 = .ok (.lreturn, 1) := by decide +kernel
theorem d_D_isQueue_0 : decode b_D_isQueue 0 = .ok (.iload_n 0, 1) := by decide +kernel
theorem d_D_isQueue_1 : decode b_D_isQueue 1 = .ok (.ifCond .lt 12, 3) := by decide +kernel
theorem d_D_isQueue_4 : decode b_D_isQueue 4 = .ok (.iload_n 0, 1) := by decide +kernel
theorem d_D_isQueue_5 : decode b_D_isQueue 5 = .ok (.iconst 3, 1) := by decide +kernel
theorem d_D_isQueue_6 : decode b_D_isQueue 6 = .ok (.if_icmp .ge 7, 3) := by decide +kernel
theorem d_D_isQueue_9 : decode b_D_isQueue 9 = .ok (.iconst 1, 1) := by decide +kernel
theorem d_D_isQueue_10 : decode b_D_isQueue 10 = .ok (.goto 4, 3) := by decide +kernel
theorem d_D_isQueue_13 : decode b_D_isQueue 13 = .ok (.iconst 0, 1) := by decide +kernel
theorem d_D_isQueue_14 : decode b_D_isQueue 14 = .ok (.ireturn, 1) := by decide +kernel
theorem d_D_isAddress_0 : decode b_D_isAddress 0 = .ok (.iload_n 0, 1) := by decide +kernel
theorem d_D_isAddress_1 : decode b_D_isAddress 1 = .ok (.ifCond .lt 13, 3) := by decide +kernel
theorem d_D_isAddress_4 : decode b_D_isAddress 4 = .ok (.iload_n 0, 1) := by decide +kernel
theorem d_D_isAddress_5 : decode b_D_isAddress 5 = .ok (.bipush 24, 2) := by decide +kernel
theorem d_D_isAddress_7 : decode b_D_isAddress 7 = .ok (.if_icmp .ge 7, 3) := by decide +kernel
theorem d_D_isAddress_10 : decode b_D_isAddress 10 = .ok (.iconst 1, 1) := by decide +kernel
theorem d_D_isAddress_11 : decode b_D_isAddress 11 = .ok (.goto 4, 3) := by decide +kernel
theorem d_D_isAddress_14 : decode b_D_isAddress 14 = .ok (.iconst 0, 1) := by decide +kernel
theorem d_D_isAddress_15 : decode b_D_isAddress 15 = .ok (.ireturn, 1) := by decide +kernel
theorem d_D_areAddresses_0 : decode b_D_areAddresses 0 = .ok (.iload_n 1, 1) := by decide +kernel
theorem d_D_areAddresses_1 : decode b_D_areAddresses 1 = .ok (.iconst 1, 1) := by decide +kernel
theorem d_D_areAddresses_2 : decode b_D_areAddresses 2 = .ok (.if_icmp .lt 8, 3) := by decide +kernel
theorem d_D_areAddresses_5 : decode b_D_areAddresses 5 = .ok (.iload_n 1, 1) := by decide +kernel
theorem d_D_areAddresses_6 : decode b_D_areAddresses 6 = .ok (.iconst 4, 1) := by decide +kernel
theorem d_D_areAddresses_7 : decode b_D_areAddresses 7 = .ok (.if_icmp .le 5, 3) := by decide +kernel
theorem d_D_areAddresses_10 : decode b_D_areAddresses 10 = .ok (.iconst 0, 1) := by decide +kernel
theorem d_D_areAddresses_11 : decode b_D_areAddresses 11 = .ok (.ireturn, 1) := by decide +kernel
theorem d_D_areAddresses_12 : decode b_D_areAddresses 12 = .ok (.iload_n 0, 1) := by decide +kernel
theorem d_D_areAddresses_13 : decode b_D_areAddresses 13 = .ok (.ifCond .lt 15, 3) := by decide +kernel
theorem d_D_areAddresses_16 : decode b_D_areAddresses 16 = .ok (.iload_n 0, 1) := by decide +kernel
theorem d_D_areAddresses_17 : decode b_D_areAddresses 17 = .ok (.bipush 24, 2) := by decide +kernel
theorem d_D_areAddresses_19 : decode b_D_areAddresses 19 = .ok (.iload_n 1, 1) := by decide +kernel
theorem d_D_areAddresses_20 : decode b_D_areAddresses 20 = .ok (.isub, 1) := by decide +kernel
theorem d_D_areAddresses_21 : decode b_D_areAddresses 21 = .ok (.if_icmp .gt 7, 3) := by decide +kernel
theorem d_D_areAddresses_24 : decode b_D_areAddresses 24 = .ok (.iconst 1, 1) := by decide +kernel
theorem d_D_areAddresses_25 : decode b_D_areAddresses 25 = .ok (.goto 4, 3) := by decide +kernel
theorem d_D_areAddresses_28 : decode b_D_areAddresses 28 = .ok (.iconst 0, 1) := by decide +kernel
theorem d_D_areAddresses_29 : decode b_D_areAddresses 29 = .ok (.ireturn, 1) := by decide +kernel
theorem d_L_cell_0 : decode b_L_cell 0 = .ok (.iload_n 1, 1) := by decide +kernel
theorem d_L_cell_1 : decode b_L_cell 1 = .ok (.aload_n 0, 1) := by decide +kernel
theorem d_L_cell_2 : decode b_L_cell 2 = .ok (.arraylength, 1) := by decide +kernel
theorem d_L_cell_3 : decode b_L_cell 3 = .ok (.if_icmp .ge 9, 3) := by decide +kernel
theorem d_L_cell_6 : decode b_L_cell 6 = .ok (.aload_n 0, 1) := by decide +kernel
theorem d_L_cell_7 : decode b_L_cell 7 = .ok (.iload_n 1, 1) := by decide +kernel
theorem d_L_cell_8 : decode b_L_cell 8 = .ok (.iaload, 1) := by decide +kernel
theorem d_L_cell_9 : decode b_L_cell 9 = .ok (.goto 4, 3) := by decide +kernel
theorem d_L_cell_12 : decode b_L_cell 12 = .ok (.iconst 0, 1) := by decide +kernel
theorem d_L_cell_13 : decode b_L_cell 13 = .ok (.ireturn, 1) := by decide +kernel
set_option maxHeartbeats 4000000 in
set_option maxRecDepth 100000 in
theorem m_U_set {l : Launch} {D : va_G} {cA : Nat → ClassId} {n0 : Nat} {w : mw} {a : Nat} {u0 : uU} (ha : w a = some (ucell u0)) {x1 x2 x3 x4 : Int32} (hz : x4 = 0 ∨ x4 = 1) :
    Mv l D cA n0 y_U_set c_U_set (rmd 0) [.ref a, .int x1, .int x2, .int x3, .int x4] w (fun w' => w' = mw_up w a (ucell (x1, x2, x3, x4))) := by
  refine mw_met (cc := b_U_set) (maxL := 5) (ret := (none)) (by decide) rfl (Nat.le_of_ble_eq_true rfl) ?_
  intro p e s m below meth c ls G hrt hlocks hname h hl
  have G : mw_G p m c b_U_set 5 s _ (c_U_set :: TB) R_U D cl (tys cA) n0 := G
  have hx := G.1.1
  have hb := G.1.2.1
  have hl : lv_has ls 5 [(0, .ref a), (1, .int x1), (2, .int x2), (3, .int x3), (4, .int x4)] := hl
  refine lv_aload_n hx hb d_U_set_0 rfl (lv_at hl 0 rfl) ?_
  refine lv_iload_n hx hb d_U_set_1 rfl (lv_at hl 1 rfl) ?_
  refine mx_put G h ha rfl 0 (by decide) (tb_in in_U) t_U t_U_ok n_U (tb_c k_36) rfl rfl rfl rfl rfl (Nat.le_of_ble_eq_true rfl) d_U_set_2 (fun H locs h => ?_)
  have h : mw_H n0 D cl s (mw_up w a (.inr (4, [.int x1, .int u0.2.1, .int u0.2.2.1, .int u0.2.2.2]))) H locs := h
  obtain ⟨w_1, ew_1⟩ : ∃ xx : mw, mw_up w a (.inr (4, [.int x1, .int u0.2.1, .int u0.2.2.1, .int u0.2.2.2])) = xx := ⟨_, rfl⟩
  rw [ew_1] at h
  have f_2 : w_1 a = some (.inr (4, [.int x1, .int u0.2.1, .int u0.2.2.1, .int u0.2.2.2])) := by rw [← ew_1]; exact mw_self
  refine lv_aload_n hx hb d_U_set_5 rfl (lv_at hl 0 rfl) ?_
  refine lv_iload_n hx hb d_U_set_6 rfl (lv_at hl 2 rfl) ?_
  refine mx_put G h f_2 rfl 1 (by decide) (tb_in in_U) t_U t_U_ok n_U (tb_c k_39) rfl rfl rfl rfl rfl (Nat.le_of_ble_eq_true rfl) d_U_set_7 (fun H locs h => ?_)
  have h : mw_H n0 D cl s (mw_up w_1 a (.inr (4, [.int x1, .int x2, .int u0.2.2.1, .int u0.2.2.2]))) H locs := h
  obtain ⟨w_3, ew_3⟩ : ∃ xx : mw, mw_up w_1 a (.inr (4, [.int x1, .int x2, .int u0.2.2.1, .int u0.2.2.2])) = xx := ⟨_, rfl⟩
  rw [ew_3] at h
  have f_4 : w_3 a = some (.inr (4, [.int x1, .int x2, .int u0.2.2.1, .int u0.2.2.2])) := by rw [← ew_3]; exact mw_self
  refine lv_aload_n hx hb d_U_set_10 rfl (lv_at hl 0 rfl) ?_
  refine lv_iload_n hx hb d_U_set_11 rfl (lv_at hl 3 rfl) ?_
  refine mx_put G h f_4 rfl 2 (by decide) (tb_in in_U) t_U t_U_ok n_U (tb_c k_42) rfl rfl rfl rfl rfl (Nat.le_of_ble_eq_true rfl) d_U_set_12 (fun H locs h => ?_)
  have h : mw_H n0 D cl s (mw_up w_3 a (.inr (4, [.int x1, .int x2, .int x3, .int u0.2.2.2]))) H locs := h
  obtain ⟨w_5, ew_5⟩ : ∃ xx : mw, mw_up w_3 a (.inr (4, [.int x1, .int x2, .int x3, .int u0.2.2.2])) = xx := ⟨_, rfl⟩
  rw [ew_5] at h
  have f_6 : w_5 a = some (.inr (4, [.int x1, .int x2, .int x3, .int u0.2.2.2])) := by rw [← ew_5]; exact mw_self
  refine lv_aload_n hx hb d_U_set_15 rfl (lv_at hl 0 rfl) ?_
  refine lv_iload hx hb d_U_set_16 (lv_at hl 4 rfl) ?_
  refine mx_put G h f_6 rfl 3 (by decide) (tb_in in_U) t_U t_U_ok n_U (tb_c k_44) rfl rfl rfl (z_nar hz) (z_fit hz) (Nat.le_of_ble_eq_true rfl) d_U_set_18 (fun H locs h => ?_)
  have h : mw_H n0 D cl s (mw_up w_5 a (.inr (4, [.int x1, .int x2, .int x3, .int x4]))) H locs := h
  obtain ⟨w_7, ew_7⟩ : ∃ xx : mw, mw_up w_5 a (.inr (4, [.int x1, .int x2, .int x3, .int x4])) = xx := ⟨_, rfl⟩
  rw [ew_7] at h
  have f_8 : w_7 a = some (.inr (4, [.int x1, .int x2, .int x3, .int x4])) := by rw [← ew_7]; exact mw_self
  exact mx_retv G h hrt hlocks d_U_set_21 (by rw [← ew_7, ← ew_5, ← ew_3, ← ew_1]; simp only [mw_uu])
set_option maxHeartbeats 4000000 in
set_option maxRecDepth 100000 in
theorem m_U_covers {l : Launch} {D : va_G} {cA : Nat → ClassId} {n0 : Nat} {w : mw} {a : Nat} {u : uU} (ha : w a = some (ucell u)) {x : Int32} :
    Mi l D cA n0 y_U_covers c_U_covers (rmd 0) [.ref a, .int x] w (fun r w' => r = bI (cov u x) ∧ w' = w) := by
  refine mw_met (cc := b_U_covers) (maxL := 2) (ret := (some .boolean)) (by decide) rfl (Nat.le_of_ble_eq_true rfl) ?_
  intro p e s m below meth c ls G hrt hlocks hname h hl
  have G : mw_G p m c b_U_covers 2 s _ (c_U_covers :: TB) R_U D cl (tys cA) n0 := G
  have hx := G.1.1
  have hb := G.1.2.1
  have hl : lv_has ls 2 [(0, .ref a), (1, .int x)] := hl
  refine lv_iload_n hx hb d_U_covers_0 rfl (lv_at hl 1 rfl) ?_
  refine lv_aload_n hx hb d_U_covers_1 rfl (lv_at hl 0 rfl) ?_
  refine mx_get G h ha rfl 0 (by decide) (tb_in in_U) (tb_c k_36) rfl rfl d_U_covers_2 ?_
  refine lv_icmp_lt (tgt := 25) hx hb d_U_covers_5 (by decide) (fun c_1 => ?_) (fun c_1 => ?_)
  · refine lv_iconst (v := 0) hx hb d_U_covers_25 (by decide) ?_
    exact mx_retz G h hrt hlocks d_U_covers_26 rfl (⟨(bI_f (fun z => absurd z.1 (Int32.not_le.mpr c_1))).symm, rfl⟩)
  · refine lv_iload_n hx hb d_U_covers_8 rfl (lv_at hl 1 rfl) ?_
    refine lv_aload_n hx hb d_U_covers_9 rfl (lv_at hl 0 rfl) ?_
    refine mx_get G h ha rfl 0 (by decide) (tb_in in_U) (tb_c k_36) rfl rfl d_U_covers_10 ?_
    refine lv_aload_n hx hb d_U_covers_13 rfl (lv_at hl 0 rfl) ?_
    refine mx_get G h ha rfl 1 (by decide) (tb_in in_U) (tb_c k_39) rfl rfl d_U_covers_14 ?_
    refine lv_iadd hx hb d_U_covers_17 ?_
    refine lv_icmp_ge (tgt := 25) hx hb d_U_covers_18 (by decide) (fun c_2 => ?_) (fun c_2 => ?_)
    · refine lv_iconst (v := 0) hx hb d_U_covers_25 (by decide) ?_
      exact mx_retz G h hrt hlocks d_U_covers_26 rfl (⟨(bI_f (fun z => absurd z.2 (Int32.not_lt.mpr c_2))).symm, rfl⟩)
    · refine lv_iconst (v := 1) hx hb d_U_covers_21 (by decide) ?_
      refine lv_goto (tgt := 26) hx hb d_U_covers_22 (by decide) ?_
      exact mx_retz G h hrt hlocks d_U_covers_26 rfl (⟨(bI_t ⟨Int32.not_lt.mp c_1, Int32.not_le.mp c_2⟩).symm, rfl⟩)
set_option maxHeartbeats 4000000 in
set_option maxRecDepth 100000 in
theorem m_U_wordAt {l : Launch} {D : va_G} {cA : Nat → ClassId} {n0 : Nat} {w : mw} {a : Nat} {u : uU} (ha : w a = some (ucell u)) {x : Int32} :
    Ml l D cA n0 y_U_wordAt c_U_wordAt (rmd 0) [.ref a, .int x] w (fun r w' => r = wrd u x ∧ w' = w) := by
  refine mw_met (cc := b_U_wordAt) (maxL := 3) (ret := (some .long)) (by decide) rfl (Nat.le_of_ble_eq_true rfl) ?_
  intro p e s m below meth c ls G hrt hlocks hname h hl
  have G : mw_G p m c b_U_wordAt 3 s _ (c_U_wordAt :: TB) R_U D cl (tys cA) n0 := G
  have hx := G.1.1
  have hb := G.1.2.1
  have hl : lv_has ls 3 [(0, .ref a), (1, .int x)] := hl
  refine lv_aload_n hx hb d_U_wordAt_0 rfl (lv_at hl 0 rfl) ?_
  refine mx_get G h ha rfl 3 (by decide) (tb_in in_U) (tb_c k_44) rfl rfl d_U_wordAt_1 ?_
  refine lv_if_eq (tgt := 11) hx hb d_U_wordAt_4 (by decide) (fun c_1 => ?_) (fun c_1 => ?_)
  · refine lv_aload_n hx hb d_U_wordAt_11 rfl (lv_at hl 0 rfl) ?_
    refine mx_get G h ha rfl 2 (by decide) (tb_in in_U) (tb_c k_42) rfl rfl d_U_wordAt_12 ?_
    refine lv_iload_n hx hb d_U_wordAt_15 rfl (lv_at hl 1 rfl) ?_
    refine lv_aload_n hx hb d_U_wordAt_16 rfl (lv_at hl 0 rfl) ?_
    refine mx_get G h ha rfl 0 (by decide) (tb_in in_U) (tb_c k_36) rfl rfl d_U_wordAt_17 ?_
    refine lv_isub hx hb d_U_wordAt_20 ?_
    refine lv_iadd hx hb d_U_wordAt_21 ?_
    refine lv_istore_n (lv' := [(2, .int (u.2.2.1 + (x - u.1))), (0, .ref a), (1, .int x)]) hx hb d_U_wordAt_22 rfl hl (by decide) rfl (fun ls hl => ?_)
    refine lv_iload_n hx hb d_U_wordAt_23 rfl (lv_at hl 0 rfl) ?_
    refine lv_i2l hx hb d_U_wordAt_24 rfl ?_
    exact mx_retl G h hrt hlocks d_U_wordAt_25 (⟨by rw [wrd, if_pos c_1], rfl⟩)
  · refine lv_ldc2 (v := NN) hx hb G.1.2.2.2.1 (G.1.2.2.2.2 _ (tb_c k_195)) d_U_wordAt_7 ?_
    exact mx_retl G h hrt hlocks d_U_wordAt_10 (⟨by rw [wrd, if_neg c_1], rfl⟩)
set_option maxHeartbeats 4000000 in
set_option maxRecDepth 100000 in
theorem m_D_isQueue {l : Launch} {D : va_G} {cA : Nat → ClassId} {n0 : Nat} {w : mw} {x : Int32} :
    Mi l D cA n0 y_D_isQueue c_D_isQueue (rmd 0) [.int x] w (fun r w' => r = bI (0 ≤ x ∧ x < 3) ∧ w' = w) := by
  refine mw_met (cc := b_D_isQueue) (maxL := 1) (ret := (some .boolean)) (by decide) rfl (Nat.le_of_ble_eq_true rfl) ?_
  intro p e s m below meth c ls G hrt hlocks hname h hl
  have G : mw_G p m c b_D_isQueue 1 s _ (c_D_isQueue :: TB) R_D D cl (tys cA) n0 := G
  have hx := G.1.1
  have hb := G.1.2.1
  have hl : lv_has ls 1 [(0, .int x)] := hl
  refine lv_iload_n hx hb d_D_isQueue_0 rfl (lv_at hl 0 rfl) ?_
  refine lv_if_lt (tgt := 13) hx hb d_D_isQueue_1 (by decide) (fun c_1 => ?_) (fun c_1 => ?_)
  · refine lv_iconst (v := 0) hx hb d_D_isQueue_13 (by decide) ?_
    exact mx_retz G h hrt hlocks d_D_isQueue_14 rfl (⟨(bI_f (fun z => absurd z.1 (Int32.not_le.mpr c_1))).symm, rfl⟩)
  · refine lv_iload_n hx hb d_D_isQueue_4 rfl (lv_at hl 0 rfl) ?_
    refine lv_iconst (v := 3) hx hb d_D_isQueue_5 (by decide) ?_
    refine lv_icmp_ge (tgt := 13) hx hb d_D_isQueue_6 (by decide) (fun c_2 => ?_) (fun c_2 => ?_)
    · refine lv_iconst (v := 0) hx hb d_D_isQueue_13 (by decide) ?_
      exact mx_retz G h hrt hlocks d_D_isQueue_14 rfl (⟨(bI_f (fun z => absurd z.2 (Int32.not_lt.mpr c_2))).symm, rfl⟩)
    · refine lv_iconst (v := 1) hx hb d_D_isQueue_9 (by decide) ?_
      refine lv_goto (tgt := 14) hx hb d_D_isQueue_10 (by decide) ?_
      exact mx_retz G h hrt hlocks d_D_isQueue_14 rfl (⟨(bI_t ⟨Int32.not_lt.mp c_1, Int32.not_le.mp c_2⟩).symm, rfl⟩)
set_option maxHeartbeats 4000000 in
set_option maxRecDepth 100000 in
theorem m_D_isAddress {l : Launch} {D : va_G} {cA : Nat → ClassId} {n0 : Nat} {w : mw} {x : Int32} :
    Mi l D cA n0 y_D_isAddress c_D_isAddress (rmd 0) [.int x] w (fun r w' => r = bI (0 ≤ x ∧ x < 24) ∧ w' = w) := by
  refine mw_met (cc := b_D_isAddress) (maxL := 1) (ret := (some .boolean)) (by decide) rfl (Nat.le_of_ble_eq_true rfl) ?_
  intro p e s m below meth c ls G hrt hlocks hname h hl
  have G : mw_G p m c b_D_isAddress 1 s _ (c_D_isAddress :: TB) R_D D cl (tys cA) n0 := G
  have hx := G.1.1
  have hb := G.1.2.1
  have hl : lv_has ls 1 [(0, .int x)] := hl
  refine lv_iload_n hx hb d_D_isAddress_0 rfl (lv_at hl 0 rfl) ?_
  refine lv_if_lt (tgt := 14) hx hb d_D_isAddress_1 (by decide) (fun c_1 => ?_) (fun c_1 => ?_)
  · refine lv_iconst (v := 0) hx hb d_D_isAddress_14 (by decide) ?_
    exact mx_retz G h hrt hlocks d_D_isAddress_15 rfl (⟨(bI_f (fun z => absurd z.1 (Int32.not_le.mpr c_1))).symm, rfl⟩)
  · refine lv_iload_n hx hb d_D_isAddress_4 rfl (lv_at hl 0 rfl) ?_
    refine lv_bipush (v := 24) hx hb d_D_isAddress_5 (by decide) ?_
    refine lv_icmp_ge (tgt := 14) hx hb d_D_isAddress_7 (by decide) (fun c_2 => ?_) (fun c_2 => ?_)
    · refine lv_iconst (v := 0) hx hb d_D_isAddress_14 (by decide) ?_
      exact mx_retz G h hrt hlocks d_D_isAddress_15 rfl (⟨(bI_f (fun z => absurd z.2 (Int32.not_lt.mpr c_2))).symm, rfl⟩)
    · refine lv_iconst (v := 1) hx hb d_D_isAddress_10 (by decide) ?_
      refine lv_goto (tgt := 15) hx hb d_D_isAddress_11 (by decide) ?_
      exact mx_retz G h hrt hlocks d_D_isAddress_15 rfl (⟨(bI_t ⟨Int32.not_lt.mp c_1, Int32.not_le.mp c_2⟩).symm, rfl⟩)
set_option maxHeartbeats 4000000 in
set_option maxRecDepth 100000 in
theorem m_D_areAddresses {l : Launch} {D : va_G} {cA : Nat → ClassId} {n0 : Nat} {w : mw} {x n : Int32} :
    Mi l D cA n0 y_D_areAddresses c_D_areAddresses (rmd 0) [.int x, .int n] w (fun r w' => r = bI (1 ≤ n ∧ n ≤ 4 ∧ 0 ≤ x ∧ x ≤ 24 - n) ∧ w' = w) := by
  refine mw_met (cc := b_D_areAddresses) (maxL := 2) (ret := (some .boolean)) (by decide) rfl (Nat.le_of_ble_eq_true rfl) ?_
  intro p e s m below meth c ls G hrt hlocks hname h hl
  have G : mw_G p m c b_D_areAddresses 2 s _ (c_D_areAddresses :: TB) R_D D cl (tys cA) n0 := G
  have hx := G.1.1
  have hb := G.1.2.1
  have hl : lv_has ls 2 [(0, .int x), (1, .int n)] := hl
  refine lv_iload_n hx hb d_D_areAddresses_0 rfl (lv_at hl 1 rfl) ?_
  refine lv_iconst (v := 1) hx hb d_D_areAddresses_1 (by decide) ?_
  refine lv_icmp_lt (tgt := 10) hx hb d_D_areAddresses_2 (by decide) (fun c_1 => ?_) (fun c_1 => ?_)
  · refine lv_iconst (v := 0) hx hb d_D_areAddresses_10 (by decide) ?_
    exact mx_retz G h hrt hlocks d_D_areAddresses_11 rfl (⟨(bI_f (fun z => absurd z.1 (Int32.not_le.mpr c_1))).symm, rfl⟩)
  · refine lv_iload_n hx hb d_D_areAddresses_5 rfl (lv_at hl 1 rfl) ?_
    refine lv_iconst (v := 4) hx hb d_D_areAddresses_6 (by decide) ?_
    refine lv_icmp_le (tgt := 12) hx hb d_D_areAddresses_7 (by decide) (fun c_2 => ?_) (fun c_2 => ?_)
    · refine lv_iload_n hx hb d_D_areAddresses_12 rfl (lv_at hl 0 rfl) ?_
      refine lv_if_lt (tgt := 28) hx hb d_D_areAddresses_13 (by decide) (fun c_3 => ?_) (fun c_3 => ?_)
      · refine lv_iconst (v := 0) hx hb d_D_areAddresses_28 (by decide) ?_
        exact mx_retz G h hrt hlocks d_D_areAddresses_29 rfl (⟨(bI_f (fun z => absurd z.2.2.1 (Int32.not_le.mpr c_3))).symm, rfl⟩)
      · refine lv_iload_n hx hb d_D_areAddresses_16 rfl (lv_at hl 0 rfl) ?_
        refine lv_bipush (v := 24) hx hb d_D_areAddresses_17 (by decide) ?_
        refine lv_iload_n hx hb d_D_areAddresses_19 rfl (lv_at hl 1 rfl) ?_
        refine lv_isub hx hb d_D_areAddresses_20 ?_
        refine lv_icmp_gt (tgt := 28) hx hb d_D_areAddresses_21 (by decide) (fun c_4 => ?_) (fun c_4 => ?_)
        · refine lv_iconst (v := 0) hx hb d_D_areAddresses_28 (by decide) ?_
          exact mx_retz G h hrt hlocks d_D_areAddresses_29 rfl (⟨(bI_f (fun z => absurd z.2.2.2 (Int32.not_le.mpr c_4))).symm, rfl⟩)
        · refine lv_iconst (v := 1) hx hb d_D_areAddresses_24 (by decide) ?_
          refine lv_goto (tgt := 29) hx hb d_D_areAddresses_25 (by decide) ?_
          exact mx_retz G h hrt hlocks d_D_areAddresses_29 rfl (⟨(bI_t ⟨Int32.not_lt.mp c_1, c_2, Int32.not_lt.mp c_3, Int32.not_lt.mp c_4⟩).symm, rfl⟩)
    · refine lv_iconst (v := 0) hx hb d_D_areAddresses_10 (by decide) ?_
      exact mx_retz G h hrt hlocks d_D_areAddresses_11 rfl (⟨(bI_f (fun z => absurd z.2.1 c_2)).symm, rfl⟩)
end
section
/-! Shifts of rows: places k .. m - 1 take what stood one further -/
def shf {α : Type} (f : Nat → α) (k i : Nat) : Nat → α := fun j => if k ≤ j ∧ j < i then f (j + 1) else f j
def rotf {α : Type} (f : Nat → α) (k m : Nat) : Nat → α := fun j => if k ≤ j ∧ j < m then f (j + 1) else if j = m then f k else f j
theorem shf_0 {α : Type} (f : Nat → α) (k : Nat) : shf f k k = f := by
  funext j
  simp only [shf]
  rw [if_neg (by omega)]
theorem shf_va {f : Nat → Option Nat} {k i : Nat} (h : k ≤ i) : va_up (shf f k i) i (f (i + 1)) = shf f k (i + 1) := by
  funext j
  simp only [va_up, shf]
  by_cases h1 : j = i
  · subst h1; rw [if_pos rfl, if_pos (by omega)]
  · rw [if_neg h1]
    by_cases h2 : k ≤ j ∧ j < i
    · rw [if_pos h2, if_pos (by omega)]
    · rw [if_neg h2, if_neg (by omega)]
theorem shf_i {f : Nat → Int32} {k i : Nat} (h : k ≤ i) : upd (shf f k i) i (f (i + 1)) = shf f k (i + 1) := by
  funext j
  simp only [upd, shf]
  by_cases h1 : j = i
  · subst h1; rw [if_pos rfl, if_pos (by omega)]
  · rw [if_neg h1]
    by_cases h2 : k ≤ j ∧ j < i
    · rw [if_pos h2, if_pos (by omega)]
    · rw [if_neg h2, if_neg (by omega)]
theorem shf_l {f : Nat → Int64} {k i : Nat} (h : k ≤ i) : vp_updL (shf f k i) i (f (i + 1)) = shf f k (i + 1) := by
  funext j
  simp only [vp_updL, shf]
  by_cases h1 : j = i
  · subst h1; rw [if_pos rfl, if_pos (by omega)]
  · rw [if_neg h1]
    by_cases h2 : k ≤ j ∧ j < i
    · rw [if_pos h2, if_pos (by omega)]
    · rw [if_neg h2, if_neg (by omega)]
theorem shf_at {α : Type} {f : Nat → α} {k i j : Nat} (h : i ≤ j) : shf f k i j = f j := by simp only [shf]; rw [if_neg (by omega)]
theorem shf_rot {f : Nat → Option Nat} {k m : Nat} : va_up (shf f k m) m (f k) = rotf f k m := by
  funext j
  simp only [va_up, shf, rotf]
  by_cases h1 : j = m
  · subst h1; rw [if_pos rfl, if_neg (by omega), if_pos rfl]
  · rw [if_neg h1]
    by_cases h2 : k ≤ j ∧ j < m
    · rw [if_pos h2, if_pos h2]
    · rw [if_neg h2, if_neg h2, if_neg h1]
theorem nI_sub1 {n : Nat} (h : 0 < n) : nI n - 1 = nI (n - 1) := by
  obtain ⟨k, rfl⟩ : ∃ k, n = k + 1 := ⟨n - 1, by omega⟩
  exact nI_pred k
abbrev refs (cA : Nat → ClassId) (t n : Nat) (f : Nat → Option Nat) : va_E := .inl (cA t, n, .inr (.inr (.inr (.inr f))))
abbrev ints (cA : Nat → ClassId) (n : Nat) (f : Nat → Int32) : va_E := .inl (cA 0, n, .inl f)
abbrev bools (cA : Nat → ClassId) (n : Nat) (f : Nat → Int32) : va_E := .inl (cA 2, n, .inl f)
abbrev longs (cA : Nat → ClassId) (n : Nat) (f : Nat → Int64) : va_E := .inl (cA 1, n, .inr (.inl f))
abbrev ccell (hu n : Nat) : va_E := .inr (1, [.ref hu, .int (nI n)])
abbrev kcell (u : Nat) (x k : Int32) : va_E := .inr (2, [.ref u, .int x, .int k])
abbrev qcell (hp hn hr pn cn : Nat) : va_E := .inr (3, [.ref hp, .ref hn, .ref hr, .int (nI pn), .int (nI cn)])
theorem d_C_isFull_0 : decode b_C_isFull 0 = .ok (.aload_n 0, 1) := by decide +kernel
theorem d_C_isFull_1 : decode b_C_isFull 1 = .ok (.getfield 16, 3) := by decide +kernel
theorem d_C_isFull_4 : decode b_C_isFull 4 = .ok (.aload_n 0, 1) := by decide +kernel
theorem d_C_isFull_5 : decode b_C_isFull 5 = .ok (.getfield 9, 3) := by decide +kernel
theorem d_C_isFull_8 : decode b_C_isFull 8 = .ok (.arraylength, 1) := by decide +kernel
theorem d_C_isFull_9 : decode b_C_isFull 9 = .ok (.if_icmp .lt 7, 3) := by decide +kernel
theorem d_C_isFull_12 : decode b_C_isFull 12 = .ok (.iconst 1, 1) := by decide +kernel
theorem d_C_isFull_13 : decode b_C_isFull 13 = .ok (.goto 4, 3) := by decide +kernel
theorem d_C_isFull_16 : decode b_C_isFull 16 = .ok (.iconst 0, 1) := by decide +kernel
theorem d_C_isFull_17 : decode b_C_isFull 17 = .ok (.ireturn, 1) := by decide +kernel
theorem d_C_add_0 : decode b_C_add 0 = .ok (.aload_n 0, 1) := by decide +kernel
theorem d_C_add_1 : decode b_C_add 1 = .ok (.invokevirtual 20, 3) := by decide +kernel
theorem d_C_add_4 : decode b_C_add 4 = .ok (.ifCond .eq 4, 3) := by decide +kernel
theorem d_C_add_7 : decode b_C_add 7 = .ok (.return_, 1) := by decide +kernel
theorem d_C_add_8 : decode b_C_add 8 = .ok (.aload_n 0, 1) := by decide +kernel
theorem d_C_add_9 : decode b_C_add 9 = .ok (.getfield 9, 3) := by decide +kernel
theorem d_C_add_12 : decode b_C_add 12 = .ok (.aload_n 0, 1) := by decide +kernel
theorem d_C_add_13 : decode b_C_add 13 = .ok (.getfield 16, 3) := by decide +kernel
theorem d_C_add_16 : decode b_C_add 16 = .ok (.aaload, 1) := by decide +kernel
theorem d_C_add_17 : decode b_C_add 17 = .ok (.aload_n 1, 1) := by decide +kernel
theorem d_C_add_18 : decode b_C_add 18 = .ok (.getfield 24, 3) := by decide +kernel
theorem d_C_add_21 : decode b_C_add 21 = .ok (.aload_n 1, 1) := by decide +kernel
theorem d_C_add_22 : decode b_C_add 22 = .ok (.getfield 27, 3) := by decide +kernel
theorem d_C_add_25 : decode b_C_add 25 = .ok (.aload_n 1, 1) := by decide +kernel
theorem d_C_add_26 : decode b_C_add 26 = .ok (.getfield 30, 3) := by decide +kernel
theorem d_C_add_29 : decode b_C_add 29 = .ok (.aload_n 1, 1) := by decide +kernel
theorem d_C_add_30 : decode b_C_add 30 = .ok (.getfield 33, 3) := by decide +kernel
theorem d_C_add_33 : decode b_C_add 33 = .ok (.invokevirtual 37, 3) := by decide +kernel
theorem d_C_add_36 : decode b_C_add 36 = .ok (.aload_n 0, 1) := by decide +kernel
theorem d_C_add_37 : decode b_C_add 37 = .ok (.dup, 1) := by decide +kernel
theorem d_C_add_38 : decode b_C_add 38 = .ok (.getfield 16, 3) := by decide +kernel
theorem d_C_add_41 : decode b_C_add 41 = .ok (.iconst 1, 1) := by decide +kernel
theorem d_C_add_42 : decode b_C_add 42 = .ok (.iadd, 1) := by decide +kernel
theorem d_C_add_43 : decode b_C_add 43 = .ok (.putfield 16, 3) := by decide +kernel
theorem d_C_add_46 : decode b_C_add 46 = .ok (.return_, 1) := by decide +kernel
theorem d_C_removeOldest_0 : decode b_C_removeOldest 0 = .ok (.aload_n 0, 1) := by decide +kernel
theorem d_C_removeOldest_1 : decode b_C_removeOldest 1 = .ok (.getfield 16, 3) := by decide +kernel
theorem d_C_removeOldest_4 : decode b_C_removeOldest 4 = .ok (.ifCond .ne 4, 3) := by decide +kernel
theorem d_C_removeOldest_7 : decode b_C_removeOldest 7 = .ok (.return_, 1) := by decide +kernel
theorem d_C_removeOldest_8 : decode b_C_removeOldest 8 = .ok (.aload_n 0, 1) := by decide +kernel
theorem d_C_removeOldest_9 : decode b_C_removeOldest 9 = .ok (.getfield 9, 3) := by decide +kernel
theorem d_C_removeOldest_12 : decode b_C_removeOldest 12 = .ok (.iconst 0, 1) := by decide +kernel
theorem d_C_removeOldest_13 : decode b_C_removeOldest 13 = .ok (.aaload, 1) := by decide +kernel
theorem d_C_removeOldest_14 : decode b_C_removeOldest 14 = .ok (.astore_n 1, 1) := by decide +kernel
theorem d_C_removeOldest_15 : decode b_C_removeOldest 15 = .ok (.aload_n 0, 1) := by decide +kernel
theorem d_C_removeOldest_16 : decode b_C_removeOldest 16 = .ok (.dup, 1) := by decide +kernel
theorem d_C_removeOldest_17 : decode b_C_removeOldest 17 = .ok (.getfield 16, 3) := by decide +kernel
theorem d_C_removeOldest_20 : decode b_C_removeOldest 20 = .ok (.iconst 1, 1) := by decide +kernel
theorem d_C_removeOldest_21 : decode b_C_removeOldest 21 = .ok (.isub, 1) := by decide +kernel
theorem d_C_removeOldest_22 : decode b_C_removeOldest 22 = .ok (.putfield 16, 3) := by decide +kernel
theorem d_C_removeOldest_25 : decode b_C_removeOldest 25 = .ok (.iconst 0, 1) := by decide +kernel
theorem d_C_removeOldest_26 : decode b_C_removeOldest 26 = .ok (.istore_n 2, 1) := by decide +kernel
theorem d_C_removeOldest_27 : decode b_C_removeOldest 27 = .ok (.iload_n 2, 1) := by decide +kernel
theorem d_C_removeOldest_28 : decode b_C_removeOldest 28 = .ok (.aload_n 0, 1) := by decide +kernel
theorem d_C_removeOldest_29 : decode b_C_removeOldest 29 = .ok (.getfield 16, 3) := by decide +kernel
theorem d_C_removeOldest_32 : decode b_C_removeOldest 32 = .ok (.if_icmp .ge 23, 3) := by decide +kernel
theorem d_C_removeOldest_35 : decode b_C_removeOldest 35 = .ok (.aload_n 0, 1) := by decide +kernel
theorem d_C_removeOldest_36 : decode b_C_removeOldest 36 = .ok (.getfield 9, 3) := by decide +kernel
theorem d_C_removeOldest_39 : decode b_C_removeOldest 39 = .ok (.iload_n 2, 1) := by decide +kernel
theorem d_C_removeOldest_40 : decode b_C_removeOldest 40 = .ok (.aload_n 0, 1) := by decide +kernel
theorem d_C_removeOldest_41 : decode b_C_removeOldest 41 = .ok (.getfield 9, 3) := by decide +kernel
theorem d_C_removeOldest_44 : decode b_C_removeOldest 44 = .ok (.iload_n 2, 1) := by decide +kernel
theorem d_C_removeOldest_45 : decode b_C_removeOldest 45 = .ok (.iconst 1, 1) := by decide +kernel
theorem d_C_removeOldest_46 : decode b_C_removeOldest 46 = .ok (.iadd, 1) := by decide +kernel
theorem d_C_removeOldest_47 : decode b_C_removeOldest 47 = .ok (.aaload, 1) := by decide +kernel
theorem d_C_removeOldest_48 : decode b_C_removeOldest 48 = .ok (.aastore, 1) := by decide +kernel
theorem d_C_removeOldest_49 : decode b_C_removeOldest 49 = .ok (.iinc 2 1, 3) := by decide +kernel
theorem d_C_removeOldest_52 : decode b_C_removeOldest 52 = .ok (.goto (-25), 3) := by decide +kernel
theorem d_C_removeOldest_55 : decode b_C_removeOldest 55 = .ok (.aload_n 0, 1) := by decide +kernel
theorem d_C_removeOldest_56 : decode b_C_removeOldest 56 = .ok (.getfield 9, 3) := by decide +kernel
theorem d_C_removeOldest_59 : decode b_C_removeOldest 59 = .ok (.aload_n 0, 1) := by decide +kernel
theorem d_C_removeOldest_60 : decode b_C_removeOldest 60 = .ok (.getfield 16, 3) := by decide +kernel
theorem d_C_removeOldest_63 : decode b_C_removeOldest 63 = .ok (.aload_n 1, 1) := by decide +kernel
theorem d_C_removeOldest_64 : decode b_C_removeOldest 64 = .ok (.aastore, 1) := by decide +kernel
theorem d_C_removeOldest_65 : decode b_C_removeOldest 65 = .ok (.return_, 1) := by decide +kernel
set_option maxHeartbeats 4000000 in
set_option maxRecDepth 100000 in
theorem m_C_isFull {l : Launch} {D : va_G} {cA : Nat → ClassId} {n0 : Nat} {w : mw} {hc hu L n : Nat} {f : Nat → Option Nat} (hC : w hc = some (ccell hu n)) (hU : w hu = some (refs cA 3 L f)) (hL : L ≤ 6) (hn : n ≤ 6) :
    Mi l D cA n0 y_C_isFull c_C_isFull (rmd 0) [.ref hc] w (fun r w' => r = bI (L ≤ n) ∧ w' = w) := by
  refine mw_met (cc := b_C_isFull) (maxL := 1) (ret := (some .boolean)) (by decide) rfl (Nat.le_of_ble_eq_true rfl) ?_
  intro p e s m below meth c ls G hrt hlocks hname h hl
  have G : mw_G p m c b_C_isFull 1 s _ (c_C_isFull :: TB) R_C D cl (tys cA) n0 := G
  have hx := G.1.1
  have hb := G.1.2.1
  have hl : lv_has ls 1 [(0, .ref hc)] := hl
  refine lv_aload_n hx hb d_C_isFull_0 rfl (lv_at hl 0 rfl) ?_
  refine mx_get G h hC rfl 1 (by decide) (tb_in in_C) (tb_c k_59) rfl rfl d_C_isFull_1 ?_
  refine lv_aload_n hx hb d_C_isFull_4 rfl (lv_at hl 0 rfl) ?_
  refine mx_get G h hC rfl 0 (by decide) (tb_in in_C) (tb_c k_57) rfl rfl d_C_isFull_5 ?_
  refine mx_alen G h 3 hU rfl (v := (nI L)) rfl d_C_isFull_8 ?_
  refine lv_icmp_lt (tgt := 16) hx hb d_C_isFull_9 (by decide) (fun c_1 => ?_) (fun c_1 => ?_)
  · refine lv_iconst (v := 0) hx hb d_C_isFull_16 (by decide) ?_
    exact mx_retz G h hrt hlocks d_C_isFull_17 rfl (⟨(bI_f (fun z => absurd z (Nat.not_le.mpr ((nI_ltI (by omega) (by omega)).mp c_1)))).symm, rfl⟩)
  · refine lv_iconst (v := 1) hx hb d_C_isFull_12 (by decide) ?_
    refine lv_goto (tgt := 17) hx hb d_C_isFull_13 (by decide) ?_
    exact mx_retz G h hrt hlocks d_C_isFull_17 rfl (⟨(bI_t (Nat.not_lt.mp (fun z => c_1 ((nI_ltI (by omega) (by omega)).mpr z)))).symm, rfl⟩)
set_option maxHeartbeats 4000000 in
set_option maxRecDepth 100000 in
theorem m_C_add {l : Launch} {D : va_G} {cA : Nat → ClassId} {n0 : Nat} {w : mw} {hc hu L n : Nat} {f : Nat → Option Nat} (hC : w hc = some (ccell hu n)) (hU : w hu = some (refs cA 3 L f)) (hL : L ≤ 6) (hn : n < L) {a b : Nat} {u v : uU} (hfn : f n = some b) (ha : w a = some (ucell u)) (hB : w b = some (ucell v)) (hz : u.2.2.2 = 0 ∨ u.2.2.2 = 1) :
    Mv l D cA n0 y_C_add c_C_add (rmd 1) [.ref hc, .ref a] w (fun w' => w' = mw_up (mw_up w b (ucell u)) hc (ccell hu (n + 1))) := by
  refine mw_met (cc := b_C_add) (maxL := 2) (ret := (none)) (by decide) rfl (Nat.le_of_ble_eq_true rfl) ?_
  intro p e s m below meth c ls G hrt hlocks hname h hl
  have G : mw_G p m c b_C_add 2 s _ (c_C_add :: TB) R_C D cl (tys cA) n0 := G
  have hx := G.1.1
  have hb := G.1.2.1
  have hl : lv_has ls 2 [(0, .ref hc), (1, .ref a)] := hl
  refine lv_aload_n hx hb d_C_add_0 rfl (lv_at hl 0 rfl) ?_
  refine mx_ci (cV (As := []) (rest := []) G h (m_C_isFull hC hU hL (by omega)) k_220 k_201 k_202 k_2 k_203 hd_C_isFull rfl rfl ⟨Nat.le_of_ble_eq_true rfl, Nat.le_of_ble_eq_true rfl⟩ hC rfl rfl hl.1 rfl (Nat.le_of_ble_eq_true rfl) d_C_add_1 ⟨Nat.le_of_ble_eq_true rfl, Nat.le_of_ble_eq_true rfl⟩) h (fun r_2 w_1 H locs h hcp => ?_)
  obtain ⟨er_3, ew_4⟩ := hcp
  subst er_3
  rw [ew_4] at h
  refine lv_if_eq (tgt := 8) hx hb d_C_add_4 (by decide) (fun c_5 => ?_) (fun c_5 => ?_)
  · refine lv_aload_n hx hb d_C_add_8 rfl (lv_at hl 0 rfl) ?_
    refine mx_get G h hC rfl 0 (by decide) (tb_in in_C) (tb_c k_57) rfl rfl d_C_add_9 ?_
    refine lv_aload_n hx hb d_C_add_12 rfl (lv_at hl 0 rfl) ?_
    refine mx_get G h hC rfl 1 (by decide) (tb_in in_C) (tb_c k_59) rfl rfl d_C_add_13 ?_
    refine ax_a G h 3 hU rfl n rfl hn (by omega) hfn d_C_add_16 ?_
    refine lv_aload_n hx hb d_C_add_17 rfl (lv_at hl 1 rfl) ?_
    refine mx_get G h ha rfl 0 (by decide) (tb_in in_U) (tb_c k_37) rfl rfl d_C_add_18 ?_
    refine lv_aload_n hx hb d_C_add_21 rfl (lv_at hl 1 rfl) ?_
    refine mx_get G h ha rfl 1 (by decide) (tb_in in_U) (tb_c k_40) rfl rfl d_C_add_22 ?_
    refine lv_aload_n hx hb d_C_add_25 rfl (lv_at hl 1 rfl) ?_
    refine mx_get G h ha rfl 2 (by decide) (tb_in in_U) (tb_c k_43) rfl rfl d_C_add_26 ?_
    refine lv_aload_n hx hb d_C_add_29 rfl (lv_at hl 1 rfl) ?_
    refine mx_get G h ha rfl 3 (by decide) (tb_in in_U) (tb_c k_45) rfl rfl d_C_add_30 ?_
    refine mx_cv (cV (As := [.int u.1, .int u.2.1, .int u.2.2.1, .int u.2.2.2]) (rest := []) G h (m_U_set hB hz) k_221 k_160 k_161 k_4 k_162 hd_U_set rfl rfl ⟨Nat.le_of_ble_eq_true rfl, Nat.le_of_ble_eq_true rfl⟩ hB rfl rfl hl.1 rfl (Nat.le_of_ble_eq_true rfl) d_C_add_33 ⟨Nat.le_of_ble_eq_true rfl, Nat.le_of_ble_eq_true rfl⟩) h (fun w_6 H locs h hcp => ?_)
    rw [hcp] at h
    obtain ⟨w_7, ew_7⟩ : ∃ xx : mw, mw_up w b (ucell (u.1, u.2.1, u.2.2.1, u.2.2.2)) = xx := ⟨_, rfl⟩
    rw [ew_7] at h
    have f_8 : w_7 hc = some (ccell hu n) := by rw [← ew_7]; rw [mw_ne (mw_apart hC hB (by simp))]; exact hC
    refine lv_aload_n hx hb d_C_add_36 rfl (lv_at hl 0 rfl) ?_
    refine lv_dup hx hb d_C_add_37 rfl ?_
    refine mx_get G h f_8 rfl 1 (by decide) (tb_in in_C) (tb_c k_59) rfl rfl d_C_add_38 ?_
    refine lv_iconst (v := 1) hx hb d_C_add_41 (by decide) ?_
    refine lv_iadd hx hb d_C_add_42 ?_
    refine mx_put G h f_8 rfl 1 (by decide) (tb_in in_C) t_C t_C_ok n_C (tb_c k_59) rfl rfl rfl rfl rfl (Nat.le_of_ble_eq_true rfl) d_C_add_43 (fun H locs h => ?_)
    have h : mw_H n0 D cl s (mw_up w_7 hc (.inr (1, [.ref hu, .int ((nI n) + 1)]))) H locs := h
    obtain ⟨w_9, ew_9⟩ : ∃ xx : mw, mw_up w_7 hc (.inr (1, [.ref hu, .int ((nI n) + 1)])) = xx := ⟨_, rfl⟩
    rw [ew_9] at h
    have f_10 : w_9 hc = some (.inr (1, [.ref hu, .int ((nI n) + 1)])) := by rw [← ew_9]; exact mw_self
    exact mx_retv G h hrt hlocks d_C_add_46 (by rw [← ew_9, ← ew_7, nI_1])
  · exact absurd (bI_n c_5) (by omega)
set_option maxHeartbeats 4000000 in
set_option maxRecDepth 100000 in
theorem m_C_removeOldest {l : Launch} {D : va_G} {cA : Nat → ClassId} {n0 : Nat} {w : mw} {hc hu L n : Nat} {f : Nat → Option Nat} (hC : w hc = some (ccell hu n)) (hU : w hu = some (refs cA 3 L f)) (hL : L ≤ 6) (h0 : 0 < n) (hn : n ≤ L) (hf : ∀ i, i < L → ∃ a u, f i = some a ∧ w a = some (ucell u)) :
    Mv l D cA n0 y_C_removeOldest c_C_removeOldest (rmd 0) [.ref hc] w (fun w' => w' = mw_up (mw_up w hc (ccell hu (n - 1))) hu (refs cA 3 L (rotf f 0 (n - 1)))) := by
  refine mw_met (cc := b_C_removeOldest) (maxL := 3) (ret := (none)) (by decide) rfl (Nat.le_of_ble_eq_true rfl) ?_
  intro p e s m below meth c ls G hrt hlocks hname h hl
  have G : mw_G p m c b_C_removeOldest 3 s _ (c_C_removeOldest :: TB) R_C D cl (tys cA) n0 := G
  have hx := G.1.1
  have hb := G.1.2.1
  have hl : lv_has ls 3 [(0, .ref hc)] := hl
  obtain ⟨a0, u0, hf0, ha0⟩ := hf 0 (by omega)
  refine lv_aload_n hx hb d_C_removeOldest_0 rfl (lv_at hl 0 rfl) ?_
  refine mx_get G h hC rfl 1 (by decide) (tb_in in_C) (tb_c k_59) rfl rfl d_C_removeOldest_1 ?_
  refine lv_if_ne (tgt := 8) hx hb d_C_removeOldest_4 (by decide) (fun c_1 => ?_) (fun c_1 => ?_)
  · refine lv_aload_n hx hb d_C_removeOldest_8 rfl (lv_at hl 0 rfl) ?_
    refine mx_get G h hC rfl 0 (by decide) (tb_in in_C) (tb_c k_57) rfl rfl d_C_removeOldest_9 ?_
    refine lv_iconst (v := 0) hx hb d_C_removeOldest_12 (by decide) ?_
    refine ax_a G h 3 hU rfl 0 nI_0.symm (by omega) (by omega) hf0 d_C_removeOldest_13 ?_
    refine lv_astore_n (lv' := [(1, .ref a0), (0, .ref hc)]) hx hb d_C_removeOldest_14 rfl hl (by decide) rfl (fun ls hl => ?_)
    refine lv_aload_n hx hb d_C_removeOldest_15 rfl (lv_at hl 1 rfl) ?_
    refine lv_dup hx hb d_C_removeOldest_16 rfl ?_
    refine mx_get G h hC rfl 1 (by decide) (tb_in in_C) (tb_c k_59) rfl rfl d_C_removeOldest_17 ?_
    refine lv_iconst (v := 1) hx hb d_C_removeOldest_20 (by decide) ?_
    refine lv_isub hx hb d_C_removeOldest_21 ?_
    have et_2 : (nI n) - 1 = nI (n - 1) := nI_sub1 h0
    rw [et_2]
    refine mx_put G h hC rfl 1 (by decide) (tb_in in_C) t_C t_C_ok n_C (tb_c k_59) rfl rfl rfl rfl rfl (Nat.le_of_ble_eq_true rfl) d_C_removeOldest_22 (fun H locs h => ?_)
    have h : mw_H n0 D cl s (mw_up w hc (.inr (1, [.ref hu, .int (nI (n - 1))]))) H locs := h
    obtain ⟨w_3, ew_3⟩ : ∃ xx : mw, mw_up w hc (.inr (1, [.ref hu, .int (nI (n - 1))])) = xx := ⟨_, rfl⟩
    rw [ew_3] at h
    have f_4 : w_3 hu = some (refs cA 3 L f) := by rw [← ew_3, mw_ne (mw_apart hU hC (by simp))]; exact hU
    have f_5 : w_3 hc = some (.inr (1, [.ref hu, .int (nI (n - 1))])) := by rw [← ew_3]; exact mw_self
    refine lv_iconst (v := 0) hx hb d_C_removeOldest_25 (by decide) ?_
    refine lv_istore_n (lv' := [(2, .int 0), (1, .ref a0), (0, .ref hc)]) hx hb d_C_removeOldest_26 rfl hl (by decide) rfl (fun ls hl => ?_)
    have hU1 := f_4
    have loop : ∀ (t i : Nat), i + t = n - 1 → ∀ (H : Heap) (locs : List Loc) (ls : Array Slot), mw_H n0 D cl s (mw_up w_3 hu (refs cA 3 L (shf f 0 i))) H locs → lv_has ls 3 [(2, .int (nI i)), (1, .ref a0), (0, .ref hc)] → W p l e (rmd 0) s m ([.ref hc] : List Value).toArray below meth c H locs 0 0 (MQ below (mw_Qv n0 D cl (fun w' => w' = mw_up (mw_up w hc (ccell hu (n - 1))) hu (refs cA 3 L (rotf f 0 (n - 1))))) ([.ref hc] : List Value).toArray s 0 0 (mw_A n0)) (F0 m 27 ls []) := by
      intro t
      induction t with
      | zero =>
        intro i hi H locs ls h hl
        obtain ⟨w_6, ew_6⟩ : ∃ xx : mw, mw_up w_3 hu (refs cA 3 L (shf f 0 i)) = xx := ⟨_, rfl⟩
        rw [ew_6] at h
        have f_7 : w_6 hc = some (ccell hu (n - 1)) := by rw [← ew_6]; rw [mw_ne (mw_apart f_5 hU1 (by simp))]; exact f_5
        have f_8 : w_6 hu = some (refs cA 3 L (shf f 0 i)) := by rw [← ew_6]; exact mw_self
        have f_9 : w_6 a0 = some (ucell u0) := by rw [← ew_6]; rw [mw_ne (mw_apart ha0 hU (by simp)), ← ew_3, mw_ne (mw_apart ha0 hC (by simp))]; exact ha0
        refine lv_iload_n hx hb d_C_removeOldest_27 rfl (lv_at hl 0 rfl) ?_
        refine lv_aload_n hx hb d_C_removeOldest_28 rfl (lv_at hl 2 rfl) ?_
        refine mx_get G h f_7 rfl 1 (by decide) (tb_in in_C) (tb_c k_59) rfl rfl d_C_removeOldest_29 ?_
        refine lv_icmp_ge (tgt := 55) hx hb d_C_removeOldest_32 (by decide) (fun c_10 => ?_) (fun c_10 => ?_)
        · refine lv_aload_n hx hb d_C_removeOldest_55 rfl (lv_at hl 2 rfl) ?_
          refine mx_get G h f_7 rfl 0 (by decide) (tb_in in_C) (tb_c k_57) rfl rfl d_C_removeOldest_56 ?_
          refine lv_aload_n hx hb d_C_removeOldest_59 rfl (lv_at hl 2 rfl) ?_
          refine mx_get G h f_7 rfl 1 (by decide) (tb_in in_C) (tb_c k_59) rfl rfl d_C_removeOldest_60 ?_
          refine lv_aload_n hx hb d_C_removeOldest_63 rfl (lv_at hl 1 rfl) ?_
          refine ax_sa G h 3 4 f_8 rfl f_9 rfl (n - 1) rfl (by omega) (by omega) d_C_removeOldest_64 (fun H locs h => ?_)
          have h : mw_H n0 D cl s (mw_up w_6 hu (.inl (cA 3, L, .inr (.inr (.inr (.inr (va_up (shf f 0 i) (n - 1) (some a0)))))))) H locs := h
          obtain ⟨w_11, ew_11⟩ : ∃ xx : mw, mw_up w_6 hu (.inl (cA 3, L, .inr (.inr (.inr (.inr (va_up (shf f 0 i) (n - 1) (some a0))))))) = xx := ⟨_, rfl⟩
          rw [ew_11] at h
          have f_12 : w_11 hc = some (ccell hu (n - 1)) := by rw [← ew_11, mw_ne (mw_apart f_7 f_8 (by simp))]; exact f_7
          have f_13 : w_11 a0 = some (ucell u0) := by rw [← ew_11, mw_ne (mw_apart f_9 f_8 (by simp))]; exact f_9
          have f_14 : w_11 hu = some (.inl (cA 3, L, .inr (.inr (.inr (.inr (va_up (shf f 0 i) (n - 1) (some a0))))))) := by rw [← ew_11]; exact mw_self
          exact mx_retv G h hrt hlocks d_C_removeOldest_65 (by rw [← ew_11, ← ew_6, mw_uu, show n - 1 = i by omega, ← hf0, shf_rot, ← ew_3, show n - 1 = i by omega])
        · exact absurd ((nI_leI (by omega) (by omega)).mpr (by omega)) c_10
      | succ t ih =>
        intro i hi H locs ls h hl
        obtain ⟨a1, u1, hf1, ha1⟩ := hf (i + 1) (by omega)
        obtain ⟨w_15, ew_15⟩ : ∃ xx : mw, mw_up w_3 hu (refs cA 3 L (shf f 0 i)) = xx := ⟨_, rfl⟩
        rw [ew_15] at h
        have f_16 : w_15 hc = some (ccell hu (n - 1)) := by rw [← ew_15]; rw [mw_ne (mw_apart f_5 hU1 (by simp))]; exact f_5
        have f_17 : w_15 hu = some (refs cA 3 L (shf f 0 i)) := by rw [← ew_15]; exact mw_self
        have f_18 : w_15 a1 = some (ucell u1) := by rw [← ew_15]; rw [mw_ne (mw_apart ha1 hU (by simp)), ← ew_3, mw_ne (mw_apart ha1 hC (by simp))]; exact ha1
        refine lv_iload_n hx hb d_C_removeOldest_27 rfl (lv_at hl 0 rfl) ?_
        refine lv_aload_n hx hb d_C_removeOldest_28 rfl (lv_at hl 2 rfl) ?_
        refine mx_get G h f_16 rfl 1 (by decide) (tb_in in_C) (tb_c k_59) rfl rfl d_C_removeOldest_29 ?_
        refine lv_icmp_ge (tgt := 55) hx hb d_C_removeOldest_32 (by decide) (fun c_19 => ?_) (fun c_19 => ?_)
        · exact absurd ((nI_leI (by omega) (by omega)).mp c_19) (by omega)
        · refine lv_aload_n hx hb d_C_removeOldest_35 rfl (lv_at hl 2 rfl) ?_
          refine mx_get G h f_16 rfl 0 (by decide) (tb_in in_C) (tb_c k_57) rfl rfl d_C_removeOldest_36 ?_
          refine lv_iload_n hx hb d_C_removeOldest_39 rfl (lv_at hl 0 rfl) ?_
          refine lv_aload_n hx hb d_C_removeOldest_40 rfl (lv_at hl 2 rfl) ?_
          refine mx_get G h f_16 rfl 0 (by decide) (tb_in in_C) (tb_c k_57) rfl rfl d_C_removeOldest_41 ?_
          refine lv_iload_n hx hb d_C_removeOldest_44 rfl (lv_at hl 0 rfl) ?_
          refine lv_iconst (v := 1) hx hb d_C_removeOldest_45 (by decide) ?_
          refine lv_iadd hx hb d_C_removeOldest_46 ?_
          refine ax_a G h 3 f_17 rfl (i + 1) (nI_1 i) (by omega) (by omega) (by rw [shf_at (by omega)]; exact hf1) d_C_removeOldest_47 ?_
          refine ax_sa G h 3 4 f_17 rfl f_18 rfl i rfl (by omega) (by omega) d_C_removeOldest_48 (fun H locs h => ?_)
          have h : mw_H n0 D cl s (mw_up w_15 hu (.inl (cA 3, L, .inr (.inr (.inr (.inr (va_up (shf f 0 i) i (some a1)))))))) H locs := h
          obtain ⟨w_20, ew_20⟩ : ∃ xx : mw, mw_up w_15 hu (.inl (cA 3, L, .inr (.inr (.inr (.inr (va_up (shf f 0 i) i (some a1))))))) = xx := ⟨_, rfl⟩
          rw [ew_20] at h
          have f_21 : w_20 hc = some (ccell hu (n - 1)) := by rw [← ew_20, mw_ne (mw_apart f_16 f_17 (by simp))]; exact f_16
          have f_22 : w_20 a1 = some (ucell u1) := by rw [← ew_20, mw_ne (mw_apart f_18 f_17 (by simp))]; exact f_18
          have f_23 : w_20 hu = some (.inl (cA 3, L, .inr (.inr (.inr (.inr (va_up (shf f 0 i) i (some a1))))))) := by rw [← ew_20]; exact mw_self
          refine lv_iinc (v := (nI i) + 1) (lv' := [(2, .int ((nI i) + 1)), (1, .ref a0), (0, .ref hc)]) hx hb d_C_removeOldest_49 hl (k := 0) rfl rfl (by decide) rfl (fun ls hl => ?_)
          refine lv_goto (tgt := 27) hx hb d_C_removeOldest_52 (by decide) ?_
          rw [nI_1] at hl
          refine ih (i + 1) (by omega) H locs ls ?_ (lv_sub hl [0, 1, 2] rfl)
          rw [← shf_va (Nat.zero_le i), hf1, ← mw_uu (e := refs cA 3 L (shf f 0 i)), ew_15, ew_20]
          exact h
    refine loop (n - 1) 0 (by omega) H locs ls ?_ (lv_sub hl [0, 1, 2] rfl)
    rw [shf_0, mw_id hU1]
    exact h
  · exact absurd c_1 (nI_ne0 h0 (by omega))
end
section
theorem d_Q_hasPending_0 : decode b_Q_hasPending 0 = .ok (.iload_n 1, 1) := by decide +kernel
theorem d_Q_hasPending_1 : decode b_Q_hasPending 1 = .ok (.ifCond .lt 15, 3) := by decide +kernel
theorem d_Q_hasPending_4 : decode b_Q_hasPending 4 = .ok (.iload_n 1, 1) := by decide +kernel
theorem d_Q_hasPending_5 : decode b_Q_hasPending 5 = .ok (.aload_n 0, 1) := by decide +kernel
theorem d_Q_hasPending_6 : decode b_Q_hasPending 6 = .ok (.getfield 26, 3) := by decide +kernel
theorem d_Q_hasPending_9 : decode b_Q_hasPending 9 = .ok (.if_icmp .ge 7, 3) := by decide +kernel
theorem d_Q_hasPending_12 : decode b_Q_hasPending 12 = .ok (.iconst 1, 1) := by decide +kernel
theorem d_Q_hasPending_13 : decode b_Q_hasPending 13 = .ok (.goto 4, 3) := by decide +kernel
theorem d_Q_hasPending_16 : decode b_Q_hasPending 16 = .ok (.iconst 0, 1) := by decide +kernel
theorem d_Q_hasPending_17 : decode b_Q_hasPending 17 = .ok (.ireturn, 1) := by decide +kernel
theorem d_Q_addPending_0 : decode b_Q_addPending 0 = .ok (.aload_n 0, 1) := by decide +kernel
theorem d_Q_addPending_1 : decode b_Q_addPending 1 = .ok (.getfield 11, 3) := by decide +kernel
theorem d_Q_addPending_4 : decode b_Q_addPending 4 = .ok (.aload_n 0, 1) := by decide +kernel
theorem d_Q_addPending_5 : decode b_Q_addPending 5 = .ok (.getfield 26, 3) := by decide +kernel
theorem d_Q_addPending_8 : decode b_Q_addPending 8 = .ok (.aaload, 1) := by decide +kernel
theorem d_Q_addPending_9 : decode b_Q_addPending 9 = .ok (.astore_n 3, 1) := by decide +kernel
theorem d_Q_addPending_10 : decode b_Q_addPending 10 = .ok (.aload_n 3, 1) := by decide +kernel
theorem d_Q_addPending_11 : decode b_Q_addPending 11 = .ok (.iload_n 1, 1) := by decide +kernel
theorem d_Q_addPending_12 : decode b_Q_addPending 12 = .ok (.putfield 30, 3) := by decide +kernel
theorem d_Q_addPending_15 : decode b_Q_addPending 15 = .ok (.aload_n 3, 1) := by decide +kernel
theorem d_Q_addPending_16 : decode b_Q_addPending 16 = .ok (.iload_n 2, 1) := by decide +kernel
theorem d_Q_addPending_17 : decode b_Q_addPending 17 = .ok (.putfield 33, 3) := by decide +kernel
theorem d_Q_addPending_20 : decode b_Q_addPending 20 = .ok (.aload_n 0, 1) := by decide +kernel
theorem d_Q_addPending_21 : decode b_Q_addPending 21 = .ok (.dup, 1) := by decide +kernel
theorem d_Q_addPending_22 : decode b_Q_addPending 22 = .ok (.getfield 26, 3) := by decide +kernel
theorem d_Q_addPending_25 : decode b_Q_addPending 25 = .ok (.iconst 1, 1) := by decide +kernel
theorem d_Q_addPending_26 : decode b_Q_addPending 26 = .ok (.iadd, 1) := by decide +kernel
theorem d_Q_addPending_27 : decode b_Q_addPending 27 = .ok (.putfield 26, 3) := by decide +kernel
theorem d_Q_addPending_30 : decode b_Q_addPending 30 = .ok (.aload_n 3, 1) := by decide +kernel
theorem d_Q_addPending_31 : decode b_Q_addPending 31 = .ok (.areturn, 1) := by decide +kernel
theorem d_Q_removePending_0 : decode b_Q_removePending 0 = .ok (.aload_n 0, 1) := by decide +kernel
theorem d_Q_removePending_1 : decode b_Q_removePending 1 = .ok (.iload_n 1, 1) := by decide +kernel
theorem d_Q_removePending_2 : decode b_Q_removePending 2 = .ok (.invokevirtual 36, 3) := by decide +kernel
theorem d_Q_removePending_5 : decode b_Q_removePending 5 = .ok (.ifCond .ne 4, 3) := by decide +kernel
theorem d_Q_removePending_8 : decode b_Q_removePending 8 = .ok (.return_, 1) := by decide +kernel
theorem d_Q_removePending_9 : decode b_Q_removePending 9 = .ok (.aload_n 0, 1) := by decide +kernel
theorem d_Q_removePending_10 : decode b_Q_removePending 10 = .ok (.getfield 11, 3) := by decide +kernel
theorem d_Q_removePending_13 : decode b_Q_removePending 13 = .ok (.iload_n 1, 1) := by decide +kernel
theorem d_Q_removePending_14 : decode b_Q_removePending 14 = .ok (.aaload, 1) := by decide +kernel
theorem d_Q_removePending_15 : decode b_Q_removePending 15 = .ok (.astore_n 2, 1) := by decide +kernel
theorem d_Q_removePending_16 : decode b_Q_removePending 16 = .ok (.aload_n 0, 1) := by decide +kernel
theorem d_Q_removePending_17 : decode b_Q_removePending 17 = .ok (.dup, 1) := by decide +kernel
theorem d_Q_removePending_18 : decode b_Q_removePending 18 = .ok (.getfield 26, 3) := by decide +kernel
theorem d_Q_removePending_21 : decode b_Q_removePending 21 = .ok (.iconst 1, 1) := by decide +kernel
theorem d_Q_removePending_22 : decode b_Q_removePending 22 = .ok (.isub, 1) := by decide +kernel
theorem d_Q_removePending_23 : decode b_Q_removePending 23 = .ok (.putfield 26, 3) := by decide +kernel
theorem d_Q_removePending_26 : decode b_Q_removePending 26 = .ok (.iload_n 1, 1) := by decide +kernel
theorem d_Q_removePending_27 : decode b_Q_removePending 27 = .ok (.istore_n 3, 1) := by decide +kernel
theorem d_Q_removePending_28 : decode b_Q_removePending 28 = .ok (.iload_n 3, 1) := by decide +kernel
theorem d_Q_removePending_29 : decode b_Q_removePending 29 = .ok (.aload_n 0, 1) := by decide +kernel
theorem d_Q_removePending_30 : decode b_Q_removePending 30 = .ok (.getfield 26, 3) := by decide +kernel
theorem d_Q_removePending_33 : decode b_Q_removePending 33 = .ok (.if_icmp .ge 23, 3) := by decide +kernel
theorem d_Q_removePending_36 : decode b_Q_removePending 36 = .ok (.aload_n 0, 1) := by decide +kernel
theorem d_Q_removePending_37 : decode b_Q_removePending 37 = .ok (.getfield 11, 3) := by decide +kernel
theorem d_Q_removePending_40 : decode b_Q_removePending 40 = .ok (.iload_n 3, 1) := by decide +kernel
theorem d_Q_removePending_41 : decode b_Q_removePending 41 = .ok (.aload_n 0, 1) := by decide +kernel
theorem d_Q_removePending_42 : decode b_Q_removePending 42 = .ok (.getfield 11, 3) := by decide +kernel
theorem d_Q_removePending_45 : decode b_Q_removePending 45 = .ok (.iload_n 3, 1) := by decide +kernel
theorem d_Q_removePending_46 : decode b_Q_removePending 46 = .ok (.iconst 1, 1) := by decide +kernel
theorem d_Q_removePending_47 : decode b_Q_removePending 47 = .ok (.iadd, 1) := by decide +kernel
theorem d_Q_removePending_48 : decode b_Q_removePending 48 = .ok (.aaload, 1) := by decide +kernel
theorem d_Q_removePending_49 : decode b_Q_removePending 49 = .ok (.aastore, 1) := by decide +kernel
theorem d_Q_removePending_50 : decode b_Q_removePending 50 = .ok (.iinc 3 1, 3) := by decide +kernel
theorem d_Q_removePending_53 : decode b_Q_removePending 53 = .ok (.goto (-25), 3) := by decide +kernel
theorem d_Q_removePending_56 : decode b_Q_removePending 56 = .ok (.aload_n 0, 1) := by decide +kernel
theorem d_Q_removePending_57 : decode b_Q_removePending 57 = .ok (.getfield 11, 3) := by decide +kernel
theorem d_Q_removePending_60 : decode b_Q_removePending 60 = .ok (.aload_n 0, 1) := by decide +kernel
theorem d_Q_removePending_61 : decode b_Q_removePending 61 = .ok (.getfield 26, 3) := by decide +kernel
theorem d_Q_removePending_64 : decode b_Q_removePending 64 = .ok (.aload_n 2, 1) := by decide +kernel
theorem d_Q_removePending_65 : decode b_Q_removePending 65 = .ok (.aastore, 1) := by decide +kernel
theorem d_Q_removePending_66 : decode b_Q_removePending 66 = .ok (.return_, 1) := by decide +kernel
theorem d_Q_addCompletion_0 : decode b_Q_addCompletion 0 = .ok (.aload_n 0, 1) := by decide +kernel
theorem d_Q_addCompletion_1 : decode b_Q_addCompletion 1 = .ok (.getfield 40, 3) := by decide +kernel
theorem d_Q_addCompletion_4 : decode b_Q_addCompletion 4 = .ok (.iconst 4, 1) := by decide +kernel
theorem d_Q_addCompletion_5 : decode b_Q_addCompletion 5 = .ok (.if_icmp .lt 4, 3) := by decide +kernel
theorem d_Q_addCompletion_8 : decode b_Q_addCompletion 8 = .ok (.return_, 1) := by decide +kernel
theorem d_Q_addCompletion_9 : decode b_Q_addCompletion 9 = .ok (.aload_n 0, 1) := by decide +kernel
theorem d_Q_addCompletion_10 : decode b_Q_addCompletion 10 = .ok (.getfield 18, 3) := by decide +kernel
theorem d_Q_addCompletion_13 : decode b_Q_addCompletion 13 = .ok (.aload_n 0, 1) := by decide +kernel
theorem d_Q_addCompletion_14 : decode b_Q_addCompletion 14 = .ok (.getfield 40, 3) := by decide +kernel
theorem d_Q_addCompletion_17 : decode b_Q_addCompletion 17 = .ok (.iload_n 1, 1) := by decide +kernel
theorem d_Q_addCompletion_18 : decode b_Q_addCompletion 18 = .ok (.iastore, 1) := by decide +kernel
theorem d_Q_addCompletion_19 : decode b_Q_addCompletion 19 = .ok (.aload_n 0, 1) := by decide +kernel
theorem d_Q_addCompletion_20 : decode b_Q_addCompletion 20 = .ok (.getfield 22, 3) := by decide +kernel
theorem d_Q_addCompletion_23 : decode b_Q_addCompletion 23 = .ok (.aload_n 0, 1) := by decide +kernel
theorem d_Q_addCompletion_24 : decode b_Q_addCompletion 24 = .ok (.getfield 40, 3) := by decide +kernel
theorem d_Q_addCompletion_27 : decode b_Q_addCompletion 27 = .ok (.lload_n 2, 1) := by decide +kernel
theorem d_Q_addCompletion_28 : decode b_Q_addCompletion 28 = .ok (.lastore, 1) := by decide +kernel
theorem d_Q_addCompletion_29 : decode b_Q_addCompletion 29 = .ok (.aload_n 0, 1) := by decide +kernel
theorem d_Q_addCompletion_30 : decode b_Q_addCompletion 30 = .ok (.dup, 1) := by decide +kernel
theorem d_Q_addCompletion_31 : decode b_Q_addCompletion 31 = .ok (.getfield 40, 3) := by decide +kernel
theorem d_Q_addCompletion_34 : decode b_Q_addCompletion 34 = .ok (.iconst 1, 1) := by decide +kernel
theorem d_Q_addCompletion_35 : decode b_Q_addCompletion 35 = .ok (.iadd, 1) := by decide +kernel
theorem d_Q_addCompletion_36 : decode b_Q_addCompletion 36 = .ok (.putfield 40, 3) := by decide +kernel
theorem d_Q_addCompletion_39 : decode b_Q_addCompletion 39 = .ok (.return_, 1) := by decide +kernel
theorem d_Q_removeOldestCompletion_0 : decode b_Q_removeOldestCompletion 0 = .ok (.aload_n 0, 1) := by decide +kernel
theorem d_Q_removeOldestCompletion_1 : decode b_Q_removeOldestCompletion 1 = .ok (.getfield 40, 3) := by decide +kernel
theorem d_Q_removeOldestCompletion_4 : decode b_Q_removeOldestCompletion 4 = .ok (.ifCond .ne 4, 3) := by decide +kernel
theorem d_Q_removeOldestCompletion_7 : decode b_Q_removeOldestCompletion 7 = .ok (.return_, 1) := by decide +kernel
theorem d_Q_removeOldestCompletion_8 : decode b_Q_removeOldestCompletion 8 = .ok (.aload_n 0, 1) := by decide +kernel
theorem d_Q_removeOldestCompletion_9 : decode b_Q_removeOldestCompletion 9 = .ok (.dup, 1) := by decide +kernel
theorem d_Q_removeOldestCompletion_10 : decode b_Q_removeOldestCompletion 10 = .ok (.getfield 40, 3) := by decide +kernel
theorem d_Q_removeOldestCompletion_13 : decode b_Q_removeOldestCompletion 13 = .ok (.iconst 1, 1) := by decide +kernel
theorem d_Q_removeOldestCompletion_14 : decode b_Q_removeOldestCompletion 14 = .ok (.isub, 1) := by decide +kernel
theorem d_Q_removeOldestCompletion_15 : decode b_Q_removeOldestCompletion 15 = .ok (.putfield 40, 3) := by decide +kernel
theorem d_Q_removeOldestCompletion_18 : decode b_Q_removeOldestCompletion 18 = .ok (.iconst 0, 1) := by decide +kernel
theorem d_Q_removeOldestCompletion_19 : decode b_Q_removeOldestCompletion 19 = .ok (.istore_n 1, 1) := by decide +kernel
theorem d_Q_removeOldestCompletion_20 : decode b_Q_removeOldestCompletion 20 = .ok (.iload_n 1, 1) := by decide +kernel
theorem d_Q_removeOldestCompletion_21 : decode b_Q_removeOldestCompletion 21 = .ok (.aload_n 0, 1) := by decide +kernel
theorem d_Q_removeOldestCompletion_22 : decode b_Q_removeOldestCompletion 22 = .ok (.getfield 40, 3) := by decide +kernel
theorem d_Q_removeOldestCompletion_25 : decode b_Q_removeOldestCompletion 25 = .ok (.if_icmp .ge 37, 3) := by decide +kernel
theorem d_Q_removeOldestCompletion_28 : decode b_Q_removeOldestCompletion 28 = .ok (.aload_n 0, 1) := by decide +kernel
theorem d_Q_removeOldestCompletion_29 : decode b_Q_removeOldestCompletion 29 = .ok (.getfield 18, 3) := by decide +kernel
theorem d_Q_removeOldestCompletion_32 : decode b_Q_removeOldestCompletion 32 = .ok (.iload_n 1, 1) := by decide +kernel
theorem d_Q_removeOldestCompletion_33 : decode b_Q_removeOldestCompletion 33 = .ok (.aload_n 0, 1) := by decide +kernel
theorem d_Q_removeOldestCompletion_34 : decode b_Q_removeOldestCompletion 34 = .ok (.getfield 18, 3) := by decide +kernel
theorem d_Q_removeOldestCompletion_37 : decode b_Q_removeOldestCompletion 37 = .ok (.iload_n 1, 1) := by decide +kernel
theorem d_Q_removeOldestCompletion_38 : decode b_Q_removeOldestCompletion 38 = .ok (.iconst 1, 1) := by decide +kernel
theorem d_Q_removeOldestCompletion_39 : decode b_Q_removeOldestCompletion 39 = .ok (.iadd, 1) := by decide +kernel
theorem d_Q_removeOldestCompletion_40 : decode b_Q_removeOldestCompletion 40 = .ok (.iaload, 1) := by decide +kernel
theorem d_Q_removeOldestCompletion_41 : decode b_Q_removeOldestCompletion 41 = .ok (.iastore, 1) := by decide +kernel
theorem d_Q_removeOldestCompletion_42 : decode b_Q_removeOldestCompletion 42 = .ok (.aload_n 0, 1) := by decide +kernel
theorem d_Q_removeOldestCompletion_43 : decode b_Q_removeOldestCompletion 43 = .ok (.getfield 22, 3) := by decide +kernel
theorem d_Q_removeOldestCompletion_46 : decode b_Q_removeOldestCompletion 46 = .ok (.iload_n 1, 1) := by decide +kernel
theorem d_Q_removeOldestCompletion_47 : decode b_Q_removeOldestCompletion 47 = .ok (.aload_n 0, 1) := by decide +kernel
theorem d_Q_removeOldestCompletion_48 : decode b_Q_removeOldestCompletion 48 = .ok (.getfield 22, 3) := by decide +kernel
theorem d_Q_removeOldestCompletion_51 : decode b_Q_removeOldestCompletion 51 = .ok (.iload_n 1, 1) := by decide +kernel
theorem d_Q_removeOldestCompletion_52 : decode b_Q_removeOldestCompletion 52 = .ok (.iconst 1, 1) := by decide +kernel
theorem d_Q_removeOldestCompletion_53 : decode b_Q_removeOldestCompletion 53 = .ok (.iadd, 1) := by decide +kernel
theorem d_Q_removeOldestCompletion_54 : decode b_Q_removeOldestCompletion 54 = .ok (.laload, 1) := by decide +kernel
theorem d_Q_removeOldestCompletion_55 : decode b_Q_removeOldestCompletion 55 = .ok (.lastore, 1) := by decide +kernel
theorem d_Q_removeOldestCompletion_56 : decode b_Q_removeOldestCompletion 56 = .ok (.iinc 1 1, 3) := by decide +kernel
theorem d_Q_removeOldestCompletion_59 : decode b_Q_removeOldestCompletion 59 = .ok (.goto (-39), 3) := by decide +kernel
theorem d_Q_removeOldestCompletion_62 : decode b_Q_removeOldestCompletion 62 = .ok (.return_, 1) := by decide +kernel
set_option maxHeartbeats 4000000 in
set_option maxRecDepth 100000 in
theorem m_Q_hasPending {l : Launch} {D : va_G} {cA : Nat → ClassId} {n0 : Nat} {w : mw} {hq hp hn hr pn cn : Nat} (hQ : w hq = some (qcell hp hn hr pn cn)) {x : Int32} :
    Mi l D cA n0 y_Q_hasPending c_Q_hasPending (rmd 0) [.ref hq, .int x] w (fun r w' => r = bI (0 ≤ x ∧ x < nI pn) ∧ w' = w) := by
  refine mw_met (cc := b_Q_hasPending) (maxL := 2) (ret := (some .boolean)) (by decide) rfl (Nat.le_of_ble_eq_true rfl) ?_
  intro p e s m below meth c ls G hrt hlocks hname h hl
  have G : mw_G p m c b_Q_hasPending 2 s _ (c_Q_hasPending :: TB) R_Q D cl (tys cA) n0 := G
  have hx := G.1.1
  have hb := G.1.2.1
  have hl : lv_has ls 2 [(0, .ref hq), (1, .int x)] := hl
  refine lv_iload_n hx hb d_Q_hasPending_0 rfl (lv_at hl 1 rfl) ?_
  refine lv_if_lt (tgt := 16) hx hb d_Q_hasPending_1 (by decide) (fun c_1 => ?_) (fun c_1 => ?_)
  · refine lv_iconst (v := 0) hx hb d_Q_hasPending_16 (by decide) ?_
    exact mx_retz G h hrt hlocks d_Q_hasPending_17 rfl (⟨(bI_f (fun z => absurd z.1 (Int32.not_le.mpr c_1))).symm, rfl⟩)
  · refine lv_iload_n hx hb d_Q_hasPending_4 rfl (lv_at hl 1 rfl) ?_
    refine lv_aload_n hx hb d_Q_hasPending_5 rfl (lv_at hl 0 rfl) ?_
    refine mx_get G h hQ rfl 3 (by decide) (tb_in in_Q) (tb_c k_101) rfl rfl d_Q_hasPending_6 ?_
    refine lv_icmp_ge (tgt := 16) hx hb d_Q_hasPending_9 (by decide) (fun c_2 => ?_) (fun c_2 => ?_)
    · refine lv_iconst (v := 0) hx hb d_Q_hasPending_16 (by decide) ?_
      exact mx_retz G h hrt hlocks d_Q_hasPending_17 rfl (⟨(bI_f (fun z => absurd z.2 (Int32.not_lt.mpr c_2))).symm, rfl⟩)
    · refine lv_iconst (v := 1) hx hb d_Q_hasPending_12 (by decide) ?_
      refine lv_goto (tgt := 17) hx hb d_Q_hasPending_13 (by decide) ?_
      exact mx_retz G h hrt hlocks d_Q_hasPending_17 rfl (⟨(bI_t ⟨Int32.not_lt.mp c_1, Int32.not_le.mp c_2⟩).symm, rfl⟩)
set_option maxHeartbeats 4000000 in
set_option maxRecDepth 100000 in
theorem m_Q_addPending {l : Launch} {D : va_G} {cA : Nat → ClassId} {n0 : Nat} {w : mw} {hq hp hn hr pn cn : Nat} (hQ : w hq = some (qcell hp hn hr pn cn)) {f : Nat → Option Nat} (hP : w hp = some (refs cA 4 4 f)) (hpn : pn < 4) {a u : Nat} {y1 y2 : Int32} (hfa : f pn = some a) (ha : w a = some (kcell u y1 y2)) {x k : Int32} :
    Mr l D cA n0 y_Q_addPending c_Q_addPending (rmd 0) [.ref hq, .int x, .int k] w (fun r w' => r = a ∧ w' = mw_up (mw_up w a (kcell u x k)) hq (qcell hp hn hr (pn + 1) cn)) := by
  refine mw_met (cc := b_Q_addPending) (maxL := 4) (ret := (some (.object "QueueDrive$Command"))) (by decide) rfl (Nat.le_of_ble_eq_true rfl) ?_
  intro p e s m below meth c ls G hrt hlocks hname h hl
  have G : mw_G p m c b_Q_addPending 4 s _ (c_Q_addPending :: TB) R_Q D cl (tys cA) n0 := G
  have hx := G.1.1
  have hb := G.1.2.1
  have hl : lv_has ls 4 [(0, .ref hq), (1, .int x), (2, .int k)] := hl
  refine lv_aload_n hx hb d_Q_addPending_0 rfl (lv_at hl 0 rfl) ?_
  refine mx_get G h hQ rfl 0 (by decide) (tb_in in_Q) (tb_c k_95) rfl rfl d_Q_addPending_1 ?_
  refine lv_aload_n hx hb d_Q_addPending_4 rfl (lv_at hl 0 rfl) ?_
  refine mx_get G h hQ rfl 3 (by decide) (tb_in in_Q) (tb_c k_101) rfl rfl d_Q_addPending_5 ?_
  refine ax_a G h 4 hP rfl pn rfl hpn (by decide) hfa d_Q_addPending_8 ?_
  refine lv_astore_n (lv' := [(3, .ref a), (0, .ref hq), (1, .int x), (2, .int k)]) hx hb d_Q_addPending_9 rfl hl (by decide) rfl (fun ls hl => ?_)
  refine lv_aload_n hx hb d_Q_addPending_10 rfl (lv_at hl 0 rfl) ?_
  refine lv_iload_n hx hb d_Q_addPending_11 rfl (lv_at hl 2 rfl) ?_
  refine mx_put G h ha rfl 1 (by decide) (tb_in in_K) t_K t_K_ok n_K (tb_c k_84) rfl rfl rfl rfl rfl (Nat.le_of_ble_eq_true rfl) d_Q_addPending_12 (fun H locs h => ?_)
  have h : mw_H n0 D cl s (mw_up w a (.inr (2, [.ref u, .int x, .int y2]))) H locs := h
  obtain ⟨w_1, ew_1⟩ : ∃ xx : mw, mw_up w a (.inr (2, [.ref u, .int x, .int y2])) = xx := ⟨_, rfl⟩
  rw [ew_1] at h
  have f_2 : w_1 hq = some (qcell hp hn hr pn cn) := by rw [← ew_1, mw_ne (mw_apart hQ ha (by simp))]; exact hQ
  have f_3 : w_1 hp = some (refs cA 4 4 f) := by rw [← ew_1, mw_ne (mw_apart hP ha (by simp))]; exact hP
  have f_4 : w_1 a = some (.inr (2, [.ref u, .int x, .int y2])) := by rw [← ew_1]; exact mw_self
  refine lv_aload_n hx hb d_Q_addPending_15 rfl (lv_at hl 0 rfl) ?_
  refine lv_iload_n hx hb d_Q_addPending_16 rfl (lv_at hl 3 rfl) ?_
  refine mx_put G h f_4 rfl 2 (by decide) (tb_in in_K) t_K t_K_ok n_K (tb_c k_86) rfl rfl rfl rfl rfl (Nat.le_of_ble_eq_true rfl) d_Q_addPending_17 (fun H locs h => ?_)
  have h : mw_H n0 D cl s (mw_up w_1 a (.inr (2, [.ref u, .int x, .int k]))) H locs := h
  obtain ⟨w_5, ew_5⟩ : ∃ xx : mw, mw_up w_1 a (.inr (2, [.ref u, .int x, .int k])) = xx := ⟨_, rfl⟩
  rw [ew_5] at h
  have f_6 : w_5 hq = some (qcell hp hn hr pn cn) := by rw [← ew_5, mw_ne (mw_apart f_2 f_4 (by simp))]; exact f_2
  have f_7 : w_5 hp = some (refs cA 4 4 f) := by rw [← ew_5, mw_ne (mw_apart f_3 f_4 (by simp))]; exact f_3
  have f_8 : w_5 a = some (.inr (2, [.ref u, .int x, .int k])) := by rw [← ew_5]; exact mw_self
  refine lv_aload_n hx hb d_Q_addPending_20 rfl (lv_at hl 1 rfl) ?_
  refine lv_dup hx hb d_Q_addPending_21 rfl ?_
  refine mx_get G h f_6 rfl 3 (by decide) (tb_in in_Q) (tb_c k_101) rfl rfl d_Q_addPending_22 ?_
  refine lv_iconst (v := 1) hx hb d_Q_addPending_25 (by decide) ?_
  refine lv_iadd hx hb d_Q_addPending_26 ?_
  refine mx_put G h f_6 rfl 3 (by decide) (tb_in in_Q) t_Q t_Q_ok n_Q (tb_c k_101) rfl rfl rfl rfl rfl (Nat.le_of_ble_eq_true rfl) d_Q_addPending_27 (fun H locs h => ?_)
  have h : mw_H n0 D cl s (mw_up w_5 hq (.inr (3, [.ref hp, .ref hn, .ref hr, .int ((nI pn) + 1), .int (nI cn)]))) H locs := h
  obtain ⟨w_9, ew_9⟩ : ∃ xx : mw, mw_up w_5 hq (.inr (3, [.ref hp, .ref hn, .ref hr, .int ((nI pn) + 1), .int (nI cn)])) = xx := ⟨_, rfl⟩
  rw [ew_9] at h
  have f_10 : w_9 hp = some (refs cA 4 4 f) := by rw [← ew_9, mw_ne (mw_apart f_7 f_6 (by simp))]; exact f_7
  have f_11 : w_9 a = some (.inr (2, [.ref u, .int x, .int k])) := by rw [← ew_9, mw_ne (mw_apart f_8 f_6 (by simp))]; exact f_8
  have f_12 : w_9 hq = some (.inr (3, [.ref hp, .ref hn, .ref hr, .int ((nI pn) + 1), .int (nI cn)])) := by rw [← ew_9]; exact mw_self
  refine lv_aload_n hx hb d_Q_addPending_30 rfl (lv_at hl 0 rfl) ?_
  exact mx_reta G h hrt hlocks d_Q_addPending_31 (⟨rfl, by rw [← ew_9, ← ew_5, ← ew_1, mw_uu, nI_1]⟩)
set_option maxHeartbeats 4000000 in
set_option maxRecDepth 100000 in
theorem m_Q_removePending {l : Launch} {D : va_G} {cA : Nat → ClassId} {n0 : Nat} {w : mw} {hq hp hn hr pn cn : Nat} (hQ : w hq = some (qcell hp hn hr pn cn)) {f : Nat → Option Nat} (hP : w hp = some (refs cA 4 4 f)) {k : Nat} (hk : k < pn) (hpn : pn ≤ 4) (hf : ∀ i, i < 4 → ∃ a u y z, f i = some a ∧ w a = some (kcell u y z)) {x : Int32} (hx1 : x = nI k) :
    Mv l D cA n0 y_Q_removePending c_Q_removePending (rmd 1) [.ref hq, .int x] w (fun w' => w' = mw_up (mw_up w hq (qcell hp hn hr (pn - 1) cn)) hp (refs cA 4 4 (rotf f k (pn - 1)))) := by
  refine mw_met (cc := b_Q_removePending) (maxL := 4) (ret := (none)) (by decide) rfl (Nat.le_of_ble_eq_true rfl) ?_
  intro p e s m below meth c ls G hrt hlocks hname h hl
  have G : mw_G p m c b_Q_removePending 4 s _ (c_Q_removePending :: TB) R_Q D cl (tys cA) n0 := G
  have hx := G.1.1
  have hb := G.1.2.1
  have hl : lv_has ls 4 [(0, .ref hq), (1, .int x)] := hl
  obtain ⟨a0, u0, y0, z0, hf0, ha0⟩ := hf k (by omega)
  refine lv_aload_n hx hb d_Q_removePending_0 rfl (lv_at hl 0 rfl) ?_
  refine lv_iload_n hx hb d_Q_removePending_1 rfl (lv_at hl 1 rfl) ?_
  refine mx_ci (cV (As := [.int x]) (rest := []) G h (m_Q_hasPending hQ (x := x)) k_242 k_172 k_173 k_5 k_174 hd_Q_hasPending rfl rfl ⟨Nat.le_of_ble_eq_true rfl, Nat.le_of_ble_eq_true rfl⟩ hQ rfl rfl hl.1 rfl (Nat.le_of_ble_eq_true rfl) d_Q_removePending_2 ⟨Nat.le_of_ble_eq_true rfl, Nat.le_of_ble_eq_true rfl⟩) h (fun r_2 w_1 H locs h hcp => ?_)
  obtain ⟨er_3, ew_4⟩ := hcp
  subst er_3
  rw [ew_4] at h
  refine lv_if_ne (tgt := 9) hx hb d_Q_removePending_5 (by decide) (fun c_5 => ?_) (fun c_5 => ?_)
  · refine lv_aload_n hx hb d_Q_removePending_9 rfl (lv_at hl 0 rfl) ?_
    refine mx_get G h hQ rfl 0 (by decide) (tb_in in_Q) (tb_c k_95) rfl rfl d_Q_removePending_10 ?_
    refine lv_iload_n hx hb d_Q_removePending_13 rfl (lv_at hl 1 rfl) ?_
    refine ax_a G h 4 hP rfl k hx1 (by omega) (by decide) hf0 d_Q_removePending_14 ?_
    refine lv_astore_n (lv' := [(2, .ref a0), (0, .ref hq), (1, .int x)]) hx hb d_Q_removePending_15 rfl hl (by decide) rfl (fun ls hl => ?_)
    refine lv_aload_n hx hb d_Q_removePending_16 rfl (lv_at hl 1 rfl) ?_
    refine lv_dup hx hb d_Q_removePending_17 rfl ?_
    refine mx_get G h hQ rfl 3 (by decide) (tb_in in_Q) (tb_c k_101) rfl rfl d_Q_removePending_18 ?_
    refine lv_iconst (v := 1) hx hb d_Q_removePending_21 (by decide) ?_
    refine lv_isub hx hb d_Q_removePending_22 ?_
    have et_6 : (nI pn) - 1 = nI (pn - 1) := nI_sub1 (by omega)
    rw [et_6]
    refine mx_put G h hQ rfl 3 (by decide) (tb_in in_Q) t_Q t_Q_ok n_Q (tb_c k_101) rfl rfl rfl rfl rfl (Nat.le_of_ble_eq_true rfl) d_Q_removePending_23 (fun H locs h => ?_)
    have h : mw_H n0 D cl s (mw_up w hq (.inr (3, [.ref hp, .ref hn, .ref hr, .int (nI (pn - 1)), .int (nI cn)]))) H locs := h
    obtain ⟨w_7, ew_7⟩ : ∃ xx : mw, mw_up w hq (.inr (3, [.ref hp, .ref hn, .ref hr, .int (nI (pn - 1)), .int (nI cn)])) = xx := ⟨_, rfl⟩
    rw [ew_7] at h
    have f_8 : w_7 hp = some (refs cA 4 4 f) := by rw [← ew_7, mw_ne (mw_apart hP hQ (by simp))]; exact hP
    have f_9 : w_7 hq = some (.inr (3, [.ref hp, .ref hn, .ref hr, .int (nI (pn - 1)), .int (nI cn)])) := by rw [← ew_7]; exact mw_self
    refine lv_iload_n hx hb d_Q_removePending_26 rfl (lv_at hl 2 rfl) ?_
    refine lv_istore_n (lv' := [(3, .int x), (2, .ref a0), (0, .ref hq), (1, .int x)]) hx hb d_Q_removePending_27 rfl hl (by decide) rfl (fun ls hl => ?_)
    have et_10 : x = nI k := hx1
    rw [et_10] at hl
    have hP1 := f_8
    have loop : ∀ (t i : Nat), i + t = pn - 1 → k ≤ i → ∀ (H : Heap) (locs : List Loc) (ls : Array Slot), mw_H n0 D cl s (mw_up w_7 hp (refs cA 4 4 (shf f k i))) H locs → lv_has ls 4 [(3, .int (nI i)), (2, .ref a0), (0, .ref hq)] → W p l e (rmd 1) s m ([.ref hq, .int x] : List Value).toArray below meth c H locs 0 0 (MQ below (mw_Qv n0 D cl (fun w' => w' = mw_up (mw_up w hq (qcell hp hn hr (pn - 1) cn)) hp (refs cA 4 4 (rotf f k (pn - 1))))) ([.ref hq, .int x] : List Value).toArray s 0 0 (mw_A n0)) (F0 m 28 ls []) := by
      intro t
      induction t with
      | zero =>
        intro i hi hk H locs ls h hl
        obtain ⟨w_11, ew_11⟩ : ∃ xx : mw, mw_up w_7 hp (refs cA 4 4 (shf f k i)) = xx := ⟨_, rfl⟩
        rw [ew_11] at h
        have f_12 : w_11 hq = some (qcell hp hn hr (pn - 1) cn) := by rw [← ew_11]; rw [mw_ne (mw_apart f_9 hP1 (by simp))]; exact f_9
        have f_13 : w_11 hp = some (refs cA 4 4 (shf f k i)) := by rw [← ew_11]; exact mw_self
        have f_14 : w_11 a0 = some (kcell u0 y0 z0) := by rw [← ew_11]; rw [mw_ne (mw_apart ha0 hP (by simp)), ← ew_7, mw_ne (mw_apart ha0 hQ (by simp))]; exact ha0
        refine lv_iload_n hx hb d_Q_removePending_28 rfl (lv_at hl 0 rfl) ?_
        refine lv_aload_n hx hb d_Q_removePending_29 rfl (lv_at hl 2 rfl) ?_
        refine mx_get G h f_12 rfl 3 (by decide) (tb_in in_Q) (tb_c k_101) rfl rfl d_Q_removePending_30 ?_
        refine lv_icmp_ge (tgt := 56) hx hb d_Q_removePending_33 (by decide) (fun c_15 => ?_) (fun c_15 => ?_)
        · refine lv_aload_n hx hb d_Q_removePending_56 rfl (lv_at hl 2 rfl) ?_
          refine mx_get G h f_12 rfl 0 (by decide) (tb_in in_Q) (tb_c k_95) rfl rfl d_Q_removePending_57 ?_
          refine lv_aload_n hx hb d_Q_removePending_60 rfl (lv_at hl 2 rfl) ?_
          refine mx_get G h f_12 rfl 3 (by decide) (tb_in in_Q) (tb_c k_101) rfl rfl d_Q_removePending_61 ?_
          refine lv_aload_n hx hb d_Q_removePending_64 rfl (lv_at hl 1 rfl) ?_
          refine ax_sa G h 4 2 f_13 rfl f_14 rfl (pn - 1) rfl (by omega) (by decide) d_Q_removePending_65 (fun H locs h => ?_)
          have h : mw_H n0 D cl s (mw_up w_11 hp (.inl (cA 4, 4, .inr (.inr (.inr (.inr (va_up (shf f k i) (pn - 1) (some a0)))))))) H locs := h
          obtain ⟨w_16, ew_16⟩ : ∃ xx : mw, mw_up w_11 hp (.inl (cA 4, 4, .inr (.inr (.inr (.inr (va_up (shf f k i) (pn - 1) (some a0))))))) = xx := ⟨_, rfl⟩
          rw [ew_16] at h
          have f_17 : w_16 hq = some (qcell hp hn hr (pn - 1) cn) := by rw [← ew_16, mw_ne (mw_apart f_12 f_13 (by simp))]; exact f_12
          have f_18 : w_16 a0 = some (kcell u0 y0 z0) := by rw [← ew_16, mw_ne (mw_apart f_14 f_13 (by simp))]; exact f_14
          have f_19 : w_16 hp = some (.inl (cA 4, 4, .inr (.inr (.inr (.inr (va_up (shf f k i) (pn - 1) (some a0))))))) := by rw [← ew_16]; exact mw_self
          exact mx_retv G h hrt hlocks d_Q_removePending_66 (by rw [← ew_16, ← ew_11, mw_uu, show pn - 1 = i by omega, ← hf0, shf_rot, ← ew_7, show pn - 1 = i by omega])
        · exact absurd ((nI_leI (by omega) (by omega)).mpr (by omega)) c_15
      | succ t ih =>
        intro i hi hk H locs ls h hl
        obtain ⟨a1, u1, y1, z1, hf1, ha1⟩ := hf (i + 1) (by omega)
        obtain ⟨w_20, ew_20⟩ : ∃ xx : mw, mw_up w_7 hp (refs cA 4 4 (shf f k i)) = xx := ⟨_, rfl⟩
        rw [ew_20] at h
        have f_21 : w_20 hq = some (qcell hp hn hr (pn - 1) cn) := by rw [← ew_20]; rw [mw_ne (mw_apart f_9 hP1 (by simp))]; exact f_9
        have f_22 : w_20 hp = some (refs cA 4 4 (shf f k i)) := by rw [← ew_20]; exact mw_self
        have f_23 : w_20 a1 = some (kcell u1 y1 z1) := by rw [← ew_20]; rw [mw_ne (mw_apart ha1 hP (by simp)), ← ew_7, mw_ne (mw_apart ha1 hQ (by simp))]; exact ha1
        refine lv_iload_n hx hb d_Q_removePending_28 rfl (lv_at hl 0 rfl) ?_
        refine lv_aload_n hx hb d_Q_removePending_29 rfl (lv_at hl 2 rfl) ?_
        refine mx_get G h f_21 rfl 3 (by decide) (tb_in in_Q) (tb_c k_101) rfl rfl d_Q_removePending_30 ?_
        refine lv_icmp_ge (tgt := 56) hx hb d_Q_removePending_33 (by decide) (fun c_24 => ?_) (fun c_24 => ?_)
        · exact absurd ((nI_leI (by omega) (by omega)).mp c_24) (by omega)
        · refine lv_aload_n hx hb d_Q_removePending_36 rfl (lv_at hl 2 rfl) ?_
          refine mx_get G h f_21 rfl 0 (by decide) (tb_in in_Q) (tb_c k_95) rfl rfl d_Q_removePending_37 ?_
          refine lv_iload_n hx hb d_Q_removePending_40 rfl (lv_at hl 0 rfl) ?_
          refine lv_aload_n hx hb d_Q_removePending_41 rfl (lv_at hl 2 rfl) ?_
          refine mx_get G h f_21 rfl 0 (by decide) (tb_in in_Q) (tb_c k_95) rfl rfl d_Q_removePending_42 ?_
          refine lv_iload_n hx hb d_Q_removePending_45 rfl (lv_at hl 0 rfl) ?_
          refine lv_iconst (v := 1) hx hb d_Q_removePending_46 (by decide) ?_
          refine lv_iadd hx hb d_Q_removePending_47 ?_
          refine ax_a G h 4 f_22 rfl (i + 1) (nI_1 i) (by omega) (by decide) (by rw [shf_at (by omega)]; exact hf1) d_Q_removePending_48 ?_
          refine ax_sa G h 4 2 f_22 rfl f_23 rfl i rfl (by omega) (by decide) d_Q_removePending_49 (fun H locs h => ?_)
          have h : mw_H n0 D cl s (mw_up w_20 hp (.inl (cA 4, 4, .inr (.inr (.inr (.inr (va_up (shf f k i) i (some a1)))))))) H locs := h
          obtain ⟨w_25, ew_25⟩ : ∃ xx : mw, mw_up w_20 hp (.inl (cA 4, 4, .inr (.inr (.inr (.inr (va_up (shf f k i) i (some a1))))))) = xx := ⟨_, rfl⟩
          rw [ew_25] at h
          have f_26 : w_25 hq = some (qcell hp hn hr (pn - 1) cn) := by rw [← ew_25, mw_ne (mw_apart f_21 f_22 (by simp))]; exact f_21
          have f_27 : w_25 a1 = some (kcell u1 y1 z1) := by rw [← ew_25, mw_ne (mw_apart f_23 f_22 (by simp))]; exact f_23
          have f_28 : w_25 hp = some (.inl (cA 4, 4, .inr (.inr (.inr (.inr (va_up (shf f k i) i (some a1))))))) := by rw [← ew_25]; exact mw_self
          refine lv_iinc (v := (nI i) + 1) (lv' := [(3, .int ((nI i) + 1)), (2, .ref a0), (0, .ref hq)]) hx hb d_Q_removePending_50 hl (k := 0) rfl rfl (by decide) rfl (fun ls hl => ?_)
          refine lv_goto (tgt := 28) hx hb d_Q_removePending_53 (by decide) ?_
          rw [nI_1] at hl
          refine ih (i + 1) (by omega) (by omega) H locs ls ?_ (lv_sub hl [0, 1, 2] rfl)
          rw [← shf_va hk, hf1, ← mw_uu (e := refs cA 4 4 (shf f k i)), ew_20, ew_25]
          exact h
    refine loop (pn - 1 - k) k (by omega) (Nat.le_refl k) H locs ls ?_ (lv_sub hl [0, 1, 2] rfl)
    rw [shf_0, mw_id hP1]
    exact h
  · exact absurd c_5 (by rw [bI_t ⟨by rw [hx1]; exact nI_pos' (by omega), by rw [hx1]; exact nI_lt hk (by omega)⟩]; decide)
set_option maxHeartbeats 4000000 in
set_option maxRecDepth 100000 in
theorem m_Q_addCompletion {l : Launch} {D : va_G} {cA : Nat → ClassId} {n0 : Nat} {w : mw} {hq hp hn hr pn cn : Nat} (hQ : w hq = some (qcell hp hn hr pn cn)) {fn : Nat → Int32} {fr : Nat → Int64} (hN : w hn = some (ints cA 4 fn)) (hR : w hr = some (longs cA 4 fr)) (hcn : cn < 4) {x : Int32} {y : Int64} :
    Mv l D cA n0 y_Q_addCompletion c_Q_addCompletion (rmd 0) [.ref hq, .int x, .long y] w (fun w' => w' = mw_up (mw_up (mw_up w hn (ints cA 4 (upd fn cn x))) hr (longs cA 4 (vp_updL fr cn y))) hq (qcell hp hn hr pn (cn + 1))) := by
  refine mw_met (cc := b_Q_addCompletion) (maxL := 4) (ret := (none)) (by decide) rfl (Nat.le_of_ble_eq_true rfl) ?_
  intro p e s m below meth c ls G hrt hlocks hname h hl
  have G : mw_G p m c b_Q_addCompletion 4 s _ (c_Q_addCompletion :: TB) R_Q D cl (tys cA) n0 := G
  have hx := G.1.1
  have hb := G.1.2.1
  have hl : lv_has ls 4 [(0, .ref hq), (1, .int x), (2, .long y)] := hl
  refine lv_aload_n hx hb d_Q_addCompletion_0 rfl (lv_at hl 0 rfl) ?_
  refine mx_get G h hQ rfl 4 (by decide) (tb_in in_Q) (tb_c k_104) rfl rfl d_Q_addCompletion_1 ?_
  refine lv_iconst (v := 4) hx hb d_Q_addCompletion_4 (by decide) ?_
  refine lv_icmp_lt (tgt := 9) hx hb d_Q_addCompletion_5 (by decide) (fun c_1 => ?_) (fun c_1 => ?_)
  · refine lv_aload_n hx hb d_Q_addCompletion_9 rfl (lv_at hl 0 rfl) ?_
    refine mx_get G h hQ rfl 1 (by decide) (tb_in in_Q) (tb_c k_97) rfl rfl d_Q_addCompletion_10 ?_
    refine lv_aload_n hx hb d_Q_addCompletion_13 rfl (lv_at hl 0 rfl) ?_
    refine mx_get G h hQ rfl 4 (by decide) (tb_in in_Q) (tb_c k_104) rfl rfl d_Q_addCompletion_14 ?_
    refine lv_iload_n hx hb d_Q_addCompletion_17 rfl (lv_at hl 1 rfl) ?_
    refine ax_si G h hN cn rfl hcn (by decide) d_Q_addCompletion_18 (fun H locs h => ?_)
    have h : mw_H n0 D cl s (mw_up w hn (.inl (cA 0, 4, .inl (upd fn cn x)))) H locs := h
    obtain ⟨w_2, ew_2⟩ : ∃ xx : mw, mw_up w hn (.inl (cA 0, 4, .inl (upd fn cn x))) = xx := ⟨_, rfl⟩
    rw [ew_2] at h
    have f_3 : w_2 hq = some (qcell hp hn hr pn cn) := by rw [← ew_2, mw_ne (mw_apart hQ hN (by simp))]; exact hQ
    have f_4 : w_2 hr = some (longs cA 4 fr) := by rw [← ew_2, mw_ne (mw_apart hR hN (by simp))]; exact hR
    have f_5 : w_2 hn = some (.inl (cA 0, 4, .inl (upd fn cn x))) := by rw [← ew_2]; exact mw_self
    refine lv_aload_n hx hb d_Q_addCompletion_19 rfl (lv_at hl 0 rfl) ?_
    refine mx_get G h f_3 rfl 2 (by decide) (tb_in in_Q) (tb_c k_99) rfl rfl d_Q_addCompletion_20 ?_
    refine lv_aload_n hx hb d_Q_addCompletion_23 rfl (lv_at hl 0 rfl) ?_
    refine mx_get G h f_3 rfl 4 (by decide) (tb_in in_Q) (tb_c k_104) rfl rfl d_Q_addCompletion_24 ?_
    refine lv_lload_n hx hb d_Q_addCompletion_27 rfl (lv_at hl 2 rfl) ?_
    refine ax_sl G h f_4 cn rfl hcn (by decide) d_Q_addCompletion_28 (fun H locs h => ?_)
    have h : mw_H n0 D cl s (mw_up w_2 hr (.inl (cA 1, 4, .inr (.inl (vp_updL fr cn y))))) H locs := h
    obtain ⟨w_6, ew_6⟩ : ∃ xx : mw, mw_up w_2 hr (.inl (cA 1, 4, .inr (.inl (vp_updL fr cn y)))) = xx := ⟨_, rfl⟩
    rw [ew_6] at h
    have f_7 : w_6 hq = some (qcell hp hn hr pn cn) := by rw [← ew_6, mw_ne (mw_apart f_3 f_4 (by simp))]; exact f_3
    have f_8 : w_6 hn = some (.inl (cA 0, 4, .inl (upd fn cn x))) := by rw [← ew_6, mw_ne (mw_apart f_5 f_4 (by simp))]; exact f_5
    have f_9 : w_6 hr = some (.inl (cA 1, 4, .inr (.inl (vp_updL fr cn y)))) := by rw [← ew_6]; exact mw_self
    refine lv_aload_n hx hb d_Q_addCompletion_29 rfl (lv_at hl 0 rfl) ?_
    refine lv_dup hx hb d_Q_addCompletion_30 rfl ?_
    refine mx_get G h f_7 rfl 4 (by decide) (tb_in in_Q) (tb_c k_104) rfl rfl d_Q_addCompletion_31 ?_
    refine lv_iconst (v := 1) hx hb d_Q_addCompletion_34 (by decide) ?_
    refine lv_iadd hx hb d_Q_addCompletion_35 ?_
    refine mx_put G h f_7 rfl 4 (by decide) (tb_in in_Q) t_Q t_Q_ok n_Q (tb_c k_104) rfl rfl rfl rfl rfl (Nat.le_of_ble_eq_true rfl) d_Q_addCompletion_36 (fun H locs h => ?_)
    have h : mw_H n0 D cl s (mw_up w_6 hq (.inr (3, [.ref hp, .ref hn, .ref hr, .int (nI pn), .int ((nI cn) + 1)]))) H locs := h
    obtain ⟨w_10, ew_10⟩ : ∃ xx : mw, mw_up w_6 hq (.inr (3, [.ref hp, .ref hn, .ref hr, .int (nI pn), .int ((nI cn) + 1)])) = xx := ⟨_, rfl⟩
    rw [ew_10] at h
    have f_11 : w_10 hn = some (.inl (cA 0, 4, .inl (upd fn cn x))) := by rw [← ew_10, mw_ne (mw_apart f_8 f_7 (by simp))]; exact f_8
    have f_12 : w_10 hr = some (.inl (cA 1, 4, .inr (.inl (vp_updL fr cn y)))) := by rw [← ew_10, mw_ne (mw_apart f_9 f_7 (by simp))]; exact f_9
    have f_13 : w_10 hq = some (.inr (3, [.ref hp, .ref hn, .ref hr, .int (nI pn), .int ((nI cn) + 1)])) := by rw [← ew_10]; exact mw_self
    exact mx_retv G h hrt hlocks d_Q_addCompletion_39 (by rw [← ew_10, ← ew_6, ← ew_2, nI_1])
  · exact absurd (nI_lt hcn (by omega)) c_1
set_option maxHeartbeats 4000000 in
set_option maxRecDepth 100000 in
theorem m_Q_removeOldestCompletion {l : Launch} {D : va_G} {cA : Nat → ClassId} {n0 : Nat} {w : mw} {hq hp hn hr pn cn : Nat} (hQ : w hq = some (qcell hp hn hr pn cn)) {fn : Nat → Int32} {fr : Nat → Int64} (hN : w hn = some (ints cA 4 fn)) (hR : w hr = some (longs cA 4 fr)) (h0 : 0 < cn) (hcn : cn ≤ 4) :
    Mv l D cA n0 y_Q_removeOldestCompletion c_Q_removeOldestCompletion (rmd 0) [.ref hq] w (fun w' => w' = mw_up (mw_up (mw_up w hq (qcell hp hn hr pn (cn - 1))) hn (ints cA 4 (shf fn 0 (cn - 1)))) hr (longs cA 4 (shf fr 0 (cn - 1)))) := by
  refine mw_met (cc := b_Q_removeOldestCompletion) (maxL := 2) (ret := (none)) (by decide) rfl (Nat.le_of_ble_eq_true rfl) ?_
  intro p e s m below meth c ls G hrt hlocks hname h hl
  have G : mw_G p m c b_Q_removeOldestCompletion 2 s _ (c_Q_removeOldestCompletion :: TB) R_Q D cl (tys cA) n0 := G
  have hx := G.1.1
  have hb := G.1.2.1
  have hl : lv_has ls 2 [(0, .ref hq)] := hl
  refine lv_aload_n hx hb d_Q_removeOldestCompletion_0 rfl (lv_at hl 0 rfl) ?_
  refine mx_get G h hQ rfl 4 (by decide) (tb_in in_Q) (tb_c k_104) rfl rfl d_Q_removeOldestCompletion_1 ?_
  refine lv_if_ne (tgt := 8) hx hb d_Q_removeOldestCompletion_4 (by decide) (fun c_1 => ?_) (fun c_1 => ?_)
  · refine lv_aload_n hx hb d_Q_removeOldestCompletion_8 rfl (lv_at hl 0 rfl) ?_
    refine lv_dup hx hb d_Q_removeOldestCompletion_9 rfl ?_
    refine mx_get G h hQ rfl 4 (by decide) (tb_in in_Q) (tb_c k_104) rfl rfl d_Q_removeOldestCompletion_10 ?_
    refine lv_iconst (v := 1) hx hb d_Q_removeOldestCompletion_13 (by decide) ?_
    refine lv_isub hx hb d_Q_removeOldestCompletion_14 ?_
    have et_2 : (nI cn) - 1 = nI (cn - 1) := nI_sub1 h0
    rw [et_2]
    refine mx_put G h hQ rfl 4 (by decide) (tb_in in_Q) t_Q t_Q_ok n_Q (tb_c k_104) rfl rfl rfl rfl rfl (Nat.le_of_ble_eq_true rfl) d_Q_removeOldestCompletion_15 (fun H locs h => ?_)
    have h : mw_H n0 D cl s (mw_up w hq (.inr (3, [.ref hp, .ref hn, .ref hr, .int (nI pn), .int (nI (cn - 1))]))) H locs := h
    obtain ⟨w_3, ew_3⟩ : ∃ xx : mw, mw_up w hq (.inr (3, [.ref hp, .ref hn, .ref hr, .int (nI pn), .int (nI (cn - 1))])) = xx := ⟨_, rfl⟩
    rw [ew_3] at h
    have f_4 : w_3 hn = some (ints cA 4 fn) := by rw [← ew_3, mw_ne (mw_apart hN hQ (by simp))]; exact hN
    have f_5 : w_3 hr = some (longs cA 4 fr) := by rw [← ew_3, mw_ne (mw_apart hR hQ (by simp))]; exact hR
    have f_6 : w_3 hq = some (.inr (3, [.ref hp, .ref hn, .ref hr, .int (nI pn), .int (nI (cn - 1))])) := by rw [← ew_3]; exact mw_self
    refine lv_iconst (v := 0) hx hb d_Q_removeOldestCompletion_18 (by decide) ?_
    refine lv_istore_n (lv' := [(1, .int 0), (0, .ref hq)]) hx hb d_Q_removeOldestCompletion_19 rfl hl (by decide) rfl (fun ls hl => ?_)
    have loop : ∀ (t i : Nat), i + t = cn - 1 → ∀ (H : Heap) (locs : List Loc) (ls : Array Slot), mw_H n0 D cl s (mw_up (mw_up w_3 hn (ints cA 4 (shf fn 0 i))) hr (longs cA 4 (shf fr 0 i))) H locs → lv_has ls 2 [(1, .int (nI i)), (0, .ref hq)] → W p l e (rmd 0) s m ([.ref hq] : List Value).toArray below meth c H locs 0 0 (MQ below (mw_Qv n0 D cl (fun w' => w' = mw_up (mw_up (mw_up w hq (qcell hp hn hr pn (cn - 1))) hn (ints cA 4 (shf fn 0 (cn - 1)))) hr (longs cA 4 (shf fr 0 (cn - 1))))) ([.ref hq] : List Value).toArray s 0 0 (mw_A n0)) (F0 m 20 ls []) := by
      intro t
      induction t with
      | zero =>
        intro i hi H locs ls h hl
        obtain ⟨w_7, ew_7⟩ : ∃ xx : mw, mw_up (mw_up w_3 hn (ints cA 4 (shf fn 0 i))) hr (longs cA 4 (shf fr 0 i)) = xx := ⟨_, rfl⟩
        rw [ew_7] at h
        have f_8 : w_7 hq = some (qcell hp hn hr pn (cn - 1)) := by rw [← ew_7]; rw [mw_ne (mw_apart f_6 f_5 (by simp)), mw_ne (mw_apart f_6 f_4 (by simp))]; exact f_6
        have f_9 : w_7 hn = some (ints cA 4 (shf fn 0 i)) := by rw [← ew_7]; rw [mw_ne (mw_apart f_4 f_5 (by simp))]; exact mw_self
        have f_10 : w_7 hr = some (longs cA 4 (shf fr 0 i)) := by rw [← ew_7]; exact mw_self
        refine lv_iload_n hx hb d_Q_removeOldestCompletion_20 rfl (lv_at hl 0 rfl) ?_
        refine lv_aload_n hx hb d_Q_removeOldestCompletion_21 rfl (lv_at hl 1 rfl) ?_
        refine mx_get G h f_8 rfl 4 (by decide) (tb_in in_Q) (tb_c k_104) rfl rfl d_Q_removeOldestCompletion_22 ?_
        refine lv_icmp_ge (tgt := 62) hx hb d_Q_removeOldestCompletion_25 (by decide) (fun c_11 => ?_) (fun c_11 => ?_)
        · exact mx_retv G h hrt hlocks d_Q_removeOldestCompletion_62 (by rw [← ew_7, ← ew_3, show cn - 1 = i by omega])
        · exact absurd ((nI_leI (by omega) (by omega)).mpr (by omega)) c_11
      | succ t ih =>
        intro i hi H locs ls h hl
        obtain ⟨w_12, ew_12⟩ : ∃ xx : mw, mw_up (mw_up w_3 hn (ints cA 4 (shf fn 0 i))) hr (longs cA 4 (shf fr 0 i)) = xx := ⟨_, rfl⟩
        rw [ew_12] at h
        have f_13 : w_12 hq = some (qcell hp hn hr pn (cn - 1)) := by rw [← ew_12]; rw [mw_ne (mw_apart f_6 f_5 (by simp)), mw_ne (mw_apart f_6 f_4 (by simp))]; exact f_6
        have f_14 : w_12 hn = some (ints cA 4 (shf fn 0 i)) := by rw [← ew_12]; rw [mw_ne (mw_apart f_4 f_5 (by simp))]; exact mw_self
        have f_15 : w_12 hr = some (longs cA 4 (shf fr 0 i)) := by rw [← ew_12]; exact mw_self
        refine lv_iload_n hx hb d_Q_removeOldestCompletion_20 rfl (lv_at hl 0 rfl) ?_
        refine lv_aload_n hx hb d_Q_removeOldestCompletion_21 rfl (lv_at hl 1 rfl) ?_
        refine mx_get G h f_13 rfl 4 (by decide) (tb_in in_Q) (tb_c k_104) rfl rfl d_Q_removeOldestCompletion_22 ?_
        refine lv_icmp_ge (tgt := 62) hx hb d_Q_removeOldestCompletion_25 (by decide) (fun c_16 => ?_) (fun c_16 => ?_)
        · exact absurd ((nI_leI (by omega) (by omega)).mp c_16) (by omega)
        · refine lv_aload_n hx hb d_Q_removeOldestCompletion_28 rfl (lv_at hl 1 rfl) ?_
          refine mx_get G h f_13 rfl 1 (by decide) (tb_in in_Q) (tb_c k_97) rfl rfl d_Q_removeOldestCompletion_29 ?_
          refine lv_iload_n hx hb d_Q_removeOldestCompletion_32 rfl (lv_at hl 0 rfl) ?_
          refine lv_aload_n hx hb d_Q_removeOldestCompletion_33 rfl (lv_at hl 1 rfl) ?_
          refine mx_get G h f_13 rfl 1 (by decide) (tb_in in_Q) (tb_c k_97) rfl rfl d_Q_removeOldestCompletion_34 ?_
          refine lv_iload_n hx hb d_Q_removeOldestCompletion_37 rfl (lv_at hl 0 rfl) ?_
          refine lv_iconst (v := 1) hx hb d_Q_removeOldestCompletion_38 (by decide) ?_
          refine lv_iadd hx hb d_Q_removeOldestCompletion_39 ?_
          refine ax_i G h f_14 (i + 1) (nI_1 i) (by omega) (by decide) d_Q_removeOldestCompletion_40 ?_
          have et_17 : (shf fn 0 i) (i + 1) = fn (i + 1) := shf_at (by omega)
          rw [et_17]
          refine ax_si G h f_14 i rfl (by omega) (by decide) d_Q_removeOldestCompletion_41 (fun H locs h => ?_)
          have h : mw_H n0 D cl s (mw_up w_12 hn (.inl (cA 0, 4, .inl (upd (shf fn 0 i) i (fn (i + 1)))))) H locs := h
          obtain ⟨w_18, ew_18⟩ : ∃ xx : mw, mw_up w_12 hn (.inl (cA 0, 4, .inl (upd (shf fn 0 i) i (fn (i + 1))))) = xx := ⟨_, rfl⟩
          rw [ew_18] at h
          have f_19 : w_18 hq = some (qcell hp hn hr pn (cn - 1)) := by rw [← ew_18, mw_ne (mw_apart f_13 f_14 (by simp))]; exact f_13
          have f_20 : w_18 hr = some (longs cA 4 (shf fr 0 i)) := by rw [← ew_18, mw_ne (mw_apart f_15 f_14 (by simp))]; exact f_15
          have f_21 : w_18 hn = some (.inl (cA 0, 4, .inl (upd (shf fn 0 i) i (fn (i + 1))))) := by rw [← ew_18]; exact mw_self
          refine lv_aload_n hx hb d_Q_removeOldestCompletion_42 rfl (lv_at hl 1 rfl) ?_
          refine mx_get G h f_19 rfl 2 (by decide) (tb_in in_Q) (tb_c k_99) rfl rfl d_Q_removeOldestCompletion_43 ?_
          refine lv_iload_n hx hb d_Q_removeOldestCompletion_46 rfl (lv_at hl 0 rfl) ?_
          refine lv_aload_n hx hb d_Q_removeOldestCompletion_47 rfl (lv_at hl 1 rfl) ?_
          refine mx_get G h f_19 rfl 2 (by decide) (tb_in in_Q) (tb_c k_99) rfl rfl d_Q_removeOldestCompletion_48 ?_
          refine lv_iload_n hx hb d_Q_removeOldestCompletion_51 rfl (lv_at hl 0 rfl) ?_
          refine lv_iconst (v := 1) hx hb d_Q_removeOldestCompletion_52 (by decide) ?_
          refine lv_iadd hx hb d_Q_removeOldestCompletion_53 ?_
          refine ax_l G h f_20 (i + 1) (nI_1 i) (by omega) (by decide) d_Q_removeOldestCompletion_54 ?_
          have et_22 : (shf fr 0 i) (i + 1) = fr (i + 1) := shf_at (by omega)
          rw [et_22]
          refine ax_sl G h f_20 i rfl (by omega) (by decide) d_Q_removeOldestCompletion_55 (fun H locs h => ?_)
          have h : mw_H n0 D cl s (mw_up w_18 hr (.inl (cA 1, 4, .inr (.inl (vp_updL (shf fr 0 i) i (fr (i + 1))))))) H locs := h
          obtain ⟨w_23, ew_23⟩ : ∃ xx : mw, mw_up w_18 hr (.inl (cA 1, 4, .inr (.inl (vp_updL (shf fr 0 i) i (fr (i + 1)))))) = xx := ⟨_, rfl⟩
          rw [ew_23] at h
          have f_24 : w_23 hq = some (qcell hp hn hr pn (cn - 1)) := by rw [← ew_23, mw_ne (mw_apart f_19 f_20 (by simp))]; exact f_19
          have f_25 : w_23 hn = some (.inl (cA 0, 4, .inl (upd (shf fn 0 i) i (fn (i + 1))))) := by rw [← ew_23, mw_ne (mw_apart f_21 f_20 (by simp))]; exact f_21
          have f_26 : w_23 hr = some (.inl (cA 1, 4, .inr (.inl (vp_updL (shf fr 0 i) i (fr (i + 1)))))) := by rw [← ew_23]; exact mw_self
          refine lv_iinc (v := (nI i) + 1) (lv' := [(1, .int ((nI i) + 1)), (0, .ref hq)]) hx hb d_Q_removeOldestCompletion_56 hl (k := 0) rfl rfl (by decide) rfl (fun ls hl => ?_)
          refine lv_goto (tgt := 20) hx hb d_Q_removeOldestCompletion_59 (by decide) ?_
          rw [nI_1] at hl
          refine ih (i + 1) (by omega) H locs ls ?_ (lv_sub hl [0, 1] rfl)
          have q1 : mw_up (mw_up w_3 hn (ints cA 4 (shf fn 0 (i + 1)))) hr (longs cA 4 (shf fr 0 (i + 1))) = w_23 := by
            rw [← ew_23, ← ew_18, ← ew_12, ← shf_i (Nat.zero_le i), ← shf_l (Nat.zero_le i)]
            funext b
            have hne : hn ≠ hr := mw_apart f_4 f_5 (by simp)
            by_cases b1 : b = hr
            · subst b1; simp only [mw_self]
            · rw [mw_ne b1, mw_ne b1]
              by_cases b2 : b = hn
              · subst b2; simp only [mw_self]
              · simp only [mw_ne b1, mw_ne b2]
          rw [q1]
          exact h
    refine loop (cn - 1) 0 (by omega) H locs ls ?_ (lv_sub hl [0, 1] rfl)
    rw [shf_0, shf_0, mw_id f_4, mw_id f_5]
    exact h
  · exact absurd c_1 (nI_ne0 h0 (by omega))
end
section
/-! The drive's core: flash, cache, counters. kS = (flash words, units in the cache, units stored, pages written, pages left) -/
abbrev kS : Type := (Nat → Int64) × List uU × Nat × Nat × Nat
def lnU (u : uU) : Nat := u.2.1.toNatClampNeg
def fsU (u : uU) : Nat := u.1.toNatClampNeg
/-- a unit as the document has it -/
def vU (u : uU) : Prop := u.1 = nI (fsU u) ∧ u.2.1 = nI (lnU u) ∧ 1 ≤ lnU u ∧ lnU u ≤ 4 ∧ fsU u + lnU u ≤ 24 ∧ (u.2.2.2 = 0 ∨ u.2.2.2 = 1)
def apU (u : uU) (k : Nat) (fl : Nat → Int64) : Nat → Int64 := fun j => if fsU u ≤ j ∧ j < fsU u + k then wrd u (nI j) else fl j
theorem apU_0 (u : uU) (fl : Nat → Int64) : apU u 0 fl = fl := by
  funext j
  simp only [apU]
  rw [if_neg (by omega)]
theorem apU_s (u : uU) (k : Nat) (fl : Nat → Int64) : vp_updL (apU u k fl) (fsU u + k) (wrd u (nI (fsU u + k))) = apU u (k + 1) fl := by
  funext j
  simp only [vp_updL, apU]
  by_cases h1 : j = fsU u + k
  · subst h1; rw [if_pos rfl, if_pos (by omega)]
  · rw [if_neg h1]
    by_cases h2 : fsU u ≤ j ∧ j < fsU u + k
    · rw [if_pos h2, if_pos (by omega)]
    · rw [if_neg h2, if_neg (by omega)]
/-- what an address holds: the flash, with the units applied in order -/
def hld (fl : Nat → Int64) (us : List uU) (a : Nat) : Int64 := us.foldl (fun x u => if cov u (nI a) then wrd u (nI a) else x) (fl a)
theorem hld_snoc {fl : Nat → Int64} {us : List uU} {u : uU} {a : Nat} : hld fl (us ++ [u]) a = if cov u (nI a) then wrd u (nI a) else hld fl us a := by simp [hld, List.foldl_append]
theorem hld_take {fl : Nat → Int64} {us : List uU} {u : uU} {a k : Nat} (h : us[k]? = some u) : hld fl (us.take (k + 1)) a = if cov u (nI a) then wrd u (nI a) else hld fl (us.take k) a := by
  rw [List.take_succ, h]
  exact hld_snoc
abbrev dcell (hf hc hq ln : Nat) (tn : Int32) (tr : Int64) (st pw pl : Nat) : va_E := .inr (0, [.ref hf, .ref hc, .ref hq, .int (nI ln), .int tn, .long tr, .int (nI st), .int (nI pw), .int (nI pl)])
/-- the cache: its cells are S's -/
def CA (cA : Nat → ClassId) (w : mw) (S : Nat → Prop) (hc hu L : Nat) (us : List uU) : Prop :=
  ∃ (f : Nat → Option Nat) (g : Nat → Nat), w hc = some (ccell hu us.length) ∧ w hu = some (refs cA 3 L f) ∧ us.length ≤ L ∧ L ≤ 6 ∧ (∀ i, i < L → f i = some (g i) ∧ S (g i) ∧ ∃ u, w (g i) = some (ucell u)) ∧ (∀ i u, us[i]? = some u → w (g i) = some (ucell u)) ∧ (∀ i j, i < L → j < L → g i = g j → i = j) ∧ S hc ∧ S hu
def DC (cA : Nat → ClassId) (w : mw) (S : Nat → Prop) (h0 hf hc hu hq L ln : Nat) (tn : Int32) (tr : Int64) (κ : kS) : Prop :=
  w h0 = some (dcell hf hc hq ln tn tr κ.2.2.1 κ.2.2.2.1 κ.2.2.2.2) ∧ w hf = some (longs cA 24 κ.1) ∧ CA cA w S hc hu L κ.2.1 ∧ ¬ S h0 ∧ ¬ S hf ∧ ∀ u ∈ κ.2.1, vU u
/-- outside P nothing has changed -/
def FR (w w' : mw) (P : Nat → Prop) : Prop := ∀ x, ¬ P x → w' x = w x
theorem FR.rf {w : mw} {P : Nat → Prop} : FR w w P := fun _ _ => rfl
theorem FR.tr {w w1 w2 : mw} {P : Nat → Prop} (h1 : FR w w1 P) (h2 : FR w1 w2 P) : FR w w2 P := fun x hx => (h2 x hx).trans (h1 x hx)
theorem FR.mono {w w1 : mw} {P Q : Nat → Prop} (h1 : FR w w1 P) (h2 : ∀ x, P x → Q x) : FR w w1 Q := fun x hx => h1 x (fun z => hx (h2 x z))
theorem FR.up {w : mw} {P : Nat → Prop} {a : Nat} {e : va_E} (h : P a) : FR w (mw_up w a e) P := fun x hx => mw_ne (fun z => hx (by rw [z]; exact h))
theorem nI_m1 (x : Int32) : x + (-1) = x - 1 := by rw [Int32.sub_eq_add_neg]
theorem getQ {α : Type} {l : List α} {k : Nat} (h : k < l.length) : ∃ u, l[k]? = some u := ⟨l[k], List.getElem?_eq_getElem h⟩
theorem d_D_heldWord_0 : decode b_D_heldWord 0 = .ok (.aload_n 0, 1) := by decide +kernel
theorem d_D_heldWord_1 : decode b_D_heldWord 1 = .ok (.getfield 29, 3) := by decide +kernel
theorem d_D_heldWord_4 : decode b_D_heldWord 4 = .ok (.getfield 132, 3) := by decide +kernel
theorem d_D_heldWord_7 : decode b_D_heldWord 7 = .ok (.iconst 1, 1) := by decide +kernel
theorem d_D_heldWord_8 : decode b_D_heldWord 8 = .ok (.isub, 1) := by decide +kernel
theorem d_D_heldWord_9 : decode b_D_heldWord 9 = .ok (.istore_n 2, 1) := by decide +kernel
theorem d_D_heldWord_10 : decode b_D_heldWord 10 = .ok (.iload_n 2, 1) := by decide +kernel
theorem d_D_heldWord_11 : decode b_D_heldWord 11 = .ok (.ifCond .lt 39, 3) := by decide +kernel
theorem d_D_heldWord_14 : decode b_D_heldWord 14 = .ok (.aload_n 0, 1) := by decide +kernel
theorem d_D_heldWord_15 : decode b_D_heldWord 15 = .ok (.getfield 29, 3) := by decide +kernel
theorem d_D_heldWord_18 : decode b_D_heldWord 18 = .ok (.getfield 135, 3) := by decide +kernel
theorem d_D_heldWord_21 : decode b_D_heldWord 21 = .ok (.iload_n 2, 1) := by decide +kernel
theorem d_D_heldWord_22 : decode b_D_heldWord 22 = .ok (.aaload, 1) := by decide +kernel
theorem d_D_heldWord_23 : decode b_D_heldWord 23 = .ok (.iload_n 1, 1) := by decide +kernel
theorem d_D_heldWord_24 : decode b_D_heldWord 24 = .ok (.invokevirtual 199, 3) := by decide +kernel
theorem d_D_heldWord_27 : decode b_D_heldWord 27 = .ok (.ifCond .eq 17, 3) := by decide +kernel
theorem d_D_heldWord_30 : decode b_D_heldWord 30 = .ok (.aload_n 0, 1) := by decide +kernel
theorem d_D_heldWord_31 : decode b_D_heldWord 31 = .ok (.getfield 29, 3) := by decide +kernel
theorem d_D_heldWord_34 : decode b_D_heldWord 34 = .ok (.getfield 135, 3) := by decide +kernel
theorem d_D_heldWord_37 : decode b_D_heldWord 37 = .ok (.iload_n 2, 1) := by decide +kernel
theorem d_D_heldWord_38 : decode b_D_heldWord 38 = .ok (.aaload, 1) := by decide +kernel
theorem d_D_heldWord_39 : decode b_D_heldWord 39 = .ok (.iload_n 1, 1) := by decide +kernel
theorem d_D_heldWord_40 : decode b_D_heldWord 40 = .ok (.invokevirtual 176, 3) := by decide +kernel
theorem d_D_heldWord_43 : decode b_D_heldWord 43 = .ok (.lreturn, 1) := by decide +kernel
theorem d_D_heldWord_44 : decode b_D_heldWord 44 = .ok (.iinc 2 (-1), 3) := by decide +kernel
theorem d_D_heldWord_47 : decode b_D_heldWord 47 = .ok (.goto (-37), 3) := by decide +kernel
theorem d_D_heldWord_50 : decode b_D_heldWord 50 = .ok (.aload_n 0, 1) := by decide +kernel
theorem d_D_heldWord_51 : decode b_D_heldWord 51 = .ok (.getfield 9, 3) := by decide +kernel
theorem d_D_heldWord_54 : decode b_D_heldWord 54 = .ok (.iload_n 1, 1) := by decide +kernel
theorem d_D_heldWord_55 : decode b_D_heldWord 55 = .ok (.laload, 1) := by decide +kernel
theorem d_D_heldWord_56 : decode b_D_heldWord 56 = .ok (.lreturn, 1) := by decide +kernel
theorem d_D_store_0 : decode b_D_store 0 = .ok (.iconst 0, 1) := by decide +kernel
theorem d_D_store_1 : decode b_D_store 1 = .ok (.istore_n 2, 1) := by decide +kernel
theorem d_D_store_2 : decode b_D_store 2 = .ok (.iload_n 2, 1) := by decide +kernel
theorem d_D_store_3 : decode b_D_store 3 = .ok (.aload_n 1, 1) := by decide +kernel
theorem d_D_store_4 : decode b_D_store 4 = .ok (.getfield 142, 3) := by decide +kernel
theorem d_D_store_7 : decode b_D_store 7 = .ok (.if_icmp .ge 38, 3) := by decide +kernel
theorem d_D_store_10 : decode b_D_store 10 = .ok (.aload_n 0, 1) := by decide +kernel
theorem d_D_store_11 : decode b_D_store 11 = .ok (.getfield 119, 3) := by decide +kernel
theorem d_D_store_14 : decode b_D_store 14 = .ok (.ifCond .ne 5, 3) := by decide +kernel
theorem d_D_store_17 : decode b_D_store 17 = .ok (.iconst 0, 1) := by decide +kernel
theorem d_D_store_18 : decode b_D_store 18 = .ok (.ireturn, 1) := by decide +kernel
theorem d_D_store_19 : decode b_D_store 19 = .ok (.aload_n 0, 1) := by decide +kernel
theorem d_D_store_20 : decode b_D_store 20 = .ok (.dup, 1) := by decide +kernel
theorem d_D_store_21 : decode b_D_store 21 = .ok (.getfield 119, 3) := by decide +kernel
theorem d_D_store_24 : decode b_D_store 24 = .ok (.iconst 1, 1) := by decide +kernel
theorem d_D_store_25 : decode b_D_store 25 = .ok (.isub, 1) := by decide +kernel
theorem d_D_store_26 : decode b_D_store 26 = .ok (.putfield 119, 3) := by decide +kernel
theorem d_D_store_29 : decode b_D_store 29 = .ok (.aload_n 0, 1) := by decide +kernel
theorem d_D_store_30 : decode b_D_store 30 = .ok (.dup, 1) := by decide +kernel
theorem d_D_store_31 : decode b_D_store 31 = .ok (.getfield 152, 3) := by decide +kernel
theorem d_D_store_34 : decode b_D_store 34 = .ok (.iconst 1, 1) := by decide +kernel
theorem d_D_store_35 : decode b_D_store 35 = .ok (.iadd, 1) := by decide +kernel
theorem d_D_store_36 : decode b_D_store 36 = .ok (.putfield 152, 3) := by decide +kernel
theorem d_D_store_39 : decode b_D_store 39 = .ok (.iinc 2 1, 3) := by decide +kernel
theorem d_D_store_42 : decode b_D_store 42 = .ok (.goto (-40), 3) := by decide +kernel
theorem d_D_store_45 : decode b_D_store 45 = .ok (.iconst 0, 1) := by decide +kernel
theorem d_D_store_46 : decode b_D_store 46 = .ok (.istore_n 2, 1) := by decide +kernel
theorem d_D_store_47 : decode b_D_store 47 = .ok (.iload_n 2, 1) := by decide +kernel
theorem d_D_store_48 : decode b_D_store 48 = .ok (.aload_n 1, 1) := by decide +kernel
theorem d_D_store_49 : decode b_D_store 49 = .ok (.getfield 142, 3) := by decide +kernel
theorem d_D_store_52 : decode b_D_store 52 = .ok (.if_icmp .ge 30, 3) := by decide +kernel
theorem d_D_store_55 : decode b_D_store 55 = .ok (.aload_n 0, 1) := by decide +kernel
theorem d_D_store_56 : decode b_D_store 56 = .ok (.getfield 9, 3) := by decide +kernel
theorem d_D_store_59 : decode b_D_store 59 = .ok (.aload_n 1, 1) := by decide +kernel
theorem d_D_store_60 : decode b_D_store 60 = .ok (.getfield 139, 3) := by decide +kernel
theorem d_D_store_63 : decode b_D_store 63 = .ok (.iload_n 2, 1) := by decide +kernel
theorem d_D_store_64 : decode b_D_store 64 = .ok (.iadd, 1) := by decide +kernel
theorem d_D_store_65 : decode b_D_store 65 = .ok (.aload_n 1, 1) := by decide +kernel
theorem d_D_store_66 : decode b_D_store 66 = .ok (.aload_n 1, 1) := by decide +kernel
theorem d_D_store_67 : decode b_D_store 67 = .ok (.getfield 139, 3) := by decide +kernel
theorem d_D_store_70 : decode b_D_store 70 = .ok (.iload_n 2, 1) := by decide +kernel
theorem d_D_store_71 : decode b_D_store 71 = .ok (.iadd, 1) := by decide +kernel
theorem d_D_store_72 : decode b_D_store 72 = .ok (.invokevirtual 176, 3) := by decide +kernel
theorem d_D_store_75 : decode b_D_store 75 = .ok (.lastore, 1) := by decide +kernel
theorem d_D_store_76 : decode b_D_store 76 = .ok (.iinc 2 1, 3) := by decide +kernel
theorem d_D_store_79 : decode b_D_store 79 = .ok (.goto (-32), 3) := by decide +kernel
theorem d_D_store_82 : decode b_D_store 82 = .ok (.aload_n 0, 1) := by decide +kernel
theorem d_D_store_83 : decode b_D_store 83 = .ok (.dup, 1) := by decide +kernel
theorem d_D_store_84 : decode b_D_store 84 = .ok (.getfield 149, 3) := by decide +kernel
theorem d_D_store_87 : decode b_D_store 87 = .ok (.iconst 1, 1) := by decide +kernel
theorem d_D_store_88 : decode b_D_store 88 = .ok (.iadd, 1) := by decide +kernel
theorem d_D_store_89 : decode b_D_store 89 = .ok (.putfield 149, 3) := by decide +kernel
theorem d_D_store_92 : decode b_D_store 92 = .ok (.iconst 1, 1) := by decide +kernel
theorem d_D_store_93 : decode b_D_store 93 = .ok (.ireturn, 1) := by decide +kernel
set_option maxHeartbeats 4000000 in
set_option maxRecDepth 100000 in
theorem m_D_heldWord {l : Launch} {D : va_G} {cA : Nat → ClassId} {n0 : Nat} {w : mw} {S : Nat → Prop} {h0 hf hc hu hq L ln : Nat} {tn : Int32} {tr : Int64} {fl : Nat → Int64} {us : List uU} {st pw pl : Nat} (K : DC cA w S h0 hf hc hu hq L ln tn tr (fl, us, st, pw, pl)) {a : Nat} (ha : a < 24) {x : Int32} (hx1 : x = nI a) :
    Ml l D cA n0 y_D_heldWord c_D_heldWord (rmd 1) [.ref h0, .int x] w (fun r w' => r = hld fl us a ∧ w' = w) := by
  refine mw_met (cc := b_D_heldWord) (maxL := 3) (ret := (some .long)) (by decide) rfl (Nat.le_of_ble_eq_true rfl) ?_
  intro p e s m below meth c ls G hrt hlocks hname h hl
  have G : mw_G p m c b_D_heldWord 3 s _ (c_D_heldWord :: TB) R_D D cl (tys cA) n0 := G
  have hx := G.1.1
  have hb := G.1.2.1
  have hl : lv_has ls 3 [(0, .ref h0), (1, .int x)] := hl
  obtain ⟨hD, hF, ⟨f, g, hC, hU, hlen, hL, hg, hus, hinj, hSc, hSu⟩, hS0, hSf, hv⟩ := id K
  have hD : w h0 = some (dcell hf hc hq ln tn tr st pw pl) := hD
  have hF : w hf = some (longs cA 24 fl) := hF
  have hC : w hc = some (ccell hu us.length) := hC
  have hlen : us.length ≤ L := hlen
  refine lv_aload_n hx hb d_D_heldWord_0 rfl (lv_at hl 0 rfl) ?_
  refine mx_get G h hD rfl 1 (by decide) (tb_in in_D) (tb_c k_118) rfl rfl d_D_heldWord_1 ?_
  refine mx_get G h hC rfl 1 (by decide) (tb_in in_C) (tb_c k_60) rfl rfl d_D_heldWord_4 ?_
  refine lv_iconst (v := 1) hx hb d_D_heldWord_7 (by decide) ?_
  refine lv_isub hx hb d_D_heldWord_8 ?_
  refine lv_istore_n (lv' := [(2, .int ((nI us.length) - 1)), (0, .ref h0), (1, .int x)]) hx hb d_D_heldWord_9 rfl hl (by decide) rfl (fun ls hl => ?_)
  have loop : ∀ (j : Nat), j ≤ us.length → hld fl us a = hld fl (us.take j) a → ∀ (H : Heap) (locs : List Loc) (ls : Array Slot), mw_H n0 D cl s w H locs → lv_has ls 3 [(2, .int (nI j - 1)), (0, .ref h0), (1, .int x)] → W p l e (rmd 1) s m ([.ref h0, .int x] : List Value).toArray below meth c H locs 0 0 (MQ below (mw_Ql n0 D cl (fun r w' => r = hld fl us a ∧ w' = w)) ([.ref h0, .int x] : List Value).toArray s 0 0 (mw_A n0)) (F0 m 10 ls []) := by
    intro j
    induction j with
    | zero =>
      intro hj he H locs ls h hl
      refine lv_iload_n hx hb d_D_heldWord_10 rfl (lv_at hl 0 rfl) ?_
      refine lv_if_lt (tgt := 50) hx hb d_D_heldWord_11 (by decide) (fun c_1 => ?_) (fun c_1 => ?_)
      · refine lv_aload_n hx hb d_D_heldWord_50 rfl (lv_at hl 1 rfl) ?_
        refine mx_get G h hD rfl 0 (by decide) (tb_in in_D) (tb_c k_117) rfl rfl d_D_heldWord_51 ?_
        refine lv_iload_n hx hb d_D_heldWord_54 rfl (lv_at hl 2 rfl) ?_
        refine ax_l G h hF a hx1 ha (by decide) d_D_heldWord_55 ?_
        exact mx_retl G h hrt hlocks d_D_heldWord_56 (⟨by rw [he]; rfl, rfl⟩)
      · exact absurd (by decide) c_1
    | succ k ih =>
      intro hj he H locs ls h hl
      obtain ⟨u, hu⟩ := getQ (l := us) (k := k) (by omega)
      have hgk := hus k u hu
      rw [nI_pred k] at hl
      refine lv_iload_n hx hb d_D_heldWord_10 rfl (lv_at hl 0 rfl) ?_
      refine lv_if_lt (tgt := 50) hx hb d_D_heldWord_11 (by decide) (fun c_2 => ?_) (fun c_2 => ?_)
      · exact absurd c_2 (nI_pos (by omega))
      · refine lv_aload_n hx hb d_D_heldWord_14 rfl (lv_at hl 1 rfl) ?_
        refine mx_get G h hD rfl 1 (by decide) (tb_in in_D) (tb_c k_118) rfl rfl d_D_heldWord_15 ?_
        refine mx_get G h hC rfl 0 (by decide) (tb_in in_C) (tb_c k_58) rfl rfl d_D_heldWord_18 ?_
        refine lv_iload_n hx hb d_D_heldWord_21 rfl (lv_at hl 0 rfl) ?_
        refine ax_a G h 3 hU rfl k rfl (by omega) (by omega) ((hg k (by omega)).1) d_D_heldWord_22 ?_
        refine lv_iload_n hx hb d_D_heldWord_23 rfl (lv_at hl 2 rfl) ?_
        refine mx_ci (cV (As := [.int x]) (rest := []) G h (m_U_covers hgk (x := x)) k_187 k_188 k_189 k_4 k_190 hd_U_covers rfl rfl ⟨Nat.le_of_ble_eq_true rfl, Nat.le_of_ble_eq_true rfl⟩ hgk rfl rfl hl.1 rfl (Nat.le_of_ble_eq_true rfl) d_D_heldWord_24 ⟨Nat.le_of_ble_eq_true rfl, Nat.le_of_ble_eq_true rfl⟩) h (fun r_4 w_3 H locs h hcp => ?_)
        obtain ⟨er_5, ew_6⟩ := hcp
        subst er_5
        rw [ew_6] at h
        refine lv_if_eq (tgt := 44) hx hb d_D_heldWord_27 (by decide) (fun c_7 => ?_) (fun c_7 => ?_)
        · refine lv_iinc (v := (nI k) + (-1)) (lv' := [(2, .int ((nI k) + (-1))), (0, .ref h0), (1, .int x)]) hx hb d_D_heldWord_44 hl (k := 0) rfl rfl (by decide) rfl (fun ls hl => ?_)
          refine lv_goto (tgt := 10) hx hb d_D_heldWord_47 (by decide) ?_
          rw [nI_m1] at hl
          exact ih (by omega) (by rw [he, hld_take hu, if_neg (by rw [← hx1]; exact bI_0 c_7)]) H locs ls h (lv_sub hl [0, 1, 2] rfl)
        · refine lv_aload_n hx hb d_D_heldWord_30 rfl (lv_at hl 1 rfl) ?_
          refine mx_get G h hD rfl 1 (by decide) (tb_in in_D) (tb_c k_118) rfl rfl d_D_heldWord_31 ?_
          refine mx_get G h hC rfl 0 (by decide) (tb_in in_C) (tb_c k_58) rfl rfl d_D_heldWord_34 ?_
          refine lv_iload_n hx hb d_D_heldWord_37 rfl (lv_at hl 0 rfl) ?_
          refine ax_a G h 3 hU rfl k rfl (by omega) (by omega) ((hg k (by omega)).1) d_D_heldWord_38 ?_
          refine lv_iload_n hx hb d_D_heldWord_39 rfl (lv_at hl 2 rfl) ?_
          refine mx_cl (cV (As := [.int x]) (rest := []) G h (m_U_wordAt hgk (x := x)) k_191 k_192 k_193 k_4 k_194 hd_U_wordAt rfl rfl ⟨Nat.le_of_ble_eq_true rfl, Nat.le_of_ble_eq_true rfl⟩ hgk rfl rfl hl.1 rfl (Nat.le_of_ble_eq_true rfl) d_D_heldWord_40 ⟨Nat.le_of_ble_eq_true rfl, Nat.le_of_ble_eq_true rfl⟩) h (fun r_9 w_8 H locs h hcp => ?_)
          obtain ⟨er_10, ew_11⟩ := hcp
          subst er_10
          rw [ew_11] at h
          exact mx_retl G h hrt hlocks d_D_heldWord_43 (⟨by rw [he, hld_take hu, if_pos (by rw [← hx1]; exact bI_n c_7), hx1], rfl⟩)
  exact loop us.length (Nat.le_refl _) (by rw [List.take_length]) s.heap [] ls h (lv_sub hl [0, 1, 2] rfl)
set_option maxHeartbeats 4000000 in
set_option maxRecDepth 100000 in
theorem m_D_store {l : Launch} {D : va_G} {cA : Nat → ClassId} {n0 : Nat} {w : mw} {h0 hf hc hq ln : Nat} {tn : Int32} {tr : Int64} {fl : Nat → Int64} {st pw pl : Nat} (hD : w h0 = some (dcell hf hc hq ln tn tr st pw pl)) (hF : w hf = some (longs cA 24 fl)) {a : Nat} {u : uU} (ha : w a = some (ucell u)) (hV : vU u) (hpl : pl < 1000) :
    Mi l D cA n0 y_D_store c_D_store (rmd 1) [.ref h0, .ref a] w (fun r w' => (lnU u ≤ pl → r = 1 ∧ w' = mw_up (mw_up w h0 (dcell hf hc hq ln tn tr (st + 1) (pw + lnU u) (pl - lnU u))) hf (longs cA 24 (apU u (lnU u) fl))) ∧ (pl < lnU u → r = 0 ∧ w' = mw_up w h0 (dcell hf hc hq ln tn tr st (pw + pl) 0))) := by
  refine mw_met (cc := b_D_store) (maxL := 3) (ret := (some .boolean)) (by decide) rfl (Nat.le_of_ble_eq_true rfl) ?_
  intro p e s m below meth c ls G hrt hlocks hname h hl
  have G : mw_G p m c b_D_store 3 s _ (c_D_store :: TB) R_D D cl (tys cA) n0 := G
  have hx := G.1.1
  have hb := G.1.2.1
  have hl : lv_has ls 3 [(0, .ref h0), (1, .ref a)] := hl
  obtain ⟨hu1, hu2, hl1, hl4, h24, hz⟩ := hV
  refine lv_iconst (v := 0) hx hb d_D_store_0 (by decide) ?_
  refine lv_istore_n (lv' := [(2, .int 0), (0, .ref h0), (1, .ref a)]) hx hb d_D_store_1 rfl hl (by decide) rfl (fun ls hl => ?_)
  have loop2 : lnU u ≤ pl → ∀ (t k : Nat), k + t = lnU u → ∀ (H : Heap) (locs : List Loc) (ls : Array Slot), mw_H n0 D cl s (mw_up (mw_up w h0 (dcell hf hc hq ln tn tr st (pw + lnU u) (pl - lnU u))) hf (longs cA 24 (apU u k fl))) H locs → lv_has ls 3 [(2, .int (nI k)), (0, .ref h0), (1, .ref a)] → W p l e (rmd 1) s m ([.ref h0, .ref a] : List Value).toArray below meth c H locs 0 0 (MQ below (mw_Qi n0 D cl (fun r w' => (lnU u ≤ pl → r = 1 ∧ w' = mw_up (mw_up w h0 (dcell hf hc hq ln tn tr (st + 1) (pw + lnU u) (pl - lnU u))) hf (longs cA 24 (apU u (lnU u) fl))) ∧ (pl < lnU u → r = 0 ∧ w' = mw_up w h0 (dcell hf hc hq ln tn tr st (pw + pl) 0)))) ([.ref h0, .ref a] : List Value).toArray s 0 0 (mw_A n0)) (F0 m 47 ls []) := by
    intro hle t
    induction t with
    | zero =>
      intro k hk H locs ls h hl
      have hk0 : k = lnU u := by omega
      subst hk0
      obtain ⟨w_1, ew_1⟩ : ∃ xx : mw, mw_up (mw_up w h0 (dcell hf hc hq ln tn tr st (pw + lnU u) (pl - lnU u))) hf (longs cA 24 (apU u (lnU u) fl)) = xx := ⟨_, rfl⟩
      rw [ew_1] at h
      have f_2 : w_1 h0 = some (dcell hf hc hq ln tn tr st (pw + lnU u) (pl - lnU u)) := by rw [← ew_1]; rw [mw_ne (mw_apart hD hF (by simp))]; exact mw_self
      have f_3 : w_1 hf = some (longs cA 24 (apU u (lnU u) fl)) := by rw [← ew_1]; exact mw_self
      have f_4 : w_1 a = some (ucell u) := by rw [← ew_1]; rw [mw_ne (mw_apart ha hF (by simp)), mw_ne (mw_apart ha hD (by simp))]; exact ha
      refine lv_iload_n hx hb d_D_store_47 rfl (lv_at hl 0 rfl) ?_
      refine lv_aload_n hx hb d_D_store_48 rfl (lv_at hl 2 rfl) ?_
      refine mx_get G h f_4 rfl 1 (by decide) (tb_in in_U) (tb_c k_41) rfl rfl d_D_store_49 ?_
      refine lv_icmp_ge (tgt := 82) hx hb d_D_store_52 (by decide) (fun c_5 => ?_) (fun c_5 => ?_)
      · refine lv_aload_n hx hb d_D_store_82 rfl (lv_at hl 1 rfl) ?_
        refine lv_dup hx hb d_D_store_83 rfl ?_
        refine mx_get G h f_2 rfl 6 (by decide) (tb_in in_D) (tb_c k_123) rfl rfl d_D_store_84 ?_
        refine lv_iconst (v := 1) hx hb d_D_store_87 (by decide) ?_
        refine lv_iadd hx hb d_D_store_88 ?_
        refine mx_put G h f_2 rfl 6 (by decide) (tb_in in_D) t_D t_D_ok n_D (tb_c k_123) rfl rfl rfl rfl rfl (Nat.le_of_ble_eq_true rfl) d_D_store_89 (fun H locs h => ?_)
        have h : mw_H n0 D cl s (mw_up w_1 h0 (.inr (0, [.ref hf, .ref hc, .ref hq, .int (nI ln), .int tn, .long tr, .int ((nI st) + 1), .int (nI (pw + lnU u)), .int (nI (pl - lnU u))]))) H locs := h
        obtain ⟨w_6, ew_6⟩ : ∃ xx : mw, mw_up w_1 h0 (.inr (0, [.ref hf, .ref hc, .ref hq, .int (nI ln), .int tn, .long tr, .int ((nI st) + 1), .int (nI (pw + lnU u)), .int (nI (pl - lnU u))])) = xx := ⟨_, rfl⟩
        rw [ew_6] at h
        have f_7 : w_6 hf = some (longs cA 24 (apU u (lnU u) fl)) := by rw [← ew_6, mw_ne (mw_apart f_3 f_2 (by simp))]; exact f_3
        have f_8 : w_6 a = some (ucell u) := by rw [← ew_6, mw_ne (mw_apart f_4 f_2 (by simp))]; exact f_4
        have f_9 : w_6 h0 = some (.inr (0, [.ref hf, .ref hc, .ref hq, .int (nI ln), .int tn, .long tr, .int ((nI st) + 1), .int (nI (pw + lnU u)), .int (nI (pl - lnU u))])) := by rw [← ew_6]; exact mw_self
        refine lv_iconst (v := 1) hx hb d_D_store_92 (by decide) ?_
        exact mx_retz G h hrt hlocks d_D_store_93 rfl (⟨fun _ => ⟨rfl, by rw [← ew_6, ← ew_1, nI_1]; funext b; by_cases b1 : b = h0 <;> by_cases b2 : b = hf <;> simp [mw_up, b1, b2, mw_apart hD hF, (mw_apart hF hD (by simp))]⟩, fun z => absurd z (by omega)⟩)
      · exact absurd (by rw [hu2]; exact Int32.le_refl _) c_5
    | succ t ih =>
      intro k hk H locs ls h hl
      obtain ⟨w_10, ew_10⟩ : ∃ xx : mw, mw_up (mw_up w h0 (dcell hf hc hq ln tn tr st (pw + lnU u) (pl - lnU u))) hf (longs cA 24 (apU u k fl)) = xx := ⟨_, rfl⟩
      rw [ew_10] at h
      have f_11 : w_10 h0 = some (dcell hf hc hq ln tn tr st (pw + lnU u) (pl - lnU u)) := by rw [← ew_10]; rw [mw_ne (mw_apart hD hF (by simp))]; exact mw_self
      have f_12 : w_10 hf = some (longs cA 24 (apU u k fl)) := by rw [← ew_10]; exact mw_self
      have f_13 : w_10 a = some (ucell u) := by rw [← ew_10]; rw [mw_ne (mw_apart ha hF (by simp)), mw_ne (mw_apart ha hD (by simp))]; exact ha
      refine lv_iload_n hx hb d_D_store_47 rfl (lv_at hl 0 rfl) ?_
      refine lv_aload_n hx hb d_D_store_48 rfl (lv_at hl 2 rfl) ?_
      refine mx_get G h f_13 rfl 1 (by decide) (tb_in in_U) (tb_c k_41) rfl rfl d_D_store_49 ?_
      refine lv_icmp_ge (tgt := 82) hx hb d_D_store_52 (by decide) (fun c_14 => ?_) (fun c_14 => ?_)
      · exact absurd c_14 (by rw [hu2, nI_leI (by omega) (by omega)]; omega)
      · refine lv_aload_n hx hb d_D_store_55 rfl (lv_at hl 1 rfl) ?_
        refine mx_get G h f_11 rfl 0 (by decide) (tb_in in_D) (tb_c k_117) rfl rfl d_D_store_56 ?_
        refine lv_aload_n hx hb d_D_store_59 rfl (lv_at hl 2 rfl) ?_
        refine mx_get G h f_13 rfl 0 (by decide) (tb_in in_U) (tb_c k_38) rfl rfl d_D_store_60 ?_
        refine lv_iload_n hx hb d_D_store_63 rfl (lv_at hl 0 rfl) ?_
        refine lv_iadd hx hb d_D_store_64 ?_
        refine lv_aload_n hx hb d_D_store_65 rfl (lv_at hl 2 rfl) ?_
        refine lv_aload_n hx hb d_D_store_66 rfl (lv_at hl 2 rfl) ?_
        refine mx_get G h f_13 rfl 0 (by decide) (tb_in in_U) (tb_c k_38) rfl rfl d_D_store_67 ?_
        refine lv_iload_n hx hb d_D_store_70 rfl (lv_at hl 0 rfl) ?_
        refine lv_iadd hx hb d_D_store_71 ?_
        refine mx_cl (cV (As := [.int (u.1 + (nI k))]) (rest := [.int (u.1 + (nI k)), .ref hf]) G h (m_U_wordAt f_13 (x := u.1 + nI k)) k_191 k_192 k_193 k_4 k_194 hd_U_wordAt rfl rfl ⟨Nat.le_of_ble_eq_true rfl, Nat.le_of_ble_eq_true rfl⟩ f_13 rfl rfl hl.1 rfl (Nat.le_of_ble_eq_true rfl) d_D_store_72 ⟨Nat.le_of_ble_eq_true rfl, Nat.le_of_ble_eq_true rfl⟩) h (fun r_16 w_15 H locs h hcp => ?_)
        obtain ⟨er_17, ew_18⟩ := hcp
        subst er_17
        rw [ew_18] at h
        have hq1 : u.1 + nI k = nI (fsU u + k) := by rw [hu1]; exact nI_add _ _
        have et_19 : wrd u (u.1 + nI k) = wrd u (nI (fsU u + k)) := by rw [hq1]
        rw [et_19]
        refine ax_sl G h f_12 (fsU u + k) hq1 (by omega) (by decide) d_D_store_75 (fun H locs h => ?_)
        have h : mw_H n0 D cl s (mw_up w_10 hf (.inl (cA 1, 24, .inr (.inl (vp_updL (apU u k fl) (fsU u + k) (wrd u (nI (fsU u + k)))))))) H locs := h
        obtain ⟨w_20, ew_20⟩ : ∃ xx : mw, mw_up w_10 hf (.inl (cA 1, 24, .inr (.inl (vp_updL (apU u k fl) (fsU u + k) (wrd u (nI (fsU u + k))))))) = xx := ⟨_, rfl⟩
        rw [ew_20] at h
        have f_21 : w_20 h0 = some (dcell hf hc hq ln tn tr st (pw + lnU u) (pl - lnU u)) := by rw [← ew_20, mw_ne (mw_apart f_11 f_12 (by simp))]; exact f_11
        have f_22 : w_20 a = some (ucell u) := by rw [← ew_20, mw_ne (mw_apart f_13 f_12 (by simp))]; exact f_13
        have f_23 : w_20 hf = some (.inl (cA 1, 24, .inr (.inl (vp_updL (apU u k fl) (fsU u + k) (wrd u (nI (fsU u + k))))))) := by rw [← ew_20]; exact mw_self
        refine lv_iinc (v := (nI k) + 1) (lv' := [(2, .int ((nI k) + 1)), (0, .ref h0), (1, .ref a)]) hx hb d_D_store_76 hl (k := 0) rfl rfl (by decide) rfl (fun ls hl => ?_)
        refine lv_goto (tgt := 47) hx hb d_D_store_79 (by decide) ?_
        rw [nI_1] at hl
        refine ih (k + 1) (by omega) H locs ls ?_ (lv_sub hl [0, 1, 2] rfl)
        rw [← apU_s, ← mw_uu (e := longs cA 24 (apU u k fl)), ew_10, ew_20]
        exact h
  have loop1 : ∀ (t i : Nat), i + t = lnU u → i ≤ pl → ∀ (H : Heap) (locs : List Loc) (ls : Array Slot), mw_H n0 D cl s (mw_up w h0 (dcell hf hc hq ln tn tr st (pw + i) (pl - i))) H locs → lv_has ls 3 [(2, .int (nI i)), (0, .ref h0), (1, .ref a)] → W p l e (rmd 1) s m ([.ref h0, .ref a] : List Value).toArray below meth c H locs 0 0 (MQ below (mw_Qi n0 D cl (fun r w' => (lnU u ≤ pl → r = 1 ∧ w' = mw_up (mw_up w h0 (dcell hf hc hq ln tn tr (st + 1) (pw + lnU u) (pl - lnU u))) hf (longs cA 24 (apU u (lnU u) fl))) ∧ (pl < lnU u → r = 0 ∧ w' = mw_up w h0 (dcell hf hc hq ln tn tr st (pw + pl) 0)))) ([.ref h0, .ref a] : List Value).toArray s 0 0 (mw_A n0)) (F0 m 2 ls []) := by
    intro t
    induction t with
    | zero =>
      intro i hi hip H locs ls h hl
      have hk0 : i = lnU u := by omega
      subst hk0
      obtain ⟨w_24, ew_24⟩ : ∃ xx : mw, mw_up w h0 (dcell hf hc hq ln tn tr st (pw + lnU u) (pl - lnU u)) = xx := ⟨_, rfl⟩
      rw [ew_24] at h
      have f_25 : w_24 h0 = some (dcell hf hc hq ln tn tr st (pw + lnU u) (pl - lnU u)) := by rw [← ew_24]; exact mw_self
      have f_26 : w_24 hf = some (longs cA 24 fl) := by rw [← ew_24]; rw [mw_ne (mw_apart hF hD (by simp))]; exact hF
      have f_27 : w_24 a = some (ucell u) := by rw [← ew_24]; rw [mw_ne (mw_apart ha hD (by simp))]; exact ha
      refine lv_iload_n hx hb d_D_store_2 rfl (lv_at hl 0 rfl) ?_
      refine lv_aload_n hx hb d_D_store_3 rfl (lv_at hl 2 rfl) ?_
      refine mx_get G h f_27 rfl 1 (by decide) (tb_in in_U) (tb_c k_41) rfl rfl d_D_store_4 ?_
      refine lv_icmp_ge (tgt := 45) hx hb d_D_store_7 (by decide) (fun c_28 => ?_) (fun c_28 => ?_)
      · refine lv_iconst (v := 0) hx hb d_D_store_45 (by decide) ?_
        refine lv_istore_n (lv' := [(2, .int 0), (0, .ref h0), (1, .ref a)]) hx hb d_D_store_46 rfl hl (by decide) rfl (fun ls hl => ?_)
        refine loop2 hip (lnU u) 0 (by omega) H locs ls ?_ (lv_sub hl [0, 1, 2] rfl)
        rw [apU_0, ew_24, mw_id f_26]
        exact h
      · exact absurd (by rw [hu2]; exact Int32.le_refl _) c_28
    | succ t ih =>
      intro i hi hip H locs ls h hl
      obtain ⟨w_29, ew_29⟩ : ∃ xx : mw, mw_up w h0 (dcell hf hc hq ln tn tr st (pw + i) (pl - i)) = xx := ⟨_, rfl⟩
      rw [ew_29] at h
      have f_30 : w_29 h0 = some (dcell hf hc hq ln tn tr st (pw + i) (pl - i)) := by rw [← ew_29]; exact mw_self
      have f_31 : w_29 hf = some (longs cA 24 fl) := by rw [← ew_29]; rw [mw_ne (mw_apart hF hD (by simp))]; exact hF
      have f_32 : w_29 a = some (ucell u) := by rw [← ew_29]; rw [mw_ne (mw_apart ha hD (by simp))]; exact ha
      refine lv_iload_n hx hb d_D_store_2 rfl (lv_at hl 0 rfl) ?_
      refine lv_aload_n hx hb d_D_store_3 rfl (lv_at hl 2 rfl) ?_
      refine mx_get G h f_32 rfl 1 (by decide) (tb_in in_U) (tb_c k_41) rfl rfl d_D_store_4 ?_
      refine lv_icmp_ge (tgt := 45) hx hb d_D_store_7 (by decide) (fun c_33 => ?_) (fun c_33 => ?_)
      · exact absurd c_33 (by rw [hu2, nI_leI (by omega) (by omega)]; omega)
      · refine lv_aload_n hx hb d_D_store_10 rfl (lv_at hl 1 rfl) ?_
        refine mx_get G h f_30 rfl 8 (by decide) (tb_in in_D) (tb_c k_125) rfl rfl d_D_store_11 ?_
        refine lv_if_ne (tgt := 19) hx hb d_D_store_14 (by decide) (fun c_34 => ?_) (fun c_34 => ?_)
        · have hlt : i < pl := by
            rcases Nat.lt_or_ge i pl with z | z
            · exact z
            · exact absurd (by rw [show pl - i = 0 by omega]; rfl) c_34
          refine lv_aload_n hx hb d_D_store_19 rfl (lv_at hl 1 rfl) ?_
          refine lv_dup hx hb d_D_store_20 rfl ?_
          refine mx_get G h f_30 rfl 8 (by decide) (tb_in in_D) (tb_c k_125) rfl rfl d_D_store_21 ?_
          refine lv_iconst (v := 1) hx hb d_D_store_24 (by decide) ?_
          refine lv_isub hx hb d_D_store_25 ?_
          have et_35 : (nI (pl - i)) - 1 = nI (pl - (i + 1)) := by rw [nI_sub1 (by omega)]; congr 1
          rw [et_35]
          refine mx_put G h f_30 rfl 8 (by decide) (tb_in in_D) t_D t_D_ok n_D (tb_c k_125) rfl rfl rfl rfl rfl (Nat.le_of_ble_eq_true rfl) d_D_store_26 (fun H locs h => ?_)
          have h : mw_H n0 D cl s (mw_up w_29 h0 (.inr (0, [.ref hf, .ref hc, .ref hq, .int (nI ln), .int tn, .long tr, .int (nI st), .int (nI (pw + i)), .int (nI (pl - (i + 1)))]))) H locs := h
          obtain ⟨w_36, ew_36⟩ : ∃ xx : mw, mw_up w_29 h0 (.inr (0, [.ref hf, .ref hc, .ref hq, .int (nI ln), .int tn, .long tr, .int (nI st), .int (nI (pw + i)), .int (nI (pl - (i + 1)))])) = xx := ⟨_, rfl⟩
          rw [ew_36] at h
          have f_37 : w_36 hf = some (longs cA 24 fl) := by rw [← ew_36, mw_ne (mw_apart f_31 f_30 (by simp))]; exact f_31
          have f_38 : w_36 a = some (ucell u) := by rw [← ew_36, mw_ne (mw_apart f_32 f_30 (by simp))]; exact f_32
          have f_39 : w_36 h0 = some (.inr (0, [.ref hf, .ref hc, .ref hq, .int (nI ln), .int tn, .long tr, .int (nI st), .int (nI (pw + i)), .int (nI (pl - (i + 1)))])) := by rw [← ew_36]; exact mw_self
          refine lv_aload_n hx hb d_D_store_29 rfl (lv_at hl 1 rfl) ?_
          refine lv_dup hx hb d_D_store_30 rfl ?_
          refine mx_get G h f_39 rfl 7 (by decide) (tb_in in_D) (tb_c k_124) rfl rfl d_D_store_31 ?_
          refine lv_iconst (v := 1) hx hb d_D_store_34 (by decide) ?_
          refine lv_iadd hx hb d_D_store_35 ?_
          have et_40 : (nI (pw + i)) + 1 = nI (pw + (i + 1)) := by rw [nI_1]; rfl
          rw [et_40]
          refine mx_put G h f_39 rfl 7 (by decide) (tb_in in_D) t_D t_D_ok n_D (tb_c k_124) rfl rfl rfl rfl rfl (Nat.le_of_ble_eq_true rfl) d_D_store_36 (fun H locs h => ?_)
          have h : mw_H n0 D cl s (mw_up w_36 h0 (.inr (0, [.ref hf, .ref hc, .ref hq, .int (nI ln), .int tn, .long tr, .int (nI st), .int (nI (pw + (i + 1))), .int (nI (pl - (i + 1)))]))) H locs := h
          obtain ⟨w_41, ew_41⟩ : ∃ xx : mw, mw_up w_36 h0 (.inr (0, [.ref hf, .ref hc, .ref hq, .int (nI ln), .int tn, .long tr, .int (nI st), .int (nI (pw + (i + 1))), .int (nI (pl - (i + 1)))])) = xx := ⟨_, rfl⟩
          rw [ew_41] at h
          have f_42 : w_41 hf = some (longs cA 24 fl) := by rw [← ew_41, mw_ne (mw_apart f_37 f_39 (by simp))]; exact f_37
          have f_43 : w_41 a = some (ucell u) := by rw [← ew_41, mw_ne (mw_apart f_38 f_39 (by simp))]; exact f_38
          have f_44 : w_41 h0 = some (.inr (0, [.ref hf, .ref hc, .ref hq, .int (nI ln), .int tn, .long tr, .int (nI st), .int (nI (pw + (i + 1))), .int (nI (pl - (i + 1)))])) := by rw [← ew_41]; exact mw_self
          refine lv_iinc (v := (nI i) + 1) (lv' := [(2, .int ((nI i) + 1)), (0, .ref h0), (1, .ref a)]) hx hb d_D_store_39 hl (k := 0) rfl rfl (by decide) rfl (fun ls hl => ?_)
          refine lv_goto (tgt := 2) hx hb d_D_store_42 (by decide) ?_
          rw [nI_1] at hl
          refine ih (i + 1) (by omega) (by omega) H locs ls ?_ (lv_sub hl [0, 1, 2] rfl)
          have q1 : mw_up w h0 (dcell hf hc hq ln tn tr st (pw + (i + 1)) (pl - (i + 1))) = w_41 := by rw [← ew_41, ← ew_36, ← ew_29]; simp only [mw_uu]
          rw [q1]
          exact h
        · refine lv_iconst (v := 0) hx hb d_D_store_17 (by decide) ?_
          have hip2 : i = pl := by
            rcases Nat.lt_or_ge i pl with z | z
            · exact absurd c_34 (nI_ne0 (by omega) (by omega))
            · omega
          exact mx_retz G h hrt hlocks d_D_store_18 rfl (⟨fun z => absurd z (by omega), fun _ => ⟨rfl, by rw [← ew_29, hip2, Nat.sub_self]⟩⟩)
  refine loop1 (lnU u) 0 (by omega) (Nat.zero_le _) _ _ ls ?_ (lv_sub hl [0, 1, 2] rfl)
  rw [Nat.add_zero, Nat.sub_zero, mw_id hD]
  exact h
end
section
/-! The cache's cells under its changes -/
def CAx (cA : Nat → ClassId) (w : mw) (S : Nat → Prop) (hc hu L : Nat) (us : List uU) (f : Nat → Option Nat) (g : Nat → Nat) : Prop :=
  w hc = some (ccell hu us.length) ∧ w hu = some (refs cA 3 L f) ∧ us.length ≤ L ∧ L ≤ 6 ∧ (∀ i, i < L → f i = some (g i) ∧ S (g i) ∧ ∃ u, w (g i) = some (ucell u)) ∧ (∀ i u, us[i]? = some u → w (g i) = some (ucell u)) ∧ (∀ i j, i < L → j < L → g i = g j → i = j) ∧ S hc ∧ S hu
theorem CAx.ca {cA : Nat → ClassId} {w : mw} {S : Nat → Prop} {hc hu L : Nat} {us : List uU} {f : Nat → Option Nat} {g : Nat → Nat} (h : CAx cA w S hc hu L us f g) : CA cA w S hc hu L us := ⟨f, g, h⟩
theorem CA.ex {cA : Nat → ClassId} {w : mw} {S : Nat → Prop} {hc hu L : Nat} {us : List uU} (h : CA cA w S hc hu L us) : ∃ f g, CAx cA w S hc hu L us f g := h
theorem lt_of_get {α : Type} {l : List α} {i : Nat} {u : α} (h : l[i]? = some u) : i < l.length := (List.getElem?_eq_some_iff.mp h).1
theorem CAx.frame {cA : Nat → ClassId} {w w' : mw} {S : Nat → Prop} {hc hu L : Nat} {us : List uU} {f : Nat → Option Nat} {g : Nat → Nat} (h : CAx cA w S hc hu L us f g) (e : ∀ x, S x → w' x = w x) : CAx cA w' S hc hu L us f g := by
  obtain ⟨h1, h2, h3, h4, h5, h6, h7, h8, h9⟩ := h
  refine ⟨by rw [e _ h8]; exact h1, by rw [e _ h9]; exact h2, h3, h4, fun i hi => ?_, fun i u hi => ?_, h7, h8, h9⟩
  · obtain ⟨a, b, u, c⟩ := h5 i hi
    exact ⟨a, b, u, by rw [e _ b]; exact c⟩
  · rw [e _ (h5 i (Nat.lt_of_lt_of_le (lt_of_get hi) h3)).2.1]
    exact h6 i u hi
theorem CA.frame {cA : Nat → ClassId} {w w' : mw} {S : Nat → Prop} {hc hu L : Nat} {us : List uU} (h : CA cA w S hc hu L us) (e : ∀ x, S x → w' x = w x) : CA cA w' S hc hu L us := by
  obtain ⟨f, g, h⟩ := h.ex
  exact (h.frame e).ca
theorem CAx.pop {cA : Nat → ClassId} {w : mw} {S : Nat → Prop} {hc hu L : Nat} {u0 : uU} {us : List uU} {f : Nat → Option Nat} {g : Nat → Nat} (h : CAx cA w S hc hu L (u0 :: us) f g) : CAx cA (mw_up (mw_up w hc (ccell hu us.length)) hu (refs cA 3 L (rotf f 0 us.length))) S hc hu L us (rotf f 0 us.length) (rotf g 0 us.length) := by
  obtain ⟨h1, h2, h3, h4, h5, h6, h7, h8, h9⟩ := h
  have hl : us.length + 1 ≤ L := h3
  have hne : hc ≠ hu := mw_apart h1 h2 (by simp)
  have old : ∀ i, i < L → ∀ u, w (g i) = some (ucell u) → mw_up (mw_up w hc (ccell hu us.length)) hu (refs cA 3 L (rotf f 0 us.length)) (g i) = some (ucell u) := by
    intro i hi u hu
    rw [mw_ne (mw_apart hu h2 (by simp)), mw_ne (mw_apart hu h1 (by simp))]
    exact hu
  have ix : ∀ i, i < L → ∃ j, j < L ∧ rotf f 0 us.length i = f j ∧ rotf g 0 us.length i = g j := by
    intro i hi
    by_cases c1 : i < us.length
    · exact ⟨i + 1, by omega, by simp only [rotf]; rw [if_pos ⟨Nat.zero_le _, c1⟩], by simp only [rotf]; rw [if_pos ⟨Nat.zero_le _, c1⟩]⟩
    · by_cases c2 : i = us.length
      · exact ⟨0, by omega, by simp only [rotf]; rw [if_neg (by omega), if_pos c2], by simp only [rotf]; rw [if_neg (by omega), if_pos c2]⟩
      · exact ⟨i, hi, by simp only [rotf]; rw [if_neg (by omega), if_neg c2], by simp only [rotf]; rw [if_neg (by omega), if_neg c2]⟩
  refine ⟨by rw [mw_ne hne]; exact mw_self, mw_self, by omega, h4, fun i hi => ?_, fun i u hi => ?_, fun i j hi hj hij => ?_, h8, h9⟩
  · obtain ⟨j, hj, e1, e2⟩ := ix i hi
    obtain ⟨a, b, u, c⟩ := h5 j hj
    rw [e1, e2]
    exact ⟨a, b, u, old j hj u c⟩
  · have hil := lt_of_get hi
    have e2 : rotf g 0 us.length i = g (i + 1) := by simp only [rotf]; rw [if_pos ⟨Nat.zero_le _, hil⟩]
    rw [e2]
    exact old (i + 1) (by omega) u (h6 (i + 1) u (by rw [List.getElem?_cons_succ]; exact hi))
  · simp only [rotf] at hij
    by_cases a1 : i < us.length <;> by_cases a2 : i = us.length <;> by_cases b1 : j < us.length <;> by_cases b2 : j = us.length <;> simp only [a1, a2, b1, b2, Nat.zero_le, true_and, and_self, if_true, if_false, Nat.lt_irrefl] at hij <;> first | omega | (have := h7 _ _ (by omega) (by omega) hij; omega)
theorem CAx.add {cA : Nat → ClassId} {w : mw} {S : Nat → Prop} {hc hu L : Nat} {us : List uU} {f : Nat → Option Nat} {g : Nat → Nat} (h : CAx cA w S hc hu L us f g) (hl : us.length < L) (u : uU) : CAx cA (mw_up (mw_up w (g us.length) (ucell u)) hc (ccell hu (us.length + 1))) S hc hu L (us ++ [u]) f g := by
  obtain ⟨h1, h2, h3, h4, h5, h6, h7, h8, h9⟩ := h
  obtain ⟨a0, b0, v0, c0⟩ := h5 us.length hl
  have hne : hu ≠ hc := mw_apart h2 h1 (by simp)
  have n1 : g us.length ≠ hc := mw_apart c0 h1 (by simp)
  have n2 : hu ≠ g us.length := mw_apart h2 c0 (by simp)
  have old : ∀ i, i < L → i ≠ us.length → ∀ v, w (g i) = some (ucell v) → mw_up (mw_up w (g us.length) (ucell u)) hc (ccell hu (us.length + 1)) (g i) = some (ucell v) := by
    intro i hi hn v hv
    rw [mw_ne (mw_apart hv h1 (by simp)), mw_ne (fun z => hn (h7 i us.length hi hl z))]
    exact hv
  have new : mw_up (mw_up w (g us.length) (ucell u)) hc (ccell hu (us.length + 1)) (g us.length) = some (ucell u) := by
    rw [mw_ne n1]; exact mw_self
  refine ⟨by rw [List.length_append]; exact mw_self, by rw [mw_ne hne, mw_ne n2]; exact h2, by rw [List.length_append]; exact hl, h4, fun i hi => ?_, fun i v hi => ?_, h7, h8, h9⟩
  · obtain ⟨a, b, v, c⟩ := h5 i hi
    by_cases hn : i = us.length
    · subst hn; exact ⟨a, b, u, new⟩
    · exact ⟨a, b, v, old i hi hn v c⟩
  · by_cases hn : i < us.length
    · rw [List.getElem?_append_left hn] at hi
      exact old i (by omega) (by omega) v (h6 i v hi)
    · have hil := lt_of_get hi
      rw [List.length_append] at hil
      have hn : i = us.length := by simp at hil; omega
      subst hn
      simp at hi
      rw [← hi]
      exact new
/-- which cells the core may change -/
def PP (S : Nat → Prop) (h0 hf : Nat) : Nat → Prop := fun x => x = h0 ∨ x = hf ∨ S x
def stoO (κ : kS) : Bool × kS := match κ with
  | (fl, [], st, pw, pl) => (true, (fl, [], st, pw, pl))
  | (fl, u :: us, st, pw, pl) => if lnU u ≤ pl then (true, (apU u (lnU u) fl, us, st + 1, pw + lnU u, pl - lnU u)) else (false, (fl, u :: us, st, pw + pl, 0))
theorem stoO_f {fl : Nat → Int64} {u : uU} {us : List uU} {st pw pl : Nat} (h : pl < lnU u) : stoO (fl, u :: us, st, pw, pl) = (false, (fl, u :: us, st, pw + pl, 0)) := by simp only [stoO]; rw [if_neg (by omega)]
theorem stoO_t {fl : Nat → Int64} {u : uU} {us : List uU} {st pw pl : Nat} (h : lnU u ≤ pl) : stoO (fl, u :: us, st, pw, pl) = (true, (apU u (lnU u) fl, us, st + 1, pw + lnU u, pl - lnU u)) := by simp only [stoO]; rw [if_pos h]
def empA : List uU → (Nat → Int64) → Nat → Nat → Nat → Bool × kS
  | [], fl, st, pw, pl => (true, (fl, [], st, pw, pl))
  | u :: us, fl, st, pw, pl => if lnU u ≤ pl then empA us (apU u (lnU u) fl) (st + 1) (pw + lnU u) (pl - lnU u) else (false, (fl, u :: us, st, pw + pl, 0))
def cacA (L : Nat) (u : uU) (κ : kS) : kS := if L ≤ κ.2.1.length then (if (stoO κ).1 = true then ((stoO κ).2.1, (stoO κ).2.2.1 ++ [u], (stoO κ).2.2.2) else (stoO κ).2) else (κ.1, κ.2.1 ++ [u], κ.2.2)
def stoF (u : uU) (κ : kS) : kS := if lnU u ≤ κ.2.2.2.2 then (apU u (lnU u) κ.1, κ.2.1, κ.2.2.1 + 1, κ.2.2.2.1 + lnU u, κ.2.2.2.2 - lnU u) else (κ.1, κ.2.1, κ.2.2.1, κ.2.2.2.1 + κ.2.2.2.2, 0)
def empK (κ : kS) : Bool × kS := empA κ.2.1 κ.1 κ.2.2.1 κ.2.2.2.1 κ.2.2.2.2
def forA (u : uU) (κ : kS) : kS := if (empK κ).1 = true then stoF u (empK κ).2 else (empK κ).2
def sumH (fl : Nat → Int64) (us : List uU) (a : Nat) : Nat → Int64
  | 0 => 0
  | n + 1 => if hld fl us (a + n) = NN then sumH fl us a n else sumH fl us a n + hld fl us (a + n)
def misH (fl : Nat → Int64) (us : List uU) (u : uU) (a : Nat) : Nat → Int32
  | 0 => 0
  | n + 1 => if hld fl us (a + n) = wrd u (nI (a + n)) then misH fl us u a n else misH fl us u a n + 1
theorem DC.frame {cA : Nat → ClassId} {w w' : mw} {S : Nat → Prop} {h0 hf hc hu hq L ln : Nat} {tn : Int32} {tr : Int64} {κ : kS} (h : DC cA w S h0 hf hc hu hq L ln tn tr κ) (e : ∀ x, PP S h0 hf x → w' x = w x) : DC cA w' S h0 hf hc hu hq L ln tn tr κ := by
  obtain ⟨h1, h2, h3, h4, h5, h6⟩ := h
  exact ⟨by rw [e _ (Or.inl rfl)]; exact h1, by rw [e _ (Or.inr (Or.inl rfl))]; exact h2, h3.frame (fun x hx => e x (Or.inr (Or.inr hx))), h4, h5, h6⟩
theorem stoO_pl {κ : kS} : (stoO κ).2.2.2.2.2 ≤ κ.2.2.2.2 := by
  obtain ⟨fl, us, st, pw, pl⟩ := κ
  cases us with
  | nil => exact Nat.le_refl _
  | cons u us =>
    simp only [stoO]
    split
    · exact Nat.sub_le _ _
    · exact Nat.zero_le _
theorem stoO_us {κ : kS} (hb : (stoO κ).1 = true) (h0 : κ.2.1 ≠ []) : (stoO κ).2.2.1.length + 1 = κ.2.1.length := by
  obtain ⟨fl, us, st, pw, pl⟩ := κ
  cases us with
  | nil => exact absurd rfl h0
  | cons u us =>
    simp only [stoO] at hb ⊢
    split at hb
    · rename_i hh; simp [hh]
    · cases hb
theorem d_D_storeOldest_0 : decode b_D_storeOldest 0 = .ok (.aload_n 0, 1) := by decide +kernel
theorem d_D_storeOldest_1 : decode b_D_storeOldest 1 = .ok (.getfield 29, 3) := by decide +kernel
theorem d_D_storeOldest_4 : decode b_D_storeOldest 4 = .ok (.getfield 132, 3) := by decide +kernel
theorem d_D_storeOldest_7 : decode b_D_storeOldest 7 = .ok (.ifCond .ne 5, 3) := by decide +kernel
theorem d_D_storeOldest_10 : decode b_D_storeOldest 10 = .ok (.iconst 1, 1) := by decide +kernel
theorem d_D_storeOldest_11 : decode b_D_storeOldest 11 = .ok (.ireturn, 1) := by decide +kernel
theorem d_D_storeOldest_12 : decode b_D_storeOldest 12 = .ok (.aload_n 0, 1) := by decide +kernel
theorem d_D_storeOldest_13 : decode b_D_storeOldest 13 = .ok (.aload_n 0, 1) := by decide +kernel
theorem d_D_storeOldest_14 : decode b_D_storeOldest 14 = .ok (.getfield 29, 3) := by decide +kernel
theorem d_D_storeOldest_17 : decode b_D_storeOldest 17 = .ok (.getfield 135, 3) := by decide +kernel
theorem d_D_storeOldest_20 : decode b_D_storeOldest 20 = .ok (.iconst 0, 1) := by decide +kernel
theorem d_D_storeOldest_21 : decode b_D_storeOldest 21 = .ok (.aaload, 1) := by decide +kernel
theorem d_D_storeOldest_22 : decode b_D_storeOldest 22 = .ok (.invokevirtual 192, 3) := by decide +kernel
theorem d_D_storeOldest_25 : decode b_D_storeOldest 25 = .ok (.ifCond .ne 5, 3) := by decide +kernel
theorem d_D_storeOldest_28 : decode b_D_storeOldest 28 = .ok (.iconst 0, 1) := by decide +kernel
theorem d_D_storeOldest_29 : decode b_D_storeOldest 29 = .ok (.ireturn, 1) := by decide +kernel
theorem d_D_storeOldest_30 : decode b_D_storeOldest 30 = .ok (.aload_n 0, 1) := by decide +kernel
theorem d_D_storeOldest_31 : decode b_D_storeOldest 31 = .ok (.getfield 29, 3) := by decide +kernel
theorem d_D_storeOldest_34 : decode b_D_storeOldest 34 = .ok (.invokevirtual 196, 3) := by decide +kernel
theorem d_D_storeOldest_37 : decode b_D_storeOldest 37 = .ok (.iconst 1, 1) := by decide +kernel
theorem d_D_storeOldest_38 : decode b_D_storeOldest 38 = .ok (.ireturn, 1) := by decide +kernel
set_option maxHeartbeats 4000000 in
set_option maxRecDepth 100000 in
theorem m_D_storeOldest {l : Launch} {D : va_G} {cA : Nat → ClassId} {n0 : Nat} {w : mw} {S : Nat → Prop} {h0 hf hc hu hq L ln : Nat} {tn : Int32} {tr : Int64} {fl : Nat → Int64} {us : List uU} {st pw pl : Nat} (K : DC cA w S h0 hf hc hu hq L ln tn tr (fl, us, st, pw, pl)) (hpl : pl < 1000) :
    Mi l D cA n0 y_D_storeOldest c_D_storeOldest (rmd 2) [.ref h0] w (fun r w' => r = bI ((stoO (fl, us, st, pw, pl)).1 = true) ∧ DC cA w' S h0 hf hc hu hq L ln tn tr (stoO (fl, us, st, pw, pl)).2 ∧ FR w w' (PP S h0 hf)) := by
  refine mw_met (cc := b_D_storeOldest) (maxL := 1) (ret := (some .boolean)) (by decide) rfl (Nat.le_of_ble_eq_true rfl) ?_
  intro p e s m below meth c ls G hrt hlocks hname h hl
  have G : mw_G p m c b_D_storeOldest 1 s _ (c_D_storeOldest :: TB) R_D D cl (tys cA) n0 := G
  have hx := G.1.1
  have hb := G.1.2.1
  have hl : lv_has ls 1 [(0, .ref h0)] := hl
  cases us with
  | nil =>
    obtain ⟨hD, hF, ⟨f, g, hC, hU, hlen, hL, hg, hus, hinj, hSc, hSu⟩, hS0, hSf, hv⟩ := id K
    have hD : w h0 = some (dcell hf hc hq ln tn tr st pw pl) := hD
    have hC : w hc = some (ccell hu 0) := hC
    refine lv_aload_n hx hb d_D_storeOldest_0 rfl (lv_at hl 0 rfl) ?_
    refine mx_get G h hD rfl 1 (by decide) (tb_in in_D) (tb_c k_118) rfl rfl d_D_storeOldest_1 ?_
    refine mx_get G h hC rfl 1 (by decide) (tb_in in_C) (tb_c k_60) rfl rfl d_D_storeOldest_4 ?_
    refine lv_if_ne (tgt := 12) hx hb d_D_storeOldest_7 (by decide) (fun c_1 => ?_) (fun c_1 => ?_)
    · exact absurd rfl c_1
    · refine lv_iconst (v := 1) hx hb d_D_storeOldest_10 (by decide) ?_
      exact mx_retz G h hrt hlocks d_D_storeOldest_11 rfl (⟨rfl, K, FR.rf⟩)
  | cons u us =>
    obtain ⟨hD, hF, ⟨f, g, hC, hU, hlen, hL, hg, hus, hinj, hSc, hSu⟩, hS0, hSf, hv⟩ := id K
    have hD : w h0 = some (dcell hf hc hq ln tn tr st pw pl) := hD
    have hF : w hf = some (longs cA 24 fl) := hF
    have hC : w hc = some (ccell hu (us.length + 1)) := hC
    have hlen : us.length + 1 ≤ L := hlen
    have hX : CAx cA w S hc hu L (u :: us) f g := ⟨hC, hU, hlen, hL, hg, hus, hinj, hSc, hSu⟩
    have h9 : w (g 0) = some (ucell u) := hus 0 u rfl
    have hvu : vU u := hv u List.mem_cons_self
    refine lv_aload_n hx hb d_D_storeOldest_0 rfl (lv_at hl 0 rfl) ?_
    refine mx_get G h hD rfl 1 (by decide) (tb_in in_D) (tb_c k_118) rfl rfl d_D_storeOldest_1 ?_
    refine mx_get G h hC rfl 1 (by decide) (tb_in in_C) (tb_c k_60) rfl rfl d_D_storeOldest_4 ?_
    refine lv_if_ne (tgt := 12) hx hb d_D_storeOldest_7 (by decide) (fun c_2 => ?_) (fun c_2 => ?_)
    · refine lv_aload_n hx hb d_D_storeOldest_12 rfl (lv_at hl 0 rfl) ?_
      refine lv_aload_n hx hb d_D_storeOldest_13 rfl (lv_at hl 0 rfl) ?_
      refine mx_get G h hD rfl 1 (by decide) (tb_in in_D) (tb_c k_118) rfl rfl d_D_storeOldest_14 ?_
      refine mx_get G h hC rfl 0 (by decide) (tb_in in_C) (tb_c k_58) rfl rfl d_D_storeOldest_17 ?_
      refine lv_iconst (v := 0) hx hb d_D_storeOldest_20 (by decide) ?_
      refine ax_a G h 3 hU rfl 0 nI_0.symm (by omega) (by omega) ((hg 0 (by omega)).1) d_D_storeOldest_21 ?_
      refine mx_ci (cV (As := [.ref (g 0)]) (rest := []) G h (m_D_store hD hF h9 hvu hpl) k_208 k_210 ks_6 k_1 k_211 hd_D_store rfl rfl ⟨Nat.le_of_ble_eq_true rfl, Nat.le_of_ble_eq_true rfl⟩ hD rfl rfl hl.1 rfl (Nat.le_of_ble_eq_true rfl) d_D_storeOldest_22 ⟨Nat.le_of_ble_eq_true rfl, Nat.le_of_ble_eq_true rfl⟩) h (fun r_4 w_3 H locs h hcp => ?_)
      rcases Nat.lt_or_ge pl (lnU u) with hlt | hge
      · obtain ⟨er, ew⟩ := hcp.2 hlt
        subst er
        subst ew
        obtain ⟨w_5, ew_5⟩ : ∃ xx : mw, mw_up w h0 (dcell hf hc hq ln tn tr st (pw + pl) 0) = xx := ⟨_, rfl⟩
        rw [ew_5] at h
        have f_6 : w_5 h0 = some (dcell hf hc hq ln tn tr st (pw + pl) 0) := by rw [← ew_5]; exact mw_self
        refine lv_if_ne (tgt := 30) hx hb d_D_storeOldest_25 (by decide) (fun c_7 => ?_) (fun c_7 => ?_)
        · exact absurd rfl c_7
        · refine lv_iconst (v := 0) hx hb d_D_storeOldest_28 (by decide) ?_
          exact mx_retz G h hrt hlocks d_D_storeOldest_29 rfl (⟨by rw [stoO_f hlt]; rfl, by rw [stoO_f hlt, ← ew_5]; exact ⟨mw_self, by rw [mw_ne (mw_apart hF hD (by simp))]; exact hF, CA.frame hX.ca (fun x hx => mw_ne (fun z => hS0 (by rw [← z]; exact hx))), hS0, hSf, hv⟩, by rw [← ew_5]; exact FR.up (Or.inl rfl)⟩)
      · obtain ⟨er, ew⟩ := hcp.1 hge
        subst er
        subst ew
        have hX1 : CAx cA (mw_up (mw_up w h0 (dcell hf hc hq ln tn tr (st + 1) (pw + lnU u) (pl - lnU u))) hf (longs cA 24 (apU u (lnU u) fl))) S hc hu L (u :: us) f g := hX.frame (fun x hx => by rw [mw_ne (fun z => hSf (by rw [← z]; exact hx)), mw_ne (fun z => hS0 (by rw [← z]; exact hx))])
        have hD1 : (mw_up (mw_up w h0 (dcell hf hc hq ln tn tr (st + 1) (pw + lnU u) (pl - lnU u))) hf (longs cA 24 (apU u (lnU u) fl))) h0 = some (dcell hf hc hq ln tn tr (st + 1) (pw + lnU u) (pl - lnU u)) := by rw [mw_ne (mw_apart hD hF (by simp))]; exact mw_self
        have hF1 : (mw_up (mw_up w h0 (dcell hf hc hq ln tn tr (st + 1) (pw + lnU u) (pl - lnU u))) hf (longs cA 24 (apU u (lnU u) fl))) hf = some (longs cA 24 (apU u (lnU u) fl)) := mw_self
        have hFR1 : FR w (mw_up (mw_up w h0 (dcell hf hc hq ln tn tr (st + 1) (pw + lnU u) (pl - lnU u))) hf (longs cA 24 (apU u (lnU u) fl))) (PP S h0 hf) := (FR.up (Or.inl rfl)).tr (FR.up (Or.inr (Or.inl rfl)))
        generalize mw_up (mw_up w h0 (dcell hf hc hq ln tn tr (st + 1) (pw + lnU u) (pl - lnU u))) hf (longs cA 24 (apU u (lnU u) fl)) = w_8 at h hX1 hD1 hF1 hFR1
        refine lv_if_ne (tgt := 30) hx hb d_D_storeOldest_25 (by decide) (fun c_9 => ?_) (fun c_9 => ?_)
        · refine lv_aload_n hx hb d_D_storeOldest_30 rfl (lv_at hl 0 rfl) ?_
          refine mx_get G h hD1 rfl 1 (by decide) (tb_in in_D) (tb_c k_118) rfl rfl d_D_storeOldest_31 ?_
          refine mx_cv (cV (As := []) (rest := []) G h (m_C_removeOldest (n := us.length + 1) hX1.1 hX1.2.1 hX1.2.2.2.1 (Nat.succ_pos _) hX1.2.2.1 (fun i hi => ⟨g i, (hX1.2.2.2.2.1 i hi).2.2.choose, (hX1.2.2.2.2.1 i hi).1, (hX1.2.2.2.2.1 i hi).2.2.choose_spec⟩)) k_212 k_213 k_214 k_2 k_215 hd_C_removeOldest rfl rfl ⟨Nat.le_of_ble_eq_true rfl, Nat.le_of_ble_eq_true rfl⟩ hX1.1 rfl rfl hl.1 rfl (Nat.le_of_ble_eq_true rfl) d_D_storeOldest_34 ⟨Nat.le_of_ble_eq_true rfl, Nat.le_of_ble_eq_true rfl⟩) h (fun w_10 H locs h hcp => ?_)
          subst hcp
          refine lv_iconst (v := 1) hx hb d_D_storeOldest_37 (by decide) ?_
          exact mx_retz G h hrt hlocks d_D_storeOldest_38 rfl (⟨by rw [stoO_t hge]; rfl, by rw [stoO_t hge]; exact ⟨by rw [mw_ne (mw_apart hD1 hX1.2.1 (by simp)), mw_ne (mw_apart hD1 hX1.1 (by simp))]; exact hD1, by rw [mw_ne (mw_apart hF1 hX1.2.1 (by simp)), mw_ne (mw_apart hF1 hX1.1 (by simp))]; exact hF1, hX1.pop.ca, hS0, hSf, fun v hv1 => hv v (List.mem_cons_of_mem _ hv1)⟩, hFR1.tr ((FR.up (Or.inr (Or.inr hSc))).tr (FR.up (Or.inr (Or.inr hSu))))⟩)
        · exact absurd c_9 (by decide)
    · exact absurd c_2 (nI_ne0 (Nat.succ_pos _) (by omega))
end
section
theorem d_D_emptyCache_0 : decode b_D_emptyCache 0 = .ok (.aload_n 0, 1) := by decide +kernel
theorem d_D_emptyCache_1 : decode b_D_emptyCache 1 = .ok (.getfield 29, 3) := by decide +kernel
theorem d_D_emptyCache_4 : decode b_D_emptyCache 4 = .ok (.getfield 132, 3) := by decide +kernel
theorem d_D_emptyCache_7 : decode b_D_emptyCache 7 = .ok (.istore_n 1, 1) := by decide +kernel
theorem d_D_emptyCache_8 : decode b_D_emptyCache 8 = .ok (.iconst 0, 1) := by decide +kernel
theorem d_D_emptyCache_9 : decode b_D_emptyCache 9 = .ok (.istore_n 2, 1) := by decide +kernel
theorem d_D_emptyCache_10 : decode b_D_emptyCache 10 = .ok (.iload_n 2, 1) := by decide +kernel
theorem d_D_emptyCache_11 : decode b_D_emptyCache 11 = .ok (.iload_n 1, 1) := by decide +kernel
theorem d_D_emptyCache_12 : decode b_D_emptyCache 12 = .ok (.if_icmp .ge 18, 3) := by decide +kernel
theorem d_D_emptyCache_15 : decode b_D_emptyCache 15 = .ok (.aload_n 0, 1) := by decide +kernel
theorem d_D_emptyCache_16 : decode b_D_emptyCache 16 = .ok (.invokevirtual 183, 3) := by decide +kernel
theorem d_D_emptyCache_19 : decode b_D_emptyCache 19 = .ok (.ifCond .ne 5, 3) := by decide +kernel
theorem d_D_emptyCache_22 : decode b_D_emptyCache 22 = .ok (.iconst 0, 1) := by decide +kernel
theorem d_D_emptyCache_23 : decode b_D_emptyCache 23 = .ok (.ireturn, 1) := by decide +kernel
theorem d_D_emptyCache_24 : decode b_D_emptyCache 24 = .ok (.iinc 2 1, 3) := by decide +kernel
theorem d_D_emptyCache_27 : decode b_D_emptyCache 27 = .ok (.goto (-17), 3) := by decide +kernel
theorem d_D_emptyCache_30 : decode b_D_emptyCache 30 = .ok (.iconst 1, 1) := by decide +kernel
theorem d_D_emptyCache_31 : decode b_D_emptyCache 31 = .ok (.ireturn, 1) := by decide +kernel
theorem d_D_cacheUnit_0 : decode b_D_cacheUnit 0 = .ok (.aload_n 0, 1) := by decide +kernel
theorem d_D_cacheUnit_1 : decode b_D_cacheUnit 1 = .ok (.getfield 29, 3) := by decide +kernel
theorem d_D_cacheUnit_4 : decode b_D_cacheUnit 4 = .ok (.invokevirtual 179, 3) := by decide +kernel
theorem d_D_cacheUnit_7 : decode b_D_cacheUnit 7 = .ok (.ifCond .eq 11, 3) := by decide +kernel
theorem d_D_cacheUnit_10 : decode b_D_cacheUnit 10 = .ok (.aload_n 0, 1) := by decide +kernel
theorem d_D_cacheUnit_11 : decode b_D_cacheUnit 11 = .ok (.invokevirtual 183, 3) := by decide +kernel
theorem d_D_cacheUnit_14 : decode b_D_cacheUnit 14 = .ok (.ifCond .ne 4, 3) := by decide +kernel
theorem d_D_cacheUnit_17 : decode b_D_cacheUnit 17 = .ok (.return_, 1) := by decide +kernel
theorem d_D_cacheUnit_18 : decode b_D_cacheUnit 18 = .ok (.aload_n 0, 1) := by decide +kernel
theorem d_D_cacheUnit_19 : decode b_D_cacheUnit 19 = .ok (.getfield 29, 3) := by decide +kernel
theorem d_D_cacheUnit_22 : decode b_D_cacheUnit 22 = .ok (.aload_n 1, 1) := by decide +kernel
theorem d_D_cacheUnit_23 : decode b_D_cacheUnit 23 = .ok (.invokevirtual 186, 3) := by decide +kernel
theorem d_D_cacheUnit_26 : decode b_D_cacheUnit 26 = .ok (.return_, 1) := by decide +kernel
theorem d_D_force_0 : decode b_D_force 0 = .ok (.aload_n 0, 1) := by decide +kernel
theorem d_D_force_1 : decode b_D_force 1 = .ok (.invokevirtual 189, 3) := by decide +kernel
theorem d_D_force_4 : decode b_D_force 4 = .ok (.ifCond .eq 9, 3) := by decide +kernel
theorem d_D_force_7 : decode b_D_force 7 = .ok (.aload_n 0, 1) := by decide +kernel
theorem d_D_force_8 : decode b_D_force 8 = .ok (.aload_n 1, 1) := by decide +kernel
theorem d_D_force_9 : decode b_D_force 9 = .ok (.invokevirtual 192, 3) := by decide +kernel
theorem d_D_force_12 : decode b_D_force 12 = .ok (.pop, 1) := by decide +kernel
theorem d_D_force_13 : decode b_D_force 13 = .ok (.return_, 1) := by decide +kernel
theorem d_D_flush_0 : decode b_D_flush 0 = .ok (.aload_n 0, 1) := by decide +kernel
theorem d_D_flush_1 : decode b_D_flush 1 = .ok (.getfield 29, 3) := by decide +kernel
theorem d_D_flush_4 : decode b_D_flush 4 = .ok (.getfield 132, 3) := by decide +kernel
theorem d_D_flush_7 : decode b_D_flush 7 = .ok (.istore_n 1, 1) := by decide +kernel
theorem d_D_flush_8 : decode b_D_flush 8 = .ok (.aload_n 0, 1) := by decide +kernel
theorem d_D_flush_9 : decode b_D_flush 9 = .ok (.invokevirtual 189, 3) := by decide +kernel
theorem d_D_flush_12 : decode b_D_flush 12 = .ok (.pop, 1) := by decide +kernel
theorem d_D_flush_13 : decode b_D_flush 13 = .ok (.iload_n 1, 1) := by decide +kernel
theorem d_D_flush_14 : decode b_D_flush 14 = .ok (.ireturn, 1) := by decide +kernel
theorem d_D_sumOfHeld_0 : decode b_D_sumOfHeld 0 = .ok (.lconst 0, 1) := by decide +kernel
theorem d_D_sumOfHeld_1 : decode b_D_sumOfHeld 1 = .ok (.lstore_n 2, 1) := by decide +kernel
theorem d_D_sumOfHeld_2 : decode b_D_sumOfHeld 2 = .ok (.iconst 0, 1) := by decide +kernel
theorem d_D_sumOfHeld_3 : decode b_D_sumOfHeld 3 = .ok (.istore 4, 2) := by decide +kernel
theorem d_D_sumOfHeld_5 : decode b_D_sumOfHeld 5 = .ok (.iload 4, 2) := by decide +kernel
theorem d_D_sumOfHeld_7 : decode b_D_sumOfHeld 7 = .ok (.aload_n 1, 1) := by decide +kernel
theorem d_D_sumOfHeld_8 : decode b_D_sumOfHeld 8 = .ok (.getfield 142, 3) := by decide +kernel
theorem d_D_sumOfHeld_11 : decode b_D_sumOfHeld 11 = .ok (.if_icmp .ge 36, 3) := by decide +kernel
theorem d_D_sumOfHeld_14 : decode b_D_sumOfHeld 14 = .ok (.aload_n 0, 1) := by decide +kernel
theorem d_D_sumOfHeld_15 : decode b_D_sumOfHeld 15 = .ok (.aload_n 1, 1) := by decide +kernel
theorem d_D_sumOfHeld_16 : decode b_D_sumOfHeld 16 = .ok (.getfield 139, 3) := by decide +kernel
theorem d_D_sumOfHeld_19 : decode b_D_sumOfHeld 19 = .ok (.iload 4, 2) := by decide +kernel
theorem d_D_sumOfHeld_21 : decode b_D_sumOfHeld 21 = .ok (.iadd, 1) := by decide +kernel
theorem d_D_sumOfHeld_22 : decode b_D_sumOfHeld 22 = .ok (.invokevirtual 125, 3) := by decide +kernel
theorem d_D_sumOfHeld_25 : decode b_D_sumOfHeld 25 = .ok (.lstore 5, 2) := by decide +kernel
theorem d_D_sumOfHeld_27 : decode b_D_sumOfHeld 27 = .ok (.lload 5, 2) := by decide +kernel
theorem d_D_sumOfHeld_29 : decode b_D_sumOfHeld 29 = .ok (.ldc2_w 13, 3) := by decide +kernel
theorem d_D_sumOfHeld_32 : decode b_D_sumOfHeld 32 = .ok (.lcmp, 1) := by decide +kernel
theorem d_D_sumOfHeld_33 : decode b_D_sumOfHeld 33 = .ok (.ifCond .eq 8, 3) := by decide +kernel
theorem d_D_sumOfHeld_36 : decode b_D_sumOfHeld 36 = .ok (.lload_n 2, 1) := by decide +kernel
theorem d_D_sumOfHeld_37 : decode b_D_sumOfHeld 37 = .ok (.lload 5, 2) := by decide +kernel
theorem d_D_sumOfHeld_39 : decode b_D_sumOfHeld 39 = .ok (.ladd, 1) := by decide +kernel
theorem d_D_sumOfHeld_40 : decode b_D_sumOfHeld 40 = .ok (.lstore_n 2, 1) := by decide +kernel
theorem d_D_sumOfHeld_41 : decode b_D_sumOfHeld 41 = .ok (.iinc 4 1, 3) := by decide +kernel
theorem d_D_sumOfHeld_44 : decode b_D_sumOfHeld 44 = .ok (.goto (-39), 3) := by decide +kernel
theorem d_D_sumOfHeld_47 : decode b_D_sumOfHeld 47 = .ok (.lload_n 2, 1) := by decide +kernel
theorem d_D_sumOfHeld_48 : decode b_D_sumOfHeld 48 = .ok (.lreturn, 1) := by decide +kernel
theorem d_D_mismatches_0 : decode b_D_mismatches 0 = .ok (.iconst 0, 1) := by decide +kernel
theorem d_D_mismatches_1 : decode b_D_mismatches 1 = .ok (.istore_n 2, 1) := by decide +kernel
theorem d_D_mismatches_2 : decode b_D_mismatches 2 = .ok (.iconst 0, 1) := by decide +kernel
theorem d_D_mismatches_3 : decode b_D_mismatches 3 = .ok (.istore_n 3, 1) := by decide +kernel
theorem d_D_mismatches_4 : decode b_D_mismatches 4 = .ok (.iload_n 3, 1) := by decide +kernel
theorem d_D_mismatches_5 : decode b_D_mismatches 5 = .ok (.aload_n 1, 1) := by decide +kernel
theorem d_D_mismatches_6 : decode b_D_mismatches 6 = .ok (.getfield 142, 3) := by decide +kernel
theorem d_D_mismatches_9 : decode b_D_mismatches 9 = .ok (.if_icmp .ge 36, 3) := by decide +kernel
theorem d_D_mismatches_12 : decode b_D_mismatches 12 = .ok (.aload_n 0, 1) := by decide +kernel
theorem d_D_mismatches_13 : decode b_D_mismatches 13 = .ok (.aload_n 1, 1) := by decide +kernel
theorem d_D_mismatches_14 : decode b_D_mismatches 14 = .ok (.getfield 139, 3) := by decide +kernel
theorem d_D_mismatches_17 : decode b_D_mismatches 17 = .ok (.iload_n 3, 1) := by decide +kernel
theorem d_D_mismatches_18 : decode b_D_mismatches 18 = .ok (.iadd, 1) := by decide +kernel
theorem d_D_mismatches_19 : decode b_D_mismatches 19 = .ok (.invokevirtual 125, 3) := by decide +kernel
theorem d_D_mismatches_22 : decode b_D_mismatches 22 = .ok (.aload_n 1, 1) := by decide +kernel
theorem d_D_mismatches_23 : decode b_D_mismatches 23 = .ok (.aload_n 1, 1) := by decide +kernel
theorem d_D_mismatches_24 : decode b_D_mismatches 24 = .ok (.getfield 139, 3) := by decide +kernel
theorem d_D_mismatches_27 : decode b_D_mismatches 27 = .ok (.iload_n 3, 1) := by decide +kernel
theorem d_D_mismatches_28 : decode b_D_mismatches 28 = .ok (.iadd, 1) := by decide +kernel
theorem d_D_mismatches_29 : decode b_D_mismatches 29 = .ok (.invokevirtual 176, 3) := by decide +kernel
theorem d_D_mismatches_32 : decode b_D_mismatches 32 = .ok (.lcmp, 1) := by decide +kernel
theorem d_D_mismatches_33 : decode b_D_mismatches 33 = .ok (.ifCond .eq 6, 3) := by decide +kernel
theorem d_D_mismatches_36 : decode b_D_mismatches 36 = .ok (.iinc 2 1, 3) := by decide +kernel
theorem d_D_mismatches_39 : decode b_D_mismatches 39 = .ok (.iinc 3 1, 3) := by decide +kernel
theorem d_D_mismatches_42 : decode b_D_mismatches 42 = .ok (.goto (-38), 3) := by decide +kernel
theorem d_D_mismatches_45 : decode b_D_mismatches 45 = .ok (.iload_n 2, 1) := by decide +kernel
theorem d_D_mismatches_46 : decode b_D_mismatches 46 = .ok (.ireturn, 1) := by decide +kernel
theorem empA_f {fl : Nat → Int64} {u : uU} {us : List uU} {st pw pl : Nat} (h : pl < lnU u) : empA (u :: us) fl st pw pl = (false, (fl, u :: us, st, pw + pl, 0)) := by simp only [empA]; rw [if_neg (by omega)]
theorem empA_t {fl : Nat → Int64} {u : uU} {us : List uU} {st pw pl : Nat} (h : lnU u ≤ pl) : empA (u :: us) fl st pw pl = empA us (apU u (lnU u) fl) (st + 1) (pw + lnU u) (pl - lnU u) := by simp only [empA]; rw [if_pos h]
theorem empA_pl : ∀ {us : List uU} {fl : Nat → Int64} {st pw pl : Nat}, (empA us fl st pw pl).2.2.2.2.2 ≤ pl
  | [], _, _, _, _ => Nat.le_refl _
  | u :: us, fl, st, pw, pl => by
    rcases Nat.lt_or_ge pl (lnU u) with h | h
    · rw [empA_f h]; exact Nat.zero_le _
    · rw [empA_t h]; exact Nat.le_trans empA_pl (Nat.sub_le _ _)
set_option maxHeartbeats 4000000 in
set_option maxRecDepth 100000 in
theorem m_D_emptyCache {l : Launch} {D : va_G} {cA : Nat → ClassId} {n0 : Nat} {w : mw} {S : Nat → Prop} {h0 hf hc hu hq L ln : Nat} {tn : Int32} {tr : Int64} {fl : Nat → Int64} {us : List uU} {st pw pl : Nat} (K : DC cA w S h0 hf hc hu hq L ln tn tr (fl, us, st, pw, pl)) (hpl : pl < 1000) :
    Mi l D cA n0 y_D_emptyCache c_D_emptyCache (rmd 3) [.ref h0] w (fun r w' => r = bI ((empK (fl, us, st, pw, pl)).1 = true) ∧ DC cA w' S h0 hf hc hu hq L ln tn tr (empK (fl, us, st, pw, pl)).2 ∧ FR w w' (PP S h0 hf)) := by
  refine mw_met (cc := b_D_emptyCache) (maxL := 3) (ret := (some .boolean)) (by decide) rfl (Nat.le_of_ble_eq_true rfl) ?_
  intro p e s m below meth c ls G hrt hlocks hname h hl
  have G : mw_G p m c b_D_emptyCache 3 s _ (c_D_emptyCache :: TB) R_D D cl (tys cA) n0 := G
  have hx := G.1.1
  have hb := G.1.2.1
  have hl : lv_has ls 3 [(0, .ref h0)] := hl
  obtain ⟨hD, hF, ⟨f, g, hC, hU, hlen, hL, hg, hus, hinj, hSc, hSu⟩, hS0, hSf, hv⟩ := id K
  have hD : w h0 = some (dcell hf hc hq ln tn tr st pw pl) := hD
  have hF : w hf = some (longs cA 24 fl) := hF
  have hC : w hc = some (ccell hu us.length) := hC
  have hlen : us.length ≤ L := hlen
  refine lv_aload_n hx hb d_D_emptyCache_0 rfl (lv_at hl 0 rfl) ?_
  refine mx_get G h hD rfl 1 (by decide) (tb_in in_D) (tb_c k_118) rfl rfl d_D_emptyCache_1 ?_
  refine mx_get G h hC rfl 1 (by decide) (tb_in in_C) (tb_c k_60) rfl rfl d_D_emptyCache_4 ?_
  refine lv_istore_n (lv' := [(1, .int (nI us.length)), (0, .ref h0)]) hx hb d_D_emptyCache_7 rfl hl (by decide) rfl (fun ls hl => ?_)
  refine lv_iconst (v := 0) hx hb d_D_emptyCache_8 (by decide) ?_
  refine lv_istore_n (lv' := [(2, .int 0), (1, .int (nI us.length)), (0, .ref h0)]) hx hb d_D_emptyCache_9 rfl hl (by decide) rfl (fun ls hl => ?_)
  have loop : ∀ (vs : List uU) (i : Nat) (gl : Nat → Int64) (s1 p1 l1 : Nat) (v : mw), i + vs.length = us.length → l1 < 1000 → DC cA v S h0 hf hc hu hq L ln tn tr (gl, vs, s1, p1, l1) → FR w v (PP S h0 hf) → empA vs gl s1 p1 l1 = empA us fl st pw pl → ∀ (H : Heap) (locs : List Loc) (ls : Array Slot), mw_H n0 D cl s v H locs → lv_has ls 3 [(2, .int (nI i)), (1, .int (nI us.length)), (0, .ref h0)] → W p l e (rmd 3) s m ([.ref h0] : List Value).toArray below meth c H locs 0 0 (MQ below (mw_Qi n0 D cl (fun r w' => r = bI ((empK (fl, us, st, pw, pl)).1 = true) ∧ DC cA w' S h0 hf hc hu hq L ln tn tr (empK (fl, us, st, pw, pl)).2 ∧ FR w w' (PP S h0 hf))) ([.ref h0] : List Value).toArray s 0 0 (mw_A n0)) (F0 m 10 ls []) := by
    intro vs
    induction vs with
    | nil =>
      intro i gl s1 p1 l1 v hi hl1 Kv hfr he H locs ls h hl
      have hi : i = us.length := hi
      refine lv_iload_n hx hb d_D_emptyCache_10 rfl (lv_at hl 0 rfl) ?_
      refine lv_iload_n hx hb d_D_emptyCache_11 rfl (lv_at hl 1 rfl) ?_
      refine lv_icmp_ge (tgt := 30) hx hb d_D_emptyCache_12 (by decide) (fun c_1 => ?_) (fun c_1 => ?_)
      · refine lv_iconst (v := 1) hx hb d_D_emptyCache_30 (by decide) ?_
        exact mx_retz G h hrt hlocks d_D_emptyCache_31 rfl (⟨by show 1 = bI ((empA us fl st pw pl).1 = true); rw [← he]; rfl, by show DC cA v S h0 hf hc hu hq L ln tn tr (empA us fl st pw pl).2; rw [← he]; exact Kv, hfr⟩)
      · exact absurd (by rw [hi]; exact Int32.le_refl _) c_1
    | cons u vs ih =>
      intro i gl s1 p1 l1 v hi hl1 Kv hfr he H locs ls h hl
      have hi : i + (vs.length + 1) = us.length := hi
      have hD1 := Kv.1
      refine lv_iload_n hx hb d_D_emptyCache_10 rfl (lv_at hl 0 rfl) ?_
      refine lv_iload_n hx hb d_D_emptyCache_11 rfl (lv_at hl 1 rfl) ?_
      refine lv_icmp_ge (tgt := 30) hx hb d_D_emptyCache_12 (by decide) (fun c_2 => ?_) (fun c_2 => ?_)
      · exact absurd ((nI_leI (by omega) (by omega)).mp c_2) (by omega)
      · refine lv_aload_n hx hb d_D_emptyCache_15 rfl (lv_at hl 2 rfl) ?_
        refine mx_ci (cV (As := []) (rest := []) G h (m_D_storeOldest Kv hl1) k_204 k_206 ks_5 k_1 k_207 hd_D_storeOldest rfl rfl ⟨Nat.le_of_ble_eq_true rfl, Nat.le_of_ble_eq_true rfl⟩ hD1 rfl rfl hl.1 rfl (Nat.le_of_ble_eq_true rfl) d_D_emptyCache_16 ⟨Nat.le_of_ble_eq_true rfl, Nat.le_of_ble_eq_true rfl⟩) h (fun r_4 w_3 H locs h hcp => ?_)
        obtain ⟨er, K1, hf1⟩ := hcp
        rcases Nat.lt_or_ge l1 (lnU u) with hlt | hge
        · rw [stoO_f hlt] at er K1
          have er : r_4 = 0 := er
          subst er
          refine lv_if_ne (tgt := 24) hx hb d_D_emptyCache_19 (by decide) (fun c_5 => ?_) (fun c_5 => ?_)
          · exact absurd rfl c_5
          · refine lv_iconst (v := 0) hx hb d_D_emptyCache_22 (by decide) ?_
            exact mx_retz G h hrt hlocks d_D_emptyCache_23 rfl (⟨by show 0 = bI ((empA us fl st pw pl).1 = true); rw [← he, empA_f hlt]; rfl, by show DC cA _ S h0 hf hc hu hq L ln tn tr (empA us fl st pw pl).2; rw [← he, empA_f hlt]; exact K1, hfr.tr hf1⟩)
        · rw [stoO_t hge] at er K1
          have er : r_4 = 1 := er
          subst er
          refine lv_if_ne (tgt := 24) hx hb d_D_emptyCache_19 (by decide) (fun c_6 => ?_) (fun c_6 => ?_)
          · refine lv_iinc (v := (nI i) + 1) (lv' := [(2, .int ((nI i) + 1)), (1, .int (nI us.length)), (0, .ref h0)]) hx hb d_D_emptyCache_24 hl (k := 0) rfl rfl (by decide) rfl (fun ls hl => ?_)
            refine lv_goto (tgt := 10) hx hb d_D_emptyCache_27 (by decide) ?_
            rw [nI_1] at hl
            exact ih (i + 1) _ _ _ _ _ (by omega) (by omega) K1 (hfr.tr hf1) (by rw [← he, empA_t hge]) H locs ls h (lv_sub hl [0, 1, 2] rfl)
          · exact absurd c_6 (by decide)
  exact loop us 0 fl st pw pl w (by omega) hpl K FR.rf rfl _ _ ls h (lv_sub hl [0, 1, 2] rfl)
set_option maxHeartbeats 4000000 in
set_option maxRecDepth 100000 in
theorem m_D_cacheUnit {l : Launch} {D : va_G} {cA : Nat → ClassId} {n0 : Nat} {w : mw} {S : Nat → Prop} {h0 hf hc hu hq L ln : Nat} {tn : Int32} {tr : Int64} {fl : Nat → Int64} {us : List uU} {st pw pl : Nat} (K : DC cA w S h0 hf hc hu hq L ln tn tr (fl, us, st, pw, pl)) (hpl : pl < 1000) (hL1 : 1 ≤ L) {a : Nat} {u : uU} (ha : w a = some (ucell u)) (hV : vU u) (hna : ¬ PP S h0 hf a) :
    Mv l D cA n0 y_D_cacheUnit c_D_cacheUnit (rmd 3) [.ref h0, .ref a] w (fun w' => DC cA w' S h0 hf hc hu hq L ln tn tr (cacA L u (fl, us, st, pw, pl)) ∧ FR w w' (PP S h0 hf)) := by
  refine mw_met (cc := b_D_cacheUnit) (maxL := 2) (ret := (none)) (by decide) rfl (Nat.le_of_ble_eq_true rfl) ?_
  intro p e s m below meth c ls G hrt hlocks hname h hl
  have G : mw_G p m c b_D_cacheUnit 2 s _ (c_D_cacheUnit :: TB) R_D D cl (tys cA) n0 := G
  have hx := G.1.1
  have hb := G.1.2.1
  have hl : lv_has ls 2 [(0, .ref h0), (1, .ref a)] := hl
  obtain ⟨hD, hF, ⟨f, g, hC, hU, hlen, hL, hg, hus, hinj, hSc, hSu⟩, hS0, hSf, hv⟩ := id K
  have hD : w h0 = some (dcell hf hc hq ln tn tr st pw pl) := hD
  have hF : w hf = some (longs cA 24 fl) := hF
  have hC : w hc = some (ccell hu us.length) := hC
  have hlen : us.length ≤ L := hlen
  have add : ∀ (κ : kS) (v : mw), κ.2.1.length < L → DC cA v S h0 hf hc hu hq L ln tn tr κ → FR w v (PP S h0 hf) → cacA L u (fl, us, st, pw, pl) = (κ.1, κ.2.1 ++ [u], κ.2.2) → ∀ (H : Heap) (locs : List Loc) (ls : Array Slot), mw_H n0 D cl s v H locs → lv_has ls 2 [(0, .ref h0), (1, .ref a)] → W p l e (rmd 3) s m ([.ref h0, .ref a] : List Value).toArray below meth c H locs 0 0 (MQ below (mw_Qv n0 D cl (fun w' => DC cA w' S h0 hf hc hu hq L ln tn tr (cacA L u (fl, us, st, pw, pl)) ∧ FR w w' (PP S h0 hf))) ([.ref h0, .ref a] : List Value).toArray s 0 0 (mw_A n0)) (F0 m 18 ls []) := by
    intro κ v hlt Kv hfr he H locs ls h hl
    obtain ⟨hD1, hF1, ⟨f1, g1, hX1⟩, -, -, hv1⟩ := id Kv
    have hX1 : CAx cA v S hc hu L κ.2.1 f1 g1 := hX1
    have ha1 : v a = some (ucell u) := by rw [hfr a hna]; exact ha
    refine lv_aload_n hx hb d_D_cacheUnit_18 rfl (lv_at hl 0 rfl) ?_
    refine mx_get G h hD1 rfl 1 (by decide) (tb_in in_D) (tb_c k_118) rfl rfl d_D_cacheUnit_19 ?_
    refine lv_aload_n hx hb d_D_cacheUnit_22 rfl (lv_at hl 1 rfl) ?_
    refine mx_cv (cV (As := [.ref a]) (rest := []) G h (m_C_add hX1.1 hX1.2.1 hX1.2.2.2.1 hlt (hX1.2.2.2.2.1 _ hlt).1 ha1 (hX1.2.2.2.2.1 _ hlt).2.2.choose_spec hV.2.2.2.2.2) k_216 k_217 k_218 k_2 k_219 hd_C_add rfl rfl ⟨Nat.le_of_ble_eq_true rfl, Nat.le_of_ble_eq_true rfl⟩ hX1.1 rfl rfl hl.1 rfl (Nat.le_of_ble_eq_true rfl) d_D_cacheUnit_23 ⟨Nat.le_of_ble_eq_true rfl, Nat.le_of_ble_eq_true rfl⟩) h (fun w_1 H locs h hcp => ?_)
    subst hcp
    have hSg := (hX1.2.2.2.2.1 _ hlt).2.1
    exact mx_retv G h hrt hlocks d_D_cacheUnit_26 (⟨by rw [he]; exact ⟨by rw [mw_ne (fun z => hS0 (by rw [z]; exact hSc)), mw_ne (fun z => hS0 (by rw [z]; exact hSg))]; exact hD1, by rw [mw_ne (fun z => hSf (by rw [z]; exact hSc)), mw_ne (fun z => hSf (by rw [z]; exact hSg))]; exact hF1, (hX1.add hlt u).ca, hS0, hSf, fun y hy => (List.mem_append.mp hy).elim (hv1 y) (fun z => by rw [List.mem_singleton.mp z]; exact hV)⟩, hfr.tr ((FR.up (Or.inr (Or.inr hSg))).tr (FR.up (Or.inr (Or.inr hSc))))⟩)
  refine lv_aload_n hx hb d_D_cacheUnit_0 rfl (lv_at hl 0 rfl) ?_
  refine mx_get G h hD rfl 1 (by decide) (tb_in in_D) (tb_c k_118) rfl rfl d_D_cacheUnit_1 ?_
  refine mx_ci (cV (As := []) (rest := []) G h (m_C_isFull hC hU hL (by omega)) k_200 k_201 k_202 k_2 k_203 hd_C_isFull rfl rfl ⟨Nat.le_of_ble_eq_true rfl, Nat.le_of_ble_eq_true rfl⟩ hC rfl rfl hl.1 rfl (Nat.le_of_ble_eq_true rfl) d_D_cacheUnit_4 ⟨Nat.le_of_ble_eq_true rfl, Nat.le_of_ble_eq_true rfl⟩) h (fun r_3 w_2 H locs h hcp => ?_)
  obtain ⟨er_4, ew_5⟩ := hcp
  subst er_4
  rw [ew_5] at h
  refine lv_if_eq (tgt := 18) hx hb d_D_cacheUnit_7 (by decide) (fun c_6 => ?_) (fun c_6 => ?_)
  · exact add (fl, us, st, pw, pl) w (Nat.not_le.mp (bI_0 c_6)) K FR.rf (by simp only [cacA]; rw [if_neg (bI_0 c_6)]) H locs ls h hl
  · refine lv_aload_n hx hb d_D_cacheUnit_10 rfl (lv_at hl 0 rfl) ?_
    refine mx_ci (cV (As := []) (rest := []) G h (m_D_storeOldest K hpl) k_204 k_206 ks_5 k_1 k_207 hd_D_storeOldest rfl rfl ⟨Nat.le_of_ble_eq_true rfl, Nat.le_of_ble_eq_true rfl⟩ hD rfl rfl hl.1 rfl (Nat.le_of_ble_eq_true rfl) d_D_cacheUnit_11 ⟨Nat.le_of_ble_eq_true rfl, Nat.le_of_ble_eq_true rfl⟩) h (fun r_8 w_7 H locs h hcp => ?_)
    obtain ⟨er, K1, hf1⟩ := hcp
    subst er
    refine lv_if_ne (tgt := 18) hx hb d_D_cacheUnit_14 (by decide) (fun c_9 => ?_) (fun c_9 => ?_)
    · have hb1 := bI_n c_9
      have hl9 : (stoO (fl, us, st, pw, pl)).2.2.1.length + 1 = us.length := stoO_us hb1 (fun z => by have z : us = [] := z; rw [z] at hlen; have := bI_n c_6; rw [z] at this; simp at this; omega)
      exact add _ _ (by omega) K1 hf1 (by simp only [cacA]; rw [if_pos (bI_n c_6), if_pos hb1]) H locs ls h hl
    · exact mx_retv G h hrt hlocks d_D_cacheUnit_17 (⟨by simp only [cacA]; rw [if_pos (bI_n c_6), if_neg (bI_0 c_9)]; exact K1, hf1⟩)
set_option maxHeartbeats 4000000 in
set_option maxRecDepth 100000 in
theorem m_D_force {l : Launch} {D : va_G} {cA : Nat → ClassId} {n0 : Nat} {w : mw} {S : Nat → Prop} {h0 hf hc hu hq L ln : Nat} {tn : Int32} {tr : Int64} {fl : Nat → Int64} {us : List uU} {st pw pl : Nat} (K : DC cA w S h0 hf hc hu hq L ln tn tr (fl, us, st, pw, pl)) (hpl : pl < 1000) {a : Nat} {u : uU} (ha : w a = some (ucell u)) (hV : vU u) (hna : ¬ PP S h0 hf a) :
    Mv l D cA n0 y_D_force c_D_force (rmd 4) [.ref h0, .ref a] w (fun w' => DC cA w' S h0 hf hc hu hq L ln tn tr (forA u (fl, us, st, pw, pl)) ∧ FR w w' (PP S h0 hf)) := by
  refine mw_met (cc := b_D_force) (maxL := 2) (ret := (none)) (by decide) rfl (Nat.le_of_ble_eq_true rfl) ?_
  intro p e s m below meth c ls G hrt hlocks hname h hl
  have G : mw_G p m c b_D_force 2 s _ (c_D_force :: TB) R_D D cl (tys cA) n0 := G
  have hx := G.1.1
  have hb := G.1.2.1
  have hl : lv_has ls 2 [(0, .ref h0), (1, .ref a)] := hl
  obtain ⟨hD, hF, ⟨f, g, hC, hU, hlen, hL, hg, hus, hinj, hSc, hSu⟩, hS0, hSf, hv⟩ := id K
  have hD : w h0 = some (dcell hf hc hq ln tn tr st pw pl) := hD
  have hF : w hf = some (longs cA 24 fl) := hF
  have hC : w hc = some (ccell hu us.length) := hC
  have hlen : us.length ≤ L := hlen
  refine lv_aload_n hx hb d_D_force_0 rfl (lv_at hl 0 rfl) ?_
  refine mx_ci (cV (As := []) (rest := []) G h (m_D_emptyCache K hpl) k_226 k_228 ks_8 k_1 k_229 hd_D_emptyCache rfl rfl ⟨Nat.le_of_ble_eq_true rfl, Nat.le_of_ble_eq_true rfl⟩ hD rfl rfl hl.1 rfl (Nat.le_of_ble_eq_true rfl) d_D_force_1 ⟨Nat.le_of_ble_eq_true rfl, Nat.le_of_ble_eq_true rfl⟩) h (fun r_2 w_1 H locs h hcp => ?_)
  obtain ⟨er, K1, hf1⟩ := hcp
  subst er
  refine lv_if_eq (tgt := 13) hx hb d_D_force_4 (by decide) (fun c_3 => ?_) (fun c_3 => ?_)
  · exact mx_retv G h hrt hlocks d_D_force_13 (⟨by simp only [forA]; rw [if_neg (bI_0 c_3)]; exact K1, hf1⟩)
  · have hpl1 : (empK (fl, us, st, pw, pl)).2.2.2.2.2 < 1000 := Nat.lt_of_le_of_lt empA_pl hpl
    have e9 : forA u (fl, us, st, pw, pl) = stoF u (empK (fl, us, st, pw, pl)).2 := by simp only [forA]; rw [if_pos (bI_n c_3)]
    rw [e9]
    generalize (empK (fl, us, st, pw, pl)).2 = κ at K1 hpl1
    obtain ⟨hD1, hF1, hC1, -, -, hv1⟩ := id K1
    have ha1 : w_1 a = some (ucell u) := by rw [hf1 a hna]; exact ha
    refine lv_aload_n hx hb d_D_force_7 rfl (lv_at hl 0 rfl) ?_
    refine lv_aload_n hx hb d_D_force_8 rfl (lv_at hl 1 rfl) ?_
    refine mx_ci (cV (As := [.ref a]) (rest := []) G h (m_D_store hD1 hF1 ha1 hV hpl1) k_208 k_210 ks_6 k_1 k_211 hd_D_store rfl rfl ⟨Nat.le_of_ble_eq_true rfl, Nat.le_of_ble_eq_true rfl⟩ hD1 rfl rfl hl.1 rfl (Nat.le_of_ble_eq_true rfl) d_D_force_9 ⟨Nat.le_of_ble_eq_true rfl, Nat.le_of_ble_eq_true rfl⟩) h (fun r_5 w_4 H locs h hcp => ?_)
    refine lv_pop hx hb d_D_force_12 rfl ?_
    rcases Nat.lt_or_ge κ.2.2.2.2 (lnU u) with hlt | hge
    · obtain ⟨-, ew⟩ := hcp.2 hlt
      subst ew
      exact mx_retv G h hrt hlocks d_D_force_13 (⟨by rw [stoF, if_neg (by omega)]; exact ⟨mw_self, by rw [mw_ne (mw_apart hF1 hD1 (by simp))]; exact hF1, hC1.frame (fun x hx => mw_ne (fun z => hS0 (by rw [← z]; exact hx))), hS0, hSf, hv1⟩, hf1.tr (FR.up (Or.inl rfl))⟩)
    · obtain ⟨-, ew⟩ := hcp.1 hge
      subst ew
      exact mx_retv G h hrt hlocks d_D_force_13 (⟨by rw [stoF, if_pos hge]; exact ⟨by rw [mw_ne (mw_apart hD1 hF1 (by simp))]; exact mw_self, mw_self, hC1.frame (fun x hx => by rw [mw_ne (fun z => hSf (by rw [← z]; exact hx)), mw_ne (fun z => hS0 (by rw [← z]; exact hx))]), hS0, hSf, hv1⟩, hf1.tr ((FR.up (Or.inl rfl)).tr (FR.up (Or.inr (Or.inl rfl))))⟩)
set_option maxHeartbeats 4000000 in
set_option maxRecDepth 100000 in
theorem m_D_flush {l : Launch} {D : va_G} {cA : Nat → ClassId} {n0 : Nat} {w : mw} {S : Nat → Prop} {h0 hf hc hu hq L ln : Nat} {tn : Int32} {tr : Int64} {fl : Nat → Int64} {us : List uU} {st pw pl : Nat} (K : DC cA w S h0 hf hc hu hq L ln tn tr (fl, us, st, pw, pl)) (hpl : pl < 1000) :
    Mi l D cA n0 y_D_flush c_D_flush (rmd 4) [.ref h0] w (fun r w' => r = nI us.length ∧ DC cA w' S h0 hf hc hu hq L ln tn tr (empK (fl, us, st, pw, pl)).2 ∧ FR w w' (PP S h0 hf)) := by
  refine mw_met (cc := b_D_flush) (maxL := 2) (ret := (some .int)) (by decide) rfl (Nat.le_of_ble_eq_true rfl) ?_
  intro p e s m below meth c ls G hrt hlocks hname h hl
  have G : mw_G p m c b_D_flush 2 s _ (c_D_flush :: TB) R_D D cl (tys cA) n0 := G
  have hx := G.1.1
  have hb := G.1.2.1
  have hl : lv_has ls 2 [(0, .ref h0)] := hl
  obtain ⟨hD, hF, ⟨f, g, hC, hU, hlen, hL, hg, hus, hinj, hSc, hSu⟩, hS0, hSf, hv⟩ := id K
  have hD : w h0 = some (dcell hf hc hq ln tn tr st pw pl) := hD
  have hF : w hf = some (longs cA 24 fl) := hF
  have hC : w hc = some (ccell hu us.length) := hC
  have hlen : us.length ≤ L := hlen
  refine lv_aload_n hx hb d_D_flush_0 rfl (lv_at hl 0 rfl) ?_
  refine mx_get G h hD rfl 1 (by decide) (tb_in in_D) (tb_c k_118) rfl rfl d_D_flush_1 ?_
  refine mx_get G h hC rfl 1 (by decide) (tb_in in_C) (tb_c k_60) rfl rfl d_D_flush_4 ?_
  refine lv_istore_n (lv' := [(1, .int (nI us.length)), (0, .ref h0)]) hx hb d_D_flush_7 rfl hl (by decide) rfl (fun ls hl => ?_)
  refine lv_aload_n hx hb d_D_flush_8 rfl (lv_at hl 1 rfl) ?_
  refine mx_ci (cV (As := []) (rest := []) G h (m_D_emptyCache K hpl) k_226 k_228 ks_8 k_1 k_229 hd_D_emptyCache rfl rfl ⟨Nat.le_of_ble_eq_true rfl, Nat.le_of_ble_eq_true rfl⟩ hD rfl rfl hl.1 rfl (Nat.le_of_ble_eq_true rfl) d_D_flush_9 ⟨Nat.le_of_ble_eq_true rfl, Nat.le_of_ble_eq_true rfl⟩) h (fun r_2 w_1 H locs h hcp => ?_)
  obtain ⟨-, K1, hf1⟩ := hcp
  refine lv_pop hx hb d_D_flush_12 rfl ?_
  refine lv_iload_n hx hb d_D_flush_13 rfl (lv_at hl 0 rfl) ?_
  exact mx_reti G h hrt hlocks d_D_flush_14 (⟨rfl, K1, hf1⟩)
set_option maxHeartbeats 4000000 in
set_option maxRecDepth 100000 in
theorem m_D_sumOfHeld {l : Launch} {D : va_G} {cA : Nat → ClassId} {n0 : Nat} {w : mw} {S : Nat → Prop} {h0 hf hc hu hq L ln : Nat} {tn : Int32} {tr : Int64} {fl : Nat → Int64} {us : List uU} {st pw pl : Nat} (K : DC cA w S h0 hf hc hu hq L ln tn tr (fl, us, st, pw, pl)) {a : Nat} {u : uU} (ha : w a = some (ucell u)) (hV : vU u) :
    Ml l D cA n0 y_D_sumOfHeld c_D_sumOfHeld (rmd 2) [.ref h0, .ref a] w (fun r w' => r = sumH fl us (fsU u) (lnU u) ∧ w' = w) := by
  refine mw_met (cc := b_D_sumOfHeld) (maxL := 7) (ret := (some .long)) (by decide) rfl (Nat.le_of_ble_eq_true rfl) ?_
  intro p e s m below meth c ls G hrt hlocks hname h hl
  have G : mw_G p m c b_D_sumOfHeld 7 s _ (c_D_sumOfHeld :: TB) R_D D cl (tys cA) n0 := G
  have hx := G.1.1
  have hb := G.1.2.1
  have hl : lv_has ls 7 [(0, .ref h0), (1, .ref a)] := hl
  obtain ⟨hD, hF, ⟨f, g, hC, hU, hlen, hL, hg, hus, hinj, hSc, hSu⟩, hS0, hSf, hv⟩ := id K
  have hD : w h0 = some (dcell hf hc hq ln tn tr st pw pl) := hD
  have hF : w hf = some (longs cA 24 fl) := hF
  have hC : w hc = some (ccell hu us.length) := hC
  have hlen : us.length ≤ L := hlen
  obtain ⟨hu1, hu2, hl1, hl4, h24, hz⟩ := hV
  refine lv_lconst (v := 0) hx hb d_D_sumOfHeld_0 (by decide) ?_
  refine lv_lstore_n (lv' := [(2, .long 0), (0, .ref h0), (1, .ref a)]) hx hb d_D_sumOfHeld_1 rfl hl (by decide) rfl (fun ls hl => ?_)
  refine lv_iconst (v := 0) hx hb d_D_sumOfHeld_2 (by decide) ?_
  refine lv_istore (lv' := [(4, .int 0), (2, .long 0), (0, .ref h0), (1, .ref a)]) hx hb d_D_sumOfHeld_3 hl (by decide) rfl (fun ls hl => ?_)
  have loop : ∀ (t k : Nat), k + t = lnU u → ∀ (H : Heap) (locs : List Loc) (ls : Array Slot), mw_H n0 D cl s w H locs → lv_has ls 7 [(4, .int (nI k)), (2, .long (sumH fl us (fsU u) k)), (0, .ref h0), (1, .ref a)] → W p l e (rmd 2) s m ([.ref h0, .ref a] : List Value).toArray below meth c H locs 0 0 (MQ below (mw_Ql n0 D cl (fun r w' => r = sumH fl us (fsU u) (lnU u) ∧ w' = w)) ([.ref h0, .ref a] : List Value).toArray s 0 0 (mw_A n0)) (F0 m 5 ls []) := by
    intro t
    induction t with
    | zero =>
      intro k hk H locs ls h hl
      have hk : k = lnU u := hk
      refine lv_iload hx hb d_D_sumOfHeld_5 (lv_at hl 0 rfl) ?_
      refine lv_aload_n hx hb d_D_sumOfHeld_7 rfl (lv_at hl 3 rfl) ?_
      refine mx_get G h ha rfl 1 (by decide) (tb_in in_U) (tb_c k_41) rfl rfl d_D_sumOfHeld_8 ?_
      refine lv_icmp_ge (tgt := 47) hx hb d_D_sumOfHeld_11 (by decide) (fun c_1 => ?_) (fun c_1 => ?_)
      · refine lv_lload_n hx hb d_D_sumOfHeld_47 rfl (lv_at hl 1 rfl) ?_
        exact mx_retl G h hrt hlocks d_D_sumOfHeld_48 (⟨by rw [hk], rfl⟩)
      · exact absurd (by rw [hu2, hk]; exact Int32.le_refl _) c_1
    | succ t ih =>
      intro k hk H locs ls h hl
      have hq1 : u.1 + nI k = nI (fsU u + k) := by rw [hu1]; exact nI_add _ _
      refine lv_iload hx hb d_D_sumOfHeld_5 (lv_at hl 0 rfl) ?_
      refine lv_aload_n hx hb d_D_sumOfHeld_7 rfl (lv_at hl 3 rfl) ?_
      refine mx_get G h ha rfl 1 (by decide) (tb_in in_U) (tb_c k_41) rfl rfl d_D_sumOfHeld_8 ?_
      refine lv_icmp_ge (tgt := 47) hx hb d_D_sumOfHeld_11 (by decide) (fun c_2 => ?_) (fun c_2 => ?_)
      · exact absurd c_2 (by rw [hu2, nI_leI (by omega) (by omega)]; omega)
      · refine lv_aload_n hx hb d_D_sumOfHeld_14 rfl (lv_at hl 2 rfl) ?_
        refine lv_aload_n hx hb d_D_sumOfHeld_15 rfl (lv_at hl 3 rfl) ?_
        refine mx_get G h ha rfl 0 (by decide) (tb_in in_U) (tb_c k_38) rfl rfl d_D_sumOfHeld_16 ?_
        refine lv_iload hx hb d_D_sumOfHeld_19 (lv_at hl 0 rfl) ?_
        refine lv_iadd hx hb d_D_sumOfHeld_21 ?_
        refine mx_cl (cV (As := [.int (u.1 + (nI k))]) (rest := []) G h (m_D_heldWord K (a := fsU u + k) (by omega) hq1) k_183 k_185 ks_3 k_1 k_186 hd_D_heldWord rfl rfl ⟨Nat.le_of_ble_eq_true rfl, Nat.le_of_ble_eq_true rfl⟩ hD rfl rfl hl.1 rfl (Nat.le_of_ble_eq_true rfl) d_D_sumOfHeld_22 ⟨Nat.le_of_ble_eq_true rfl, Nat.le_of_ble_eq_true rfl⟩) h (fun r_4 w_3 H locs h hcp => ?_)
        obtain ⟨er_5, ew_6⟩ := hcp
        subst er_5
        rw [ew_6] at h
        refine lv_lstore (lv' := [(5, .long (hld fl us (fsU u + k))), (4, .int (nI k)), (2, .long (sumH fl us (fsU u) k)), (0, .ref h0), (1, .ref a)]) hx hb d_D_sumOfHeld_25 hl (by decide) rfl (fun ls hl => ?_)
        refine lv_lload hx hb d_D_sumOfHeld_27 (lv_at hl 0 rfl) ?_
        refine lv_ldc2 (v := NN) hx hb G.1.2.2.2.1 (G.1.2.2.2.2 _ (tb_c k_16)) d_D_sumOfHeld_29 ?_
        refine W.lcmp hx hb d_D_sumOfHeld_32 ?_
        refine lv_if_eq (tgt := 41) hx hb d_D_sumOfHeld_33 (by decide) (fun c_7 => ?_) (fun c_7 => ?_)
        · refine lv_iinc (v := (nI k) + 1) (lv' := [(4, .int ((nI k) + 1)), (5, .long (hld fl us (fsU u + k))), (2, .long (sumH fl us (fsU u) k)), (0, .ref h0), (1, .ref a)]) hx hb d_D_sumOfHeld_41 hl (k := 1) rfl rfl (by decide) rfl (fun ls hl => ?_)
          refine lv_goto (tgt := 5) hx hb d_D_sumOfHeld_44 (by decide) ?_
          rw [nI_1] at hl
          refine ih (k + 1) (by omega) H locs ls h ?_
          have q1 : sumH fl us (fsU u) (k + 1) = sumH fl us (fsU u) k := by rw [sumH, if_pos ((lg_cmp_eq _ _).mp c_7)]
          rw [q1]
          exact lv_sub hl [0, 2, 3, 4] rfl
        · refine lv_lload_n hx hb d_D_sumOfHeld_36 rfl (lv_at hl 2 rfl) ?_
          refine lv_lload hx hb d_D_sumOfHeld_37 (lv_at hl 0 rfl) ?_
          refine lv_ladd hx hb d_D_sumOfHeld_39 ?_
          refine lv_lstore_n (lv' := [(2, .long ((sumH fl us (fsU u) k) + (hld fl us (fsU u + k)))), (5, .long (hld fl us (fsU u + k))), (4, .int (nI k)), (0, .ref h0), (1, .ref a)]) hx hb d_D_sumOfHeld_40 rfl hl (by decide) rfl (fun ls hl => ?_)
          refine lv_iinc (v := (nI k) + 1) (lv' := [(4, .int ((nI k) + 1)), (2, .long ((sumH fl us (fsU u) k) + (hld fl us (fsU u + k)))), (5, .long (hld fl us (fsU u + k))), (0, .ref h0), (1, .ref a)]) hx hb d_D_sumOfHeld_41 hl (k := 2) rfl rfl (by decide) rfl (fun ls hl => ?_)
          refine lv_goto (tgt := 5) hx hb d_D_sumOfHeld_44 (by decide) ?_
          rw [nI_1] at hl
          refine ih (k + 1) (by omega) H locs ls h ?_
          have q1 : sumH fl us (fsU u) (k + 1) = sumH fl us (fsU u) k + hld fl us (fsU u + k) := by rw [sumH, if_neg (fun z => c_7 ((lg_cmp_eq _ _).mpr z))]
          rw [q1]
          exact lv_sub hl [0, 1, 3, 4] rfl
  exact loop (lnU u) 0 (by omega) _ _ ls h (lv_sub hl [0, 1, 2, 3] rfl)
set_option maxHeartbeats 4000000 in
set_option maxRecDepth 100000 in
theorem m_D_mismatches {l : Launch} {D : va_G} {cA : Nat → ClassId} {n0 : Nat} {w : mw} {S : Nat → Prop} {h0 hf hc hu hq L ln : Nat} {tn : Int32} {tr : Int64} {fl : Nat → Int64} {us : List uU} {st pw pl : Nat} (K : DC cA w S h0 hf hc hu hq L ln tn tr (fl, us, st, pw, pl)) {a : Nat} {u : uU} (ha : w a = some (ucell u)) (hV : vU u) :
    Mi l D cA n0 y_D_mismatches c_D_mismatches (rmd 2) [.ref h0, .ref a] w (fun r w' => r = misH fl us u (fsU u) (lnU u) ∧ w' = w) := by
  refine mw_met (cc := b_D_mismatches) (maxL := 4) (ret := (some .int)) (by decide) rfl (Nat.le_of_ble_eq_true rfl) ?_
  intro p e s m below meth c ls G hrt hlocks hname h hl
  have G : mw_G p m c b_D_mismatches 4 s _ (c_D_mismatches :: TB) R_D D cl (tys cA) n0 := G
  have hx := G.1.1
  have hb := G.1.2.1
  have hl : lv_has ls 4 [(0, .ref h0), (1, .ref a)] := hl
  obtain ⟨hD, hF, ⟨f, g, hC, hU, hlen, hL, hg, hus, hinj, hSc, hSu⟩, hS0, hSf, hv⟩ := id K
  have hD : w h0 = some (dcell hf hc hq ln tn tr st pw pl) := hD
  have hF : w hf = some (longs cA 24 fl) := hF
  have hC : w hc = some (ccell hu us.length) := hC
  have hlen : us.length ≤ L := hlen
  obtain ⟨hu1, hu2, hl1, hl4, h24, hz⟩ := hV
  refine lv_iconst (v := 0) hx hb d_D_mismatches_0 (by decide) ?_
  refine lv_istore_n (lv' := [(2, .int 0), (0, .ref h0), (1, .ref a)]) hx hb d_D_mismatches_1 rfl hl (by decide) rfl (fun ls hl => ?_)
  refine lv_iconst (v := 0) hx hb d_D_mismatches_2 (by decide) ?_
  refine lv_istore_n (lv' := [(3, .int 0), (2, .int 0), (0, .ref h0), (1, .ref a)]) hx hb d_D_mismatches_3 rfl hl (by decide) rfl (fun ls hl => ?_)
  have loop : ∀ (t k : Nat), k + t = lnU u → ∀ (H : Heap) (locs : List Loc) (ls : Array Slot), mw_H n0 D cl s w H locs → lv_has ls 4 [(3, .int (nI k)), (2, .int (misH fl us u (fsU u) k)), (0, .ref h0), (1, .ref a)] → W p l e (rmd 2) s m ([.ref h0, .ref a] : List Value).toArray below meth c H locs 0 0 (MQ below (mw_Qi n0 D cl (fun r w' => r = misH fl us u (fsU u) (lnU u) ∧ w' = w)) ([.ref h0, .ref a] : List Value).toArray s 0 0 (mw_A n0)) (F0 m 4 ls []) := by
    intro t
    induction t with
    | zero =>
      intro k hk H locs ls h hl
      have hk : k = lnU u := hk
      refine lv_iload_n hx hb d_D_mismatches_4 rfl (lv_at hl 0 rfl) ?_
      refine lv_aload_n hx hb d_D_mismatches_5 rfl (lv_at hl 3 rfl) ?_
      refine mx_get G h ha rfl 1 (by decide) (tb_in in_U) (tb_c k_41) rfl rfl d_D_mismatches_6 ?_
      refine lv_icmp_ge (tgt := 45) hx hb d_D_mismatches_9 (by decide) (fun c_1 => ?_) (fun c_1 => ?_)
      · refine lv_iload_n hx hb d_D_mismatches_45 rfl (lv_at hl 1 rfl) ?_
        exact mx_reti G h hrt hlocks d_D_mismatches_46 (⟨by rw [hk], rfl⟩)
      · exact absurd (by rw [hu2, hk]; exact Int32.le_refl _) c_1
    | succ t ih =>
      intro k hk H locs ls h hl
      have hq1 : u.1 + nI k = nI (fsU u + k) := by rw [hu1]; exact nI_add _ _
      refine lv_iload_n hx hb d_D_mismatches_4 rfl (lv_at hl 0 rfl) ?_
      refine lv_aload_n hx hb d_D_mismatches_5 rfl (lv_at hl 3 rfl) ?_
      refine mx_get G h ha rfl 1 (by decide) (tb_in in_U) (tb_c k_41) rfl rfl d_D_mismatches_6 ?_
      refine lv_icmp_ge (tgt := 45) hx hb d_D_mismatches_9 (by decide) (fun c_2 => ?_) (fun c_2 => ?_)
      · exact absurd c_2 (by rw [hu2, nI_leI (by omega) (by omega)]; omega)
      · refine lv_aload_n hx hb d_D_mismatches_12 rfl (lv_at hl 2 rfl) ?_
        refine lv_aload_n hx hb d_D_mismatches_13 rfl (lv_at hl 3 rfl) ?_
        refine mx_get G h ha rfl 0 (by decide) (tb_in in_U) (tb_c k_38) rfl rfl d_D_mismatches_14 ?_
        refine lv_iload_n hx hb d_D_mismatches_17 rfl (lv_at hl 0 rfl) ?_
        refine lv_iadd hx hb d_D_mismatches_18 ?_
        refine mx_cl (cV (As := [.int (u.1 + (nI k))]) (rest := []) G h (m_D_heldWord K (a := fsU u + k) (by omega) hq1) k_183 k_185 ks_3 k_1 k_186 hd_D_heldWord rfl rfl ⟨Nat.le_of_ble_eq_true rfl, Nat.le_of_ble_eq_true rfl⟩ hD rfl rfl hl.1 rfl (Nat.le_of_ble_eq_true rfl) d_D_mismatches_19 ⟨Nat.le_of_ble_eq_true rfl, Nat.le_of_ble_eq_true rfl⟩) h (fun r_4 w_3 H locs h hcp => ?_)
        obtain ⟨er_5, ew_6⟩ := hcp
        subst er_5
        rw [ew_6] at h
        refine lv_aload_n hx hb d_D_mismatches_22 rfl (lv_at hl 3 rfl) ?_
        refine lv_aload_n hx hb d_D_mismatches_23 rfl (lv_at hl 3 rfl) ?_
        refine mx_get G h ha rfl 0 (by decide) (tb_in in_U) (tb_c k_38) rfl rfl d_D_mismatches_24 ?_
        refine lv_iload_n hx hb d_D_mismatches_27 rfl (lv_at hl 0 rfl) ?_
        refine lv_iadd hx hb d_D_mismatches_28 ?_
        refine mx_cl (cV (As := [.int (u.1 + (nI k))]) (rest := [.long (hld fl us (fsU u + k))]) G h (m_U_wordAt ha (x := u.1 + nI k)) k_191 k_192 k_193 k_4 k_194 hd_U_wordAt rfl rfl ⟨Nat.le_of_ble_eq_true rfl, Nat.le_of_ble_eq_true rfl⟩ ha rfl rfl hl.1 rfl (Nat.le_of_ble_eq_true rfl) d_D_mismatches_29 ⟨Nat.le_of_ble_eq_true rfl, Nat.le_of_ble_eq_true rfl⟩) h (fun r_8 w_7 H locs h hcp => ?_)
        obtain ⟨er_9, ew_10⟩ := hcp
        subst er_9
        rw [ew_10] at h
        have et_11 : wrd u (u.1 + nI k) = wrd u (nI (fsU u + k)) := by rw [hq1]
        rw [et_11]
        refine W.lcmp hx hb d_D_mismatches_32 ?_
        refine lv_if_eq (tgt := 39) hx hb d_D_mismatches_33 (by decide) (fun c_12 => ?_) (fun c_12 => ?_)
        · refine lv_iinc (v := (nI k) + 1) (lv' := [(3, .int ((nI k) + 1)), (2, .int (misH fl us u (fsU u) k)), (0, .ref h0), (1, .ref a)]) hx hb d_D_mismatches_39 hl (k := 0) rfl rfl (by decide) rfl (fun ls hl => ?_)
          refine lv_goto (tgt := 4) hx hb d_D_mismatches_42 (by decide) ?_
          rw [nI_1] at hl
          refine ih (k + 1) (by omega) H locs ls h ?_
          have q1 : misH fl us u (fsU u) (k + 1) = misH fl us u (fsU u) k := by rw [misH, if_pos ((lg_cmp_eq _ _).mp c_12)]
          rw [q1]
          exact lv_sub hl [0, 1, 2, 3] rfl
        · refine lv_iinc (v := (misH fl us u (fsU u) k) + 1) (lv' := [(2, .int ((misH fl us u (fsU u) k) + 1)), (3, .int (nI k)), (0, .ref h0), (1, .ref a)]) hx hb d_D_mismatches_36 hl (k := 1) rfl rfl (by decide) rfl (fun ls hl => ?_)
          refine lv_iinc (v := (nI k) + 1) (lv' := [(3, .int ((nI k) + 1)), (2, .int ((misH fl us u (fsU u) k) + 1)), (0, .ref h0), (1, .ref a)]) hx hb d_D_mismatches_39 hl (k := 1) rfl rfl (by decide) rfl (fun ls hl => ?_)
          refine lv_goto (tgt := 4) hx hb d_D_mismatches_42 (by decide) ?_
          rw [nI_1] at hl
          refine ih (k + 1) (by omega) H locs ls h ?_
          have q1 : misH fl us u (fsU u) (k + 1) = misH fl us u (fsU u) k + 1 := by rw [misH, if_neg (fun z => c_12 ((lg_cmp_eq _ _).mpr z))]
          rw [q1]
          exact lv_sub hl [0, 1, 2, 3] rfl
  exact loop (lnU u) 0 (by omega) _ _ ls h (lv_sub hl [0, 1, 2, 3] rfl)
end
section
/-! Commands, queues, and the drive as a whole. A command: number, kind, address, count, value -/
abbrev pC : Type := Int32 × Int32 × Int32 × Int32 × Int32
def uof (c : pC) : uU := (c.2.2.1, c.2.2.2.1, c.2.2.2.2, bI (c.2.1 = 4))
def vC (c : pC) : Prop := (∃ kd : Nat, kd ≤ 5 ∧ c.2.1 = nI kd) ∧ (c.2.1 = 3 ∨ vU (uof c))
theorem rot_ix {k m n i : Nat} (hk : k ≤ m) (hm : m < n) (hi : i < n) : ∃ j, j < n ∧ ∀ {α : Type} (f : Nat → α), rotf f k m i = f j := by
  by_cases c1 : k ≤ i ∧ i < m
  · exact ⟨i + 1, by omega, fun f => by simp only [rotf]; rw [if_pos c1]⟩
  · by_cases c2 : i = m
    · exact ⟨k, by omega, fun f => by simp only [rotf]; rw [if_neg c1, if_pos c2]⟩
    · exact ⟨i, hi, fun f => by simp only [rotf]; rw [if_neg c1, if_neg c2]⟩
theorem rot_inj {g : Nat → Nat} {k m n : Nat} (hk : k ≤ m) (hm : m < n) (h : ∀ i j, i < n → j < n → g i = g j → i = j) : ∀ i j, i < n → j < n → rotf g k m i = rotf g k m j → i = j := by
  intro i j hi hj hij
  simp only [rotf] at hij
  by_cases a1 : k ≤ i ∧ i < m
  · rw [if_pos a1] at hij
    by_cases b1 : k ≤ j ∧ j < m
    · rw [if_pos b1] at hij; have := h _ _ (by omega) (by omega) hij; omega
    · rw [if_neg b1] at hij
      by_cases b2 : j = m
      · rw [if_pos b2] at hij; have := h _ _ (by omega) (by omega) hij; omega
      · rw [if_neg b2] at hij; have := h _ _ (by omega) (by omega) hij; omega
  · rw [if_neg a1] at hij
    by_cases a2 : i = m
    · rw [if_pos a2] at hij
      by_cases b1 : k ≤ j ∧ j < m
      · rw [if_pos b1] at hij; have := h _ _ (by omega) (by omega) hij; omega
      · rw [if_neg b1] at hij
        by_cases b2 : j = m
        · omega
        · rw [if_neg b2] at hij; have := h _ _ (by omega) (by omega) hij; omega
    · rw [if_neg a2] at hij
      by_cases b1 : k ≤ j ∧ j < m
      · rw [if_pos b1] at hij; have := h _ _ (by omega) (by omega) hij; omega
      · rw [if_neg b1] at hij
        by_cases b2 : j = m
        · rw [if_pos b2] at hij; have := h _ _ (by omega) (by omega) hij; omega
        · rw [if_neg b2] at hij; exact h _ _ hi hj hij
/-- a queue: pending ps, completions cs, its cells are S's -/
def QAx (cA : Nat → ClassId) (w : mw) (S : Nat → Prop) (hq hp hn hr : Nat) (ps : List pC) (cs : List (Int32 × Int64)) (f : Nat → Option Nat) (g gu : Nat → Nat) (fn : Nat → Int32) (fr : Nat → Int64) : Prop :=
  w hq = some (qcell hp hn hr ps.length cs.length) ∧ w hp = some (refs cA 4 4 f) ∧ w hn = some (ints cA 4 fn) ∧ w hr = some (longs cA 4 fr) ∧ ps.length ≤ 4 ∧ cs.length ≤ 4 ∧
  (∀ i, i < 4 → f i = some (g i) ∧ S (g i) ∧ S (gu i) ∧ ∃ y z u, w (g i) = some (kcell (gu i) y z) ∧ w (gu i) = some (ucell u)) ∧
  (∀ i c, ps[i]? = some c → w (g i) = some (kcell (gu i) c.1 c.2.1) ∧ w (gu i) = some (ucell (uof c))) ∧
  (∀ i c, cs[i]? = some c → fn i = c.1 ∧ fr i = c.2) ∧
  (∀ i j, i < 4 → j < 4 → g i = g j → i = j) ∧ (∀ i j, i < 4 → j < 4 → gu i = gu j → i = j) ∧ S hq ∧ S hp ∧ S hn ∧ S hr
def QA (cA : Nat → ClassId) (w : mw) (S : Nat → Prop) (hq hp hn hr : Nat) (ps : List pC) (cs : List (Int32 × Int64)) : Prop := ∃ f g gu fn fr, QAx cA w S hq hp hn hr ps cs f g gu fn fr
section QAL
variable {cA : Nat → ClassId} {w w' : mw} {S : Nat → Prop} {hq hp hn hr : Nat} {ps : List pC} {cs : List (Int32 × Int64)} {f : Nat → Option Nat} {g gu : Nat → Nat} {fn : Nat → Int32} {fr : Nat → Int64}
theorem QAx.frame (h : QAx cA w S hq hp hn hr ps cs f g gu fn fr) (e : ∀ x, S x → w' x = w x) : QAx cA w' S hq hp hn hr ps cs f g gu fn fr := by
  obtain ⟨h1, h2, h3, h4, h5, h6, h7, h8, h9, h10, h11, h12, h13, h14, h15⟩ := h
  refine ⟨by rw [e _ h12]; exact h1, by rw [e _ h13]; exact h2, by rw [e _ h14]; exact h3, by rw [e _ h15]; exact h4, h5, h6, fun i hi => ?_, fun i c hi => ?_, h9, h10, h11, h12, h13, h14, h15⟩
  · obtain ⟨a, b, c, y, z, u, d1, d2⟩ := h7 i hi
    exact ⟨a, b, c, y, z, u, by rw [e _ b]; exact d1, by rw [e _ c]; exact d2⟩
  · obtain ⟨a, b, c', -⟩ := h7 i (Nat.lt_of_lt_of_le (lt_of_get hi) h5)
    rw [e _ b, e _ c']
    exact h8 i c hi
theorem QA.frame (h : QA cA w S hq hp hn hr ps cs) (e : ∀ x, S x → w' x = w x) : QA cA w' S hq hp hn hr ps cs := by
  obtain ⟨f, g, gu, fn, fr, h⟩ := h
  exact ⟨f, g, gu, fn, fr, h.frame e⟩
theorem QAx.push (h : QAx cA w S hq hp hn hr ps cs f g gu fn fr) (hl : ps.length < 4) (c : pC) : QAx cA (mw_up (mw_up (mw_up w (g ps.length) (kcell (gu ps.length) c.1 c.2.1)) hq (qcell hp hn hr (ps.length + 1) cs.length)) (gu ps.length) (ucell (uof c))) S hq hp hn hr (ps ++ [c]) cs f g gu fn fr := by
  obtain ⟨h1, h2, h3, h4, h5, h6, h7, h8, h9, h10, h11, h12, h13, h14, h15⟩ := h
  obtain ⟨a0, b0, c0, y0, z0, u0, d0, e0⟩ := h7 ps.length hl
  have x1 : ∀ {b : Nat} {e : va_E}, w b = some e → (∀ u, e ≠ ucell u) → (∀ u y z, e ≠ kcell u y z) → (∀ p q, e ≠ qcell hp hn hr p q) → mw_up (mw_up (mw_up w (g ps.length) (kcell (gu ps.length) c.1 c.2.1)) hq (qcell hp hn hr (ps.length + 1) cs.length)) (gu ps.length) (ucell (uof c)) b = some e := by
    intro b e hb n1 n2 n3
    rw [mw_ne (mw_apart hb e0 (n1 _)), mw_ne (mw_apart hb h1 (n3 _ _)), mw_ne (mw_apart hb d0 (n2 _ _ _))]
    exact hb
  have nq : hq ≠ gu ps.length := mw_apart h1 e0 (by simp)
  have ng : g ps.length ≠ gu ps.length := mw_apart d0 e0 (by simp)
  have nqg : g ps.length ≠ hq := mw_apart d0 h1 (by simp)
  have oldg : ∀ i, i < 4 → i ≠ ps.length → ∀ y z, w (g i) = some (kcell (gu i) y z) → mw_up (mw_up (mw_up w (g ps.length) (kcell (gu ps.length) c.1 c.2.1)) hq (qcell hp hn hr (ps.length + 1) cs.length)) (gu ps.length) (ucell (uof c)) (g i) = some (kcell (gu i) y z) := by
    intro i hi hne y z hy
    rw [mw_ne (mw_apart hy e0 (by simp)), mw_ne (mw_apart hy h1 (by simp)), mw_ne (fun q => hne (h10 i _ hi hl q))]
    exact hy
  have oldu : ∀ i, i < 4 → i ≠ ps.length → ∀ u, w (gu i) = some (ucell u) → mw_up (mw_up (mw_up w (g ps.length) (kcell (gu ps.length) c.1 c.2.1)) hq (qcell hp hn hr (ps.length + 1) cs.length)) (gu ps.length) (ucell (uof c)) (gu i) = some (ucell u) := by
    intro i hi hne u hu
    rw [mw_ne (fun q => hne (h11 i _ hi hl q)), mw_ne (mw_apart hu h1 (by simp)), mw_ne (mw_apart hu d0 (by simp))]
    exact hu
  have newg : mw_up (mw_up (mw_up w (g ps.length) (kcell (gu ps.length) c.1 c.2.1)) hq (qcell hp hn hr (ps.length + 1) cs.length)) (gu ps.length) (ucell (uof c)) (g ps.length) = some (kcell (gu ps.length) c.1 c.2.1) := by
    rw [mw_ne ng, mw_ne nqg]; exact mw_self
  refine ⟨by rw [List.length_append, mw_ne nq]; exact mw_self, x1 h2 (by simp) (by simp) (by simp), x1 h3 (by simp) (by simp) (by simp), x1 h4 (by simp) (by simp) (by simp), by rw [List.length_append]; exact hl, h6, fun i hi => ?_, fun i d hi => ?_, h9, h10, h11, h12, h13, h14, h15⟩
  · obtain ⟨a, b, b', y, z, u, d1, d2⟩ := h7 i hi
    by_cases hne : i = ps.length
    · subst hne; exact ⟨a, b, b', _, _, _, newg, mw_self⟩
    · exact ⟨a, b, b', y, z, u, oldg i hi hne y z d1, oldu i hi hne u d2⟩
  · by_cases hlt : i < ps.length
    · rw [List.getElem?_append_left hlt] at hi
      obtain ⟨q1, q2⟩ := h8 i d hi
      exact ⟨oldg i (by omega) (by omega) _ _ q1, oldu i (by omega) (by omega) _ q2⟩
    · have hil := lt_of_get hi
      rw [List.length_append] at hil
      have hn : i = ps.length := by simp at hil; omega
      subst hn
      simp at hi
      rw [← hi]
      exact ⟨newg, mw_self⟩
theorem QAx.rem (h : QAx cA w S hq hp hn hr ps cs f g gu fn fr) {k : Nat} (hk : k < ps.length) : QAx cA (mw_up (mw_up w hq (qcell hp hn hr (ps.length - 1) cs.length)) hp (refs cA 4 4 (rotf f k (ps.length - 1)))) S hq hp hn hr (ps.eraseIdx k) cs (rotf f k (ps.length - 1)) (rotf g k (ps.length - 1)) (rotf gu k (ps.length - 1)) fn fr := by
  obtain ⟨h1, h2, h3, h4, h5, h6, h7, h8, h9, h10, h11, h12, h13, h14, h15⟩ := h
  have x1 : ∀ {b : Nat} {e : va_E}, w b = some e → (∀ f, e ≠ refs cA 4 4 f) → (∀ p q, e ≠ qcell hp hn hr p q) → mw_up (mw_up w hq (qcell hp hn hr (ps.length - 1) cs.length)) hp (refs cA 4 4 (rotf f k (ps.length - 1))) b = some e := by
    intro b e hb n1 n2
    rw [mw_ne (mw_apart hb h2 (n1 _)), mw_ne (mw_apart hb h1 (n2 _ _))]
    exact hb
  have nqp : hq ≠ hp := mw_apart h1 h2 (by simp)
  refine ⟨by rw [List.length_eraseIdx_of_lt hk, mw_ne nqp]; exact mw_self, mw_self, x1 h3 (by simp) (by simp), x1 h4 (by simp) (by simp), by rw [List.length_eraseIdx_of_lt hk]; omega, h6, fun i hi => ?_, fun i c hi => ?_, h9, rot_inj (by omega) (by omega) h10, rot_inj (by omega) (by omega) h11, h12, h13, h14, h15⟩
  · obtain ⟨j, hj, ej⟩ := rot_ix (k := k) (m := ps.length - 1) (by omega) (by omega) hi
    obtain ⟨a, b, b', y, z, u, d1, d2⟩ := h7 j hj
    rw [ej f, ej g, ej gu]
    exact ⟨a, b, b', y, z, u, x1 d1 (by simp) (by simp), x1 d2 (by simp) (by simp)⟩
  · have hil := lt_of_get hi
    rw [List.length_eraseIdx_of_lt hk] at hil
    rw [List.getElem?_eraseIdx] at hi
    by_cases c1 : i < k
    · rw [if_pos c1] at hi
      have e1 : ∀ {α : Type} (f : Nat → α), rotf f k (ps.length - 1) i = f i := fun f => by simp only [rotf]; rw [if_neg (by omega), if_neg (by omega)]
      rw [e1 g, e1 gu]
      exact ⟨x1 (h8 i c hi).1 (by simp) (by simp), x1 (h8 i c hi).2 (by simp) (by simp)⟩
    · rw [if_neg c1] at hi
      have e1 : ∀ {α : Type} (f : Nat → α), rotf f k (ps.length - 1) i = f (i + 1) := fun f => by simp only [rotf]; rw [if_pos (by omega)]
      rw [e1 g, e1 gu]
      exact ⟨x1 (h8 _ c hi).1 (by simp) (by simp), x1 (h8 _ c hi).2 (by simp) (by simp)⟩
theorem QAx.addC (h : QAx cA w S hq hp hn hr ps cs f g gu fn fr) (hl : cs.length < 4) (x : Int32) (y : Int64) : QAx cA (mw_up (mw_up (mw_up w hn (ints cA 4 (upd fn cs.length x))) hr (longs cA 4 (vp_updL fr cs.length y))) hq (qcell hp hn hr ps.length (cs.length + 1))) S hq hp hn hr ps (cs ++ [(x, y)]) f g gu (upd fn cs.length x) (vp_updL fr cs.length y) := by
  obtain ⟨h1, h2, h3, h4, h5, h6, h7, h8, h9, h10, h11, h12, h13, h14, h15⟩ := h
  have x1 : ∀ {b : Nat} {e : va_E}, w b = some e → (∀ f, e ≠ ints cA 4 f) → (∀ f, e ≠ longs cA 4 f) → (∀ p q, e ≠ qcell hp hn hr p q) → mw_up (mw_up (mw_up w hn (ints cA 4 (upd fn cs.length x))) hr (longs cA 4 (vp_updL fr cs.length y))) hq (qcell hp hn hr ps.length (cs.length + 1)) b = some e := by
    intro b e hb n1 n2 n3
    rw [mw_ne (mw_apart hb h1 (n3 _ _)), mw_ne (mw_apart hb h4 (n2 _)), mw_ne (mw_apart hb h3 (n1 _))]
    exact hb
  have nn : hn ≠ hq := mw_apart h3 h1 (by simp)
  have nr : hr ≠ hq := mw_apart h4 h1 (by simp)
  have nnr : hn ≠ hr := mw_apart h3 h4 (by simp)
  refine ⟨by rw [List.length_append]; exact mw_self, x1 h2 (by simp) (by simp) (by simp), by rw [mw_ne nn, mw_ne nnr]; exact mw_self, by rw [mw_ne nr]; exact mw_self, h5, by rw [List.length_append]; exact hl, fun i hi => ?_, fun i c hi => ?_, fun i c hi => ?_, h10, h11, h12, h13, h14, h15⟩
  · obtain ⟨a, b, b', y, z, u, d1, d2⟩ := h7 i hi
    exact ⟨a, b, b', y, z, u, x1 d1 (by simp) (by simp) (by simp), x1 d2 (by simp) (by simp) (by simp)⟩
  · exact ⟨x1 (h8 i c hi).1 (by simp) (by simp) (by simp), x1 (h8 i c hi).2 (by simp) (by simp) (by simp)⟩
  · by_cases hlt : i < cs.length
    · rw [List.getElem?_append_left hlt] at hi
      simp only [upd, vp_updL]
      rw [if_neg (by omega), if_neg (by omega)]
      exact h9 i c hi
    · have hil := lt_of_get hi
      rw [List.length_append] at hil
      have hn : i = cs.length := by simp at hil; omega
      subst hn
      simp at hi
      rw [← hi]
      simp only [upd, vp_updL, if_true]
      exact ⟨trivial, trivial⟩
theorem QAx.popC {c0 : Int32 × Int64} (h : QAx cA w S hq hp hn hr ps (c0 :: cs) f g gu fn fr) : QAx cA (mw_up (mw_up (mw_up w hq (qcell hp hn hr ps.length cs.length)) hn (ints cA 4 (shf fn 0 cs.length))) hr (longs cA 4 (shf fr 0 cs.length))) S hq hp hn hr ps cs f g gu (shf fn 0 cs.length) (shf fr 0 cs.length) := by
  obtain ⟨h1, h2, h3, h4, h5, h6, h7, h8, h9, h10, h11, h12, h13, h14, h15⟩ := h
  have x1 : ∀ {b : Nat} {e : va_E}, w b = some e → (∀ f, e ≠ ints cA 4 f) → (∀ f, e ≠ longs cA 4 f) → (∀ p q, e ≠ qcell hp hn hr p q) → mw_up (mw_up (mw_up w hq (qcell hp hn hr ps.length cs.length)) hn (ints cA 4 (shf fn 0 cs.length))) hr (longs cA 4 (shf fr 0 cs.length)) b = some e := by
    intro b e hb n1 n2 n3
    rw [mw_ne (mw_apart hb h4 (n2 _)), mw_ne (mw_apart hb h3 (n1 _)), mw_ne (mw_apart hb h1 (n3 _ _))]
    exact hb
  have nn : hq ≠ hn := mw_apart h1 h3 (by simp)
  have nr : hq ≠ hr := mw_apart h1 h4 (by simp)
  have nnr : hn ≠ hr := mw_apart h3 h4 (by simp)
  have h6 : cs.length + 1 ≤ 4 := h6
  refine ⟨by rw [mw_ne nr, mw_ne nn]; exact mw_self, x1 h2 (by simp) (by simp) (by simp), by rw [mw_ne nnr]; exact mw_self, mw_self, h5, by omega, fun i hi => ?_, fun i c hi => ?_, fun i c hi => ?_, h10, h11, h12, h13, h14, h15⟩
  · obtain ⟨a, b, b', y, z, u, d1, d2⟩ := h7 i hi
    exact ⟨a, b, b', y, z, u, x1 d1 (by simp) (by simp) (by simp), x1 d2 (by simp) (by simp) (by simp)⟩
  · exact ⟨x1 (h8 i c hi).1 (by simp) (by simp) (by simp), x1 (h8 i c hi).2 (by simp) (by simp) (by simp)⟩
  · have hil := lt_of_get hi
    simp only [shf]
    rw [if_pos (by omega), if_pos (by omega)]
    exact h9 (i + 1) c (by rw [List.getElem?_cons_succ]; exact hi)
theorem QAx.clr (h : QAx cA w S hq hp hn hr ps cs f g gu fn fr) : QAx cA (mw_up w hq (qcell hp hn hr 0 0)) S hq hp hn hr [] [] f g gu fn fr := by
  obtain ⟨h1, h2, h3, h4, h5, h6, h7, h8, h9, h10, h11, h12, h13, h14, h15⟩ := h
  have x1 : ∀ {b : Nat} {e : va_E}, w b = some e → (∀ p q, e ≠ qcell hp hn hr p q) → mw_up w hq (qcell hp hn hr 0 0) b = some e := by
    intro b e hb n3
    rw [mw_ne (mw_apart hb h1 (n3 _ _))]
    exact hb
  refine ⟨mw_self, x1 h2 (by simp), x1 h3 (by simp), x1 h4 (by simp), Nat.zero_le _, Nat.zero_le _, fun i hi => ?_, fun i c hi => by simp at hi, fun i c hi => by simp at hi, h10, h11, h12, h13, h14, h15⟩
  obtain ⟨a, b, b', y, z, u, d1, d2⟩ := h7 i hi
  exact ⟨a, b, b', y, z, u, x1 d1 (by simp), x1 d2 (by simp)⟩
end QAL
theorem CAx.clr {cA : Nat → ClassId} {w : mw} {S : Nat → Prop} {hc hu L : Nat} {us : List uU} {f : Nat → Option Nat} {g : Nat → Nat} (h : CAx cA w S hc hu L us f g) : CAx cA (mw_up w hc (ccell hu 0)) S hc hu L [] f g := by
  obtain ⟨h1, h2, h3, h4, h5, h6, h7, h8, h9⟩ := h
  refine ⟨mw_self, by rw [mw_ne (mw_apart h2 h1 (by simp))]; exact h2, Nat.zero_le _, h4, fun i hi => ?_, fun i u hi => by simp at hi, h7, h8, h9⟩
  obtain ⟨a, b, u, c⟩ := h5 i hi
  exact ⟨a, b, u, by rw [mw_ne (mw_apart c h1 (by simp))]; exact c⟩
theorem DC.put {cA : Nat → ClassId} {w : mw} {S : Nat → Prop} {h0 hf hc hu hq L ln : Nat} {tn : Int32} {tr : Int64} {fl : Nat → Int64} {us : List uU} {st pw pl : Nat} (h : DC cA w S h0 hf hc hu hq L ln tn tr (fl, us, st, pw, pl)) (ln' : Nat) (tn' : Int32) (tr' : Int64) (pl' : Nat) : DC cA (mw_up w h0 (dcell hf hc hq ln' tn' tr' st pw pl')) S h0 hf hc hu hq L ln' tn' tr' (fl, us, st, pw, pl') := by
  obtain ⟨h1, h2, h3, h4, h5, h6⟩ := h
  exact ⟨mw_self, by rw [mw_ne (mw_apart h2 h1 (by simp))]; exact h2, h3.frame (fun x hx => mw_ne (fun z => h4 (by rw [← z]; exact hx))), h4, h5, h6⟩
def carA (L kd : Nat) (u : uU) (κ : kS) : Int64 × kS :=
  if kd = 0 then (sumH κ.1 κ.2.1 (fsU u) (lnU u), κ) else if kd = 1 ∨ kd = 4 then (0, cacA L u κ) else if kd = 2 then (0, forA u κ) else if kd = 3 then ((nI κ.2.1.length).toInt64, (empK κ).2) else ((misH κ.1 κ.2.1 u (fsU u) (lnU u)).toInt64, κ)
theorem d_D_carryOut_0 : decode b_D_carryOut 0 = .ok (.aload_n 0, 1) := by decide +kernel
theorem d_D_carryOut_1 : decode b_D_carryOut 1 = .ok (.iload_n 2, 1) := by decide +kernel
theorem d_D_carryOut_2 : decode b_D_carryOut 2 = .ok (.putfield 119, 3) := by decide +kernel
theorem d_D_carryOut_5 : decode b_D_carryOut 5 = .ok (.aload_n 1, 1) := by decide +kernel
theorem d_D_carryOut_6 : decode b_D_carryOut 6 = .ok (.getfield 155, 3) := by decide +kernel
theorem d_D_carryOut_9 : decode b_D_carryOut 9 = .ok (.tableswitch 84 0 5 #[39, 48, 58, 68, 48, 74], 39) := by decide +kernel
theorem d_D_carryOut_48 : decode b_D_carryOut 48 = .ok (.aload_n 0, 1) := by decide +kernel
theorem d_D_carryOut_49 : decode b_D_carryOut 49 = .ok (.aload_n 1, 1) := by decide +kernel
theorem d_D_carryOut_50 : decode b_D_carryOut 50 = .ok (.getfield 63, 3) := by decide +kernel
theorem d_D_carryOut_53 : decode b_D_carryOut 53 = .ok (.invokevirtual 158, 3) := by decide +kernel
theorem d_D_carryOut_56 : decode b_D_carryOut 56 = .ok (.lreturn, 1) := by decide +kernel
theorem d_D_carryOut_57 : decode b_D_carryOut 57 = .ok (.aload_n 0, 1) := by decide +kernel
theorem d_D_carryOut_58 : decode b_D_carryOut 58 = .ok (.aload_n 1, 1) := by decide +kernel
theorem d_D_carryOut_59 : decode b_D_carryOut 59 = .ok (.getfield 63, 3) := by decide +kernel
theorem d_D_carryOut_62 : decode b_D_carryOut 62 = .ok (.invokevirtual 162, 3) := by decide +kernel
theorem d_D_carryOut_65 : decode b_D_carryOut 65 = .ok (.lconst 0, 1) := by decide +kernel
theorem d_D_carryOut_66 : decode b_D_carryOut 66 = .ok (.lreturn, 1) := by decide +kernel
theorem d_D_carryOut_67 : decode b_D_carryOut 67 = .ok (.aload_n 0, 1) := by decide +kernel
theorem d_D_carryOut_68 : decode b_D_carryOut 68 = .ok (.aload_n 1, 1) := by decide +kernel
theorem d_D_carryOut_69 : decode b_D_carryOut 69 = .ok (.getfield 63, 3) := by decide +kernel
theorem d_D_carryOut_72 : decode b_D_carryOut 72 = .ok (.invokevirtual 166, 3) := by decide +kernel
theorem d_D_carryOut_75 : decode b_D_carryOut 75 = .ok (.lconst 0, 1) := by decide +kernel
theorem d_D_carryOut_76 : decode b_D_carryOut 76 = .ok (.lreturn, 1) := by decide +kernel
theorem d_D_carryOut_77 : decode b_D_carryOut 77 = .ok (.aload_n 0, 1) := by decide +kernel
theorem d_D_carryOut_78 : decode b_D_carryOut 78 = .ok (.invokevirtual 169, 3) := by decide +kernel
theorem d_D_carryOut_81 : decode b_D_carryOut 81 = .ok (.i2l, 1) := by decide +kernel
theorem d_D_carryOut_82 : decode b_D_carryOut 82 = .ok (.lreturn, 1) := by decide +kernel
theorem d_D_carryOut_83 : decode b_D_carryOut 83 = .ok (.aload_n 0, 1) := by decide +kernel
theorem d_D_carryOut_84 : decode b_D_carryOut 84 = .ok (.aload_n 1, 1) := by decide +kernel
theorem d_D_carryOut_85 : decode b_D_carryOut 85 = .ok (.getfield 63, 3) := by decide +kernel
theorem d_D_carryOut_88 : decode b_D_carryOut 88 = .ok (.invokevirtual 172, 3) := by decide +kernel
theorem d_D_carryOut_91 : decode b_D_carryOut 91 = .ok (.i2l, 1) := by decide +kernel
theorem d_D_carryOut_92 : decode b_D_carryOut 92 = .ok (.lreturn, 1) := by decide +kernel
theorem d_D_carryOut_93 : decode b_D_carryOut 93 = .ok (.ldc2_w 13, 3) := by decide +kernel
theorem d_D_carryOut_96 : decode b_D_carryOut 96 = .ok (.lreturn, 1) := by decide +kernel
set_option maxHeartbeats 4000000 in
set_option maxRecDepth 100000 in
theorem m_D_carryOut {l : Launch} {D : va_G} {cA : Nat → ClassId} {n0 : Nat} {w : mw} {S : Nat → Prop} {h0 hf hc hu hq L ln : Nat} {tn : Int32} {tr : Int64} {fl : Nat → Int64} {us : List uU} {st pw pl : Nat} (K : DC cA w S h0 hf hc hu hq L ln tn tr (fl, us, st, pw, pl)) (hL1 : 1 ≤ L) {a b kd pg : Nat} {y : Int32} {u : uU} (ha : w a = some (kcell b y (nI kd))) (hB : w b = some (ucell u)) (hkd : kd ≤ 5) (hV : kd ≠ 3 → vU u) (hnb : ¬ PP S h0 hf b) (hpg : pg < 1000) {x : Int32} (hx1 : x = nI pg) :
    Ml l D cA n0 y_D_carryOut c_D_carryOut (rmd 5) [.ref h0, .ref a, .int x] w (fun r w' => r = (carA L kd u (fl, us, st, pw, pg)).1 ∧ DC cA w' S h0 hf hc hu hq L ln tn tr (carA L kd u (fl, us, st, pw, pg)).2 ∧ FR w w' (PP S h0 hf)) := by
  refine mw_met (cc := b_D_carryOut) (maxL := 3) (ret := (some .long)) (by decide) rfl (Nat.le_of_ble_eq_true rfl) ?_
  intro p e s m below meth c ls G hrt hlocks hname h hl
  have G : mw_G p m c b_D_carryOut 3 s _ (c_D_carryOut :: TB) R_D D cl (tys cA) n0 := G
  have hx := G.1.1
  have hb := G.1.2.1
  have hl : lv_has ls 3 [(0, .ref h0), (1, .ref a), (2, .int x)] := hl
  obtain ⟨hD, hF, ⟨f, g, hC, hU, hlen, hL, hg, hus, hinj, hSc, hSu⟩, hS0, hSf, hv⟩ := id K
  have hD : w h0 = some (dcell hf hc hq ln tn tr st pw pl) := hD
  have hF : w hf = some (longs cA 24 fl) := hF
  have hC : w hc = some (ccell hu us.length) := hC
  have hlen : us.length ≤ L := hlen
  subst hx1
  refine lv_aload_n hx hb d_D_carryOut_0 rfl (lv_at hl 0 rfl) ?_
  refine lv_iload_n hx hb d_D_carryOut_1 rfl (lv_at hl 2 rfl) ?_
  refine mx_put G h hD rfl 8 (by decide) (tb_in in_D) t_D t_D_ok n_D (tb_c k_125) rfl rfl rfl rfl rfl (Nat.le_of_ble_eq_true rfl) d_D_carryOut_2 (fun H locs h => ?_)
  have h : mw_H n0 D cl s (mw_up w h0 (.inr (0, [.ref hf, .ref hc, .ref hq, .int (nI ln), .int tn, .long tr, .int (nI st), .int (nI pw), .int (nI pg)]))) H locs := h
  obtain ⟨w_1, ew_1⟩ : ∃ xx : mw, mw_up w h0 (.inr (0, [.ref hf, .ref hc, .ref hq, .int (nI ln), .int tn, .long tr, .int (nI st), .int (nI pw), .int (nI pg)])) = xx := ⟨_, rfl⟩
  rw [ew_1] at h
  have f_2 : w_1 hf = some (longs cA 24 fl) := by rw [← ew_1, mw_ne (mw_apart hF hD (by simp))]; exact hF
  have f_3 : w_1 hc = some (ccell hu us.length) := by rw [← ew_1, mw_ne (mw_apart hC hD (by simp))]; exact hC
  have f_4 : w_1 hu = some (refs cA 3 L f) := by rw [← ew_1, mw_ne (mw_apart hU hD (by simp))]; exact hU
  have f_5 : w_1 a = some (kcell b y (nI kd)) := by rw [← ew_1, mw_ne (mw_apart ha hD (by simp))]; exact ha
  have f_6 : w_1 b = some (ucell u) := by rw [← ew_1, mw_ne (mw_apart hB hD (by simp))]; exact hB
  have f_7 : w_1 h0 = some (.inr (0, [.ref hf, .ref hc, .ref hq, .int (nI ln), .int tn, .long tr, .int (nI st), .int (nI pw), .int (nI pg)])) := by rw [← ew_1]; exact mw_self
  refine lv_aload_n hx hb d_D_carryOut_5 rfl (lv_at hl 1 rfl) ?_
  refine mx_get G h f_5 rfl 2 (by decide) (tb_in in_K) (tb_c k_87) rfl rfl d_D_carryOut_6 ?_
  have K1 : DC cA w_1 S h0 hf hc hu hq L ln tn tr (fl, us, st, pw, pg) := by rw [← ew_1]; exact K.put ln tn tr pg
  have hf0 : FR w w_1 (PP S h0 hf) := by rw [← ew_1]; exact FR.up (Or.inl rfl)
  rcases (show kd = 0 ∨ kd = 1 ∨ kd = 2 ∨ kd = 3 ∨ kd = 4 ∨ kd = 5 by omega) with rfl | rfl | rfl | rfl | rfl | rfl
  · refine lv_tableIn (tgt := 48) hx hb d_D_carryOut_9 (by decide) (by decide) rfl (by decide) ?_
    refine lv_aload_n hx hb d_D_carryOut_48 rfl (lv_at hl 0 rfl) ?_
    refine lv_aload_n hx hb d_D_carryOut_49 rfl (lv_at hl 1 rfl) ?_
    refine mx_get G h f_5 rfl 0 (by decide) (tb_in in_K) (tb_c k_83) rfl rfl d_D_carryOut_50 ?_
    refine mx_cl (cV (As := [.ref b]) (rest := []) G h (m_D_sumOfHeld K1 f_6 (hV (by decide))) k_179 k_181 ks_2 k_1 k_182 hd_D_sumOfHeld rfl rfl ⟨Nat.le_of_ble_eq_true rfl, Nat.le_of_ble_eq_true rfl⟩ f_7 rfl rfl hl.1 rfl (Nat.le_of_ble_eq_true rfl) d_D_carryOut_53 ⟨Nat.le_of_ble_eq_true rfl, Nat.le_of_ble_eq_true rfl⟩) h (fun r_9 w_8 H locs h hcp => ?_)
    obtain ⟨er_10, ew_11⟩ := hcp
    subst er_10
    rw [ew_11] at h
    exact mx_retl G h hrt hlocks d_D_carryOut_56 (⟨rfl, K1, hf0⟩)
  · refine lv_tableIn (tgt := 57) hx hb d_D_carryOut_9 (by decide) (by decide) rfl (by decide) ?_
    refine lv_aload_n hx hb d_D_carryOut_57 rfl (lv_at hl 0 rfl) ?_
    refine lv_aload_n hx hb d_D_carryOut_58 rfl (lv_at hl 1 rfl) ?_
    refine mx_get G h f_5 rfl 0 (by decide) (tb_in in_K) (tb_c k_83) rfl rfl d_D_carryOut_59 ?_
    refine mx_cv (cV (As := [.ref b]) (rest := []) G h (m_D_cacheUnit K1 hpg hL1 f_6 (hV (by decide)) hnb) k_196 k_198 ks_4 k_1 k_199 hd_D_cacheUnit rfl rfl ⟨Nat.le_of_ble_eq_true rfl, Nat.le_of_ble_eq_true rfl⟩ f_7 rfl rfl hl.1 rfl (Nat.le_of_ble_eq_true rfl) d_D_carryOut_62 ⟨Nat.le_of_ble_eq_true rfl, Nat.le_of_ble_eq_true rfl⟩) h (fun w_12 H locs h hcp => ?_)
    obtain ⟨K2, hf2⟩ := hcp
    refine lv_lconst (v := 0) hx hb d_D_carryOut_65 (by decide) ?_
    exact mx_retl G h hrt hlocks d_D_carryOut_66 (⟨rfl, K2, hf0.tr hf2⟩)
  · refine lv_tableIn (tgt := 67) hx hb d_D_carryOut_9 (by decide) (by decide) rfl (by decide) ?_
    refine lv_aload_n hx hb d_D_carryOut_67 rfl (lv_at hl 0 rfl) ?_
    refine lv_aload_n hx hb d_D_carryOut_68 rfl (lv_at hl 1 rfl) ?_
    refine mx_get G h f_5 rfl 0 (by decide) (tb_in in_K) (tb_c k_83) rfl rfl d_D_carryOut_69 ?_
    refine mx_cv (cV (As := [.ref b]) (rest := []) G h (m_D_force K1 hpg f_6 (hV (by decide)) hnb) k_222 k_224 ks_7 k_1 k_225 hd_D_force rfl rfl ⟨Nat.le_of_ble_eq_true rfl, Nat.le_of_ble_eq_true rfl⟩ f_7 rfl rfl hl.1 rfl (Nat.le_of_ble_eq_true rfl) d_D_carryOut_72 ⟨Nat.le_of_ble_eq_true rfl, Nat.le_of_ble_eq_true rfl⟩) h (fun w_13 H locs h hcp => ?_)
    obtain ⟨K2, hf2⟩ := hcp
    refine lv_lconst (v := 0) hx hb d_D_carryOut_75 (by decide) ?_
    exact mx_retl G h hrt hlocks d_D_carryOut_76 (⟨rfl, K2, hf0.tr hf2⟩)
  · refine lv_tableIn (tgt := 77) hx hb d_D_carryOut_9 (by decide) (by decide) rfl (by decide) ?_
    refine lv_aload_n hx hb d_D_carryOut_77 rfl (lv_at hl 0 rfl) ?_
    refine mx_ci (cV (As := []) (rest := []) G h (m_D_flush K1 hpg) k_230 k_232 ks_9 k_1 k_233 hd_D_flush rfl rfl ⟨Nat.le_of_ble_eq_true rfl, Nat.le_of_ble_eq_true rfl⟩ f_7 rfl rfl hl.1 rfl (Nat.le_of_ble_eq_true rfl) d_D_carryOut_78 ⟨Nat.le_of_ble_eq_true rfl, Nat.le_of_ble_eq_true rfl⟩) h (fun r_15 w_14 H locs h hcp => ?_)
    obtain ⟨er, K2, hf2⟩ := hcp
    subst er
    refine lv_i2l hx hb d_D_carryOut_81 rfl ?_
    exact mx_retl G h hrt hlocks d_D_carryOut_82 (⟨rfl, K2, hf0.tr hf2⟩)
  · refine lv_tableIn (tgt := 57) hx hb d_D_carryOut_9 (by decide) (by decide) rfl (by decide) ?_
    refine lv_aload_n hx hb d_D_carryOut_57 rfl (lv_at hl 0 rfl) ?_
    refine lv_aload_n hx hb d_D_carryOut_58 rfl (lv_at hl 1 rfl) ?_
    refine mx_get G h f_5 rfl 0 (by decide) (tb_in in_K) (tb_c k_83) rfl rfl d_D_carryOut_59 ?_
    refine mx_cv (cV (As := [.ref b]) (rest := []) G h (m_D_cacheUnit K1 hpg hL1 f_6 (hV (by decide)) hnb) k_196 k_198 ks_4 k_1 k_199 hd_D_cacheUnit rfl rfl ⟨Nat.le_of_ble_eq_true rfl, Nat.le_of_ble_eq_true rfl⟩ f_7 rfl rfl hl.1 rfl (Nat.le_of_ble_eq_true rfl) d_D_carryOut_62 ⟨Nat.le_of_ble_eq_true rfl, Nat.le_of_ble_eq_true rfl⟩) h (fun w_16 H locs h hcp => ?_)
    obtain ⟨K2, hf2⟩ := hcp
    refine lv_lconst (v := 0) hx hb d_D_carryOut_65 (by decide) ?_
    exact mx_retl G h hrt hlocks d_D_carryOut_66 (⟨rfl, K2, hf0.tr hf2⟩)
  · refine lv_tableIn (tgt := 83) hx hb d_D_carryOut_9 (by decide) (by decide) rfl (by decide) ?_
    refine lv_aload_n hx hb d_D_carryOut_83 rfl (lv_at hl 0 rfl) ?_
    refine lv_aload_n hx hb d_D_carryOut_84 rfl (lv_at hl 1 rfl) ?_
    refine mx_get G h f_5 rfl 0 (by decide) (tb_in in_K) (tb_c k_83) rfl rfl d_D_carryOut_85 ?_
    refine mx_ci (cV (As := [.ref b]) (rest := []) G h (m_D_mismatches K1 f_6 (hV (by decide))) k_234 k_236 ks_10 k_1 k_237 hd_D_mismatches rfl rfl ⟨Nat.le_of_ble_eq_true rfl, Nat.le_of_ble_eq_true rfl⟩ f_7 rfl rfl hl.1 rfl (Nat.le_of_ble_eq_true rfl) d_D_carryOut_88 ⟨Nat.le_of_ble_eq_true rfl, Nat.le_of_ble_eq_true rfl⟩) h (fun r_18 w_17 H locs h hcp => ?_)
    obtain ⟨er_19, ew_20⟩ := hcp
    subst er_19
    rw [ew_20] at h
    refine lv_i2l hx hb d_D_carryOut_91 rfl ?_
    exact mx_retl G h hrt hlocks d_D_carryOut_92 (⟨rfl, K1, hf0⟩)
end
section
/-! The drive as a whole: k i the addresses of its fixed cells, ρ the regions (1 cache, 2 3 4 queues, 5 the rest) -/
def DRp (cA : Nat → ClassId) (w : mw) (ρ k : Nat → Nat) (L : Nat) (fl : Nat → Int64) (us : List uU) (sn pw : Nat) (pq : Nat → List pC) (cq : Nat → List (Int32 × Int64)) (ln : Nat) (tn : Int32) (tr : Int64) (pl : Nat) : Prop :=
  DC cA w (fun x => ρ x = 1) (k 0) (k 1) (k 2) (k 3) (k 4) L ln tn tr (fl, us, sn, pw, pl) ∧ (∃ f, w (k 4) = some (refs cA 5 3 f) ∧ ∀ i, i < 3 → f i = some (k (5 + i))) ∧ (∀ i, i < 3 → QA cA w (fun x => ρ x = 2 + i) (k (5 + i)) (k (8 + i)) (k (11 + i)) (k (14 + i)) (pq i) (cq i)) ∧ ρ (k 0) = 5 ∧ ρ (k 1) = 5 ∧ ρ (k 4) = 5 ∧ 1 ≤ L ∧ ∀ i, i < 3 → ∀ c ∈ pq i, vC c
def RG (ρ : Nat → Nat) : Nat → Prop := fun x => 1 ≤ ρ x ∧ ρ x ≤ 5
section DRL
variable {cA : Nat → ClassId} {w w' : mw} {ρ k : Nat → Nat} {L : Nat} {fl fl' : Nat → Int64} {us us' : List uU} {sn pw sn' pw' : Nat} {pq : Nat → List pC} {cq : Nat → List (Int32 × Int64)} {ln ln' : Nat} {tn tn' : Int32} {tr tr' : Int64} {pl pl' : Nat}
theorem DRp.notP (h : DRp cA w ρ k L fl us sn pw pq cq ln tn tr pl) {x : Nat} (h1 : ρ x ≠ 1) (h5 : ρ x ≠ 5) : ¬ PP (fun x => ρ x = 1) (k 0) (k 1) x := by
  obtain ⟨-, -, -, r0, r1, -⟩ := h
  rintro (rfl | rfl | z)
  · exact h5 r0
  · exact h5 r1
  · exact h1 z
theorem DRp.core (h : DRp cA w ρ k L fl us sn pw pq cq ln tn tr pl) (K : DC cA w' (fun x => ρ x = 1) (k 0) (k 1) (k 2) (k 3) (k 4) L ln' tn' tr' (fl', us', sn', pw', pl')) (hf : FR w w' (PP (fun x => ρ x = 1) (k 0) (k 1))) : DRp cA w' ρ k L fl' us' sn' pw' pq cq ln' tn' tr' pl' := by
  have hN := fun {x : Nat} => h.notP (x := x)
  obtain ⟨K0, ⟨f, q1, q2⟩, hQ, r0, r1, r4, hL, hv⟩ := h
  refine ⟨K, ⟨f, ?_, q2⟩, fun i hi => (hQ i hi).frame (fun x hx => hf x (hN (by omega) (by omega))), r0, r1, r4, hL, hv⟩
  rw [hf (k 4) (by
    rintro (z | z | z)
    · exact mw_apart q1 K0.1 (by simp) z
    · exact mw_apart q1 K0.2.1 (by simp) z
    · exact absurd (r4.symm.trans z) (by decide))]
  exact q1
theorem DRp.queue (h : DRp cA w ρ k L fl us sn pw pq cq ln tn tr pl) {j : Nat} (hj : j < 3) {ps : List pC} {cs : List (Int32 × Int64)} (hq : QA cA w' (fun x => ρ x = 2 + j) (k (5 + j)) (k (8 + j)) (k (11 + j)) (k (14 + j)) ps cs) (hv' : ∀ c ∈ ps, vC c) (hf : FR w w' (fun x => ρ x = 2 + j)) : DRp cA w' ρ k L fl us sn pw (va_up pq j ps) (va_up cq j cs) ln tn tr pl := by
  obtain ⟨K0, ⟨f, q1, q2⟩, hQ, r0, r1, r4, hL, hv⟩ := h
  refine ⟨K0.frame (fun x hx => hf x ?_), ⟨f, ?_, q2⟩, fun i hi => ?_, r0, r1, r4, hL, fun i hi c hc => ?_⟩
  · rcases hx with rfl | rfl | z
    · show ¬ ρ (k 0) = 2 + j; omega
    · show ¬ ρ (k 1) = 2 + j; omega
    · show ¬ ρ x = 2 + j; have z : ρ x = 1 := z; omega
  · rw [hf (k 4) (by show ¬ ρ (k 4) = 2 + j; omega)]; exact q1
  · by_cases e : i = j
    · subst e
      simp only [va_up, if_true]
      exact hq
    · simp only [va_up, if_neg e]
      exact (hQ i hi).frame (fun x hx => hf x (by show ¬ ρ x = 2 + j; have hx : ρ x = 2 + i := hx; omega))
  · by_cases e : i = j
    · subst e
      simp only [va_up, if_true] at hc
      exact hv' c hc
    · simp only [va_up, if_neg e] at hc
      exact hv i hi c hc
theorem RG_P (h : DRp cA w ρ k L fl us sn pw pq cq ln tn tr pl) {x : Nat} (hx : PP (fun x => ρ x = 1) (k 0) (k 1) x) : RG ρ x := by
  obtain ⟨-, -, -, r0, r1, -⟩ := h
  rcases hx with rfl | rfl | z
  · exact ⟨by omega, by omega⟩
  · exact ⟨by omega, by omega⟩
  · have z : ρ x = 1 := z; exact ⟨by omega, by omega⟩
theorem RG_Q {j x : Nat} (hj : j < 3) (hx : ρ x = 2 + j) : RG ρ x := ⟨by omega, by omega⟩
end DRL
theorem ixQ {q : Int32} (n : Nat) {y : Int32} (hy : y = nI n) (hn : n < 2 ^ 31) (h0 : 0 ≤ q) (h1 : q < y) : ∃ j, j < n ∧ q = nI j := by
  rcases pk_ix q hn with z | z | z
  · exact absurd h0 (Int32.not_le.mpr z)
  · rw [hy] at h1; exact absurd z (Int32.not_le.mpr h1)
  · exact z
theorem nI_c {n : Nat} (h : n < 1000) : (nI n).toNatClampNeg = n := nI_clamp (by omega)
/-- the refusals of step -/
def refS (pq : Nat → List pC) (cq : Nat → List (Int32 × Int64)) (q pick : Int32) : Int32 := if (0 ≤ q ∧ q < 3) ∧ 0 ≤ pick ∧ pick < nI (pq q.toNatClampNeg).length then (if 4 ≤ (cq q.toNatClampNeg).length then -3 else 0) else -1
theorem refS_0 {pq : Nat → List pC} {cq : Nat → List (Int32 × Int64)} {q pick : Int32} (hp : ∀ i, i < 3 → (pq i).length ≤ 4) (h : refS pq cq q pick = 0) : ∃ j i, j < 3 ∧ q = nI j ∧ i < (pq j).length ∧ pick = nI i ∧ (cq j).length < 4 := by
  unfold refS at h
  split at h
  · rename_i c
    split at h
    · exact absurd h (by decide)
    · rename_i c2
      obtain ⟨j, hj, rfl⟩ := ixQ 3 rfl (by decide) c.1.1 c.1.2
      rw [nI_c (by omega)] at c c2
      obtain ⟨i, hi, rfl⟩ := ixQ (pq j).length rfl (by have := hp j hj; omega) c.2.1 c.2.2
      exact ⟨j, i, hj, rfl, hi, rfl, by omega⟩
  · exact absurd h (by decide)
theorem d_D_refusalOfStep_0 : decode b_D_refusalOfStep 0 = .ok (.iload_n 1, 1) := by decide +kernel
theorem d_D_refusalOfStep_1 : decode b_D_refusalOfStep 1 = .ok (.invokestatic 44, 3) := by decide +kernel
theorem d_D_refusalOfStep_4 : decode b_D_refusalOfStep 4 = .ok (.ifCond .eq 16, 3) := by decide +kernel
theorem d_D_refusalOfStep_7 : decode b_D_refusalOfStep 7 = .ok (.aload_n 0, 1) := by decide +kernel
theorem d_D_refusalOfStep_8 : decode b_D_refusalOfStep 8 = .ok (.getfield 35, 3) := by decide +kernel
theorem d_D_refusalOfStep_11 : decode b_D_refusalOfStep 11 = .ok (.iload_n 1, 1) := by decide +kernel
theorem d_D_refusalOfStep_12 : decode b_D_refusalOfStep 12 = .ok (.aaload, 1) := by decide +kernel
theorem d_D_refusalOfStep_13 : decode b_D_refusalOfStep 13 = .ok (.iload_n 2, 1) := by decide +kernel
theorem d_D_refusalOfStep_14 : decode b_D_refusalOfStep 14 = .ok (.invokevirtual 129, 3) := by decide +kernel
theorem d_D_refusalOfStep_17 : decode b_D_refusalOfStep 17 = .ok (.ifCond .ne 5, 3) := by decide +kernel
theorem d_D_refusalOfStep_20 : decode b_D_refusalOfStep 20 = .ok (.iconst (-1), 1) := by decide +kernel
theorem d_D_refusalOfStep_21 : decode b_D_refusalOfStep 21 = .ok (.ireturn, 1) := by decide +kernel
theorem d_D_refusalOfStep_22 : decode b_D_refusalOfStep 22 = .ok (.aload_n 0, 1) := by decide +kernel
theorem d_D_refusalOfStep_23 : decode b_D_refusalOfStep 23 = .ok (.getfield 35, 3) := by decide +kernel
theorem d_D_refusalOfStep_26 : decode b_D_refusalOfStep 26 = .ok (.iload_n 1, 1) := by decide +kernel
theorem d_D_refusalOfStep_27 : decode b_D_refusalOfStep 27 = .ok (.aaload, 1) := by decide +kernel
theorem d_D_refusalOfStep_28 : decode b_D_refusalOfStep 28 = .ok (.getfield 96, 3) := by decide +kernel
theorem d_D_refusalOfStep_31 : decode b_D_refusalOfStep 31 = .ok (.iconst 4, 1) := by decide +kernel
theorem d_D_refusalOfStep_32 : decode b_D_refusalOfStep 32 = .ok (.if_icmp .lt 8, 3) := by decide +kernel
theorem d_D_refusalOfStep_35 : decode b_D_refusalOfStep 35 = .ok (.bipush (-3), 2) := by decide +kernel
theorem d_D_refusalOfStep_37 : decode b_D_refusalOfStep 37 = .ok (.goto 4, 3) := by decide +kernel
theorem d_D_refusalOfStep_40 : decode b_D_refusalOfStep 40 = .ok (.iconst 0, 1) := by decide +kernel
theorem d_D_refusalOfStep_41 : decode b_D_refusalOfStep 41 = .ok (.ireturn, 1) := by decide +kernel
theorem d_D_clearQueues_0 : decode b_D_clearQueues 0 = .ok (.iconst 0, 1) := by decide +kernel
theorem d_D_clearQueues_1 : decode b_D_clearQueues 1 = .ok (.istore_n 1, 1) := by decide +kernel
theorem d_D_clearQueues_2 : decode b_D_clearQueues 2 = .ok (.iconst 0, 1) := by decide +kernel
theorem d_D_clearQueues_3 : decode b_D_clearQueues 3 = .ok (.istore_n 2, 1) := by decide +kernel
theorem d_D_clearQueues_4 : decode b_D_clearQueues 4 = .ok (.iload_n 2, 1) := by decide +kernel
theorem d_D_clearQueues_5 : decode b_D_clearQueues 5 = .ok (.iconst 3, 1) := by decide +kernel
theorem d_D_clearQueues_6 : decode b_D_clearQueues 6 = .ok (.if_icmp .ge 41, 3) := by decide +kernel
theorem d_D_clearQueues_9 : decode b_D_clearQueues 9 = .ok (.iload_n 1, 1) := by decide +kernel
theorem d_D_clearQueues_10 : decode b_D_clearQueues 10 = .ok (.aload_n 0, 1) := by decide +kernel
theorem d_D_clearQueues_11 : decode b_D_clearQueues 11 = .ok (.getfield 35, 3) := by decide +kernel
theorem d_D_clearQueues_14 : decode b_D_clearQueues 14 = .ok (.iload_n 2, 1) := by decide +kernel
theorem d_D_clearQueues_15 : decode b_D_clearQueues 15 = .ok (.aaload, 1) := by decide +kernel
theorem d_D_clearQueues_16 : decode b_D_clearQueues 16 = .ok (.getfield 52, 3) := by decide +kernel
theorem d_D_clearQueues_19 : decode b_D_clearQueues 19 = .ok (.iadd, 1) := by decide +kernel
theorem d_D_clearQueues_20 : decode b_D_clearQueues 20 = .ok (.istore_n 1, 1) := by decide +kernel
theorem d_D_clearQueues_21 : decode b_D_clearQueues 21 = .ok (.aload_n 0, 1) := by decide +kernel
theorem d_D_clearQueues_22 : decode b_D_clearQueues 22 = .ok (.getfield 35, 3) := by decide +kernel
theorem d_D_clearQueues_25 : decode b_D_clearQueues 25 = .ok (.iload_n 2, 1) := by decide +kernel
theorem d_D_clearQueues_26 : decode b_D_clearQueues 26 = .ok (.aaload, 1) := by decide +kernel
theorem d_D_clearQueues_27 : decode b_D_clearQueues 27 = .ok (.iconst 0, 1) := by decide +kernel
theorem d_D_clearQueues_28 : decode b_D_clearQueues 28 = .ok (.putfield 52, 3) := by decide +kernel
theorem d_D_clearQueues_31 : decode b_D_clearQueues 31 = .ok (.aload_n 0, 1) := by decide +kernel
theorem d_D_clearQueues_32 : decode b_D_clearQueues 32 = .ok (.getfield 35, 3) := by decide +kernel
theorem d_D_clearQueues_35 : decode b_D_clearQueues 35 = .ok (.iload_n 2, 1) := by decide +kernel
theorem d_D_clearQueues_36 : decode b_D_clearQueues 36 = .ok (.aaload, 1) := by decide +kernel
theorem d_D_clearQueues_37 : decode b_D_clearQueues 37 = .ok (.iconst 0, 1) := by decide +kernel
theorem d_D_clearQueues_38 : decode b_D_clearQueues 38 = .ok (.putfield 96, 3) := by decide +kernel
theorem d_D_clearQueues_41 : decode b_D_clearQueues 41 = .ok (.iinc 2 1, 3) := by decide +kernel
theorem d_D_clearQueues_44 : decode b_D_clearQueues 44 = .ok (.goto (-40), 3) := by decide +kernel
theorem d_D_clearQueues_47 : decode b_D_clearQueues 47 = .ok (.iload_n 1, 1) := by decide +kernel
theorem d_D_clearQueues_48 : decode b_D_clearQueues 48 = .ok (.ireturn, 1) := by decide +kernel
theorem d_D_losePower_0 : decode b_D_losePower 0 = .ok (.aload_n 0, 1) := by decide +kernel
theorem d_D_losePower_1 : decode b_D_losePower 1 = .ok (.getfield 29, 3) := by decide +kernel
theorem d_D_losePower_4 : decode b_D_losePower 4 = .ok (.getfield 132, 3) := by decide +kernel
theorem d_D_losePower_7 : decode b_D_losePower 7 = .ok (.istore_n 1, 1) := by decide +kernel
theorem d_D_losePower_8 : decode b_D_losePower 8 = .ok (.aload_n 0, 1) := by decide +kernel
theorem d_D_losePower_9 : decode b_D_losePower 9 = .ok (.getfield 29, 3) := by decide +kernel
theorem d_D_losePower_12 : decode b_D_losePower 12 = .ok (.iconst 0, 1) := by decide +kernel
theorem d_D_losePower_13 : decode b_D_losePower 13 = .ok (.putfield 132, 3) := by decide +kernel
theorem d_D_losePower_16 : decode b_D_losePower 16 = .ok (.aload_n 0, 1) := by decide +kernel
theorem d_D_losePower_17 : decode b_D_losePower 17 = .ok (.invokevirtual 112, 3) := by decide +kernel
theorem d_D_losePower_20 : decode b_D_losePower 20 = .ok (.pop, 1) := by decide +kernel
theorem d_D_losePower_21 : decode b_D_losePower 21 = .ok (.iload_n 1, 1) := by decide +kernel
theorem d_D_losePower_22 : decode b_D_losePower 22 = .ok (.ireturn, 1) := by decide +kernel
set_option maxHeartbeats 4000000 in
set_option maxRecDepth 100000 in
theorem m_D_refusalOfStep {l : Launch} {D : va_G} {cA : Nat → ClassId} {n0 : Nat} {w : mw} {ρ k : Nat → Nat} {L : Nat} {fl : Nat → Int64} {us : List uU} {sn pw : Nat} {pq : Nat → List pC} {cq : Nat → List (Int32 × Int64)} {ln : Nat} {tn : Int32} {tr : Int64} {pl : Nat} (Z : DRp cA w ρ k L fl us sn pw pq cq ln tn tr pl) {q x : Int32} :
    Mi l D cA n0 y_D_refusalOfStep c_D_refusalOfStep (rmd 1) [.ref (k 0), .int q, .int x] w (fun r w' => r = refS pq cq q x ∧ w' = w) := by
  refine mw_met (cc := b_D_refusalOfStep) (maxL := 3) (ret := (some .int)) (by decide) rfl (Nat.le_of_ble_eq_true rfl) ?_
  intro p e s m below meth c ls G hrt hlocks hname h hl
  have G : mw_G p m c b_D_refusalOfStep 3 s _ (c_D_refusalOfStep :: TB) R_D D cl (tys cA) n0 := G
  have hx := G.1.1
  have hb := G.1.2.1
  have hl : lv_has ls 3 [(0, .ref (k 0)), (1, .int q), (2, .int x)] := hl
  obtain ⟨K0, ⟨qf, hq1, hq2⟩, hQ, r0, r1, r4, hL1, hvC⟩ := id Z
  have hD : w (k 0) = some (dcell (k 1) (k 2) (k 4) ln tn tr sn pw pl) := K0.1
  refine lv_iload_n hx hb d_D_refusalOfStep_0 rfl (lv_at hl 1 rfl) ?_
  refine mx_ci (cS (As := [.int q]) (rest := []) G h (m_D_isQueue (x := q)) k_149 k_150 k_1 k_151 rfl hd_D_isQueue rfl rfl ⟨Nat.le_of_ble_eq_true rfl, Nat.le_of_ble_eq_true rfl⟩ rfl hl.1 rfl (Nat.le_of_ble_eq_true rfl) d_D_refusalOfStep_1 ⟨Nat.le_of_ble_eq_true rfl, Nat.le_of_ble_eq_true rfl⟩) h (fun r_2 w_1 H locs h hcp => ?_)
  obtain ⟨er_3, ew_4⟩ := hcp
  subst er_3
  rw [ew_4] at h
  refine lv_if_eq (tgt := 20) hx hb d_D_refusalOfStep_4 (by decide) (fun c_5 => ?_) (fun c_5 => ?_)
  · refine lv_iconst (v := (-1)) hx hb d_D_refusalOfStep_20 (by decide) ?_
    exact mx_reti G h hrt hlocks d_D_refusalOfStep_21 (⟨by rw [refS, if_neg (fun z => bI_0 c_5 z.1)], rfl⟩)
  · have hi3 := bI_n c_5
    obtain ⟨j, hj, hqj⟩ := ixQ 3 rfl (by decide) hi3.1 hi3.2
    have hqc : q.toNatClampNeg = j := by rw [hqj]; exact nI_c (by omega)
    obtain ⟨f, g, gu, fn, fr, hX⟩ := hQ j hj
    have hX1 := hX.1
    refine lv_aload_n hx hb d_D_refusalOfStep_7 rfl (lv_at hl 0 rfl) ?_
    refine mx_get G h hD rfl 2 (by decide) (tb_in in_D) (tb_c k_119) rfl rfl d_D_refusalOfStep_8 ?_
    refine lv_iload_n hx hb d_D_refusalOfStep_11 rfl (lv_at hl 1 rfl) ?_
    refine ax_a G h 5 hq1 rfl j hqj hj (by decide) (hq2 j hj) d_D_refusalOfStep_12 ?_
    refine lv_iload_n hx hb d_D_refusalOfStep_13 rfl (lv_at hl 2 rfl) ?_
    refine mx_ci (cV (As := [.int x]) (rest := []) G h (m_Q_hasPending hX1 (x := x)) k_171 k_172 k_173 k_5 k_174 hd_Q_hasPending rfl rfl ⟨Nat.le_of_ble_eq_true rfl, Nat.le_of_ble_eq_true rfl⟩ hX1 rfl rfl hl.1 rfl (Nat.le_of_ble_eq_true rfl) d_D_refusalOfStep_14 ⟨Nat.le_of_ble_eq_true rfl, Nat.le_of_ble_eq_true rfl⟩) h (fun r_7 w_6 H locs h hcp => ?_)
    obtain ⟨er_8, ew_9⟩ := hcp
    subst er_8
    rw [ew_9] at h
    refine lv_if_ne (tgt := 22) hx hb d_D_refusalOfStep_17 (by decide) (fun c_10 => ?_) (fun c_10 => ?_)
    · refine lv_aload_n hx hb d_D_refusalOfStep_22 rfl (lv_at hl 0 rfl) ?_
      refine mx_get G h hD rfl 2 (by decide) (tb_in in_D) (tb_c k_119) rfl rfl d_D_refusalOfStep_23 ?_
      refine lv_iload_n hx hb d_D_refusalOfStep_26 rfl (lv_at hl 1 rfl) ?_
      refine ax_a G h 5 hq1 rfl j hqj hj (by decide) (hq2 j hj) d_D_refusalOfStep_27 ?_
      refine mx_get G h hX1 rfl 4 (by decide) (tb_in in_Q) (tb_c k_103) rfl rfl d_D_refusalOfStep_28 ?_
      refine lv_iconst (v := 4) hx hb d_D_refusalOfStep_31 (by decide) ?_
      refine lv_icmp_lt (tgt := 40) hx hb d_D_refusalOfStep_32 (by decide) (fun c_11 => ?_) (fun c_11 => ?_)
      · refine lv_iconst (v := 0) hx hb d_D_refusalOfStep_40 (by decide) ?_
        exact mx_reti G h hrt hlocks d_D_refusalOfStep_41 (⟨by rw [refS, hqc, if_pos ⟨hi3, bI_n c_10⟩, if_neg (Nat.not_le.mpr ((nI_ltI (by have := hX.2.2.2.2.2.1; omega) (by decide)).mp c_11))], rfl⟩)
      · refine lv_bipush (v := -3) hx hb d_D_refusalOfStep_35 (by decide) ?_
        refine lv_goto (tgt := 41) hx hb d_D_refusalOfStep_37 (by decide) ?_
        exact mx_reti G h hrt hlocks d_D_refusalOfStep_41 (⟨by rw [refS, hqc, if_pos ⟨hi3, bI_n c_10⟩, if_pos (Nat.not_lt.mp (fun z => c_11 ((nI_ltI (by have := hX.2.2.2.2.2.1; omega) (by decide)).mpr z)))], rfl⟩)
    · refine lv_iconst (v := (-1)) hx hb d_D_refusalOfStep_20 (by decide) ?_
      exact mx_reti G h hrt hlocks d_D_refusalOfStep_21 (⟨by rw [refS, hqc, if_neg (fun z => bI_0 c_10 z.2)], rfl⟩)
theorem DRp.ext3 {cA : Nat → ClassId} {w : mw} {ρ k : Nat → Nat} {L : Nat} {fl : Nat → Int64} {us : List uU} {sn pw : Nat} {pq : Nat → List pC} {cq : Nat → List (Int32 × Int64)} {ln : Nat} {tn : Int32} {tr : Int64} {pl : Nat} (h : DRp cA w ρ k L fl us sn pw (va_up (va_up (va_up pq 0 []) 1 []) 2 []) (va_up (va_up (va_up cq 0 []) 1 []) 2 []) ln tn tr pl) : DRp cA w ρ k L fl us sn pw (fun _ => []) (fun _ => []) ln tn tr pl := by
  obtain ⟨K0, h1, hQ, r0, r1, r4, hL1, hvC⟩ := h
  refine ⟨K0, h1, fun i hi => ?_, r0, r1, r4, hL1, fun i hi c hc => by simp at hc⟩
  have := hQ i hi
  rcases (show i = 0 ∨ i = 1 ∨ i = 2 by omega) with rfl | rfl | rfl <;> simpa [va_up] using this
set_option maxHeartbeats 4000000 in
set_option maxRecDepth 100000 in
theorem m_D_clearQueues {l : Launch} {D : va_G} {cA : Nat → ClassId} {n0 : Nat} {w : mw} {ρ k : Nat → Nat} {L : Nat} {fl : Nat → Int64} {us : List uU} {sn pw : Nat} {pq : Nat → List pC} {cq : Nat → List (Int32 × Int64)} {ln : Nat} {tn : Int32} {tr : Int64} {pl : Nat} (Z : DRp cA w ρ k L fl us sn pw pq cq ln tn tr pl) :
    Mi l D cA n0 y_D_clearQueues c_D_clearQueues (rmd 0) [.ref (k 0)] w (fun r w' => r = nI ((pq 0).length + (pq 1).length + (pq 2).length) ∧ DRp cA w' ρ k L fl us sn pw (fun _ => []) (fun _ => []) ln tn tr pl ∧ FR w w' (RG ρ)) := by
  refine mw_met (cc := b_D_clearQueues) (maxL := 3) (ret := (some .int)) (by decide) rfl (Nat.le_of_ble_eq_true rfl) ?_
  intro p e s m below meth c ls G hrt hlocks hname h hl
  have G : mw_G p m c b_D_clearQueues 3 s _ (c_D_clearQueues :: TB) R_D D cl (tys cA) n0 := G
  have hx := G.1.1
  have hb := G.1.2.1
  have hl : lv_has ls 3 [(0, .ref (k 0))] := hl
  have clr : ∀ (v : mw) (p1 : Nat → List pC) (c1 : Nat → List (Int32 × Int64)) (j : Nat), j < 3 → DRp cA v ρ k L fl us sn pw p1 c1 ln tn tr pl → DRp cA (mw_up v (k (5 + j)) (qcell (k (8 + j)) (k (11 + j)) (k (14 + j)) 0 0)) ρ k L fl us sn pw (va_up p1 j []) (va_up c1 j []) ln tn tr pl := by
    intro v p1 c1 j hj h1
    obtain ⟨f, g, gu, fn, fr, hX⟩ := h1.2.2.1 j hj
    exact h1.queue hj ⟨f, g, gu, fn, fr, hX.clr⟩ (fun c hc => by simp at hc) (FR.up hX.2.2.2.2.2.2.2.2.2.2.2.1)
  refine lv_iconst (v := 0) hx hb d_D_clearQueues_0 (by decide) ?_
  refine lv_istore_n (lv' := [(1, .int 0), (0, .ref (k 0))]) hx hb d_D_clearQueues_1 rfl hl (by decide) rfl (fun ls hl => ?_)
  refine lv_iconst (v := 0) hx hb d_D_clearQueues_2 (by decide) ?_
  refine lv_istore_n (lv' := [(2, .int 0), (1, .int 0), (0, .ref (k 0))]) hx hb d_D_clearQueues_3 rfl hl (by decide) rfl (fun ls hl => ?_)
  have hfr : FR w w (RG ρ) := FR.rf
  have e0 : (0 : Int32) = nI 0 := rfl
  obtain ⟨K0, ⟨qf, hq1, hq2⟩, hQ, r0, r1, r4, hL1, hvC⟩ := id Z
  obtain ⟨f, g, gu, fn, fr, hX⟩ := hQ 0 (by decide)
  have hX1 := hX.1
  have hX1 : w (k (5 + 0)) = some (qcell (k (8 + 0)) (k (11 + 0)) (k (14 + 0)) (pq 0).length (cq 0).length) := hX1
  refine lv_iload_n hx hb d_D_clearQueues_4 rfl (lv_at hl 0 rfl) ?_
  refine lv_iconst (v := 3) hx hb d_D_clearQueues_5 (by decide) ?_
  refine lv_icmp_ge (tgt := 47) hx hb d_D_clearQueues_6 (by decide) (fun c_1 => absurd c_1 (by decide)) (fun c_1 => ?_)
  refine lv_iload_n hx hb d_D_clearQueues_9 rfl (lv_at hl 1 rfl) ?_
  refine lv_aload_n hx hb d_D_clearQueues_10 rfl (lv_at hl 2 rfl) ?_
  refine mx_get G h K0.1 rfl 2 (by decide) (tb_in in_D) (tb_c k_119) rfl rfl d_D_clearQueues_11 ?_
  refine lv_iload_n hx hb d_D_clearQueues_14 rfl (lv_at hl 0 rfl) ?_
  refine ax_a G h 5 hq1 rfl 0 rfl (by decide) (by decide) (hq2 0 (by decide)) d_D_clearQueues_15 ?_
  refine mx_get G h hX1 rfl 3 (by decide) (tb_in in_Q) (tb_c k_102) rfl rfl d_D_clearQueues_16 ?_
  refine lv_iadd hx hb d_D_clearQueues_19 ?_
  refine lv_istore_n (lv' := [(1, .int (0 + (nI (pq 0).length))), (2, .int 0), (0, .ref (k 0))]) hx hb d_D_clearQueues_20 rfl hl (by decide) rfl (fun ls hl => ?_)
  refine lv_aload_n hx hb d_D_clearQueues_21 rfl (lv_at hl 2 rfl) ?_
  refine mx_get G h K0.1 rfl 2 (by decide) (tb_in in_D) (tb_c k_119) rfl rfl d_D_clearQueues_22 ?_
  refine lv_iload_n hx hb d_D_clearQueues_25 rfl (lv_at hl 1 rfl) ?_
  refine ax_a G h 5 hq1 rfl 0 rfl (by decide) (by decide) (hq2 0 (by decide)) d_D_clearQueues_26 ?_
  refine lv_iconst (v := 0) hx hb d_D_clearQueues_27 (by decide) ?_
  refine mx_put G h hX1 rfl 3 (by decide) (tb_in in_Q) t_Q t_Q_ok n_Q (tb_c k_102) rfl rfl rfl rfl rfl (Nat.le_of_ble_eq_true rfl) d_D_clearQueues_28 (fun H locs h => ?_)
  have h : mw_H n0 D cl s (mw_up w (k (5 + 0)) (.inr (3, [.ref (k (8 + 0)), .ref (k (11 + 0)), .ref (k (14 + 0)), .int 0, .int (nI (cq 0).length)]))) H locs := h
  obtain ⟨w_2, ew_2⟩ : ∃ xx : mw, mw_up w (k (5 + 0)) (.inr (3, [.ref (k (8 + 0)), .ref (k (11 + 0)), .ref (k (14 + 0)), .int 0, .int (nI (cq 0).length)])) = xx := ⟨_, rfl⟩
  rw [ew_2] at h
  have f_3 : w_2 (k (5 + 0)) = some (.inr (3, [.ref (k (8 + 0)), .ref (k (11 + 0)), .ref (k (14 + 0)), .int 0, .int (nI (cq 0).length)])) := by rw [← ew_2]; exact mw_self
  refine lv_aload_n hx hb d_D_clearQueues_31 rfl (lv_at hl 2 rfl) ?_
  have hD2 : w_2 (k 0) = some (dcell (k 1) (k 2) (k 4) ln tn tr sn pw pl) := by rw [← ew_2, mw_ne (mw_apart K0.1 hX1 (by simp))]; exact K0.1
  have hq3 : w_2 (k 4) = some (refs cA 5 3 qf) := by rw [← ew_2, mw_ne (mw_apart hq1 hX1 (by simp))]; exact hq1
  refine mx_get G h hD2 rfl 2 (by decide) (tb_in in_D) (tb_c k_119) rfl rfl d_D_clearQueues_32 ?_
  refine lv_iload_n hx hb d_D_clearQueues_35 rfl (lv_at hl 1 rfl) ?_
  refine ax_a G h 5 hq3 rfl 0 rfl (by decide) (by decide) (hq2 0 (by decide)) d_D_clearQueues_36 ?_
  refine lv_iconst (v := 0) hx hb d_D_clearQueues_37 (by decide) ?_
  refine mx_put G h f_3 rfl 4 (by decide) (tb_in in_Q) t_Q t_Q_ok n_Q (tb_c k_103) rfl rfl rfl rfl rfl (Nat.le_of_ble_eq_true rfl) d_D_clearQueues_38 (fun H locs h => ?_)
  have h : mw_H n0 D cl s (mw_up w_2 (k (5 + 0)) (.inr (3, [.ref (k (8 + 0)), .ref (k (11 + 0)), .ref (k (14 + 0)), .int 0, .int 0]))) H locs := h
  obtain ⟨w_4, ew_4⟩ : ∃ xx : mw, mw_up w_2 (k (5 + 0)) (.inr (3, [.ref (k (8 + 0)), .ref (k (11 + 0)), .ref (k (14 + 0)), .int 0, .int 0])) = xx := ⟨_, rfl⟩
  rw [ew_4] at h
  have f_5 : w_4 (k (5 + 0)) = some (.inr (3, [.ref (k (8 + 0)), .ref (k (11 + 0)), .ref (k (14 + 0)), .int 0, .int 0])) := by rw [← ew_4]; exact mw_self
  refine lv_iinc (v := 0 + 1) (lv' := [(2, .int (0 + 1)), (1, .int (0 + (nI (pq 0).length))), (0, .ref (k 0))]) hx hb d_D_clearQueues_41 hl (k := 1) rfl rfl (by decide) rfl (fun ls hl => ?_)
  refine lv_goto (tgt := 4) hx hb d_D_clearQueues_44 (by decide) ?_
  have q9 : mw_up w (k (5 + 0)) (qcell (k (8 + 0)) (k (11 + 0)) (k (14 + 0)) 0 0) = w_4 := by rw [← ew_4, ← ew_2, mw_uu]; rfl
  have Z_6 : DRp cA w_4 ρ k L fl us sn pw (va_up pq 0 []) (va_up cq 0 []) ln tn tr pl := by rw [← q9]; exact clr _ _ _ 0 (by decide) Z
  have hfr : FR w w_4 (RG ρ) := hfr.tr (by rw [← q9]; exact FR.up (RG_Q (j := 0) (by decide) hX.2.2.2.2.2.2.2.2.2.2.2.1))
  obtain ⟨K0, ⟨qf, hq1, hq2⟩, hQ, r0, r1, r4, hL1, hvC⟩ := id Z_6
  obtain ⟨f, g, gu, fn, fr, hX⟩ := hQ 1 (by decide)
  have hX1 := hX.1
  have hX1 : w_4 (k (5 + 1)) = some (qcell (k (8 + 1)) (k (11 + 1)) (k (14 + 1)) ((va_up pq 0 []) 1).length ((va_up cq 0 []) 1).length) := hX1
  refine lv_iload_n hx hb d_D_clearQueues_4 rfl (lv_at hl 0 rfl) ?_
  refine lv_iconst (v := 3) hx hb d_D_clearQueues_5 (by decide) ?_
  refine lv_icmp_ge (tgt := 47) hx hb d_D_clearQueues_6 (by decide) (fun c_7 => absurd c_7 (by decide)) (fun c_7 => ?_)
  refine lv_iload_n hx hb d_D_clearQueues_9 rfl (lv_at hl 1 rfl) ?_
  refine lv_aload_n hx hb d_D_clearQueues_10 rfl (lv_at hl 2 rfl) ?_
  refine mx_get G h K0.1 rfl 2 (by decide) (tb_in in_D) (tb_c k_119) rfl rfl d_D_clearQueues_11 ?_
  refine lv_iload_n hx hb d_D_clearQueues_14 rfl (lv_at hl 0 rfl) ?_
  refine ax_a G h 5 hq1 rfl 1 (by decide) (by decide) (by decide) (hq2 1 (by decide)) d_D_clearQueues_15 ?_
  refine mx_get G h hX1 rfl 3 (by decide) (tb_in in_Q) (tb_c k_102) rfl rfl d_D_clearQueues_16 ?_
  refine lv_iadd hx hb d_D_clearQueues_19 ?_
  refine lv_istore_n (lv' := [(1, .int ((0 + (nI (pq 0).length)) + (nI ((va_up pq 0 []) 1).length))), (2, .int (0 + 1)), (0, .ref (k 0))]) hx hb d_D_clearQueues_20 rfl hl (by decide) rfl (fun ls hl => ?_)
  refine lv_aload_n hx hb d_D_clearQueues_21 rfl (lv_at hl 2 rfl) ?_
  refine mx_get G h K0.1 rfl 2 (by decide) (tb_in in_D) (tb_c k_119) rfl rfl d_D_clearQueues_22 ?_
  refine lv_iload_n hx hb d_D_clearQueues_25 rfl (lv_at hl 1 rfl) ?_
  refine ax_a G h 5 hq1 rfl 1 (by decide) (by decide) (by decide) (hq2 1 (by decide)) d_D_clearQueues_26 ?_
  refine lv_iconst (v := 0) hx hb d_D_clearQueues_27 (by decide) ?_
  refine mx_put G h hX1 rfl 3 (by decide) (tb_in in_Q) t_Q t_Q_ok n_Q (tb_c k_102) rfl rfl rfl rfl rfl (Nat.le_of_ble_eq_true rfl) d_D_clearQueues_28 (fun H locs h => ?_)
  have h : mw_H n0 D cl s (mw_up w_4 (k (5 + 1)) (.inr (3, [.ref (k (8 + 1)), .ref (k (11 + 1)), .ref (k (14 + 1)), .int 0, .int (nI ((va_up cq 0 []) 1).length)]))) H locs := h
  obtain ⟨w_8, ew_8⟩ : ∃ xx : mw, mw_up w_4 (k (5 + 1)) (.inr (3, [.ref (k (8 + 1)), .ref (k (11 + 1)), .ref (k (14 + 1)), .int 0, .int (nI ((va_up cq 0 []) 1).length)])) = xx := ⟨_, rfl⟩
  rw [ew_8] at h
  have f_9 : w_8 (k (5 + 1)) = some (.inr (3, [.ref (k (8 + 1)), .ref (k (11 + 1)), .ref (k (14 + 1)), .int 0, .int (nI ((va_up cq 0 []) 1).length)])) := by rw [← ew_8]; exact mw_self
  refine lv_aload_n hx hb d_D_clearQueues_31 rfl (lv_at hl 2 rfl) ?_
  have hD2 : w_8 (k 0) = some (dcell (k 1) (k 2) (k 4) ln tn tr sn pw pl) := by rw [← ew_8, mw_ne (mw_apart K0.1 hX1 (by simp))]; exact K0.1
  have hq3 : w_8 (k 4) = some (refs cA 5 3 qf) := by rw [← ew_8, mw_ne (mw_apart hq1 hX1 (by simp))]; exact hq1
  refine mx_get G h hD2 rfl 2 (by decide) (tb_in in_D) (tb_c k_119) rfl rfl d_D_clearQueues_32 ?_
  refine lv_iload_n hx hb d_D_clearQueues_35 rfl (lv_at hl 1 rfl) ?_
  refine ax_a G h 5 hq3 rfl 1 (by decide) (by decide) (by decide) (hq2 1 (by decide)) d_D_clearQueues_36 ?_
  refine lv_iconst (v := 0) hx hb d_D_clearQueues_37 (by decide) ?_
  refine mx_put G h f_9 rfl 4 (by decide) (tb_in in_Q) t_Q t_Q_ok n_Q (tb_c k_103) rfl rfl rfl rfl rfl (Nat.le_of_ble_eq_true rfl) d_D_clearQueues_38 (fun H locs h => ?_)
  have h : mw_H n0 D cl s (mw_up w_8 (k (5 + 1)) (.inr (3, [.ref (k (8 + 1)), .ref (k (11 + 1)), .ref (k (14 + 1)), .int 0, .int 0]))) H locs := h
  obtain ⟨w_10, ew_10⟩ : ∃ xx : mw, mw_up w_8 (k (5 + 1)) (.inr (3, [.ref (k (8 + 1)), .ref (k (11 + 1)), .ref (k (14 + 1)), .int 0, .int 0])) = xx := ⟨_, rfl⟩
  rw [ew_10] at h
  have f_11 : w_10 (k (5 + 1)) = some (.inr (3, [.ref (k (8 + 1)), .ref (k (11 + 1)), .ref (k (14 + 1)), .int 0, .int 0])) := by rw [← ew_10]; exact mw_self
  refine lv_iinc (v := (0 + 1) + 1) (lv' := [(2, .int ((0 + 1) + 1)), (1, .int ((0 + (nI (pq 0).length)) + (nI ((va_up pq 0 []) 1).length))), (0, .ref (k 0))]) hx hb d_D_clearQueues_41 hl (k := 1) rfl rfl (by decide) rfl (fun ls hl => ?_)
  refine lv_goto (tgt := 4) hx hb d_D_clearQueues_44 (by decide) ?_
  have q9 : mw_up w_4 (k (5 + 1)) (qcell (k (8 + 1)) (k (11 + 1)) (k (14 + 1)) 0 0) = w_10 := by rw [← ew_10, ← ew_8, mw_uu]; rfl
  have Z_12 : DRp cA w_10 ρ k L fl us sn pw (va_up (va_up pq 0 []) 1 []) (va_up (va_up cq 0 []) 1 []) ln tn tr pl := by rw [← q9]; exact clr _ _ _ 1 (by decide) Z_6
  have hfr : FR w w_10 (RG ρ) := hfr.tr (by rw [← q9]; exact FR.up (RG_Q (j := 1) (by decide) hX.2.2.2.2.2.2.2.2.2.2.2.1))
  obtain ⟨K0, ⟨qf, hq1, hq2⟩, hQ, r0, r1, r4, hL1, hvC⟩ := id Z_12
  obtain ⟨f, g, gu, fn, fr, hX⟩ := hQ 2 (by decide)
  have hX1 := hX.1
  have hX1 : w_10 (k (5 + 2)) = some (qcell (k (8 + 2)) (k (11 + 2)) (k (14 + 2)) ((va_up (va_up pq 0 []) 1 []) 2).length ((va_up (va_up cq 0 []) 1 []) 2).length) := hX1
  refine lv_iload_n hx hb d_D_clearQueues_4 rfl (lv_at hl 0 rfl) ?_
  refine lv_iconst (v := 3) hx hb d_D_clearQueues_5 (by decide) ?_
  refine lv_icmp_ge (tgt := 47) hx hb d_D_clearQueues_6 (by decide) (fun c_13 => absurd c_13 (by decide)) (fun c_13 => ?_)
  refine lv_iload_n hx hb d_D_clearQueues_9 rfl (lv_at hl 1 rfl) ?_
  refine lv_aload_n hx hb d_D_clearQueues_10 rfl (lv_at hl 2 rfl) ?_
  refine mx_get G h K0.1 rfl 2 (by decide) (tb_in in_D) (tb_c k_119) rfl rfl d_D_clearQueues_11 ?_
  refine lv_iload_n hx hb d_D_clearQueues_14 rfl (lv_at hl 0 rfl) ?_
  refine ax_a G h 5 hq1 rfl 2 (by decide) (by decide) (by decide) (hq2 2 (by decide)) d_D_clearQueues_15 ?_
  refine mx_get G h hX1 rfl 3 (by decide) (tb_in in_Q) (tb_c k_102) rfl rfl d_D_clearQueues_16 ?_
  refine lv_iadd hx hb d_D_clearQueues_19 ?_
  refine lv_istore_n (lv' := [(1, .int (((0 + (nI (pq 0).length)) + (nI ((va_up pq 0 []) 1).length)) + (nI ((va_up (va_up pq 0 []) 1 []) 2).length))), (2, .int ((0 + 1) + 1)), (0, .ref (k 0))]) hx hb d_D_clearQueues_20 rfl hl (by decide) rfl (fun ls hl => ?_)
  refine lv_aload_n hx hb d_D_clearQueues_21 rfl (lv_at hl 2 rfl) ?_
  refine mx_get G h K0.1 rfl 2 (by decide) (tb_in in_D) (tb_c k_119) rfl rfl d_D_clearQueues_22 ?_
  refine lv_iload_n hx hb d_D_clearQueues_25 rfl (lv_at hl 1 rfl) ?_
  refine ax_a G h 5 hq1 rfl 2 (by decide) (by decide) (by decide) (hq2 2 (by decide)) d_D_clearQueues_26 ?_
  refine lv_iconst (v := 0) hx hb d_D_clearQueues_27 (by decide) ?_
  refine mx_put G h hX1 rfl 3 (by decide) (tb_in in_Q) t_Q t_Q_ok n_Q (tb_c k_102) rfl rfl rfl rfl rfl (Nat.le_of_ble_eq_true rfl) d_D_clearQueues_28 (fun H locs h => ?_)
  have h : mw_H n0 D cl s (mw_up w_10 (k (5 + 2)) (.inr (3, [.ref (k (8 + 2)), .ref (k (11 + 2)), .ref (k (14 + 2)), .int 0, .int (nI ((va_up (va_up cq 0 []) 1 []) 2).length)]))) H locs := h
  obtain ⟨w_14, ew_14⟩ : ∃ xx : mw, mw_up w_10 (k (5 + 2)) (.inr (3, [.ref (k (8 + 2)), .ref (k (11 + 2)), .ref (k (14 + 2)), .int 0, .int (nI ((va_up (va_up cq 0 []) 1 []) 2).length)])) = xx := ⟨_, rfl⟩
  rw [ew_14] at h
  have f_15 : w_14 (k (5 + 2)) = some (.inr (3, [.ref (k (8 + 2)), .ref (k (11 + 2)), .ref (k (14 + 2)), .int 0, .int (nI ((va_up (va_up cq 0 []) 1 []) 2).length)])) := by rw [← ew_14]; exact mw_self
  refine lv_aload_n hx hb d_D_clearQueues_31 rfl (lv_at hl 2 rfl) ?_
  have hD2 : w_14 (k 0) = some (dcell (k 1) (k 2) (k 4) ln tn tr sn pw pl) := by rw [← ew_14, mw_ne (mw_apart K0.1 hX1 (by simp))]; exact K0.1
  have hq3 : w_14 (k 4) = some (refs cA 5 3 qf) := by rw [← ew_14, mw_ne (mw_apart hq1 hX1 (by simp))]; exact hq1
  refine mx_get G h hD2 rfl 2 (by decide) (tb_in in_D) (tb_c k_119) rfl rfl d_D_clearQueues_32 ?_
  refine lv_iload_n hx hb d_D_clearQueues_35 rfl (lv_at hl 1 rfl) ?_
  refine ax_a G h 5 hq3 rfl 2 (by decide) (by decide) (by decide) (hq2 2 (by decide)) d_D_clearQueues_36 ?_
  refine lv_iconst (v := 0) hx hb d_D_clearQueues_37 (by decide) ?_
  refine mx_put G h f_15 rfl 4 (by decide) (tb_in in_Q) t_Q t_Q_ok n_Q (tb_c k_103) rfl rfl rfl rfl rfl (Nat.le_of_ble_eq_true rfl) d_D_clearQueues_38 (fun H locs h => ?_)
  have h : mw_H n0 D cl s (mw_up w_14 (k (5 + 2)) (.inr (3, [.ref (k (8 + 2)), .ref (k (11 + 2)), .ref (k (14 + 2)), .int 0, .int 0]))) H locs := h
  obtain ⟨w_16, ew_16⟩ : ∃ xx : mw, mw_up w_14 (k (5 + 2)) (.inr (3, [.ref (k (8 + 2)), .ref (k (11 + 2)), .ref (k (14 + 2)), .int 0, .int 0])) = xx := ⟨_, rfl⟩
  rw [ew_16] at h
  have f_17 : w_16 (k (5 + 2)) = some (.inr (3, [.ref (k (8 + 2)), .ref (k (11 + 2)), .ref (k (14 + 2)), .int 0, .int 0])) := by rw [← ew_16]; exact mw_self
  refine lv_iinc (v := ((0 + 1) + 1) + 1) (lv' := [(2, .int (((0 + 1) + 1) + 1)), (1, .int (((0 + (nI (pq 0).length)) + (nI ((va_up pq 0 []) 1).length)) + (nI ((va_up (va_up pq 0 []) 1 []) 2).length))), (0, .ref (k 0))]) hx hb d_D_clearQueues_41 hl (k := 1) rfl rfl (by decide) rfl (fun ls hl => ?_)
  refine lv_goto (tgt := 4) hx hb d_D_clearQueues_44 (by decide) ?_
  have q9 : mw_up w_10 (k (5 + 2)) (qcell (k (8 + 2)) (k (11 + 2)) (k (14 + 2)) 0 0) = w_16 := by rw [← ew_16, ← ew_14, mw_uu]; rfl
  have Z_18 : DRp cA w_16 ρ k L fl us sn pw (va_up (va_up (va_up pq 0 []) 1 []) 2 []) (va_up (va_up (va_up cq 0 []) 1 []) 2 []) ln tn tr pl := by rw [← q9]; exact clr _ _ _ 2 (by decide) Z_12
  have hfr : FR w w_16 (RG ρ) := hfr.tr (by rw [← q9]; exact FR.up (RG_Q (j := 2) (by decide) hX.2.2.2.2.2.2.2.2.2.2.2.1))
  refine lv_iload_n hx hb d_D_clearQueues_4 rfl (lv_at hl 0 rfl) ?_
  refine lv_iconst (v := 3) hx hb d_D_clearQueues_5 (by decide) ?_
  refine lv_icmp_ge (tgt := 47) hx hb d_D_clearQueues_6 (by decide) (fun c_19 => ?_) (fun c_19 => absurd (by decide) c_19)
  refine lv_iload_n hx hb d_D_clearQueues_47 rfl (lv_at hl 1 rfl) ?_
  exact mx_reti G h hrt hlocks d_D_clearQueues_48 (⟨by rw [← nI_add, ← nI_add]; simp [va_up], (by have q8 : (va_up (va_up (va_up pq 0 []) 1 []) 2 []) = (fun _ => []) ∨ True := Or.inr trivial; exact DRp.ext3 Z_18), hfr⟩)
set_option maxHeartbeats 4000000 in
set_option maxRecDepth 100000 in
theorem m_D_losePower {l : Launch} {D : va_G} {cA : Nat → ClassId} {n0 : Nat} {w : mw} {ρ k : Nat → Nat} {L : Nat} {fl : Nat → Int64} {us : List uU} {sn pw : Nat} {pq : Nat → List pC} {cq : Nat → List (Int32 × Int64)} {ln : Nat} {tn : Int32} {tr : Int64} {pl : Nat} (Z : DRp cA w ρ k L fl us sn pw pq cq ln tn tr pl) :
    Mi l D cA n0 y_D_losePower c_D_losePower (rmd 1) [.ref (k 0)] w (fun r w' => r = nI us.length ∧ DRp cA w' ρ k L fl [] sn pw (fun _ => []) (fun _ => []) ln tn tr pl ∧ FR w w' (RG ρ)) := by
  refine mw_met (cc := b_D_losePower) (maxL := 2) (ret := (some .int)) (by decide) rfl (Nat.le_of_ble_eq_true rfl) ?_
  intro p e s m below meth c ls G hrt hlocks hname h hl
  have G : mw_G p m c b_D_losePower 2 s _ (c_D_losePower :: TB) R_D D cl (tys cA) n0 := G
  have hx := G.1.1
  have hb := G.1.2.1
  have hl : lv_has ls 2 [(0, .ref (k 0))] := hl
  obtain ⟨K0, ⟨qf, hq1, hq2⟩, hQ, r0, r1, r4, hL1, hvC⟩ := id Z
  have hD : w (k 0) = some (dcell (k 1) (k 2) (k 4) ln tn tr sn pw pl) := K0.1
  obtain ⟨-, hF, ⟨f, g, hX⟩, hS0, hSf, hv⟩ := id K0
  have hX : CAx cA w (fun x => ρ x = 1) (k 2) (k 3) L us f g := hX
  have hC := hX.1
  refine lv_aload_n hx hb d_D_losePower_0 rfl (lv_at hl 0 rfl) ?_
  refine mx_get G h hD rfl 1 (by decide) (tb_in in_D) (tb_c k_118) rfl rfl d_D_losePower_1 ?_
  refine mx_get G h hC rfl 1 (by decide) (tb_in in_C) (tb_c k_60) rfl rfl d_D_losePower_4 ?_
  refine lv_istore_n (lv' := [(1, .int (nI us.length)), (0, .ref (k 0))]) hx hb d_D_losePower_7 rfl hl (by decide) rfl (fun ls hl => ?_)
  refine lv_aload_n hx hb d_D_losePower_8 rfl (lv_at hl 1 rfl) ?_
  refine mx_get G h hD rfl 1 (by decide) (tb_in in_D) (tb_c k_118) rfl rfl d_D_losePower_9 ?_
  refine lv_iconst (v := 0) hx hb d_D_losePower_12 (by decide) ?_
  refine mx_put G h hC rfl 1 (by decide) (tb_in in_C) t_C t_C_ok n_C (tb_c k_60) rfl rfl rfl rfl rfl (Nat.le_of_ble_eq_true rfl) d_D_losePower_13 (fun H locs h => ?_)
  have h : mw_H n0 D cl s (mw_up w (k 2) (.inr (1, [.ref (k 3), .int 0]))) H locs := h
  obtain ⟨w_1, ew_1⟩ : ∃ xx : mw, mw_up w (k 2) (.inr (1, [.ref (k 3), .int 0])) = xx := ⟨_, rfl⟩
  rw [ew_1] at h
  have f_2 : w_1 (k 0) = some (dcell (k 1) (k 2) (k 4) ln tn tr sn pw pl) := by rw [← ew_1, mw_ne (mw_apart hD hC (by simp))]; exact hD
  have f_3 : w_1 (k 4) = some (refs cA 5 3 qf) := by rw [← ew_1, mw_ne (mw_apart hq1 hC (by simp))]; exact hq1
  have f_4 : w_1 (k 2) = some (.inr (1, [.ref (k 3), .int 0])) := by rw [← ew_1]; exact mw_self
  refine lv_aload_n hx hb d_D_losePower_16 rfl (lv_at hl 1 rfl) ?_
  have Z1 : DRp cA w_1 ρ k L fl [] sn pw pq cq ln tn tr pl := by
    refine Z.core (w' := w_1) ?_ ?_
    · rw [← ew_1]
      exact ⟨by rw [mw_ne (mw_apart hD hC (by simp))]; exact hD, by rw [mw_ne (mw_apart hF hC (by simp))]; exact hF, hX.clr.ca, hS0, hSf, fun u hu => by simp at hu⟩
    · rw [← ew_1]; exact FR.up (Or.inr (Or.inr hX.2.2.2.2.2.2.2.1))
  have hfr1 : FR w w_1 (RG ρ) := by rw [← ew_1]; exact FR.up (RG_P Z (Or.inr (Or.inr hX.2.2.2.2.2.2.2.1)))
  refine mx_ci (cV (As := []) (rest := []) G h (m_D_clearQueues Z1) k_263 k_265 ks_11 k_1 k_266 hd_D_clearQueues rfl rfl ⟨Nat.le_of_ble_eq_true rfl, Nat.le_of_ble_eq_true rfl⟩ f_2 rfl rfl hl.1 rfl (Nat.le_of_ble_eq_true rfl) d_D_losePower_17 ⟨Nat.le_of_ble_eq_true rfl, Nat.le_of_ble_eq_true rfl⟩) h (fun r_6 w_5 H locs h hcp => ?_)
  obtain ⟨-, Z2, hfr2⟩ := hcp
  refine lv_pop hx hb d_D_losePower_20 rfl ?_
  refine lv_iload_n hx hb d_D_losePower_21 rfl (lv_at hl 0 rfl) ?_
  exact mx_reti G h hrt hlocks d_D_losePower_22 (⟨rfl, Z2, hfr1.tr hfr2⟩)
end
section
/-! The drive's state as the document has it: flash, cache, units stored, pages written, pending, completions, latest number, taken number and result; and what each call does -/
abbrev gS : Type := (Nat → Int64) × List uU × Nat × Nat × (Nat → List pC) × (Nat → List (Int32 × Int64)) × Nat × Int32 × Int64
def DR (cA : Nat → ClassId) (w : mw) (ρ k : Nat → Nat) (L : Nat) (g : gS) : Prop := ∃ pl, DRp cA w ρ k L g.1 g.2.1 g.2.2.1 g.2.2.2.1 g.2.2.2.2.1 g.2.2.2.2.2.1 g.2.2.2.2.2.2.1 g.2.2.2.2.2.2.2.1 g.2.2.2.2.2.2.2.2 pl
def submitS (g : gS) (q kd a n v : Int32) : Int32 × gS := match g with
  | (fl, us, sn, pw, pq, cq, ln, tn, tr) => if (0 ≤ q ∧ q < 3) ∧ 0 ≤ kd ∧ kd ≤ 5 then (if kd = 3 ∨ (1 ≤ n ∧ n ≤ 4 ∧ 0 ≤ a ∧ a ≤ 24 - n) then (if 4 ≤ (pq q.toNatClampNeg).length then (-2, (fl, us, sn, pw, pq, cq, ln, tn, tr)) else (nI (ln + 1), (fl, us, sn, pw, va_up pq q.toNatClampNeg (pq q.toNatClampNeg ++ [(nI (ln + 1), kd, a, n, v)]), cq, ln + 1, tn, tr))) else (-1, (fl, us, sn, pw, pq, cq, ln, tn, tr))) else (-1, (fl, us, sn, pw, pq, cq, ln, tn, tr))
def stepS (L : Nat) (g : gS) (q x : Int32) : Int32 × gS := match g with
  | (fl, us, sn, pw, pq, cq, ln, tn, tr) => if refS pq cq q x = 0 then (match (pq q.toNatClampNeg)[x.toNatClampNeg]? with
    | some c => (c.1, ((carA L c.2.1.toNatClampNeg (uof c) (fl, us, sn, pw, 28)).2.1, (carA L c.2.1.toNatClampNeg (uof c) (fl, us, sn, pw, 28)).2.2.1, (carA L c.2.1.toNatClampNeg (uof c) (fl, us, sn, pw, 28)).2.2.2.1, (carA L c.2.1.toNatClampNeg (uof c) (fl, us, sn, pw, 28)).2.2.2.2.1, va_up pq q.toNatClampNeg ((pq q.toNatClampNeg).eraseIdx x.toNatClampNeg), va_up cq q.toNatClampNeg (cq q.toNatClampNeg ++ [(c.1, (carA L c.2.1.toNatClampNeg (uof c) (fl, us, sn, pw, 28)).1)]), ln, tn, tr))
    | none => (-1, (fl, us, sn, pw, pq, cq, ln, tn, tr))) else (refS pq cq q x, (fl, us, sn, pw, pq, cq, ln, tn, tr))
def takeS (g : gS) (q : Int32) : Int32 × gS := match g with
  | (fl, us, sn, pw, pq, cq, ln, tn, tr) => if 0 ≤ q ∧ q < 3 then (match cq q.toNatClampNeg with
    | c :: cs => (c.1, (fl, us, sn, pw, pq, va_up cq q.toNatClampNeg cs, ln, c.1, c.2))
    | [] => (-1, (fl, us, sn, pw, pq, cq, ln, tn, tr))) else (-1, (fl, us, sn, pw, pq, cq, ln, tn, tr))
def resetS (g : gS) : Int32 × gS := match g with
  | (fl, us, sn, pw, pq, _, ln, tn, tr) => (nI ((pq 0).length + (pq 1).length + (pq 2).length), (fl, us, sn, pw, (fun _ => []), (fun _ => []), ln, tn, tr))
def powerS (g : gS) : Int32 × gS := match g with
  | (fl, us, sn, pw, _, _, ln, tn, tr) => (nI us.length, (fl, [], sn, pw, (fun _ => []), (fun _ => []), ln, tn, tr))
def pdurS (L : Nat) (g : gS) (q x y : Int32) : Int32 × gS := match g with
  | (fl, us, sn, pw, pq, cq, ln, tn, tr) => if 0 ≤ y ∧ y ≤ 30 then (if refS pq cq q x = 0 then (match (pq q.toNatClampNeg)[x.toNatClampNeg]? with
    | some c => (y - nI (carA L c.2.1.toNatClampNeg (uof c) (fl, us, sn, pw, y.toNatClampNeg)).2.2.2.2.2, ((carA L c.2.1.toNatClampNeg (uof c) (fl, us, sn, pw, y.toNatClampNeg)).2.1, [], (carA L c.2.1.toNatClampNeg (uof c) (fl, us, sn, pw, y.toNatClampNeg)).2.2.2.1, (carA L c.2.1.toNatClampNeg (uof c) (fl, us, sn, pw, y.toNatClampNeg)).2.2.2.2.1, (fun _ => []), (fun _ => []), ln, tn, tr))
    | none => (-1, (fl, us, sn, pw, pq, cq, ln, tn, tr))) else (refS pq cq q x, (fl, us, sn, pw, pq, cq, ln, tn, tr))) else (-1, (fl, us, sn, pw, pq, cq, ln, tn, tr))
def wordS (g : gS) (a : Int32) : Int64 := if 0 ≤ a ∧ a < 24 then hld g.1 g.2.1 a.toNatClampNeg else NN
def flashS (g : gS) (a : Int32) : Int64 := if 0 ≤ a ∧ a < 24 then g.1 a.toNatClampNeg else NN
def queueS (g : gS) (q x : Int32) : Int32 := if 0 ≤ q ∧ q < 3 then (if x = 0 then nI (g.2.2.2.2.1 q.toNatClampNeg).length else if x = 1 then nI (g.2.2.2.2.2.1 q.toNatClampNeg).length else if 2 ≤ x ∧ x ≤ 5 then (match (g.2.2.2.2.1 q.toNatClampNeg)[(x - 2).toNatClampNeg]? with
    | some c => c.1
    | none => -1) else -1) else -1
def unitS (g : gS) (u x : Int32) : Int32 := if 0 ≤ u ∧ u < nI g.2.1.length then (match g.2.1[u.toNatClampNeg]? with
    | some v => if x = 0 then v.1 else if x = 1 then v.2.1 else if x = 2 then v.2.2.2 else -1
    | none => -1) else -1
def countS (g : gS) (x : Int32) : Int32 := if x = 0 then nI g.2.1.length else if x = 1 then nI g.2.2.2.2.2.2.1 else if x = 2 then nI g.2.2.1 else if x = 3 then nI g.2.2.2.1 else if x = 4 then g.2.2.2.2.2.2.2.1 else -1
theorem FQ {w : mw} {ρ : Nat → Nat} {n a : Nat} {e : va_E} (h : ρ a = n) : FR w (mw_up w a e) (fun y => ρ y = n) := FR.up (P := fun y => ρ y = n) h
theorem ixL {q : Int32} (n : Nat) {y : Int32} (hy : y = nI n) (hn : n < 2 ^ 30) (h0 : 0 ≤ q) (h1 : q ≤ y) : ∃ j, j ≤ n ∧ q = nI j := by
  rcases pk_ix q (n := n + 1) (by omega) with z | z | ⟨j, hj, e⟩
  · exact absurd h0 (Int32.not_le.mpr z)
  · rw [hy] at h1
    have z2 := Int32.le_trans z h1
    rw [nI_leI (by omega) (by omega)] at z2
    omega
  · exact ⟨j, by omega, e⟩
theorem vC_of {x kd a n v : Int32} (h0 : 0 ≤ kd) (h5 : kd ≤ 5) (h : kd = 3 ∨ (1 ≤ n ∧ n ≤ 4 ∧ 0 ≤ a ∧ a ≤ 24 - n)) : vC (x, kd, a, n, v) := by
  obtain ⟨j, hj, rfl⟩ := ixL 5 rfl (by decide) h0 h5
  refine ⟨⟨j, hj, rfl⟩, ?_⟩
  rcases h with h | ⟨h1, h4, ha, h24⟩
  · exact Or.inl h
  · refine Or.inr ?_
    obtain ⟨nn, hn, rfl⟩ := ixL 4 rfl (by decide) (Int32.le_trans (by decide) h1) h4
    have hn1 : 1 ≤ nn := by
      rcases Nat.eq_zero_or_pos nn with z | z
      · subst z; exact absurd h1 (by decide)
      · exact z
    have e24 : (24 : Int32) - nI nn = nI (24 - nn) := pk_sub (a := 24) (b := nn) (by omega)
    rw [e24] at h24
    obtain ⟨aa, haa, rfl⟩ := ixL (24 - nn) rfl (by omega) ha h24
    have e1 : fsU (uof (x, nI j, nI aa, nI nn, v)) = aa := nI_c (by omega)
    have e2 : lnU (uof (x, nI j, nI aa, nI nn, v)) = nn := nI_c (by omega)
    refine ⟨?_, ?_, by rw [e2]; exact hn1, by rw [e2]; exact hn, by rw [e1, e2]; omega, bI_01 _⟩
    · rw [e1]; rfl
    · rw [e2]; rfl
theorem d_D_submit_0 : decode b_D_submit 0 = .ok (.iload_n 1, 1) := by decide +kernel
theorem d_D_submit_1 : decode b_D_submit 1 = .ok (.invokestatic 44, 3) := by decide +kernel
theorem d_D_submit_4 : decode b_D_submit 4 = .ok (.ifCond .eq 12, 3) := by decide +kernel
theorem d_D_submit_7 : decode b_D_submit 7 = .ok (.iload_n 2, 1) := by decide +kernel
theorem d_D_submit_8 : decode b_D_submit 8 = .ok (.ifCond .lt 8, 3) := by decide +kernel
theorem d_D_submit_11 : decode b_D_submit 11 = .ok (.iload_n 2, 1) := by decide +kernel
theorem d_D_submit_12 : decode b_D_submit 12 = .ok (.iconst 5, 1) := by decide +kernel
theorem d_D_submit_13 : decode b_D_submit 13 = .ok (.if_icmp .le 5, 3) := by decide +kernel
theorem d_D_submit_16 : decode b_D_submit 16 = .ok (.iconst (-1), 1) := by decide +kernel
theorem d_D_submit_17 : decode b_D_submit 17 = .ok (.ireturn, 1) := by decide +kernel
theorem d_D_submit_18 : decode b_D_submit 18 = .ok (.iload_n 2, 1) := by decide +kernel
theorem d_D_submit_19 : decode b_D_submit 19 = .ok (.iconst 3, 1) := by decide +kernel
theorem d_D_submit_20 : decode b_D_submit 20 = .ok (.if_icmp .eq 14, 3) := by decide +kernel
theorem d_D_submit_23 : decode b_D_submit 23 = .ok (.iload_n 3, 1) := by decide +kernel
theorem d_D_submit_24 : decode b_D_submit 24 = .ok (.iload 4, 2) := by decide +kernel
theorem d_D_submit_26 : decode b_D_submit 26 = .ok (.invokestatic 48, 3) := by decide +kernel
theorem d_D_submit_29 : decode b_D_submit 29 = .ok (.ifCond .ne 5, 3) := by decide +kernel
theorem d_D_submit_32 : decode b_D_submit 32 = .ok (.iconst (-1), 1) := by decide +kernel
theorem d_D_submit_33 : decode b_D_submit 33 = .ok (.ireturn, 1) := by decide +kernel
theorem d_D_submit_34 : decode b_D_submit 34 = .ok (.aload_n 0, 1) := by decide +kernel
theorem d_D_submit_35 : decode b_D_submit 35 = .ok (.getfield 35, 3) := by decide +kernel
theorem d_D_submit_38 : decode b_D_submit 38 = .ok (.iload_n 1, 1) := by decide +kernel
theorem d_D_submit_39 : decode b_D_submit 39 = .ok (.aaload, 1) := by decide +kernel
theorem d_D_submit_40 : decode b_D_submit 40 = .ok (.astore 6, 2) := by decide +kernel
theorem d_D_submit_42 : decode b_D_submit 42 = .ok (.aload 6, 2) := by decide +kernel
theorem d_D_submit_44 : decode b_D_submit 44 = .ok (.getfield 52, 3) := by decide +kernel
theorem d_D_submit_47 : decode b_D_submit 47 = .ok (.iconst 4, 1) := by decide +kernel
theorem d_D_submit_48 : decode b_D_submit 48 = .ok (.if_icmp .lt 6, 3) := by decide +kernel
theorem d_D_submit_51 : decode b_D_submit 51 = .ok (.bipush (-2), 2) := by decide +kernel
theorem d_D_submit_53 : decode b_D_submit 53 = .ok (.ireturn, 1) := by decide +kernel
theorem d_D_submit_54 : decode b_D_submit 54 = .ok (.aload_n 0, 1) := by decide +kernel
theorem d_D_submit_55 : decode b_D_submit 55 = .ok (.dup, 1) := by decide +kernel
theorem d_D_submit_56 : decode b_D_submit 56 = .ok (.getfield 56, 3) := by decide +kernel
theorem d_D_submit_59 : decode b_D_submit 59 = .ok (.iconst 1, 1) := by decide +kernel
theorem d_D_submit_60 : decode b_D_submit 60 = .ok (.iadd, 1) := by decide +kernel
theorem d_D_submit_61 : decode b_D_submit 61 = .ok (.putfield 56, 3) := by decide +kernel
theorem d_D_submit_64 : decode b_D_submit 64 = .ok (.aload 6, 2) := by decide +kernel
theorem d_D_submit_66 : decode b_D_submit 66 = .ok (.aload_n 0, 1) := by decide +kernel
theorem d_D_submit_67 : decode b_D_submit 67 = .ok (.getfield 56, 3) := by decide +kernel
theorem d_D_submit_70 : decode b_D_submit 70 = .ok (.iload_n 2, 1) := by decide +kernel
theorem d_D_submit_71 : decode b_D_submit 71 = .ok (.invokevirtual 59, 3) := by decide +kernel
theorem d_D_submit_74 : decode b_D_submit 74 = .ok (.astore 7, 2) := by decide +kernel
theorem d_D_submit_76 : decode b_D_submit 76 = .ok (.aload 7, 2) := by decide +kernel
theorem d_D_submit_78 : decode b_D_submit 78 = .ok (.getfield 63, 3) := by decide +kernel
theorem d_D_submit_81 : decode b_D_submit 81 = .ok (.iload_n 3, 1) := by decide +kernel
theorem d_D_submit_82 : decode b_D_submit 82 = .ok (.iload 4, 2) := by decide +kernel
theorem d_D_submit_84 : decode b_D_submit 84 = .ok (.iload 5, 2) := by decide +kernel
theorem d_D_submit_86 : decode b_D_submit 86 = .ok (.iload_n 2, 1) := by decide +kernel
theorem d_D_submit_87 : decode b_D_submit 87 = .ok (.iconst 4, 1) := by decide +kernel
theorem d_D_submit_88 : decode b_D_submit 88 = .ok (.if_icmp .ne 7, 3) := by decide +kernel
theorem d_D_submit_91 : decode b_D_submit 91 = .ok (.iconst 1, 1) := by decide +kernel
theorem d_D_submit_92 : decode b_D_submit 92 = .ok (.goto 4, 3) := by decide +kernel
theorem d_D_submit_95 : decode b_D_submit 95 = .ok (.iconst 0, 1) := by decide +kernel
theorem d_D_submit_96 : decode b_D_submit 96 = .ok (.invokevirtual 69, 3) := by decide +kernel
theorem d_D_submit_99 : decode b_D_submit 99 = .ok (.aload_n 0, 1) := by decide +kernel
theorem d_D_submit_100 : decode b_D_submit 100 = .ok (.getfield 56, 3) := by decide +kernel
theorem d_D_submit_103 : decode b_D_submit 103 = .ok (.ireturn, 1) := by decide +kernel
theorem d_D_step_0 : decode b_D_step 0 = .ok (.aload_n 0, 1) := by decide +kernel
theorem d_D_step_1 : decode b_D_step 1 = .ok (.iload_n 1, 1) := by decide +kernel
theorem d_D_step_2 : decode b_D_step 2 = .ok (.iload_n 2, 1) := by decide +kernel
theorem d_D_step_3 : decode b_D_step 3 = .ok (.invokevirtual 75, 3) := by decide +kernel
theorem d_D_step_6 : decode b_D_step 6 = .ok (.istore_n 3, 1) := by decide +kernel
theorem d_D_step_7 : decode b_D_step 7 = .ok (.iload_n 3, 1) := by decide +kernel
theorem d_D_step_8 : decode b_D_step 8 = .ok (.ifCond .eq 5, 3) := by decide +kernel
theorem d_D_step_11 : decode b_D_step 11 = .ok (.iload_n 3, 1) := by decide +kernel
theorem d_D_step_12 : decode b_D_step 12 = .ok (.ireturn, 1) := by decide +kernel
theorem d_D_step_13 : decode b_D_step 13 = .ok (.aload_n 0, 1) := by decide +kernel
theorem d_D_step_14 : decode b_D_step 14 = .ok (.getfield 35, 3) := by decide +kernel
theorem d_D_step_17 : decode b_D_step 17 = .ok (.iload_n 1, 1) := by decide +kernel
theorem d_D_step_18 : decode b_D_step 18 = .ok (.aaload, 1) := by decide +kernel
theorem d_D_step_19 : decode b_D_step 19 = .ok (.astore 4, 2) := by decide +kernel
theorem d_D_step_21 : decode b_D_step 21 = .ok (.aload 4, 2) := by decide +kernel
theorem d_D_step_23 : decode b_D_step 23 = .ok (.getfield 78, 3) := by decide +kernel
theorem d_D_step_26 : decode b_D_step 26 = .ok (.iload_n 2, 1) := by decide +kernel
theorem d_D_step_27 : decode b_D_step 27 = .ok (.aaload, 1) := by decide +kernel
theorem d_D_step_28 : decode b_D_step 28 = .ok (.astore 5, 2) := by decide +kernel
theorem d_D_step_30 : decode b_D_step 30 = .ok (.aload_n 0, 1) := by decide +kernel
theorem d_D_step_31 : decode b_D_step 31 = .ok (.aload 5, 2) := by decide +kernel
theorem d_D_step_33 : decode b_D_step 33 = .ok (.bipush 28, 2) := by decide +kernel
theorem d_D_step_35 : decode b_D_step 35 = .ok (.invokevirtual 82, 3) := by decide +kernel
theorem d_D_step_38 : decode b_D_step 38 = .ok (.lstore 6, 2) := by decide +kernel
theorem d_D_step_40 : decode b_D_step 40 = .ok (.aload 4, 2) := by decide +kernel
theorem d_D_step_42 : decode b_D_step 42 = .ok (.iload_n 2, 1) := by decide +kernel
theorem d_D_step_43 : decode b_D_step 43 = .ok (.invokevirtual 86, 3) := by decide +kernel
theorem d_D_step_46 : decode b_D_step 46 = .ok (.aload 4, 2) := by decide +kernel
theorem d_D_step_48 : decode b_D_step 48 = .ok (.aload 5, 2) := by decide +kernel
theorem d_D_step_50 : decode b_D_step 50 = .ok (.getfield 89, 3) := by decide +kernel
theorem d_D_step_53 : decode b_D_step 53 = .ok (.lload 6, 2) := by decide +kernel
theorem d_D_step_55 : decode b_D_step 55 = .ok (.invokevirtual 92, 3) := by decide +kernel
theorem d_D_step_58 : decode b_D_step 58 = .ok (.aload 5, 2) := by decide +kernel
theorem d_D_step_60 : decode b_D_step 60 = .ok (.getfield 89, 3) := by decide +kernel
theorem d_D_step_63 : decode b_D_step 63 = .ok (.ireturn, 1) := by decide +kernel
theorem d_D_take_0 : decode b_D_take 0 = .ok (.iload_n 1, 1) := by decide +kernel
theorem d_D_take_1 : decode b_D_take 1 = .ok (.invokestatic 44, 3) := by decide +kernel
theorem d_D_take_4 : decode b_D_take 4 = .ok (.ifCond .eq 15, 3) := by decide +kernel
theorem d_D_take_7 : decode b_D_take 7 = .ok (.aload_n 0, 1) := by decide +kernel
theorem d_D_take_8 : decode b_D_take 8 = .ok (.getfield 35, 3) := by decide +kernel
theorem d_D_take_11 : decode b_D_take 11 = .ok (.iload_n 1, 1) := by decide +kernel
theorem d_D_take_12 : decode b_D_take 12 = .ok (.aaload, 1) := by decide +kernel
theorem d_D_take_13 : decode b_D_take 13 = .ok (.getfield 96, 3) := by decide +kernel
theorem d_D_take_16 : decode b_D_take 16 = .ok (.ifCond .ne 5, 3) := by decide +kernel
theorem d_D_take_19 : decode b_D_take 19 = .ok (.iconst (-1), 1) := by decide +kernel
theorem d_D_take_20 : decode b_D_take 20 = .ok (.ireturn, 1) := by decide +kernel
theorem d_D_take_21 : decode b_D_take 21 = .ok (.aload_n 0, 1) := by decide +kernel
theorem d_D_take_22 : decode b_D_take 22 = .ok (.getfield 35, 3) := by decide +kernel
theorem d_D_take_25 : decode b_D_take 25 = .ok (.iload_n 1, 1) := by decide +kernel
theorem d_D_take_26 : decode b_D_take 26 = .ok (.aaload, 1) := by decide +kernel
theorem d_D_take_27 : decode b_D_take 27 = .ok (.astore_n 2, 1) := by decide +kernel
theorem d_D_take_28 : decode b_D_take 28 = .ok (.aload_n 0, 1) := by decide +kernel
theorem d_D_take_29 : decode b_D_take 29 = .ok (.aload_n 2, 1) := by decide +kernel
theorem d_D_take_30 : decode b_D_take 30 = .ok (.getfield 99, 3) := by decide +kernel
theorem d_D_take_33 : decode b_D_take 33 = .ok (.iconst 0, 1) := by decide +kernel
theorem d_D_take_34 : decode b_D_take 34 = .ok (.iaload, 1) := by decide +kernel
theorem d_D_take_35 : decode b_D_take 35 = .ok (.putfield 103, 3) := by decide +kernel
theorem d_D_take_38 : decode b_D_take 38 = .ok (.aload_n 0, 1) := by decide +kernel
theorem d_D_take_39 : decode b_D_take 39 = .ok (.aload_n 2, 1) := by decide +kernel
theorem d_D_take_40 : decode b_D_take 40 = .ok (.getfield 106, 3) := by decide +kernel
theorem d_D_take_43 : decode b_D_take 43 = .ok (.iconst 0, 1) := by decide +kernel
theorem d_D_take_44 : decode b_D_take 44 = .ok (.laload, 1) := by decide +kernel
theorem d_D_take_45 : decode b_D_take 45 = .ok (.putfield 40, 3) := by decide +kernel
theorem d_D_take_48 : decode b_D_take 48 = .ok (.aload_n 2, 1) := by decide +kernel
theorem d_D_take_49 : decode b_D_take 49 = .ok (.invokevirtual 109, 3) := by decide +kernel
theorem d_D_take_52 : decode b_D_take 52 = .ok (.aload_n 0, 1) := by decide +kernel
theorem d_D_take_53 : decode b_D_take 53 = .ok (.getfield 103, 3) := by decide +kernel
theorem d_D_take_56 : decode b_D_take 56 = .ok (.ireturn, 1) := by decide +kernel
theorem d_D_result_0 : decode b_D_result 0 = .ok (.aload_n 0, 1) := by decide +kernel
theorem d_D_result_1 : decode b_D_result 1 = .ok (.getfield 40, 3) := by decide +kernel
theorem d_D_result_4 : decode b_D_result 4 = .ok (.lreturn, 1) := by decide +kernel
theorem d_D_reset_0 : decode b_D_reset 0 = .ok (.aload_n 0, 1) := by decide +kernel
theorem d_D_reset_1 : decode b_D_reset 1 = .ok (.invokevirtual 112, 3) := by decide +kernel
theorem d_D_reset_4 : decode b_D_reset 4 = .ok (.ireturn, 1) := by decide +kernel
theorem d_D_power_0 : decode b_D_power 0 = .ok (.aload_n 0, 1) := by decide +kernel
theorem d_D_power_1 : decode b_D_power 1 = .ok (.invokevirtual 116, 3) := by decide +kernel
theorem d_D_power_4 : decode b_D_power 4 = .ok (.ireturn, 1) := by decide +kernel
theorem d_D_powerDuring_0 : decode b_D_powerDuring 0 = .ok (.iload_n 3, 1) := by decide +kernel
theorem d_D_powerDuring_1 : decode b_D_powerDuring 1 = .ok (.ifCond .lt 9, 3) := by decide +kernel
theorem d_D_powerDuring_4 : decode b_D_powerDuring 4 = .ok (.iload_n 3, 1) := by decide +kernel
theorem d_D_powerDuring_5 : decode b_D_powerDuring 5 = .ok (.bipush 30, 2) := by decide +kernel
theorem d_D_powerDuring_7 : decode b_D_powerDuring 7 = .ok (.if_icmp .le 5, 3) := by decide +kernel
theorem d_D_powerDuring_10 : decode b_D_powerDuring 10 = .ok (.iconst (-1), 1) := by decide +kernel
theorem d_D_powerDuring_11 : decode b_D_powerDuring 11 = .ok (.ireturn, 1) := by decide +kernel
theorem d_D_powerDuring_12 : decode b_D_powerDuring 12 = .ok (.aload_n 0, 1) := by decide +kernel
theorem d_D_powerDuring_13 : decode b_D_powerDuring 13 = .ok (.iload_n 1, 1) := by decide +kernel
theorem d_D_powerDuring_14 : decode b_D_powerDuring 14 = .ok (.iload_n 2, 1) := by decide +kernel
theorem d_D_powerDuring_15 : decode b_D_powerDuring 15 = .ok (.invokevirtual 75, 3) := by decide +kernel
theorem d_D_powerDuring_18 : decode b_D_powerDuring 18 = .ok (.istore 4, 2) := by decide +kernel
theorem d_D_powerDuring_20 : decode b_D_powerDuring 20 = .ok (.iload 4, 2) := by decide +kernel
theorem d_D_powerDuring_22 : decode b_D_powerDuring 22 = .ok (.ifCond .eq 6, 3) := by decide +kernel
theorem d_D_powerDuring_25 : decode b_D_powerDuring 25 = .ok (.iload 4, 2) := by decide +kernel
theorem d_D_powerDuring_27 : decode b_D_powerDuring 27 = .ok (.ireturn, 1) := by decide +kernel
theorem d_D_powerDuring_28 : decode b_D_powerDuring 28 = .ok (.aload_n 0, 1) := by decide +kernel
theorem d_D_powerDuring_29 : decode b_D_powerDuring 29 = .ok (.aload_n 0, 1) := by decide +kernel
theorem d_D_powerDuring_30 : decode b_D_powerDuring 30 = .ok (.getfield 35, 3) := by decide +kernel
theorem d_D_powerDuring_33 : decode b_D_powerDuring 33 = .ok (.iload_n 1, 1) := by decide +kernel
theorem d_D_powerDuring_34 : decode b_D_powerDuring 34 = .ok (.aaload, 1) := by decide +kernel
theorem d_D_powerDuring_35 : decode b_D_powerDuring 35 = .ok (.getfield 78, 3) := by decide +kernel
theorem d_D_powerDuring_38 : decode b_D_powerDuring 38 = .ok (.iload_n 2, 1) := by decide +kernel
theorem d_D_powerDuring_39 : decode b_D_powerDuring 39 = .ok (.aaload, 1) := by decide +kernel
theorem d_D_powerDuring_40 : decode b_D_powerDuring 40 = .ok (.iload_n 3, 1) := by decide +kernel
theorem d_D_powerDuring_41 : decode b_D_powerDuring 41 = .ok (.invokevirtual 82, 3) := by decide +kernel
theorem d_D_powerDuring_44 : decode b_D_powerDuring 44 = .ok (.pop2, 1) := by decide +kernel
theorem d_D_powerDuring_45 : decode b_D_powerDuring 45 = .ok (.aload_n 0, 1) := by decide +kernel
theorem d_D_powerDuring_46 : decode b_D_powerDuring 46 = .ok (.invokevirtual 116, 3) := by decide +kernel
theorem d_D_powerDuring_49 : decode b_D_powerDuring 49 = .ok (.pop, 1) := by decide +kernel
theorem d_D_powerDuring_50 : decode b_D_powerDuring 50 = .ok (.iload_n 3, 1) := by decide +kernel
theorem d_D_powerDuring_51 : decode b_D_powerDuring 51 = .ok (.aload_n 0, 1) := by decide +kernel
theorem d_D_powerDuring_52 : decode b_D_powerDuring 52 = .ok (.getfield 119, 3) := by decide +kernel
theorem d_D_powerDuring_55 : decode b_D_powerDuring 55 = .ok (.isub, 1) := by decide +kernel
theorem d_D_powerDuring_56 : decode b_D_powerDuring 56 = .ok (.ireturn, 1) := by decide +kernel
theorem va_up_id {α : Type} {f : Nat → α} {j : Nat} : va_up f j (f j) = f := by
  funext i
  by_cases h : i = j
  · subst h; simp [va_up]
  · simp [va_up, h]
set_option maxHeartbeats 4000000 in
set_option maxRecDepth 100000 in
theorem m_D_submit {l : Launch} {D : va_G} {cA : Nat → ClassId} {n0 : Nat} {w : mw} {ρ k : Nat → Nat} {L : Nat} {fl : Nat → Int64} {us : List uU} {sn pw : Nat} {pq : Nat → List pC} {cq : Nat → List (Int32 × Int64)} {ln : Nat} {tn : Int32} {tr : Int64} (Y : DR cA w ρ k L (fl, us, sn, pw, pq, cq, ln, tn, tr)) {q kd a n v : Int32} :
    Mi l D cA n0 y_D_submit c_D_submit (rmd 1) [.ref (k 0), .int q, .int kd, .int a, .int n, .int v] w (fun r w' => r = (submitS (fl, us, sn, pw, pq, cq, ln, tn, tr) q kd a n v).1 ∧ DR cA w' ρ k L (submitS (fl, us, sn, pw, pq, cq, ln, tn, tr) q kd a n v).2 ∧ FR w w' (RG ρ)) := by
  refine mw_met (cc := b_D_submit) (maxL := 8) (ret := (some .int)) (by decide) rfl (Nat.le_of_ble_eq_true rfl) ?_
  intro p e s m below meth c ls G hrt hlocks hname h hl
  have G : mw_G p m c b_D_submit 8 s _ (c_D_submit :: TB) R_D D cl (tys cA) n0 := G
  have hx := G.1.1
  have hb := G.1.2.1
  have hl : lv_has ls 8 [(0, .ref (k 0)), (1, .int q), (2, .int kd), (3, .int a), (4, .int n), (5, .int v)] := hl
  obtain ⟨pl, Z⟩ := id Y
  have Z : DRp cA w ρ k L fl us sn pw pq cq ln tn tr pl := Z
  obtain ⟨K0, ⟨qf, hq1, hq2⟩, hQ, r0, r1, r4, hL1, hvC⟩ := id Z
  have hD : w (k 0) = some (dcell (k 1) (k 2) (k 4) ln tn tr sn pw pl) := K0.1
  refine lv_iload_n hx hb d_D_submit_0 rfl (lv_at hl 1 rfl) ?_
  refine mx_ci (cS (As := [.int q]) (rest := []) G h (m_D_isQueue (x := q)) k_149 k_150 k_1 k_151 rfl hd_D_isQueue rfl rfl ⟨Nat.le_of_ble_eq_true rfl, Nat.le_of_ble_eq_true rfl⟩ rfl hl.1 rfl (Nat.le_of_ble_eq_true rfl) d_D_submit_1 ⟨Nat.le_of_ble_eq_true rfl, Nat.le_of_ble_eq_true rfl⟩) h (fun r_2 w_1 H locs h hcp => ?_)
  obtain ⟨er_3, ew_4⟩ := hcp
  subst er_3
  rw [ew_4] at h
  refine lv_if_eq (tgt := 16) hx hb d_D_submit_4 (by decide) (fun c_5 => ?_) (fun c_5 => ?_)
  · refine lv_iconst (v := (-1)) hx hb d_D_submit_16 (by decide) ?_
    have e9 : submitS (fl, us, sn, pw, pq, cq, ln, tn, tr) q kd a n v = (-1, (fl, us, sn, pw, pq, cq, ln, tn, tr)) := by simp only [submitS]; rw [if_neg (fun z => bI_0 c_5 z.1)]
    exact mx_reti G h hrt hlocks d_D_submit_17 (by rw [e9]; exact ⟨rfl, Y, FR.rf⟩)
  · refine lv_iload_n hx hb d_D_submit_7 rfl (lv_at hl 2 rfl) ?_
    refine lv_if_lt (tgt := 16) hx hb d_D_submit_8 (by decide) (fun c_6 => ?_) (fun c_6 => ?_)
    · refine lv_iconst (v := (-1)) hx hb d_D_submit_16 (by decide) ?_
      have e9 : submitS (fl, us, sn, pw, pq, cq, ln, tn, tr) q kd a n v = (-1, (fl, us, sn, pw, pq, cq, ln, tn, tr)) := by simp only [submitS]; rw [if_neg (fun z => absurd z.2.1 (Int32.not_le.mpr c_6))]
      exact mx_reti G h hrt hlocks d_D_submit_17 (by rw [e9]; exact ⟨rfl, Y, FR.rf⟩)
    · refine lv_iload_n hx hb d_D_submit_11 rfl (lv_at hl 2 rfl) ?_
      refine lv_iconst (v := 5) hx hb d_D_submit_12 (by decide) ?_
      refine lv_icmp_le (tgt := 18) hx hb d_D_submit_13 (by decide) (fun c_7 => ?_) (fun c_7 => ?_)
      · have hk0 : 0 ≤ kd := Int32.not_lt.mp c_6
        have hk5 : kd ≤ 5 := c_7
        have hi3 := bI_n c_5
        obtain ⟨j, hj, hqj⟩ := ixQ 3 rfl (by decide) hi3.1 hi3.2
        have hqc : q.toNatClampNeg = j := by rw [hqj]; exact nI_c (by omega)
        obtain ⟨f, g, gu, fn, fr, hX⟩ := hQ j hj
        have hX1 := hX.1
        have main : (kd = 3 ∨ (1 ≤ n ∧ n ≤ 4 ∧ 0 ≤ a ∧ a ≤ 24 - n)) → ∀ (H : Heap) (locs : List Loc), mw_H n0 D cl s w H locs → W p l e (rmd 1) s m ([.ref (k 0), .int q, .int kd, .int a, .int n, .int v] : List Value).toArray below meth c H locs 0 0 (MQ below (mw_Qi n0 D cl (fun r w' => r = (submitS (fl, us, sn, pw, pq, cq, ln, tn, tr) q kd a n v).1 ∧ DR cA w' ρ k L (submitS (fl, us, sn, pw, pq, cq, ln, tn, tr) q kd a n v).2 ∧ FR w w' (RG ρ))) ([.ref (k 0), .int q, .int kd, .int a, .int n, .int v] : List Value).toArray s 0 0 (mw_A n0)) (F0 m 34 ls []) := by
          intro hok H locs h
          refine lv_aload_n hx hb d_D_submit_34 rfl (lv_at hl 0 rfl) ?_
          refine mx_get G h hD rfl 2 (by decide) (tb_in in_D) (tb_c k_119) rfl rfl d_D_submit_35 ?_
          refine lv_iload_n hx hb d_D_submit_38 rfl (lv_at hl 1 rfl) ?_
          refine ax_a G h 5 hq1 rfl j hqj hj (by decide) (hq2 j hj) d_D_submit_39 ?_
          refine lv_astore (lv' := [(6, .ref (k (5 + j))), (0, .ref (k 0)), (1, .int q), (2, .int kd), (3, .int a), (4, .int n), (5, .int v)]) hx hb d_D_submit_40 hl (by decide) rfl (fun ls hl => ?_)
          refine lv_aload hx hb d_D_submit_42 (lv_at hl 0 rfl) ?_
          refine mx_get G h hX1 rfl 3 (by decide) (tb_in in_Q) (tb_c k_102) rfl rfl d_D_submit_44 ?_
          refine lv_iconst (v := 4) hx hb d_D_submit_47 (by decide) ?_
          have hps4 := hX.2.2.2.2.1
          refine lv_icmp_lt (tgt := 54) hx hb d_D_submit_48 (by decide) (fun c_8 => ?_) (fun c_8 => ?_)
          · have hlt : (pq j).length < 4 := (nI_ltI (by omega) (by decide)).mp c_8
            refine lv_aload_n hx hb d_D_submit_54 rfl (lv_at hl 1 rfl) ?_
            refine lv_dup hx hb d_D_submit_55 rfl ?_
            refine mx_get G h hD rfl 3 (by decide) (tb_in in_D) (tb_c k_120) rfl rfl d_D_submit_56 ?_
            refine lv_iconst (v := 1) hx hb d_D_submit_59 (by decide) ?_
            refine lv_iadd hx hb d_D_submit_60 ?_
            have et_9 : (nI ln) + 1 = nI (ln + 1) := nI_1 ln
            rw [et_9]
            refine mx_put G h hD rfl 3 (by decide) (tb_in in_D) t_D t_D_ok n_D (tb_c k_120) rfl rfl rfl rfl rfl (Nat.le_of_ble_eq_true rfl) d_D_submit_61 (fun H locs h => ?_)
            have h : mw_H n0 D cl s (mw_up w (k 0) (.inr (0, [.ref (k 1), .ref (k 2), .ref (k 4), .int (nI (ln + 1)), .int tn, .long tr, .int (nI sn), .int (nI pw), .int (nI pl)]))) H locs := h
            obtain ⟨w_10, ew_10⟩ : ∃ xx : mw, mw_up w (k 0) (.inr (0, [.ref (k 1), .ref (k 2), .ref (k 4), .int (nI (ln + 1)), .int tn, .long tr, .int (nI sn), .int (nI pw), .int (nI pl)])) = xx := ⟨_, rfl⟩
            rw [ew_10] at h
            have f_11 : w_10 (k 0) = some (.inr (0, [.ref (k 1), .ref (k 2), .ref (k 4), .int (nI (ln + 1)), .int tn, .long tr, .int (nI sn), .int (nI pw), .int (nI pl)])) := by rw [← ew_10]; exact mw_self
            have Z1 : DRp cA w_10 ρ k L fl us sn pw pq cq (ln + 1) tn tr pl := by rw [← ew_10]; exact Z.core (K0.put (ln + 1) tn tr pl) (FR.up (Or.inl rfl))
            have hfr1 : FR w w_10 (RG ρ) := by rw [← ew_10]; exact FR.up (RG_P Z (Or.inl rfl))
            obtain ⟨f, g, gu, fn, fr, hX⟩ := Z1.2.2.1 j hj
            obtain ⟨hfl, hSg, hSu, y1, z1, u1, hgl, hul⟩ := hX.2.2.2.2.2.2.1 _ hlt
            refine lv_aload hx hb d_D_submit_64 (lv_at hl 0 rfl) ?_
            refine lv_aload_n hx hb d_D_submit_66 rfl (lv_at hl 1 rfl) ?_
            refine mx_get G h f_11 rfl 3 (by decide) (tb_in in_D) (tb_c k_120) rfl rfl d_D_submit_67 ?_
            refine lv_iload_n hx hb d_D_submit_70 rfl (lv_at hl 3 rfl) ?_
            refine mx_cr (cV (As := [.int (nI (ln + 1)), .int kd]) (rest := []) G h (m_Q_addPending hX.1 hX.2.1 hlt hfl hgl (x := nI (ln + 1)) (k := kd)) k_155 k_156 k_157 k_5 k_158 hd_Q_addPending rfl rfl ⟨Nat.le_of_ble_eq_true rfl, Nat.le_of_ble_eq_true rfl⟩ hX.1 rfl rfl hl.1 rfl (Nat.le_of_ble_eq_true rfl) d_D_submit_71 ⟨Nat.le_of_ble_eq_true rfl, Nat.le_of_ble_eq_true rfl⟩) h (fun r_13 w_12 H locs h hcp => ?_)
            obtain ⟨er, ew⟩ := hcp
            subst er
            subst ew
            have hg2 : (mw_up (mw_up w_10 (g (pq j).length) (kcell (gu (pq j).length) (nI (ln + 1)) kd)) (k (5 + j)) (qcell (k (8 + j)) (k (11 + j)) (k (14 + j)) ((pq j).length + 1) (cq j).length)) (g (pq j).length) = some (kcell (gu (pq j).length) (nI (ln + 1)) kd) := by rw [mw_ne (mw_apart hgl hX.1 (by simp))]; exact mw_self
            have hu2 : (mw_up (mw_up w_10 (g (pq j).length) (kcell (gu (pq j).length) (nI (ln + 1)) kd)) (k (5 + j)) (qcell (k (8 + j)) (k (11 + j)) (k (14 + j)) ((pq j).length + 1) (cq j).length)) (gu (pq j).length) = some (ucell u1) := by rw [mw_ne (mw_apart hul hX.1 (by simp)), mw_ne (mw_apart hul hgl (by simp))]; exact hul
            refine lv_astore (lv' := [(7, .ref (g (pq j).length)), (6, .ref (k (5 + j))), (0, .ref (k 0)), (1, .int q), (2, .int kd), (3, .int a), (4, .int n), (5, .int v)]) hx hb d_D_submit_74 hl (by decide) rfl (fun ls hl => ?_)
            refine lv_aload hx hb d_D_submit_76 (lv_at hl 0 rfl) ?_
            refine mx_get G h hg2 rfl 0 (by decide) (tb_in in_K) (tb_c k_83) rfl rfl d_D_submit_78 ?_
            refine lv_iload_n hx hb d_D_submit_81 rfl (lv_at hl 5 rfl) ?_
            refine lv_iload hx hb d_D_submit_82 (lv_at hl 6 rfl) ?_
            refine lv_iload hx hb d_D_submit_84 (lv_at hl 7 rfl) ?_
            refine lv_iload_n hx hb d_D_submit_86 rfl (lv_at hl 4 rfl) ?_
            refine lv_iconst (v := 4) hx hb d_D_submit_87 (by decide) ?_
            refine lv_icmp_ne (tgt := 95) hx hb d_D_submit_88 (by decide) (fun c_14 => ?_) (fun c_14 => ?_)
            · refine lv_iconst (v := 0) hx hb d_D_submit_95 (by decide) ?_
              refine mx_cv (cV (As := [.int a, .int n, .int v, .int 0]) (rest := []) G h (m_U_set hu2 (x1 := a) (x2 := n) (x3 := v) (x4 := 0) (by decide)) k_159 k_160 k_161 k_4 k_162 hd_U_set rfl rfl ⟨Nat.le_of_ble_eq_true rfl, Nat.le_of_ble_eq_true rfl⟩ hu2 rfl rfl hl.1 rfl (Nat.le_of_ble_eq_true rfl) d_D_submit_96 ⟨Nat.le_of_ble_eq_true rfl, Nat.le_of_ble_eq_true rfl⟩) h (fun w_15 H locs h hcp => ?_)
              have hz : 0 = bI (kd = 4) := (bI_f c_14).symm
              have ew : w_15 = mw_up (mw_up (mw_up w_10 (g (pq j).length) (kcell (gu (pq j).length) (nI (ln + 1)) kd)) (k (5 + j)) (qcell (k (8 + j)) (k (11 + j)) (k (14 + j)) ((pq j).length + 1) (cq j).length)) (gu (pq j).length) (ucell (uof (nI (ln + 1), kd, a, n, v))) := by rw [hcp, hz]; rfl
              have Z3 : DRp cA w_15 ρ k L fl us sn pw (va_up pq j (pq j ++ [(nI (ln + 1), kd, a, n, v)])) (va_up cq j (cq j)) (ln + 1) tn tr pl := by rw [ew]; exact Z1.queue hj ⟨_, _, _, _, _, hX.push hlt (nI (ln + 1), kd, a, n, v)⟩ (fun c hc => (List.mem_append.mp hc).elim (hvC j hj c) (fun z => by rw [List.mem_singleton.mp z]; exact vC_of hk0 hk5 hok)) (((FQ hSg).tr (FQ hX.2.2.2.2.2.2.2.2.2.2.2.1)).tr (FQ hSu))
              have hfr3 : FR w w_15 (RG ρ) := hfr1.tr (by rw [ew]; exact ((FR.up (RG_Q hj hSg)).tr (FR.up (RG_Q hj hX.2.2.2.2.2.2.2.2.2.2.2.1))).tr (FR.up (RG_Q hj hSu)))
              have hD3 := Z3.1.1
              refine lv_aload_n hx hb d_D_submit_99 rfl (lv_at hl 2 rfl) ?_
              refine mx_get G h hD3 rfl 3 (by decide) (tb_in in_D) (tb_c k_120) rfl rfl d_D_submit_100 ?_
              have e9 : submitS (fl, us, sn, pw, pq, cq, ln, tn, tr) q kd a n v = (nI (ln + 1), (fl, us, sn, pw, va_up pq j (pq j ++ [(nI (ln + 1), kd, a, n, v)]), cq, ln + 1, tn, tr)) := by simp only [submitS]; rw [if_pos ⟨hi3, hk0, hk5⟩, if_pos hok, hqc, if_neg (by omega)]
              exact mx_reti G h hrt hlocks d_D_submit_103 (by rw [e9]; exact ⟨rfl, ⟨pl, by rw [va_up_id] at Z3; exact Z3⟩, hfr3⟩)
            · refine lv_iconst (v := 1) hx hb d_D_submit_91 (by decide) ?_
              refine lv_goto (tgt := 96) hx hb d_D_submit_92 (by decide) ?_
              refine mx_cv (cV (As := [.int a, .int n, .int v, .int 1]) (rest := []) G h (m_U_set hu2 (x1 := a) (x2 := n) (x3 := v) (x4 := 1) (by decide)) k_159 k_160 k_161 k_4 k_162 hd_U_set rfl rfl ⟨Nat.le_of_ble_eq_true rfl, Nat.le_of_ble_eq_true rfl⟩ hu2 rfl rfl hl.1 rfl (Nat.le_of_ble_eq_true rfl) d_D_submit_96 ⟨Nat.le_of_ble_eq_true rfl, Nat.le_of_ble_eq_true rfl⟩) h (fun w_16 H locs h hcp => ?_)
              have hz : 1 = bI (kd = 4) := (bI_t c_14).symm
              have ew : w_16 = mw_up (mw_up (mw_up w_10 (g (pq j).length) (kcell (gu (pq j).length) (nI (ln + 1)) kd)) (k (5 + j)) (qcell (k (8 + j)) (k (11 + j)) (k (14 + j)) ((pq j).length + 1) (cq j).length)) (gu (pq j).length) (ucell (uof (nI (ln + 1), kd, a, n, v))) := by rw [hcp, hz]; rfl
              have Z3 : DRp cA w_16 ρ k L fl us sn pw (va_up pq j (pq j ++ [(nI (ln + 1), kd, a, n, v)])) (va_up cq j (cq j)) (ln + 1) tn tr pl := by rw [ew]; exact Z1.queue hj ⟨_, _, _, _, _, hX.push hlt (nI (ln + 1), kd, a, n, v)⟩ (fun c hc => (List.mem_append.mp hc).elim (hvC j hj c) (fun z => by rw [List.mem_singleton.mp z]; exact vC_of hk0 hk5 hok)) (((FQ hSg).tr (FQ hX.2.2.2.2.2.2.2.2.2.2.2.1)).tr (FQ hSu))
              have hfr3 : FR w w_16 (RG ρ) := hfr1.tr (by rw [ew]; exact ((FR.up (RG_Q hj hSg)).tr (FR.up (RG_Q hj hX.2.2.2.2.2.2.2.2.2.2.2.1))).tr (FR.up (RG_Q hj hSu)))
              have hD3 := Z3.1.1
              refine lv_aload_n hx hb d_D_submit_99 rfl (lv_at hl 2 rfl) ?_
              refine mx_get G h hD3 rfl 3 (by decide) (tb_in in_D) (tb_c k_120) rfl rfl d_D_submit_100 ?_
              have e9 : submitS (fl, us, sn, pw, pq, cq, ln, tn, tr) q kd a n v = (nI (ln + 1), (fl, us, sn, pw, va_up pq j (pq j ++ [(nI (ln + 1), kd, a, n, v)]), cq, ln + 1, tn, tr)) := by simp only [submitS]; rw [if_pos ⟨hi3, hk0, hk5⟩, if_pos hok, hqc, if_neg (by omega)]
              exact mx_reti G h hrt hlocks d_D_submit_103 (by rw [e9]; exact ⟨rfl, ⟨pl, by rw [va_up_id] at Z3; exact Z3⟩, hfr3⟩)
          · refine lv_bipush (v := -2) hx hb d_D_submit_51 (by decide) ?_
            have hge : 4 ≤ (pq j).length := Nat.not_lt.mp (fun z => c_8 ((nI_ltI (by omega) (by decide)).mpr z))
            have e9 : submitS (fl, us, sn, pw, pq, cq, ln, tn, tr) q kd a n v = (-2, (fl, us, sn, pw, pq, cq, ln, tn, tr)) := by simp only [submitS]; rw [if_pos ⟨hi3, hk0, hk5⟩, if_pos hok, hqc, if_pos hge]
            exact mx_reti G h hrt hlocks d_D_submit_53 (by rw [e9]; exact ⟨rfl, Y, FR.rf⟩)
        refine lv_iload_n hx hb d_D_submit_18 rfl (lv_at hl 2 rfl) ?_
        refine lv_iconst (v := 3) hx hb d_D_submit_19 (by decide) ?_
        refine lv_icmp_eq (tgt := 34) hx hb d_D_submit_20 (by decide) (fun c_17 => ?_) (fun c_17 => ?_)
        · exact main (Or.inl c_17) H locs h
        · refine lv_iload_n hx hb d_D_submit_23 rfl (lv_at hl 3 rfl) ?_
          refine lv_iload hx hb d_D_submit_24 (lv_at hl 4 rfl) ?_
          refine mx_ci (cS (As := [.int a, .int n]) (rest := []) G h (m_D_areAddresses (x := a) (n := n)) k_152 k_153 k_1 k_154 rfl hd_D_areAddresses rfl rfl ⟨Nat.le_of_ble_eq_true rfl, Nat.le_of_ble_eq_true rfl⟩ rfl hl.1 rfl (Nat.le_of_ble_eq_true rfl) d_D_submit_26 ⟨Nat.le_of_ble_eq_true rfl, Nat.le_of_ble_eq_true rfl⟩) h (fun r_19 w_18 H locs h hcp => ?_)
          obtain ⟨er_20, ew_21⟩ := hcp
          subst er_20
          rw [ew_21] at h
          refine lv_if_ne (tgt := 34) hx hb d_D_submit_29 (by decide) (fun c_22 => ?_) (fun c_22 => ?_)
          · exact main (Or.inr (bI_n c_22)) H locs h
          · refine lv_iconst (v := (-1)) hx hb d_D_submit_32 (by decide) ?_
            have e9 : submitS (fl, us, sn, pw, pq, cq, ln, tn, tr) q kd a n v = (-1, (fl, us, sn, pw, pq, cq, ln, tn, tr)) := by simp only [submitS]; rw [if_pos ⟨hi3, hk0, hk5⟩, if_neg (fun z => z.elim c_17 (bI_0 c_22))]
            exact mx_reti G h hrt hlocks d_D_submit_33 (by rw [e9]; exact ⟨rfl, Y, FR.rf⟩)
      · refine lv_iconst (v := (-1)) hx hb d_D_submit_16 (by decide) ?_
        have e9 : submitS (fl, us, sn, pw, pq, cq, ln, tn, tr) q kd a n v = (-1, (fl, us, sn, pw, pq, cq, ln, tn, tr)) := by simp only [submitS]; rw [if_neg (fun z => absurd z.2.2 c_7)]
        exact mx_reti G h hrt hlocks d_D_submit_17 (by rw [e9]; exact ⟨rfl, Y, FR.rf⟩)
set_option maxHeartbeats 4000000 in
set_option maxRecDepth 100000 in
theorem m_D_step {l : Launch} {D : va_G} {cA : Nat → ClassId} {n0 : Nat} {w : mw} {ρ k : Nat → Nat} {L : Nat} {fl : Nat → Int64} {us : List uU} {sn pw : Nat} {pq : Nat → List pC} {cq : Nat → List (Int32 × Int64)} {ln : Nat} {tn : Int32} {tr : Int64} (Y : DR cA w ρ k L (fl, us, sn, pw, pq, cq, ln, tn, tr)) {q x : Int32} :
    Mi l D cA n0 y_D_step c_D_step (rmd 6) [.ref (k 0), .int q, .int x] w (fun r w' => r = (stepS L (fl, us, sn, pw, pq, cq, ln, tn, tr) q x).1 ∧ DR cA w' ρ k L (stepS L (fl, us, sn, pw, pq, cq, ln, tn, tr) q x).2 ∧ FR w w' (RG ρ)) := by
  refine mw_met (cc := b_D_step) (maxL := 8) (ret := (some .int)) (by decide) rfl (Nat.le_of_ble_eq_true rfl) ?_
  intro p e s m below meth c ls G hrt hlocks hname h hl
  have G : mw_G p m c b_D_step 8 s _ (c_D_step :: TB) R_D D cl (tys cA) n0 := G
  have hx := G.1.1
  have hb := G.1.2.1
  have hl : lv_has ls 8 [(0, .ref (k 0)), (1, .int q), (2, .int x)] := hl
  obtain ⟨pl, Z⟩ := id Y
  have Z : DRp cA w ρ k L fl us sn pw pq cq ln tn tr pl := Z
  obtain ⟨K0, ⟨qf, hq1, hq2⟩, hQ, r0, r1, r4, hL1, hvC⟩ := id Z
  have hD : w (k 0) = some (dcell (k 1) (k 2) (k 4) ln tn tr sn pw pl) := K0.1
  refine lv_aload_n hx hb d_D_step_0 rfl (lv_at hl 0 rfl) ?_
  refine lv_iload_n hx hb d_D_step_1 rfl (lv_at hl 1 rfl) ?_
  refine lv_iload_n hx hb d_D_step_2 rfl (lv_at hl 2 rfl) ?_
  refine mx_ci (cV (As := [.int q, .int x]) (rest := []) G h (m_D_refusalOfStep Z (q := q) (x := x)) k_167 k_169 ks_0 k_1 k_170 hd_D_refusalOfStep rfl rfl ⟨Nat.le_of_ble_eq_true rfl, Nat.le_of_ble_eq_true rfl⟩ hD rfl rfl hl.1 rfl (Nat.le_of_ble_eq_true rfl) d_D_step_3 ⟨Nat.le_of_ble_eq_true rfl, Nat.le_of_ble_eq_true rfl⟩) h (fun r_2 w_1 H locs h hcp => ?_)
  obtain ⟨er_3, ew_4⟩ := hcp
  subst er_3
  rw [ew_4] at h
  refine lv_istore_n (lv' := [(3, .int (refS pq cq q x)), (0, .ref (k 0)), (1, .int q), (2, .int x)]) hx hb d_D_step_6 rfl hl (by decide) rfl (fun ls hl => ?_)
  refine lv_iload_n hx hb d_D_step_7 rfl (lv_at hl 0 rfl) ?_
  refine lv_if_eq (tgt := 13) hx hb d_D_step_8 (by decide) (fun c_5 => ?_) (fun c_5 => ?_)
  · have hp4 : ∀ i, i < 3 → (pq i).length ≤ 4 := fun i hi => by obtain ⟨_, _, _, _, _, hX⟩ := hQ i hi; exact hX.2.2.2.2.1
    obtain ⟨j, i, hj, hqj, hi, hxi, hcl⟩ := refS_0 hp4 c_5
    have hqc : q.toNatClampNeg = j := by rw [hqj]; exact nI_c (by omega)
    have hxc : x.toNatClampNeg = i := by rw [hxi]; exact nI_c (by have := hp4 j hj; omega)
    obtain ⟨d, hd⟩ := getQ (l := pq j) hi
    obtain ⟨f, g, gu, fn, fr, hX⟩ := hQ j hj
    have hX1 := hX.1
    have hi4 : i < 4 := Nat.lt_of_lt_of_le hi (hp4 j hj)
    obtain ⟨hfi, hSg, hSu, -⟩ := hX.2.2.2.2.2.2.1 i hi4
    obtain ⟨hgi, hui⟩ := hX.2.2.2.2.2.2.2.1 i d hd
    obtain ⟨⟨kd, hkd, hkk⟩, hVd⟩ := hvC j hj d (List.mem_of_getElem? hd)
    have hkc : d.2.1.toNatClampNeg = kd := by rw [hkk]; exact nI_c (by omega)
    have hVd : kd ≠ 3 → vU (uof d) := fun z => hVd.resolve_left (fun y => z (by have y2 := hkk.symm.trans y; exact (nI_eq (b := 3) (by omega) (by decide)).mp y2))
    have hgi : w (g i) = some (kcell (gu i) d.1 (nI kd)) := by rw [← hkk]; exact hgi
    have hnu : ¬ PP (fun x => ρ x = 1) (k 0) (k 1) (gu i) := Z.notP (by have z : ρ (gu i) = 2 + j := hSu; omega) (by have z : ρ (gu i) = 2 + j := hSu; omega)
    refine lv_aload_n hx hb d_D_step_13 rfl (lv_at hl 1 rfl) ?_
    refine mx_get G h hD rfl 2 (by decide) (tb_in in_D) (tb_c k_119) rfl rfl d_D_step_14 ?_
    refine lv_iload_n hx hb d_D_step_17 rfl (lv_at hl 2 rfl) ?_
    refine ax_a G h 5 hq1 rfl j hqj hj (by decide) (hq2 j hj) d_D_step_18 ?_
    refine lv_astore (lv' := [(4, .ref (k (5 + j))), (3, .int (refS pq cq q x)), (0, .ref (k 0)), (1, .int q), (2, .int x)]) hx hb d_D_step_19 hl (by decide) rfl (fun ls hl => ?_)
    refine lv_aload hx hb d_D_step_21 (lv_at hl 0 rfl) ?_
    refine mx_get G h hX1 rfl 0 (by decide) (tb_in in_Q) (tb_c k_96) rfl rfl d_D_step_23 ?_
    refine lv_iload_n hx hb d_D_step_26 rfl (lv_at hl 4 rfl) ?_
    refine ax_a G h 4 hX.2.1 rfl i hxi hi4 (by decide) hfi d_D_step_27 ?_
    refine lv_astore (lv' := [(5, .ref (g i)), (4, .ref (k (5 + j))), (3, .int (refS pq cq q x)), (0, .ref (k 0)), (1, .int q), (2, .int x)]) hx hb d_D_step_28 hl (by decide) rfl (fun ls hl => ?_)
    refine lv_aload_n hx hb d_D_step_30 rfl (lv_at hl 3 rfl) ?_
    refine lv_aload hx hb d_D_step_31 (lv_at hl 0 rfl) ?_
    refine lv_bipush (v := 28) hx hb d_D_step_33 (by decide) ?_
    refine mx_cl (cV (As := [.ref (g i), .int 28]) (rest := []) G h (m_D_carryOut K0 hL1 hgi hui hkd hVd hnu (pg := 28) (by decide) rfl) k_175 k_177 ks_1 k_1 k_178 hd_D_carryOut rfl rfl ⟨Nat.le_of_ble_eq_true rfl, Nat.le_of_ble_eq_true rfl⟩ hD rfl rfl hl.1 rfl (Nat.le_of_ble_eq_true rfl) d_D_step_35 ⟨Nat.le_of_ble_eq_true rfl, Nat.le_of_ble_eq_true rfl⟩) h (fun r_7 w_6 H locs h hcp => ?_)
    obtain ⟨er, K1, hf1⟩ := hcp
    have Z1 := Z.core K1 hf1
    have hX2 := hX.frame (w' := w_6) (fun y hy => hf1 y (Z.notP (by have z : ρ y = 2 + j := hy; omega) (by have z : ρ y = 2 + j := hy; omega)))
    have hg2 := (hX2.2.2.2.2.2.2.2.1 i d hd).1
    refine lv_lstore (lv' := [(6, .long r_7), (5, .ref (g i)), (4, .ref (k (5 + j))), (3, .int (refS pq cq q x)), (0, .ref (k 0)), (1, .int q), (2, .int x)]) hx hb d_D_step_38 hl (by decide) rfl (fun ls hl => ?_)
    refine lv_aload hx hb d_D_step_40 (lv_at hl 2 rfl) ?_
    refine lv_iload_n hx hb d_D_step_42 rfl (lv_at hl 6 rfl) ?_
    refine mx_cv (cV (As := [.int x]) (rest := []) G h (m_Q_removePending hX2.1 hX2.2.1 hi hX2.2.2.2.2.1 (fun y hy => by obtain ⟨q1, -, -, y1, z1, u1, q2, -⟩ := hX2.2.2.2.2.2.2.1 y hy; exact ⟨g y, gu y, y1, z1, q1, q2⟩) hxi) k_238 k_239 k_240 k_5 k_241 hd_Q_removePending rfl rfl ⟨Nat.le_of_ble_eq_true rfl, Nat.le_of_ble_eq_true rfl⟩ hX2.1 rfl rfl hl.1 rfl (Nat.le_of_ble_eq_true rfl) d_D_step_43 ⟨Nat.le_of_ble_eq_true rfl, Nat.le_of_ble_eq_true rfl⟩) h (fun w_8 H locs h hcp => ?_)
    have hX3 := hX2.rem hi
    rw [← hcp] at hX3
    have hg3 : w_8 (g i) = some (kcell (gu i) d.1 d.2.1) := by rw [hcp, mw_ne (mw_apart hg2 hX2.2.1 (by simp)), mw_ne (mw_apart hg2 hX2.1 (by simp))]; exact hg2
    have hf2 : FR w_6 w_8 (fun y => ρ y = 2 + j) := by rw [hcp]; exact (FQ hX2.2.2.2.2.2.2.2.2.2.2.2.1).tr (FQ hX2.2.2.2.2.2.2.2.2.2.2.2.2.1)
    have hX31 : w_8 (k (5 + j)) = some (qcell (k (8 + j)) (k (11 + j)) (k (14 + j)) ((pq j).eraseIdx i).length (cq j).length) := hX3.1
    refine lv_aload hx hb d_D_step_46 (lv_at hl 2 rfl) ?_
    refine lv_aload hx hb d_D_step_48 (lv_at hl 1 rfl) ?_
    refine mx_get G h hg3 rfl 1 (by decide) (tb_in in_K) (tb_c k_85) rfl rfl d_D_step_50 ?_
    refine lv_lload hx hb d_D_step_53 (lv_at hl 0 rfl) ?_
    refine mx_cv (cV (As := [.int d.1, .long r_7]) (rest := []) G h (m_Q_addCompletion hX31 hX3.2.2.1 hX3.2.2.2.1 hcl (x := d.1) (y := r_7)) k_243 k_244 k_245 k_5 k_246 hd_Q_addCompletion rfl rfl ⟨Nat.le_of_ble_eq_true rfl, Nat.le_of_ble_eq_true rfl⟩ hX31 rfl rfl hl.1 rfl (Nat.le_of_ble_eq_true rfl) d_D_step_55 ⟨Nat.le_of_ble_eq_true rfl, Nat.le_of_ble_eq_true rfl⟩) h (fun w_9 H locs h hcp => ?_)
    have hX4 := hX3.addC hcl d.1 r_7
    rw [← hcp] at hX4
    have hg4 : w_9 (g i) = some (kcell (gu i) d.1 d.2.1) := by rw [hcp, mw_ne (mw_apart hg3 hX31 (by simp)), mw_ne (mw_apart hg3 hX3.2.2.2.1 (by simp)), mw_ne (mw_apart hg3 hX3.2.2.1 (by simp))]; exact hg3
    have hf3 : FR w_8 w_9 (fun y => ρ y = 2 + j) := by rw [hcp]; exact ((FQ hX3.2.2.2.2.2.2.2.2.2.2.2.2.2.1).tr (FQ hX3.2.2.2.2.2.2.2.2.2.2.2.2.2.2)).tr (FQ hX3.2.2.2.2.2.2.2.2.2.2.2.1)
    have Z3 := Z1.queue hj ⟨_, _, _, _, _, hX4⟩ (fun c hc => hvC j hj c (List.mem_of_mem_eraseIdx hc)) (hf2.tr hf3)
    have hfr : FR w w_9 (RG ρ) := (hf1.mono (fun y hy => RG_P Z hy)).tr ((hf2.tr hf3).mono (fun y hy => RG_Q hj hy))
    refine lv_aload hx hb d_D_step_58 (lv_at hl 1 rfl) ?_
    refine mx_get G h hg4 rfl 1 (by decide) (tb_in in_K) (tb_c k_85) rfl rfl d_D_step_60 ?_
    rw [er] at Z3
    have e9 : stepS L (fl, us, sn, pw, pq, cq, ln, tn, tr) q x = (d.1, ((carA L kd (uof d) (fl, us, sn, pw, 28)).2.1, (carA L kd (uof d) (fl, us, sn, pw, 28)).2.2.1, (carA L kd (uof d) (fl, us, sn, pw, 28)).2.2.2.1, (carA L kd (uof d) (fl, us, sn, pw, 28)).2.2.2.2.1, va_up pq j ((pq j).eraseIdx i), va_up cq j (cq j ++ [(d.1, (carA L kd (uof d) (fl, us, sn, pw, 28)).1)]), ln, tn, tr)) := by simp only [stepS]; rw [if_pos c_5, hqc, hxc, hd]; simp only [hkc]
    exact mx_reti G h hrt hlocks d_D_step_63 (by rw [e9]; exact ⟨rfl, ⟨_, Z3⟩, hfr⟩)
  · refine lv_iload_n hx hb d_D_step_11 rfl (lv_at hl 0 rfl) ?_
    have e9 : stepS L (fl, us, sn, pw, pq, cq, ln, tn, tr) q x = (refS pq cq q x, (fl, us, sn, pw, pq, cq, ln, tn, tr)) := by simp only [stepS]; rw [if_neg c_5]
    exact mx_reti G h hrt hlocks d_D_step_12 (by rw [e9]; exact ⟨rfl, Y, FR.rf⟩)
set_option maxHeartbeats 4000000 in
set_option maxRecDepth 100000 in
theorem m_D_powerDuring {l : Launch} {D : va_G} {cA : Nat → ClassId} {n0 : Nat} {w : mw} {ρ k : Nat → Nat} {L : Nat} {fl : Nat → Int64} {us : List uU} {sn pw : Nat} {pq : Nat → List pC} {cq : Nat → List (Int32 × Int64)} {ln : Nat} {tn : Int32} {tr : Int64} (Y : DR cA w ρ k L (fl, us, sn, pw, pq, cq, ln, tn, tr)) {q x y : Int32} :
    Mi l D cA n0 y_D_powerDuring c_D_powerDuring (rmd 6) [.ref (k 0), .int q, .int x, .int y] w (fun r w' => r = (pdurS L (fl, us, sn, pw, pq, cq, ln, tn, tr) q x y).1 ∧ DR cA w' ρ k L (pdurS L (fl, us, sn, pw, pq, cq, ln, tn, tr) q x y).2 ∧ FR w w' (RG ρ)) := by
  refine mw_met (cc := b_D_powerDuring) (maxL := 5) (ret := (some .int)) (by decide) rfl (Nat.le_of_ble_eq_true rfl) ?_
  intro p e s m below meth c ls G hrt hlocks hname h hl
  have G : mw_G p m c b_D_powerDuring 5 s _ (c_D_powerDuring :: TB) R_D D cl (tys cA) n0 := G
  have hx := G.1.1
  have hb := G.1.2.1
  have hl : lv_has ls 5 [(0, .ref (k 0)), (1, .int q), (2, .int x), (3, .int y)] := hl
  obtain ⟨pl, Z⟩ := id Y
  have Z : DRp cA w ρ k L fl us sn pw pq cq ln tn tr pl := Z
  obtain ⟨K0, ⟨qf, hq1, hq2⟩, hQ, r0, r1, r4, hL1, hvC⟩ := id Z
  have hD : w (k 0) = some (dcell (k 1) (k 2) (k 4) ln tn tr sn pw pl) := K0.1
  refine lv_iload_n hx hb d_D_powerDuring_0 rfl (lv_at hl 3 rfl) ?_
  refine lv_if_lt (tgt := 10) hx hb d_D_powerDuring_1 (by decide) (fun c_1 => ?_) (fun c_1 => ?_)
  · refine lv_iconst (v := (-1)) hx hb d_D_powerDuring_10 (by decide) ?_
    have e9 : pdurS L (fl, us, sn, pw, pq, cq, ln, tn, tr) q x y = (-1, (fl, us, sn, pw, pq, cq, ln, tn, tr)) := by simp only [pdurS]; rw [if_neg (fun z => absurd z.1 (Int32.not_le.mpr c_1))]
    exact mx_reti G h hrt hlocks d_D_powerDuring_11 (by rw [e9]; exact ⟨rfl, Y, FR.rf⟩)
  · refine lv_iload_n hx hb d_D_powerDuring_4 rfl (lv_at hl 3 rfl) ?_
    refine lv_bipush (v := 30) hx hb d_D_powerDuring_5 (by decide) ?_
    refine lv_icmp_le (tgt := 12) hx hb d_D_powerDuring_7 (by decide) (fun c_2 => ?_) (fun c_2 => ?_)
    · have hy0 : 0 ≤ y ∧ y ≤ 30 := ⟨Int32.not_lt.mp c_1, c_2⟩
      obtain ⟨pg, hpg, hyp⟩ := ixL 30 rfl (by decide) hy0.1 hy0.2
      have hyc : y.toNatClampNeg = pg := by rw [hyp]; exact nI_c (by omega)
      refine lv_aload_n hx hb d_D_powerDuring_12 rfl (lv_at hl 0 rfl) ?_
      refine lv_iload_n hx hb d_D_powerDuring_13 rfl (lv_at hl 1 rfl) ?_
      refine lv_iload_n hx hb d_D_powerDuring_14 rfl (lv_at hl 2 rfl) ?_
      refine mx_ci (cV (As := [.int q, .int x]) (rest := []) G h (m_D_refusalOfStep Z (q := q) (x := x)) k_167 k_169 ks_0 k_1 k_170 hd_D_refusalOfStep rfl rfl ⟨Nat.le_of_ble_eq_true rfl, Nat.le_of_ble_eq_true rfl⟩ hD rfl rfl hl.1 rfl (Nat.le_of_ble_eq_true rfl) d_D_powerDuring_15 ⟨Nat.le_of_ble_eq_true rfl, Nat.le_of_ble_eq_true rfl⟩) h (fun r_4 w_3 H locs h hcp => ?_)
      obtain ⟨er_5, ew_6⟩ := hcp
      subst er_5
      rw [ew_6] at h
      refine lv_istore (lv' := [(4, .int (refS pq cq q x)), (0, .ref (k 0)), (1, .int q), (2, .int x), (3, .int y)]) hx hb d_D_powerDuring_18 hl (by decide) rfl (fun ls hl => ?_)
      refine lv_iload hx hb d_D_powerDuring_20 (lv_at hl 0 rfl) ?_
      refine lv_if_eq (tgt := 28) hx hb d_D_powerDuring_22 (by decide) (fun c_7 => ?_) (fun c_7 => ?_)
      · have hp4 : ∀ i, i < 3 → (pq i).length ≤ 4 := fun i hi => by obtain ⟨_, _, _, _, _, hX⟩ := hQ i hi; exact hX.2.2.2.2.1
        obtain ⟨j, i, hj, hqj, hi, hxi, hcl⟩ := refS_0 hp4 c_7
        have hqc : q.toNatClampNeg = j := by rw [hqj]; exact nI_c (by omega)
        have hxc : x.toNatClampNeg = i := by rw [hxi]; exact nI_c (by have := hp4 j hj; omega)
        obtain ⟨d, hd⟩ := getQ (l := pq j) hi
        obtain ⟨f, g, gu, fn, fr, hX⟩ := hQ j hj
        have hX1 := hX.1
        have hi4 : i < 4 := Nat.lt_of_lt_of_le hi (hp4 j hj)
        obtain ⟨hfi, hSg, hSu, -⟩ := hX.2.2.2.2.2.2.1 i hi4
        obtain ⟨hgi, hui⟩ := hX.2.2.2.2.2.2.2.1 i d hd
        obtain ⟨⟨kd, hkd, hkk⟩, hVd⟩ := hvC j hj d (List.mem_of_getElem? hd)
        have hkc : d.2.1.toNatClampNeg = kd := by rw [hkk]; exact nI_c (by omega)
        have hVd : kd ≠ 3 → vU (uof d) := fun z => hVd.resolve_left (fun y => z (by have y2 := hkk.symm.trans y; exact (nI_eq (b := 3) (by omega) (by decide)).mp y2))
        have hgi : w (g i) = some (kcell (gu i) d.1 (nI kd)) := by rw [← hkk]; exact hgi
        have hnu : ¬ PP (fun x => ρ x = 1) (k 0) (k 1) (gu i) := Z.notP (by have z : ρ (gu i) = 2 + j := hSu; omega) (by have z : ρ (gu i) = 2 + j := hSu; omega)
        refine lv_aload_n hx hb d_D_powerDuring_28 rfl (lv_at hl 1 rfl) ?_
        refine lv_aload_n hx hb d_D_powerDuring_29 rfl (lv_at hl 1 rfl) ?_
        refine mx_get G h hD rfl 2 (by decide) (tb_in in_D) (tb_c k_119) rfl rfl d_D_powerDuring_30 ?_
        refine lv_iload_n hx hb d_D_powerDuring_33 rfl (lv_at hl 2 rfl) ?_
        refine ax_a G h 5 hq1 rfl j hqj hj (by decide) (hq2 j hj) d_D_powerDuring_34 ?_
        refine mx_get G h hX1 rfl 0 (by decide) (tb_in in_Q) (tb_c k_96) rfl rfl d_D_powerDuring_35 ?_
        refine lv_iload_n hx hb d_D_powerDuring_38 rfl (lv_at hl 3 rfl) ?_
        refine ax_a G h 4 hX.2.1 rfl i hxi hi4 (by decide) hfi d_D_powerDuring_39 ?_
        refine lv_iload_n hx hb d_D_powerDuring_40 rfl (lv_at hl 4 rfl) ?_
        refine mx_cl (cV (As := [.ref (g i), .int y]) (rest := []) G h (m_D_carryOut K0 hL1 hgi hui hkd hVd hnu (pg := pg) (by omega) hyp) k_175 k_177 ks_1 k_1 k_178 hd_D_carryOut rfl rfl ⟨Nat.le_of_ble_eq_true rfl, Nat.le_of_ble_eq_true rfl⟩ hD rfl rfl hl.1 rfl (Nat.le_of_ble_eq_true rfl) d_D_powerDuring_41 ⟨Nat.le_of_ble_eq_true rfl, Nat.le_of_ble_eq_true rfl⟩) h (fun r_9 w_8 H locs h hcp => ?_)
        obtain ⟨er, K1, hf1⟩ := hcp
        have Z1 := Z.core K1 hf1
        refine lv_pop2_2 hx hb d_D_powerDuring_44 rfl ?_
        refine lv_aload_n hx hb d_D_powerDuring_45 rfl (lv_at hl 1 rfl) ?_
        refine mx_ci (cV (As := []) (rest := []) G h (m_D_losePower Z1) k_271 k_273 ks_12 k_1 k_274 hd_D_losePower rfl rfl ⟨Nat.le_of_ble_eq_true rfl, Nat.le_of_ble_eq_true rfl⟩ Z1.1.1 rfl rfl hl.1 rfl (Nat.le_of_ble_eq_true rfl) d_D_powerDuring_46 ⟨Nat.le_of_ble_eq_true rfl, Nat.le_of_ble_eq_true rfl⟩) h (fun r_11 w_10 H locs h hcp => ?_)
        obtain ⟨-, Z2, hf2⟩ := hcp
        refine lv_pop hx hb d_D_powerDuring_49 rfl ?_
        refine lv_iload_n hx hb d_D_powerDuring_50 rfl (lv_at hl 4 rfl) ?_
        refine lv_aload_n hx hb d_D_powerDuring_51 rfl (lv_at hl 1 rfl) ?_
        refine mx_get G h Z2.1.1 rfl 8 (by decide) (tb_in in_D) (tb_c k_125) rfl rfl d_D_powerDuring_52 ?_
        refine lv_isub hx hb d_D_powerDuring_55 ?_
        have e9 : pdurS L (fl, us, sn, pw, pq, cq, ln, tn, tr) q x y = (y - nI (carA L kd (uof d) (fl, us, sn, pw, pg)).2.2.2.2.2, ((carA L kd (uof d) (fl, us, sn, pw, pg)).2.1, [], (carA L kd (uof d) (fl, us, sn, pw, pg)).2.2.2.1, (carA L kd (uof d) (fl, us, sn, pw, pg)).2.2.2.2.1, (fun _ => []), (fun _ => []), ln, tn, tr)) := by simp only [pdurS]; rw [if_pos hy0, if_pos c_7, hqc, hxc, hd]; simp only [hkc, hyc]
        exact mx_reti G h hrt hlocks d_D_powerDuring_56 (by rw [e9]; exact ⟨rfl, ⟨_, Z2⟩, (hf1.mono (fun y hy => RG_P Z hy)).tr hf2⟩)
      · refine lv_iload hx hb d_D_powerDuring_25 (lv_at hl 0 rfl) ?_
        have e9 : pdurS L (fl, us, sn, pw, pq, cq, ln, tn, tr) q x y = (refS pq cq q x, (fl, us, sn, pw, pq, cq, ln, tn, tr)) := by simp only [pdurS]; rw [if_pos hy0, if_neg c_7]
        exact mx_reti G h hrt hlocks d_D_powerDuring_27 (by rw [e9]; exact ⟨rfl, Y, FR.rf⟩)
    · refine lv_iconst (v := (-1)) hx hb d_D_powerDuring_10 (by decide) ?_
      have e9 : pdurS L (fl, us, sn, pw, pq, cq, ln, tn, tr) q x y = (-1, (fl, us, sn, pw, pq, cq, ln, tn, tr)) := by simp only [pdurS]; rw [if_neg (fun z => absurd z.2 c_2)]
      exact mx_reti G h hrt hlocks d_D_powerDuring_11 (by rw [e9]; exact ⟨rfl, Y, FR.rf⟩)
set_option maxHeartbeats 4000000 in
set_option maxRecDepth 100000 in
theorem m_D_take {l : Launch} {D : va_G} {cA : Nat → ClassId} {n0 : Nat} {w : mw} {ρ k : Nat → Nat} {L : Nat} {fl : Nat → Int64} {us : List uU} {sn pw : Nat} {pq : Nat → List pC} {cq : Nat → List (Int32 × Int64)} {ln : Nat} {tn : Int32} {tr : Int64} (Y : DR cA w ρ k L (fl, us, sn, pw, pq, cq, ln, tn, tr)) {q : Int32} :
    Mi l D cA n0 y_D_take c_D_take (rmd 1) [.ref (k 0), .int q] w (fun r w' => r = (takeS (fl, us, sn, pw, pq, cq, ln, tn, tr) q).1 ∧ DR cA w' ρ k L (takeS (fl, us, sn, pw, pq, cq, ln, tn, tr) q).2 ∧ FR w w' (RG ρ)) := by
  refine mw_met (cc := b_D_take) (maxL := 3) (ret := (some .int)) (by decide) rfl (Nat.le_of_ble_eq_true rfl) ?_
  intro p e s m below meth c ls G hrt hlocks hname h hl
  have G : mw_G p m c b_D_take 3 s _ (c_D_take :: TB) R_D D cl (tys cA) n0 := G
  have hx := G.1.1
  have hb := G.1.2.1
  have hl : lv_has ls 3 [(0, .ref (k 0)), (1, .int q)] := hl
  obtain ⟨pl, Z⟩ := id Y
  have Z : DRp cA w ρ k L fl us sn pw pq cq ln tn tr pl := Z
  obtain ⟨K0, ⟨qf, hq1, hq2⟩, hQ, r0, r1, r4, hL1, hvC⟩ := id Z
  have hD : w (k 0) = some (dcell (k 1) (k 2) (k 4) ln tn tr sn pw pl) := K0.1
  refine lv_iload_n hx hb d_D_take_0 rfl (lv_at hl 1 rfl) ?_
  refine mx_ci (cS (As := [.int q]) (rest := []) G h (m_D_isQueue (x := q)) k_149 k_150 k_1 k_151 rfl hd_D_isQueue rfl rfl ⟨Nat.le_of_ble_eq_true rfl, Nat.le_of_ble_eq_true rfl⟩ rfl hl.1 rfl (Nat.le_of_ble_eq_true rfl) d_D_take_1 ⟨Nat.le_of_ble_eq_true rfl, Nat.le_of_ble_eq_true rfl⟩) h (fun r_2 w_1 H locs h hcp => ?_)
  obtain ⟨er_3, ew_4⟩ := hcp
  subst er_3
  rw [ew_4] at h
  refine lv_if_eq (tgt := 19) hx hb d_D_take_4 (by decide) (fun c_5 => ?_) (fun c_5 => ?_)
  · refine lv_iconst (v := (-1)) hx hb d_D_take_19 (by decide) ?_
    have e9 : takeS (fl, us, sn, pw, pq, cq, ln, tn, tr) q = (-1, (fl, us, sn, pw, pq, cq, ln, tn, tr)) := by simp only [takeS]; rw [if_neg (bI_0 c_5)]
    exact mx_reti G h hrt hlocks d_D_take_20 (by rw [e9]; exact ⟨rfl, Y, FR.rf⟩)
  · have hi3 := bI_n c_5
    obtain ⟨j, hj, hqj⟩ := ixQ 3 rfl (by decide) hi3.1 hi3.2
    have hqc : q.toNatClampNeg = j := by rw [hqj]; exact nI_c (by omega)
    obtain ⟨f, g, gu, fn, fr, hX⟩ := hQ j hj
    have hX1 := hX.1
    refine lv_aload_n hx hb d_D_take_7 rfl (lv_at hl 0 rfl) ?_
    refine mx_get G h hD rfl 2 (by decide) (tb_in in_D) (tb_c k_119) rfl rfl d_D_take_8 ?_
    refine lv_iload_n hx hb d_D_take_11 rfl (lv_at hl 1 rfl) ?_
    refine ax_a G h 5 hq1 rfl j hqj hj (by decide) (hq2 j hj) d_D_take_12 ?_
    refine mx_get G h hX1 rfl 4 (by decide) (tb_in in_Q) (tb_c k_103) rfl rfl d_D_take_13 ?_
    refine lv_if_ne (tgt := 21) hx hb d_D_take_16 (by decide) (fun c_6 => ?_) (fun c_6 => ?_)
    · obtain ⟨d, cs, hcs⟩ : ∃ d cs, cq j = d :: cs := by
        cases hc9 : cq j with
        | nil => exact absurd (by rw [hc9]; rfl) c_6
        | cons d cs => exact ⟨d, cs, rfl⟩
      rw [hcs] at hX
      have hd0 := hX.2.2.2.2.2.2.2.2.1 0 d rfl
      refine lv_aload_n hx hb d_D_take_21 rfl (lv_at hl 0 rfl) ?_
      refine mx_get G h hD rfl 2 (by decide) (tb_in in_D) (tb_c k_119) rfl rfl d_D_take_22 ?_
      refine lv_iload_n hx hb d_D_take_25 rfl (lv_at hl 1 rfl) ?_
      refine ax_a G h 5 hq1 rfl j hqj hj (by decide) (hq2 j hj) d_D_take_26 ?_
      refine lv_astore_n (lv' := [(2, .ref (k (5 + j))), (0, .ref (k 0)), (1, .int q)]) hx hb d_D_take_27 rfl hl (by decide) rfl (fun ls hl => ?_)
      refine lv_aload_n hx hb d_D_take_28 rfl (lv_at hl 1 rfl) ?_
      refine lv_aload_n hx hb d_D_take_29 rfl (lv_at hl 0 rfl) ?_
      refine mx_get G h hX1 rfl 1 (by decide) (tb_in in_Q) (tb_c k_98) rfl rfl d_D_take_30 ?_
      refine lv_iconst (v := 0) hx hb d_D_take_33 (by decide) ?_
      refine ax_i G h hX.2.2.1 0 nI_0.symm (by decide) (by decide) d_D_take_34 ?_
      have et_7 : fn 0 = d.1 := hd0.1
      rw [et_7]
      refine mx_put G h hD rfl 4 (by decide) (tb_in in_D) t_D t_D_ok n_D (tb_c k_121) rfl rfl rfl rfl rfl (Nat.le_of_ble_eq_true rfl) d_D_take_35 (fun H locs h => ?_)
      have h : mw_H n0 D cl s (mw_up w (k 0) (.inr (0, [.ref (k 1), .ref (k 2), .ref (k 4), .int (nI ln), .int d.1, .long tr, .int (nI sn), .int (nI pw), .int (nI pl)]))) H locs := h
      obtain ⟨w_8, ew_8⟩ : ∃ xx : mw, mw_up w (k 0) (.inr (0, [.ref (k 1), .ref (k 2), .ref (k 4), .int (nI ln), .int d.1, .long tr, .int (nI sn), .int (nI pw), .int (nI pl)])) = xx := ⟨_, rfl⟩
      rw [ew_8] at h
      have f_9 : w_8 (k 0) = some (.inr (0, [.ref (k 1), .ref (k 2), .ref (k 4), .int (nI ln), .int d.1, .long tr, .int (nI sn), .int (nI pw), .int (nI pl)])) := by rw [← ew_8]; exact mw_self
      refine lv_aload_n hx hb d_D_take_38 rfl (lv_at hl 1 rfl) ?_
      have hXa := hX.frame (w' := w_8) (fun y hy => by rw [← ew_8]; exact mw_ne (fun z => by have hy : ρ y = 2 + j := hy; rw [z] at hy; omega))
      have hXa1 : w_8 (k (5 + j)) = some (qcell (k (8 + j)) (k (11 + j)) (k (14 + j)) (pq j).length (cs.length + 1)) := hXa.1
      refine lv_aload_n hx hb d_D_take_39 rfl (lv_at hl 0 rfl) ?_
      refine mx_get G h hXa1 rfl 2 (by decide) (tb_in in_Q) (tb_c k_100) rfl rfl d_D_take_40 ?_
      refine lv_iconst (v := 0) hx hb d_D_take_43 (by decide) ?_
      refine ax_l G h hXa.2.2.2.1 0 nI_0.symm (by decide) (by decide) d_D_take_44 ?_
      have et_10 : fr 0 = d.2 := hd0.2
      rw [et_10]
      refine mx_put G h f_9 rfl 5 (by decide) (tb_in in_D) t_D t_D_ok n_D (tb_c k_122) rfl rfl rfl rfl rfl (Nat.le_of_ble_eq_true rfl) d_D_take_45 (fun H locs h => ?_)
      have h : mw_H n0 D cl s (mw_up w_8 (k 0) (.inr (0, [.ref (k 1), .ref (k 2), .ref (k 4), .int (nI ln), .int d.1, .long d.2, .int (nI sn), .int (nI pw), .int (nI pl)]))) H locs := h
      obtain ⟨w_11, ew_11⟩ : ∃ xx : mw, mw_up w_8 (k 0) (.inr (0, [.ref (k 1), .ref (k 2), .ref (k 4), .int (nI ln), .int d.1, .long d.2, .int (nI sn), .int (nI pw), .int (nI pl)])) = xx := ⟨_, rfl⟩
      rw [ew_11] at h
      have f_12 : w_11 (k 0) = some (.inr (0, [.ref (k 1), .ref (k 2), .ref (k 4), .int (nI ln), .int d.1, .long d.2, .int (nI sn), .int (nI pw), .int (nI pl)])) := by rw [← ew_11]; exact mw_self
      have Z1 : DRp cA w_11 ρ k L fl us sn pw pq cq ln d.1 d.2 pl := by rw [← ew_11, ← ew_8, mw_uu]; exact Z.core (K0.put ln d.1 d.2 pl) (FR.up (Or.inl rfl))
      have hfr1 : FR w w_11 (RG ρ) := by rw [← ew_11, ← ew_8, mw_uu]; exact FR.up (RG_P Z (Or.inl rfl))
      have hXb := hXa.frame (w' := w_11) (fun y hy => by rw [← ew_11]; exact mw_ne (fun z => by have hy : ρ y = 2 + j := hy; rw [z] at hy; omega))
      have hXb1 : w_11 (k (5 + j)) = some (qcell (k (8 + j)) (k (11 + j)) (k (14 + j)) (pq j).length (cs.length + 1)) := hXb.1
      refine lv_aload_n hx hb d_D_take_48 rfl (lv_at hl 0 rfl) ?_
      refine mx_cv (cV (As := []) (rest := []) G h (m_Q_removeOldestCompletion hXb1 hXb.2.2.1 hXb.2.2.2.1 (Nat.succ_pos _) hXb.2.2.2.2.2.1) k_251 k_252 k_253 k_5 k_254 hd_Q_removeOldestCompletion rfl rfl ⟨Nat.le_of_ble_eq_true rfl, Nat.le_of_ble_eq_true rfl⟩ hXb1 rfl rfl hl.1 rfl (Nat.le_of_ble_eq_true rfl) d_D_take_49 ⟨Nat.le_of_ble_eq_true rfl, Nat.le_of_ble_eq_true rfl⟩) h (fun w_13 H locs h hcp => ?_)
      have hXc := hXb.popC
      have ew : w_13 = mw_up (mw_up (mw_up w_11 (k (5 + j)) (qcell (k (8 + j)) (k (11 + j)) (k (14 + j)) (pq j).length cs.length)) (k (11 + j)) (ints cA 4 (shf fn 0 cs.length))) (k (14 + j)) (longs cA 4 (shf fr 0 cs.length)) := hcp
      rw [← ew] at hXc
      have hf3 : FR w_11 w_13 (fun y => ρ y = 2 + j) := by rw [ew]; exact ((FQ hXb.2.2.2.2.2.2.2.2.2.2.2.1).tr (FQ hXb.2.2.2.2.2.2.2.2.2.2.2.2.2.1)).tr (FQ hXb.2.2.2.2.2.2.2.2.2.2.2.2.2.2)
      have Z3 := Z1.queue hj ⟨_, _, _, _, _, hXc⟩ (hvC j hj) hf3
      rw [va_up_id] at Z3
      refine lv_aload_n hx hb d_D_take_52 rfl (lv_at hl 1 rfl) ?_
      refine mx_get G h Z3.1.1 rfl 4 (by decide) (tb_in in_D) (tb_c k_121) rfl rfl d_D_take_53 ?_
      have e9 : takeS (fl, us, sn, pw, pq, cq, ln, tn, tr) q = (d.1, (fl, us, sn, pw, pq, va_up cq j cs, ln, d.1, d.2)) := by simp only [takeS]; rw [if_pos hi3, hqc, hcs]
      exact mx_reti G h hrt hlocks d_D_take_56 (by rw [e9]; exact ⟨rfl, ⟨_, Z3⟩, hfr1.tr (hf3.mono (fun y hy => RG_Q hj hy))⟩)
    · refine lv_iconst (v := (-1)) hx hb d_D_take_19 (by decide) ?_
      have hcs : cq j = [] := by
        cases hc9 : cq j with
        | nil => rfl
        | cons d cs => exact absurd c_6 (by rw [hc9]; exact nI_ne0 (Nat.succ_pos _) (by have := hX.2.2.2.2.2.1; rw [hc9] at this; omega))
      have e9 : takeS (fl, us, sn, pw, pq, cq, ln, tn, tr) q = (-1, (fl, us, sn, pw, pq, cq, ln, tn, tr)) := by simp only [takeS]; rw [if_pos hi3, hqc, hcs]
      exact mx_reti G h hrt hlocks d_D_take_20 (by rw [e9]; exact ⟨rfl, Y, FR.rf⟩)
set_option maxHeartbeats 4000000 in
set_option maxRecDepth 100000 in
theorem m_D_result {l : Launch} {D : va_G} {cA : Nat → ClassId} {n0 : Nat} {w : mw} {ρ k : Nat → Nat} {L : Nat} {fl : Nat → Int64} {us : List uU} {sn pw : Nat} {pq : Nat → List pC} {cq : Nat → List (Int32 × Int64)} {ln : Nat} {tn : Int32} {tr : Int64} (Y : DR cA w ρ k L (fl, us, sn, pw, pq, cq, ln, tn, tr)) :
    Ml l D cA n0 y_D_result c_D_result (rmd 0) [.ref (k 0)] w (fun r w' => r = tr ∧ w' = w) := by
  refine mw_met (cc := b_D_result) (maxL := 1) (ret := (some .long)) (by decide) rfl (Nat.le_of_ble_eq_true rfl) ?_
  intro p e s m below meth c ls G hrt hlocks hname h hl
  have G : mw_G p m c b_D_result 1 s _ (c_D_result :: TB) R_D D cl (tys cA) n0 := G
  have hx := G.1.1
  have hb := G.1.2.1
  have hl : lv_has ls 1 [(0, .ref (k 0))] := hl
  obtain ⟨pl, Z⟩ := id Y
  have Z : DRp cA w ρ k L fl us sn pw pq cq ln tn tr pl := Z
  obtain ⟨K0, ⟨qf, hq1, hq2⟩, hQ, r0, r1, r4, hL1, hvC⟩ := id Z
  have hD : w (k 0) = some (dcell (k 1) (k 2) (k 4) ln tn tr sn pw pl) := K0.1
  refine lv_aload_n hx hb d_D_result_0 rfl (lv_at hl 0 rfl) ?_
  refine mx_get G h hD rfl 5 (by decide) (tb_in in_D) (tb_c k_122) rfl rfl d_D_result_1 ?_
  exact mx_retl G h hrt hlocks d_D_result_4 (⟨rfl, rfl⟩)
set_option maxHeartbeats 4000000 in
set_option maxRecDepth 100000 in
theorem m_D_reset {l : Launch} {D : va_G} {cA : Nat → ClassId} {n0 : Nat} {w : mw} {ρ k : Nat → Nat} {L : Nat} {fl : Nat → Int64} {us : List uU} {sn pw : Nat} {pq : Nat → List pC} {cq : Nat → List (Int32 × Int64)} {ln : Nat} {tn : Int32} {tr : Int64} (Y : DR cA w ρ k L (fl, us, sn, pw, pq, cq, ln, tn, tr)) :
    Mi l D cA n0 y_D_reset c_D_reset (rmd 1) [.ref (k 0)] w (fun r w' => r = (resetS (fl, us, sn, pw, pq, cq, ln, tn, tr)).1 ∧ DR cA w' ρ k L (resetS (fl, us, sn, pw, pq, cq, ln, tn, tr)).2 ∧ FR w w' (RG ρ)) := by
  refine mw_met (cc := b_D_reset) (maxL := 1) (ret := (some .int)) (by decide) rfl (Nat.le_of_ble_eq_true rfl) ?_
  intro p e s m below meth c ls G hrt hlocks hname h hl
  have G : mw_G p m c b_D_reset 1 s _ (c_D_reset :: TB) R_D D cl (tys cA) n0 := G
  have hx := G.1.1
  have hb := G.1.2.1
  have hl : lv_has ls 1 [(0, .ref (k 0))] := hl
  obtain ⟨pl, Z⟩ := id Y
  have Z : DRp cA w ρ k L fl us sn pw pq cq ln tn tr pl := Z
  obtain ⟨K0, ⟨qf, hq1, hq2⟩, hQ, r0, r1, r4, hL1, hvC⟩ := id Z
  have hD : w (k 0) = some (dcell (k 1) (k 2) (k 4) ln tn tr sn pw pl) := K0.1
  refine lv_aload_n hx hb d_D_reset_0 rfl (lv_at hl 0 rfl) ?_
  refine mx_ci (cV (As := []) (rest := []) G h (m_D_clearQueues Z) k_263 k_265 ks_11 k_1 k_266 hd_D_clearQueues rfl rfl ⟨Nat.le_of_ble_eq_true rfl, Nat.le_of_ble_eq_true rfl⟩ hD rfl rfl hl.1 rfl (Nat.le_of_ble_eq_true rfl) d_D_reset_1 ⟨Nat.le_of_ble_eq_true rfl, Nat.le_of_ble_eq_true rfl⟩) h (fun r_2 w_1 H locs h hcp => ?_)
  obtain ⟨er, Z1, hf1⟩ := hcp
  exact mx_reti G h hrt hlocks d_D_reset_4 (⟨er, ⟨pl, Z1⟩, hf1⟩)
set_option maxHeartbeats 4000000 in
set_option maxRecDepth 100000 in
theorem m_D_power {l : Launch} {D : va_G} {cA : Nat → ClassId} {n0 : Nat} {w : mw} {ρ k : Nat → Nat} {L : Nat} {fl : Nat → Int64} {us : List uU} {sn pw : Nat} {pq : Nat → List pC} {cq : Nat → List (Int32 × Int64)} {ln : Nat} {tn : Int32} {tr : Int64} (Y : DR cA w ρ k L (fl, us, sn, pw, pq, cq, ln, tn, tr)) :
    Mi l D cA n0 y_D_power c_D_power (rmd 2) [.ref (k 0)] w (fun r w' => r = (powerS (fl, us, sn, pw, pq, cq, ln, tn, tr)).1 ∧ DR cA w' ρ k L (powerS (fl, us, sn, pw, pq, cq, ln, tn, tr)).2 ∧ FR w w' (RG ρ)) := by
  refine mw_met (cc := b_D_power) (maxL := 1) (ret := (some .int)) (by decide) rfl (Nat.le_of_ble_eq_true rfl) ?_
  intro p e s m below meth c ls G hrt hlocks hname h hl
  have G : mw_G p m c b_D_power 1 s _ (c_D_power :: TB) R_D D cl (tys cA) n0 := G
  have hx := G.1.1
  have hb := G.1.2.1
  have hl : lv_has ls 1 [(0, .ref (k 0))] := hl
  obtain ⟨pl, Z⟩ := id Y
  have Z : DRp cA w ρ k L fl us sn pw pq cq ln tn tr pl := Z
  obtain ⟨K0, ⟨qf, hq1, hq2⟩, hQ, r0, r1, r4, hL1, hvC⟩ := id Z
  have hD : w (k 0) = some (dcell (k 1) (k 2) (k 4) ln tn tr sn pw pl) := K0.1
  refine lv_aload_n hx hb d_D_power_0 rfl (lv_at hl 0 rfl) ?_
  refine mx_ci (cV (As := []) (rest := []) G h (m_D_losePower Z) k_271 k_273 ks_12 k_1 k_274 hd_D_losePower rfl rfl ⟨Nat.le_of_ble_eq_true rfl, Nat.le_of_ble_eq_true rfl⟩ hD rfl rfl hl.1 rfl (Nat.le_of_ble_eq_true rfl) d_D_power_1 ⟨Nat.le_of_ble_eq_true rfl, Nat.le_of_ble_eq_true rfl⟩) h (fun r_2 w_1 H locs h hcp => ?_)
  obtain ⟨er, Z1, hf1⟩ := hcp
  exact mx_reti G h hrt hlocks d_D_power_4 (⟨er, ⟨pl, Z1⟩, hf1⟩)
end
section
theorem toI_neg {x : Int32} (h : x < 0) : x.toInt < 0 := by
  have := Int32.lt_iff_toInt_lt.mp h
  simpa using this
theorem toI_big {x : Int32} {n : Nat} (hn : n + 1 < 2 ^ 31) (h : nI (n + 1) ≤ x) : (n : Int) < x.toInt := by
  have := Int32.le_iff_toInt_le.mp h
  rw [nI_toInt hn] at this
  omega
theorem d_D_word_0 : decode b_D_word 0 = .ok (.iload_n 1, 1) := by decide +kernel
theorem d_D_word_1 : decode b_D_word 1 = .ok (.invokestatic 122, 3) := by decide +kernel
theorem d_D_word_4 : decode b_D_word 4 = .ok (.ifCond .eq 11, 3) := by decide +kernel
theorem d_D_word_7 : decode b_D_word 7 = .ok (.aload_n 0, 1) := by decide +kernel
theorem d_D_word_8 : decode b_D_word 8 = .ok (.iload_n 1, 1) := by decide +kernel
theorem d_D_word_9 : decode b_D_word 9 = .ok (.invokevirtual 125, 3) := by decide +kernel
theorem d_D_word_12 : decode b_D_word 12 = .ok (.goto 6, 3) := by decide +kernel
theorem d_D_word_15 : decode b_D_word 15 = .ok (.ldc2_w 13, 3) := by decide +kernel
theorem d_D_word_18 : decode b_D_word 18 = .ok (.lreturn, 1) := by decide +kernel
theorem d_D_flash_0 : decode b_D_flash 0 = .ok (.iload_n 1, 1) := by decide +kernel
theorem d_D_flash_1 : decode b_D_flash 1 = .ok (.invokestatic 122, 3) := by decide +kernel
theorem d_D_flash_4 : decode b_D_flash 4 = .ok (.ifCond .eq 12, 3) := by decide +kernel
theorem d_D_flash_7 : decode b_D_flash 7 = .ok (.aload_n 0, 1) := by decide +kernel
theorem d_D_flash_8 : decode b_D_flash 8 = .ok (.getfield 9, 3) := by decide +kernel
theorem d_D_flash_11 : decode b_D_flash 11 = .ok (.iload_n 1, 1) := by decide +kernel
theorem d_D_flash_12 : decode b_D_flash 12 = .ok (.laload, 1) := by decide +kernel
theorem d_D_flash_13 : decode b_D_flash 13 = .ok (.goto 6, 3) := by decide +kernel
theorem d_D_flash_16 : decode b_D_flash 16 = .ok (.ldc2_w 13, 3) := by decide +kernel
theorem d_D_flash_19 : decode b_D_flash 19 = .ok (.lreturn, 1) := by decide +kernel
theorem d_D_queue_0 : decode b_D_queue 0 = .ok (.iload_n 1, 1) := by decide +kernel
theorem d_D_queue_1 : decode b_D_queue 1 = .ok (.invokestatic 44, 3) := by decide +kernel
theorem d_D_queue_4 : decode b_D_queue 4 = .ok (.ifCond .ne 5, 3) := by decide +kernel
theorem d_D_queue_7 : decode b_D_queue 7 = .ok (.iconst (-1), 1) := by decide +kernel
theorem d_D_queue_8 : decode b_D_queue 8 = .ok (.ireturn, 1) := by decide +kernel
theorem d_D_queue_9 : decode b_D_queue 9 = .ok (.aload_n 0, 1) := by decide +kernel
theorem d_D_queue_10 : decode b_D_queue 10 = .ok (.getfield 35, 3) := by decide +kernel
theorem d_D_queue_13 : decode b_D_queue 13 = .ok (.iload_n 1, 1) := by decide +kernel
theorem d_D_queue_14 : decode b_D_queue 14 = .ok (.aaload, 1) := by decide +kernel
theorem d_D_queue_15 : decode b_D_queue 15 = .ok (.astore_n 3, 1) := by decide +kernel
theorem d_D_queue_16 : decode b_D_queue 16 = .ok (.iload_n 2, 1) := by decide +kernel
theorem d_D_queue_17 : decode b_D_queue 17 = .ok (.tableswitch 75 0 5 #[39, 44, 49, 49, 49, 49], 39) := by decide +kernel
theorem d_D_queue_56 : decode b_D_queue 56 = .ok (.aload_n 3, 1) := by decide +kernel
theorem d_D_queue_57 : decode b_D_queue 57 = .ok (.getfield 52, 3) := by decide +kernel
theorem d_D_queue_60 : decode b_D_queue 60 = .ok (.ireturn, 1) := by decide +kernel
theorem d_D_queue_61 : decode b_D_queue 61 = .ok (.aload_n 3, 1) := by decide +kernel
theorem d_D_queue_62 : decode b_D_queue 62 = .ok (.getfield 96, 3) := by decide +kernel
theorem d_D_queue_65 : decode b_D_queue 65 = .ok (.ireturn, 1) := by decide +kernel
theorem d_D_queue_66 : decode b_D_queue 66 = .ok (.aload_n 3, 1) := by decide +kernel
theorem d_D_queue_67 : decode b_D_queue 67 = .ok (.iload_n 2, 1) := by decide +kernel
theorem d_D_queue_68 : decode b_D_queue 68 = .ok (.iconst 2, 1) := by decide +kernel
theorem d_D_queue_69 : decode b_D_queue 69 = .ok (.isub, 1) := by decide +kernel
theorem d_D_queue_70 : decode b_D_queue 70 = .ok (.invokevirtual 129, 3) := by decide +kernel
theorem d_D_queue_73 : decode b_D_queue 73 = .ok (.ifCond .eq 17, 3) := by decide +kernel
theorem d_D_queue_76 : decode b_D_queue 76 = .ok (.aload_n 3, 1) := by decide +kernel
theorem d_D_queue_77 : decode b_D_queue 77 = .ok (.getfield 78, 3) := by decide +kernel
theorem d_D_queue_80 : decode b_D_queue 80 = .ok (.iload_n 2, 1) := by decide +kernel
theorem d_D_queue_81 : decode b_D_queue 81 = .ok (.iconst 2, 1) := by decide +kernel
theorem d_D_queue_82 : decode b_D_queue 82 = .ok (.isub, 1) := by decide +kernel
theorem d_D_queue_83 : decode b_D_queue 83 = .ok (.aaload, 1) := by decide +kernel
theorem d_D_queue_84 : decode b_D_queue 84 = .ok (.getfield 89, 3) := by decide +kernel
theorem d_D_queue_87 : decode b_D_queue 87 = .ok (.goto 4, 3) := by decide +kernel
theorem d_D_queue_90 : decode b_D_queue 90 = .ok (.iconst (-1), 1) := by decide +kernel
theorem d_D_queue_91 : decode b_D_queue 91 = .ok (.ireturn, 1) := by decide +kernel
theorem d_D_queue_92 : decode b_D_queue 92 = .ok (.iconst (-1), 1) := by decide +kernel
theorem d_D_queue_93 : decode b_D_queue 93 = .ok (.ireturn, 1) := by decide +kernel
theorem d_D_unit_0 : decode b_D_unit 0 = .ok (.iload_n 1, 1) := by decide +kernel
theorem d_D_unit_1 : decode b_D_unit 1 = .ok (.ifCond .lt 14, 3) := by decide +kernel
theorem d_D_unit_4 : decode b_D_unit 4 = .ok (.iload_n 1, 1) := by decide +kernel
theorem d_D_unit_5 : decode b_D_unit 5 = .ok (.aload_n 0, 1) := by decide +kernel
theorem d_D_unit_6 : decode b_D_unit 6 = .ok (.getfield 29, 3) := by decide +kernel
theorem d_D_unit_9 : decode b_D_unit 9 = .ok (.getfield 132, 3) := by decide +kernel
theorem d_D_unit_12 : decode b_D_unit 12 = .ok (.if_icmp .lt 5, 3) := by decide +kernel
theorem d_D_unit_15 : decode b_D_unit 15 = .ok (.iconst (-1), 1) := by decide +kernel
theorem d_D_unit_16 : decode b_D_unit 16 = .ok (.ireturn, 1) := by decide +kernel
theorem d_D_unit_17 : decode b_D_unit 17 = .ok (.aload_n 0, 1) := by decide +kernel
theorem d_D_unit_18 : decode b_D_unit 18 = .ok (.getfield 29, 3) := by decide +kernel
theorem d_D_unit_21 : decode b_D_unit 21 = .ok (.getfield 135, 3) := by decide +kernel
theorem d_D_unit_24 : decode b_D_unit 24 = .ok (.iload_n 1, 1) := by decide +kernel
theorem d_D_unit_25 : decode b_D_unit 25 = .ok (.aaload, 1) := by decide +kernel
theorem d_D_unit_26 : decode b_D_unit 26 = .ok (.astore_n 3, 1) := by decide +kernel
theorem d_D_unit_27 : decode b_D_unit 27 = .ok (.iload_n 2, 1) := by decide +kernel
theorem d_D_unit_28 : decode b_D_unit 28 = .ok (.tableswitch 51 0 2 #[28, 33, 38], 28) := by decide +kernel
theorem d_D_unit_56 : decode b_D_unit 56 = .ok (.aload_n 3, 1) := by decide +kernel
theorem d_D_unit_57 : decode b_D_unit 57 = .ok (.getfield 139, 3) := by decide +kernel
theorem d_D_unit_60 : decode b_D_unit 60 = .ok (.ireturn, 1) := by decide +kernel
theorem d_D_unit_61 : decode b_D_unit 61 = .ok (.aload_n 3, 1) := by decide +kernel
theorem d_D_unit_62 : decode b_D_unit 62 = .ok (.getfield 142, 3) := by decide +kernel
theorem d_D_unit_65 : decode b_D_unit 65 = .ok (.ireturn, 1) := by decide +kernel
theorem d_D_unit_66 : decode b_D_unit 66 = .ok (.aload_n 3, 1) := by decide +kernel
theorem d_D_unit_67 : decode b_D_unit 67 = .ok (.getfield 145, 3) := by decide +kernel
theorem d_D_unit_70 : decode b_D_unit 70 = .ok (.ifCond .eq 7, 3) := by decide +kernel
theorem d_D_unit_73 : decode b_D_unit 73 = .ok (.iconst 1, 1) := by decide +kernel
theorem d_D_unit_74 : decode b_D_unit 74 = .ok (.goto 4, 3) := by decide +kernel
theorem d_D_unit_77 : decode b_D_unit 77 = .ok (.iconst 0, 1) := by decide +kernel
theorem d_D_unit_78 : decode b_D_unit 78 = .ok (.ireturn, 1) := by decide +kernel
theorem d_D_unit_79 : decode b_D_unit 79 = .ok (.iconst (-1), 1) := by decide +kernel
theorem d_D_unit_80 : decode b_D_unit 80 = .ok (.ireturn, 1) := by decide +kernel
theorem d_D_count_0 : decode b_D_count 0 = .ok (.iload_n 1, 1) := by decide +kernel
theorem d_D_count_1 : decode b_D_count 1 = .ok (.tableswitch 63 0 4 #[35, 43, 48, 53, 58], 35) := by decide +kernel
theorem d_D_count_36 : decode b_D_count 36 = .ok (.aload_n 0, 1) := by decide +kernel
theorem d_D_count_37 : decode b_D_count 37 = .ok (.getfield 29, 3) := by decide +kernel
theorem d_D_count_40 : decode b_D_count 40 = .ok (.getfield 132, 3) := by decide +kernel
theorem d_D_count_43 : decode b_D_count 43 = .ok (.ireturn, 1) := by decide +kernel
theorem d_D_count_44 : decode b_D_count 44 = .ok (.aload_n 0, 1) := by decide +kernel
theorem d_D_count_45 : decode b_D_count 45 = .ok (.getfield 56, 3) := by decide +kernel
theorem d_D_count_48 : decode b_D_count 48 = .ok (.ireturn, 1) := by decide +kernel
theorem d_D_count_49 : decode b_D_count 49 = .ok (.aload_n 0, 1) := by decide +kernel
theorem d_D_count_50 : decode b_D_count 50 = .ok (.getfield 149, 3) := by decide +kernel
theorem d_D_count_53 : decode b_D_count 53 = .ok (.ireturn, 1) := by decide +kernel
theorem d_D_count_54 : decode b_D_count 54 = .ok (.aload_n 0, 1) := by decide +kernel
theorem d_D_count_55 : decode b_D_count 55 = .ok (.getfield 152, 3) := by decide +kernel
theorem d_D_count_58 : decode b_D_count 58 = .ok (.ireturn, 1) := by decide +kernel
theorem d_D_count_59 : decode b_D_count 59 = .ok (.aload_n 0, 1) := by decide +kernel
theorem d_D_count_60 : decode b_D_count 60 = .ok (.getfield 103, 3) := by decide +kernel
theorem d_D_count_63 : decode b_D_count 63 = .ok (.ireturn, 1) := by decide +kernel
theorem d_D_count_64 : decode b_D_count 64 = .ok (.iconst (-1), 1) := by decide +kernel
theorem d_D_count_65 : decode b_D_count 65 = .ok (.ireturn, 1) := by decide +kernel
set_option maxHeartbeats 4000000 in
set_option maxRecDepth 100000 in
theorem m_D_word {l : Launch} {D : va_G} {cA : Nat → ClassId} {n0 : Nat} {w : mw} {ρ k : Nat → Nat} {L : Nat} {fl : Nat → Int64} {us : List uU} {sn pw : Nat} {pq : Nat → List pC} {cq : Nat → List (Int32 × Int64)} {ln : Nat} {tn : Int32} {tr : Int64} (Y : DR cA w ρ k L (fl, us, sn, pw, pq, cq, ln, tn, tr)) {x : Int32} :
    Ml l D cA n0 y_D_word c_D_word (rmd 2) [.ref (k 0), .int x] w (fun r w' => r = wordS (fl, us, sn, pw, pq, cq, ln, tn, tr) x ∧ w' = w) := by
  refine mw_met (cc := b_D_word) (maxL := 2) (ret := (some .long)) (by decide) rfl (Nat.le_of_ble_eq_true rfl) ?_
  intro p e s m below meth c ls G hrt hlocks hname h hl
  have G : mw_G p m c b_D_word 2 s _ (c_D_word :: TB) R_D D cl (tys cA) n0 := G
  have hx := G.1.1
  have hb := G.1.2.1
  have hl : lv_has ls 2 [(0, .ref (k 0)), (1, .int x)] := hl
  obtain ⟨pl, Z⟩ := id Y
  have Z : DRp cA w ρ k L fl us sn pw pq cq ln tn tr pl := Z
  obtain ⟨K0, ⟨qf, hq1, hq2⟩, hQ, r0, r1, r4, hL1, hvC⟩ := id Z
  have hD : w (k 0) = some (dcell (k 1) (k 2) (k 4) ln tn tr sn pw pl) := K0.1
  refine lv_iload_n hx hb d_D_word_0 rfl (lv_at hl 1 rfl) ?_
  refine mx_ci (cS (As := [.int x]) (rest := []) G h (m_D_isAddress (x := x)) k_283 k_284 k_1 k_285 rfl hd_D_isAddress rfl rfl ⟨Nat.le_of_ble_eq_true rfl, Nat.le_of_ble_eq_true rfl⟩ rfl hl.1 rfl (Nat.le_of_ble_eq_true rfl) d_D_word_1 ⟨Nat.le_of_ble_eq_true rfl, Nat.le_of_ble_eq_true rfl⟩) h (fun r_2 w_1 H locs h hcp => ?_)
  obtain ⟨er_3, ew_4⟩ := hcp
  subst er_3
  rw [ew_4] at h
  refine lv_if_eq (tgt := 15) hx hb d_D_word_4 (by decide) (fun c_5 => ?_) (fun c_5 => ?_)
  · refine lv_ldc2 (v := NN) hx hb G.1.2.2.2.1 (G.1.2.2.2.2 _ (tb_c k_16)) d_D_word_15 ?_
    exact mx_retl G h hrt hlocks d_D_word_18 (⟨by rw [wordS, if_neg (bI_0 c_5)], rfl⟩)
  · have hi3 := bI_n c_5
    obtain ⟨j, hj, hxj⟩ := ixQ 24 rfl (by decide) hi3.1 hi3.2
    have hxc : x.toNatClampNeg = j := by rw [hxj]; exact nI_c (by omega)
    refine lv_aload_n hx hb d_D_word_7 rfl (lv_at hl 0 rfl) ?_
    refine lv_iload_n hx hb d_D_word_8 rfl (lv_at hl 1 rfl) ?_
    refine mx_cl (cV (As := [.int x]) (rest := []) G h (m_D_heldWord K0 hj hxj) k_183 k_185 ks_3 k_1 k_186 hd_D_heldWord rfl rfl ⟨Nat.le_of_ble_eq_true rfl, Nat.le_of_ble_eq_true rfl⟩ hD rfl rfl hl.1 rfl (Nat.le_of_ble_eq_true rfl) d_D_word_9 ⟨Nat.le_of_ble_eq_true rfl, Nat.le_of_ble_eq_true rfl⟩) h (fun r_7 w_6 H locs h hcp => ?_)
    obtain ⟨er_8, ew_9⟩ := hcp
    subst er_8
    rw [ew_9] at h
    refine lv_goto (tgt := 18) hx hb d_D_word_12 (by decide) ?_
    exact mx_retl G h hrt hlocks d_D_word_18 (⟨by rw [wordS, if_pos hi3, hxc], rfl⟩)
set_option maxHeartbeats 4000000 in
set_option maxRecDepth 100000 in
theorem m_D_flash {l : Launch} {D : va_G} {cA : Nat → ClassId} {n0 : Nat} {w : mw} {ρ k : Nat → Nat} {L : Nat} {fl : Nat → Int64} {us : List uU} {sn pw : Nat} {pq : Nat → List pC} {cq : Nat → List (Int32 × Int64)} {ln : Nat} {tn : Int32} {tr : Int64} (Y : DR cA w ρ k L (fl, us, sn, pw, pq, cq, ln, tn, tr)) {x : Int32} :
    Ml l D cA n0 y_D_flash c_D_flash (rmd 2) [.ref (k 0), .int x] w (fun r w' => r = flashS (fl, us, sn, pw, pq, cq, ln, tn, tr) x ∧ w' = w) := by
  refine mw_met (cc := b_D_flash) (maxL := 2) (ret := (some .long)) (by decide) rfl (Nat.le_of_ble_eq_true rfl) ?_
  intro p e s m below meth c ls G hrt hlocks hname h hl
  have G : mw_G p m c b_D_flash 2 s _ (c_D_flash :: TB) R_D D cl (tys cA) n0 := G
  have hx := G.1.1
  have hb := G.1.2.1
  have hl : lv_has ls 2 [(0, .ref (k 0)), (1, .int x)] := hl
  obtain ⟨pl, Z⟩ := id Y
  have Z : DRp cA w ρ k L fl us sn pw pq cq ln tn tr pl := Z
  obtain ⟨K0, ⟨qf, hq1, hq2⟩, hQ, r0, r1, r4, hL1, hvC⟩ := id Z
  have hD : w (k 0) = some (dcell (k 1) (k 2) (k 4) ln tn tr sn pw pl) := K0.1
  refine lv_iload_n hx hb d_D_flash_0 rfl (lv_at hl 1 rfl) ?_
  refine mx_ci (cS (As := [.int x]) (rest := []) G h (m_D_isAddress (x := x)) k_283 k_284 k_1 k_285 rfl hd_D_isAddress rfl rfl ⟨Nat.le_of_ble_eq_true rfl, Nat.le_of_ble_eq_true rfl⟩ rfl hl.1 rfl (Nat.le_of_ble_eq_true rfl) d_D_flash_1 ⟨Nat.le_of_ble_eq_true rfl, Nat.le_of_ble_eq_true rfl⟩) h (fun r_2 w_1 H locs h hcp => ?_)
  obtain ⟨er_3, ew_4⟩ := hcp
  subst er_3
  rw [ew_4] at h
  refine lv_if_eq (tgt := 16) hx hb d_D_flash_4 (by decide) (fun c_5 => ?_) (fun c_5 => ?_)
  · refine lv_ldc2 (v := NN) hx hb G.1.2.2.2.1 (G.1.2.2.2.2 _ (tb_c k_16)) d_D_flash_16 ?_
    exact mx_retl G h hrt hlocks d_D_flash_19 (⟨by rw [flashS, if_neg (bI_0 c_5)], rfl⟩)
  · have hi3 := bI_n c_5
    obtain ⟨j, hj, hxj⟩ := ixQ 24 rfl (by decide) hi3.1 hi3.2
    have hxc : x.toNatClampNeg = j := by rw [hxj]; exact nI_c (by omega)
    refine lv_aload_n hx hb d_D_flash_7 rfl (lv_at hl 0 rfl) ?_
    refine mx_get G h hD rfl 0 (by decide) (tb_in in_D) (tb_c k_117) rfl rfl d_D_flash_8 ?_
    refine lv_iload_n hx hb d_D_flash_11 rfl (lv_at hl 1 rfl) ?_
    refine ax_l G h K0.2.1 j hxj hj (by decide) d_D_flash_12 ?_
    refine lv_goto (tgt := 19) hx hb d_D_flash_13 (by decide) ?_
    exact mx_retl G h hrt hlocks d_D_flash_19 (⟨by rw [flashS, if_pos hi3, hxc], rfl⟩)
set_option maxHeartbeats 4000000 in
set_option maxRecDepth 100000 in
theorem m_D_queue {l : Launch} {D : va_G} {cA : Nat → ClassId} {n0 : Nat} {w : mw} {ρ k : Nat → Nat} {L : Nat} {fl : Nat → Int64} {us : List uU} {sn pw : Nat} {pq : Nat → List pC} {cq : Nat → List (Int32 × Int64)} {ln : Nat} {tn : Int32} {tr : Int64} (Y : DR cA w ρ k L (fl, us, sn, pw, pq, cq, ln, tn, tr)) {q x : Int32} :
    Mi l D cA n0 y_D_queue c_D_queue (rmd 1) [.ref (k 0), .int q, .int x] w (fun r w' => r = queueS (fl, us, sn, pw, pq, cq, ln, tn, tr) q x ∧ w' = w) := by
  refine mw_met (cc := b_D_queue) (maxL := 4) (ret := (some .int)) (by decide) rfl (Nat.le_of_ble_eq_true rfl) ?_
  intro p e s m below meth c ls G hrt hlocks hname h hl
  have G : mw_G p m c b_D_queue 4 s _ (c_D_queue :: TB) R_D D cl (tys cA) n0 := G
  have hx := G.1.1
  have hb := G.1.2.1
  have hl : lv_has ls 4 [(0, .ref (k 0)), (1, .int q), (2, .int x)] := hl
  obtain ⟨pl, Z⟩ := id Y
  have Z : DRp cA w ρ k L fl us sn pw pq cq ln tn tr pl := Z
  obtain ⟨K0, ⟨qf, hq1, hq2⟩, hQ, r0, r1, r4, hL1, hvC⟩ := id Z
  have hD : w (k 0) = some (dcell (k 1) (k 2) (k 4) ln tn tr sn pw pl) := K0.1
  refine lv_iload_n hx hb d_D_queue_0 rfl (lv_at hl 1 rfl) ?_
  refine mx_ci (cS (As := [.int q]) (rest := []) G h (m_D_isQueue (x := q)) k_149 k_150 k_1 k_151 rfl hd_D_isQueue rfl rfl ⟨Nat.le_of_ble_eq_true rfl, Nat.le_of_ble_eq_true rfl⟩ rfl hl.1 rfl (Nat.le_of_ble_eq_true rfl) d_D_queue_1 ⟨Nat.le_of_ble_eq_true rfl, Nat.le_of_ble_eq_true rfl⟩) h (fun r_2 w_1 H locs h hcp => ?_)
  obtain ⟨er_3, ew_4⟩ := hcp
  subst er_3
  rw [ew_4] at h
  refine lv_if_ne (tgt := 9) hx hb d_D_queue_4 (by decide) (fun c_5 => ?_) (fun c_5 => ?_)
  · have hi3 := bI_n c_5
    obtain ⟨j, hj, hqj⟩ := ixQ 3 rfl (by decide) hi3.1 hi3.2
    have hqc : q.toNatClampNeg = j := by rw [hqj]; exact nI_c (by omega)
    obtain ⟨f, g, gu, fn, fr, hX⟩ := hQ j hj
    have hX1 := hX.1
    have hps4 : (pq j).length ≤ 4 := hX.2.2.2.2.1
    refine lv_aload_n hx hb d_D_queue_9 rfl (lv_at hl 0 rfl) ?_
    refine mx_get G h hD rfl 2 (by decide) (tb_in in_D) (tb_c k_119) rfl rfl d_D_queue_10 ?_
    refine lv_iload_n hx hb d_D_queue_13 rfl (lv_at hl 1 rfl) ?_
    refine ax_a G h 5 hq1 rfl j hqj hj (by decide) (hq2 j hj) d_D_queue_14 ?_
    refine lv_astore_n (lv' := [(3, .ref (k (5 + j))), (0, .ref (k 0)), (1, .int q), (2, .int x)]) hx hb d_D_queue_15 rfl hl (by decide) rfl (fun ls hl => ?_)
    refine lv_iload_n hx hb d_D_queue_16 rfl (lv_at hl 3 rfl) ?_
    rcases pk_ix x (n := 6) (by decide) with ho | ho | ⟨jx, hjx, hxj⟩
    · have hno : ∀ i, i < 6 → ¬ x = nI i := fun i hi z => absurd ho (by rw [z]; exact nI_pos (by omega))
      have hn0 : ¬ x = 0 := hno 0 (by decide)
      have hn1 : ¬ x = 1 := hno 1 (by decide)
      have hn2 : ¬ x = 2 := hno 2 (by decide)
      have hn3 : ¬ x = 3 := hno 3 (by decide)
      have hn4 : ¬ x = 4 := hno 4 (by decide)
      have hn5 : ¬ x = 5 := hno 5 (by decide)
      refine lv_tableOut (tgt := 92) hx hb d_D_queue_17 (Or.inl (toI_neg ho)) (by decide) ?_
      refine lv_iconst (v := (-1)) hx hb d_D_queue_92 (by decide) ?_
      exact mx_reti G h hrt hlocks d_D_queue_93 (⟨by rw [queueS, if_pos hi3, if_neg hn0, if_neg hn1, if_neg (fun z => by obtain ⟨i9, h9, e9⟩ := ixL 5 rfl (by decide) (Int32.le_trans (by decide) z.1) z.2; exact hno i9 (by omega) e9)], rfl⟩)
    · have hno : ∀ i, i < 6 → ¬ x = nI i := fun i hi z => absurd ho (by rw [z, nI_leI (by decide) (by omega)]; omega)
      have hn0 : ¬ x = 0 := hno 0 (by decide)
      have hn1 : ¬ x = 1 := hno 1 (by decide)
      have hn2 : ¬ x = 2 := hno 2 (by decide)
      have hn3 : ¬ x = 3 := hno 3 (by decide)
      have hn4 : ¬ x = 4 := hno 4 (by decide)
      have hn5 : ¬ x = 5 := hno 5 (by decide)
      refine lv_tableOut (tgt := 92) hx hb d_D_queue_17 (Or.inr (toI_big (n := 5) (by decide) ho)) (by decide) ?_
      refine lv_iconst (v := (-1)) hx hb d_D_queue_92 (by decide) ?_
      exact mx_reti G h hrt hlocks d_D_queue_93 (⟨by rw [queueS, if_pos hi3, if_neg hn0, if_neg hn1, if_neg (fun z => by obtain ⟨i9, h9, e9⟩ := ixL 5 rfl (by decide) (Int32.le_trans (by decide) z.1) z.2; exact hno i9 (by omega) e9)], rfl⟩)
    · rcases (show jx = 0 ∨ jx = 1 ∨ jx = 2 ∨ jx = 3 ∨ jx = 4 ∨ jx = 5 by omega) with rfl | rfl | rfl | rfl | rfl | rfl
      · subst hxj
        refine lv_tableIn (tgt := 56) hx hb d_D_queue_17 (by decide) (by decide) rfl (by decide) ?_
        refine lv_aload_n hx hb d_D_queue_56 rfl (lv_at hl 0 rfl) ?_
        refine mx_get G h hX1 rfl 3 (by decide) (tb_in in_Q) (tb_c k_102) rfl rfl d_D_queue_57 ?_
        exact mx_reti G h hrt hlocks d_D_queue_60 (⟨by rw [queueS, if_pos hi3, if_pos (by decide), hqc], rfl⟩)
      · subst hxj
        refine lv_tableIn (tgt := 61) hx hb d_D_queue_17 (by decide) (by decide) rfl (by decide) ?_
        refine lv_aload_n hx hb d_D_queue_61 rfl (lv_at hl 0 rfl) ?_
        refine mx_get G h hX1 rfl 4 (by decide) (tb_in in_Q) (tb_c k_103) rfl rfl d_D_queue_62 ?_
        exact mx_reti G h hrt hlocks d_D_queue_65 (⟨by rw [queueS, if_pos hi3, if_neg (by decide), if_pos (by decide), hqc], rfl⟩)
      · subst hxj
        refine lv_tableIn (tgt := 66) hx hb d_D_queue_17 (by decide) (by decide) rfl (by decide) ?_
        refine lv_aload_n hx hb d_D_queue_66 rfl (lv_at hl 0 rfl) ?_
        refine lv_iload_n hx hb d_D_queue_67 rfl (lv_at hl 3 rfl) ?_
        refine lv_iconst (v := 2) hx hb d_D_queue_68 (by decide) ?_
        refine lv_isub hx hb d_D_queue_69 ?_
        have et_6 : (nI 2) - 2 = nI 0 := by decide
        rw [et_6]
        refine mx_ci (cV (As := [.int (nI 0)]) (rest := []) G h (m_Q_hasPending hX1 (x := nI 0)) k_171 k_172 k_173 k_5 k_174 hd_Q_hasPending rfl rfl ⟨Nat.le_of_ble_eq_true rfl, Nat.le_of_ble_eq_true rfl⟩ hX1 rfl rfl hl.1 rfl (Nat.le_of_ble_eq_true rfl) d_D_queue_70 ⟨Nat.le_of_ble_eq_true rfl, Nat.le_of_ble_eq_true rfl⟩) h (fun r_8 w_7 H locs h hcp => ?_)
        obtain ⟨er_9, ew_10⟩ := hcp
        subst er_9
        rw [ew_10] at h
        refine lv_if_eq (tgt := 90) hx hb d_D_queue_73 (by decide) (fun c_11 => ?_) (fun c_11 => ?_)
        · refine lv_iconst (v := (-1)) hx hb d_D_queue_90 (by decide) ?_
          have hnl : (pq j)[0]? = none := List.getElem?_eq_none (Nat.not_lt.mp (fun z => bI_0 c_11 ⟨nI_pos' (by decide), (nI_ltI (by decide) (by omega)).mpr z⟩))
          exact mx_reti G h hrt hlocks d_D_queue_91 (⟨by rw [queueS, if_pos hi3, if_neg (by decide), if_neg (by decide), if_pos (by decide), hqc, show (nI 2 - 2).toNatClampNeg = 0 from by decide]; show (-1 : Int32) = match (pq j)[0]? with | some c => c.1 | none => -1; rw [hnl], rfl⟩)
        · have hlt : 0 < (pq j).length := (nI_ltI (by decide) (by omega)).mp (bI_n c_11).2
          obtain ⟨d, hd⟩ := getQ (l := pq j) hlt
          have hgi := (hX.2.2.2.2.2.2.2.1 0 d hd).1
          refine lv_aload_n hx hb d_D_queue_76 rfl (lv_at hl 0 rfl) ?_
          refine mx_get G h hX1 rfl 0 (by decide) (tb_in in_Q) (tb_c k_96) rfl rfl d_D_queue_77 ?_
          refine lv_iload_n hx hb d_D_queue_80 rfl (lv_at hl 3 rfl) ?_
          refine lv_iconst (v := 2) hx hb d_D_queue_81 (by decide) ?_
          refine lv_isub hx hb d_D_queue_82 ?_
          refine ax_a G h 4 hX.2.1 rfl 0 (by decide) (by decide) (by decide) ((hX.2.2.2.2.2.2.1 0 (by decide)).1) d_D_queue_83 ?_
          refine mx_get G h hgi rfl 1 (by decide) (tb_in in_K) (tb_c k_85) rfl rfl d_D_queue_84 ?_
          refine lv_goto (tgt := 91) hx hb d_D_queue_87 (by decide) ?_
          exact mx_reti G h hrt hlocks d_D_queue_91 (⟨by rw [queueS, if_pos hi3, if_neg (by decide), if_neg (by decide), if_pos (by decide), hqc, show (nI 2 - 2).toNatClampNeg = 0 from by decide]; show d.1 = match (pq j)[0]? with | some c => c.1 | none => -1; rw [hd], rfl⟩)
      · subst hxj
        refine lv_tableIn (tgt := 66) hx hb d_D_queue_17 (by decide) (by decide) rfl (by decide) ?_
        refine lv_aload_n hx hb d_D_queue_66 rfl (lv_at hl 0 rfl) ?_
        refine lv_iload_n hx hb d_D_queue_67 rfl (lv_at hl 3 rfl) ?_
        refine lv_iconst (v := 2) hx hb d_D_queue_68 (by decide) ?_
        refine lv_isub hx hb d_D_queue_69 ?_
        have et_12 : (nI 3) - 2 = nI 1 := by decide
        rw [et_12]
        refine mx_ci (cV (As := [.int (nI 1)]) (rest := []) G h (m_Q_hasPending hX1 (x := nI 1)) k_171 k_172 k_173 k_5 k_174 hd_Q_hasPending rfl rfl ⟨Nat.le_of_ble_eq_true rfl, Nat.le_of_ble_eq_true rfl⟩ hX1 rfl rfl hl.1 rfl (Nat.le_of_ble_eq_true rfl) d_D_queue_70 ⟨Nat.le_of_ble_eq_true rfl, Nat.le_of_ble_eq_true rfl⟩) h (fun r_14 w_13 H locs h hcp => ?_)
        obtain ⟨er_15, ew_16⟩ := hcp
        subst er_15
        rw [ew_16] at h
        refine lv_if_eq (tgt := 90) hx hb d_D_queue_73 (by decide) (fun c_17 => ?_) (fun c_17 => ?_)
        · refine lv_iconst (v := (-1)) hx hb d_D_queue_90 (by decide) ?_
          have hnl : (pq j)[1]? = none := List.getElem?_eq_none (Nat.not_lt.mp (fun z => bI_0 c_17 ⟨nI_pos' (by decide), (nI_ltI (by decide) (by omega)).mpr z⟩))
          exact mx_reti G h hrt hlocks d_D_queue_91 (⟨by rw [queueS, if_pos hi3, if_neg (by decide), if_neg (by decide), if_pos (by decide), hqc, show (nI 3 - 2).toNatClampNeg = 1 from by decide]; show (-1 : Int32) = match (pq j)[1]? with | some c => c.1 | none => -1; rw [hnl], rfl⟩)
        · have hlt : 1 < (pq j).length := (nI_ltI (by decide) (by omega)).mp (bI_n c_17).2
          obtain ⟨d, hd⟩ := getQ (l := pq j) hlt
          have hgi := (hX.2.2.2.2.2.2.2.1 1 d hd).1
          refine lv_aload_n hx hb d_D_queue_76 rfl (lv_at hl 0 rfl) ?_
          refine mx_get G h hX1 rfl 0 (by decide) (tb_in in_Q) (tb_c k_96) rfl rfl d_D_queue_77 ?_
          refine lv_iload_n hx hb d_D_queue_80 rfl (lv_at hl 3 rfl) ?_
          refine lv_iconst (v := 2) hx hb d_D_queue_81 (by decide) ?_
          refine lv_isub hx hb d_D_queue_82 ?_
          refine ax_a G h 4 hX.2.1 rfl 1 (by decide) (by decide) (by decide) ((hX.2.2.2.2.2.2.1 1 (by decide)).1) d_D_queue_83 ?_
          refine mx_get G h hgi rfl 1 (by decide) (tb_in in_K) (tb_c k_85) rfl rfl d_D_queue_84 ?_
          refine lv_goto (tgt := 91) hx hb d_D_queue_87 (by decide) ?_
          exact mx_reti G h hrt hlocks d_D_queue_91 (⟨by rw [queueS, if_pos hi3, if_neg (by decide), if_neg (by decide), if_pos (by decide), hqc, show (nI 3 - 2).toNatClampNeg = 1 from by decide]; show d.1 = match (pq j)[1]? with | some c => c.1 | none => -1; rw [hd], rfl⟩)
      · subst hxj
        refine lv_tableIn (tgt := 66) hx hb d_D_queue_17 (by decide) (by decide) rfl (by decide) ?_
        refine lv_aload_n hx hb d_D_queue_66 rfl (lv_at hl 0 rfl) ?_
        refine lv_iload_n hx hb d_D_queue_67 rfl (lv_at hl 3 rfl) ?_
        refine lv_iconst (v := 2) hx hb d_D_queue_68 (by decide) ?_
        refine lv_isub hx hb d_D_queue_69 ?_
        have et_18 : (nI 4) - 2 = nI 2 := by decide
        rw [et_18]
        refine mx_ci (cV (As := [.int (nI 2)]) (rest := []) G h (m_Q_hasPending hX1 (x := nI 2)) k_171 k_172 k_173 k_5 k_174 hd_Q_hasPending rfl rfl ⟨Nat.le_of_ble_eq_true rfl, Nat.le_of_ble_eq_true rfl⟩ hX1 rfl rfl hl.1 rfl (Nat.le_of_ble_eq_true rfl) d_D_queue_70 ⟨Nat.le_of_ble_eq_true rfl, Nat.le_of_ble_eq_true rfl⟩) h (fun r_20 w_19 H locs h hcp => ?_)
        obtain ⟨er_21, ew_22⟩ := hcp
        subst er_21
        rw [ew_22] at h
        refine lv_if_eq (tgt := 90) hx hb d_D_queue_73 (by decide) (fun c_23 => ?_) (fun c_23 => ?_)
        · refine lv_iconst (v := (-1)) hx hb d_D_queue_90 (by decide) ?_
          have hnl : (pq j)[2]? = none := List.getElem?_eq_none (Nat.not_lt.mp (fun z => bI_0 c_23 ⟨nI_pos' (by decide), (nI_ltI (by decide) (by omega)).mpr z⟩))
          exact mx_reti G h hrt hlocks d_D_queue_91 (⟨by rw [queueS, if_pos hi3, if_neg (by decide), if_neg (by decide), if_pos (by decide), hqc, show (nI 4 - 2).toNatClampNeg = 2 from by decide]; show (-1 : Int32) = match (pq j)[2]? with | some c => c.1 | none => -1; rw [hnl], rfl⟩)
        · have hlt : 2 < (pq j).length := (nI_ltI (by decide) (by omega)).mp (bI_n c_23).2
          obtain ⟨d, hd⟩ := getQ (l := pq j) hlt
          have hgi := (hX.2.2.2.2.2.2.2.1 2 d hd).1
          refine lv_aload_n hx hb d_D_queue_76 rfl (lv_at hl 0 rfl) ?_
          refine mx_get G h hX1 rfl 0 (by decide) (tb_in in_Q) (tb_c k_96) rfl rfl d_D_queue_77 ?_
          refine lv_iload_n hx hb d_D_queue_80 rfl (lv_at hl 3 rfl) ?_
          refine lv_iconst (v := 2) hx hb d_D_queue_81 (by decide) ?_
          refine lv_isub hx hb d_D_queue_82 ?_
          refine ax_a G h 4 hX.2.1 rfl 2 (by decide) (by decide) (by decide) ((hX.2.2.2.2.2.2.1 2 (by decide)).1) d_D_queue_83 ?_
          refine mx_get G h hgi rfl 1 (by decide) (tb_in in_K) (tb_c k_85) rfl rfl d_D_queue_84 ?_
          refine lv_goto (tgt := 91) hx hb d_D_queue_87 (by decide) ?_
          exact mx_reti G h hrt hlocks d_D_queue_91 (⟨by rw [queueS, if_pos hi3, if_neg (by decide), if_neg (by decide), if_pos (by decide), hqc, show (nI 4 - 2).toNatClampNeg = 2 from by decide]; show d.1 = match (pq j)[2]? with | some c => c.1 | none => -1; rw [hd], rfl⟩)
      · subst hxj
        refine lv_tableIn (tgt := 66) hx hb d_D_queue_17 (by decide) (by decide) rfl (by decide) ?_
        refine lv_aload_n hx hb d_D_queue_66 rfl (lv_at hl 0 rfl) ?_
        refine lv_iload_n hx hb d_D_queue_67 rfl (lv_at hl 3 rfl) ?_
        refine lv_iconst (v := 2) hx hb d_D_queue_68 (by decide) ?_
        refine lv_isub hx hb d_D_queue_69 ?_
        have et_24 : (nI 5) - 2 = nI 3 := by decide
        rw [et_24]
        refine mx_ci (cV (As := [.int (nI 3)]) (rest := []) G h (m_Q_hasPending hX1 (x := nI 3)) k_171 k_172 k_173 k_5 k_174 hd_Q_hasPending rfl rfl ⟨Nat.le_of_ble_eq_true rfl, Nat.le_of_ble_eq_true rfl⟩ hX1 rfl rfl hl.1 rfl (Nat.le_of_ble_eq_true rfl) d_D_queue_70 ⟨Nat.le_of_ble_eq_true rfl, Nat.le_of_ble_eq_true rfl⟩) h (fun r_26 w_25 H locs h hcp => ?_)
        obtain ⟨er_27, ew_28⟩ := hcp
        subst er_27
        rw [ew_28] at h
        refine lv_if_eq (tgt := 90) hx hb d_D_queue_73 (by decide) (fun c_29 => ?_) (fun c_29 => ?_)
        · refine lv_iconst (v := (-1)) hx hb d_D_queue_90 (by decide) ?_
          have hnl : (pq j)[3]? = none := List.getElem?_eq_none (Nat.not_lt.mp (fun z => bI_0 c_29 ⟨nI_pos' (by decide), (nI_ltI (by decide) (by omega)).mpr z⟩))
          exact mx_reti G h hrt hlocks d_D_queue_91 (⟨by rw [queueS, if_pos hi3, if_neg (by decide), if_neg (by decide), if_pos (by decide), hqc, show (nI 5 - 2).toNatClampNeg = 3 from by decide]; show (-1 : Int32) = match (pq j)[3]? with | some c => c.1 | none => -1; rw [hnl], rfl⟩)
        · have hlt : 3 < (pq j).length := (nI_ltI (by decide) (by omega)).mp (bI_n c_29).2
          obtain ⟨d, hd⟩ := getQ (l := pq j) hlt
          have hgi := (hX.2.2.2.2.2.2.2.1 3 d hd).1
          refine lv_aload_n hx hb d_D_queue_76 rfl (lv_at hl 0 rfl) ?_
          refine mx_get G h hX1 rfl 0 (by decide) (tb_in in_Q) (tb_c k_96) rfl rfl d_D_queue_77 ?_
          refine lv_iload_n hx hb d_D_queue_80 rfl (lv_at hl 3 rfl) ?_
          refine lv_iconst (v := 2) hx hb d_D_queue_81 (by decide) ?_
          refine lv_isub hx hb d_D_queue_82 ?_
          refine ax_a G h 4 hX.2.1 rfl 3 (by decide) (by decide) (by decide) ((hX.2.2.2.2.2.2.1 3 (by decide)).1) d_D_queue_83 ?_
          refine mx_get G h hgi rfl 1 (by decide) (tb_in in_K) (tb_c k_85) rfl rfl d_D_queue_84 ?_
          refine lv_goto (tgt := 91) hx hb d_D_queue_87 (by decide) ?_
          exact mx_reti G h hrt hlocks d_D_queue_91 (⟨by rw [queueS, if_pos hi3, if_neg (by decide), if_neg (by decide), if_pos (by decide), hqc, show (nI 5 - 2).toNatClampNeg = 3 from by decide]; show d.1 = match (pq j)[3]? with | some c => c.1 | none => -1; rw [hd], rfl⟩)
  · refine lv_iconst (v := (-1)) hx hb d_D_queue_7 (by decide) ?_
    exact mx_reti G h hrt hlocks d_D_queue_8 (⟨by rw [queueS, if_neg (bI_0 c_5)], rfl⟩)
set_option maxHeartbeats 4000000 in
set_option maxRecDepth 100000 in
theorem m_D_unit {l : Launch} {D : va_G} {cA : Nat → ClassId} {n0 : Nat} {w : mw} {ρ k : Nat → Nat} {L : Nat} {fl : Nat → Int64} {us : List uU} {sn pw : Nat} {pq : Nat → List pC} {cq : Nat → List (Int32 × Int64)} {ln : Nat} {tn : Int32} {tr : Int64} (Y : DR cA w ρ k L (fl, us, sn, pw, pq, cq, ln, tn, tr)) {y x : Int32} :
    Mi l D cA n0 y_D_unit c_D_unit (rmd 0) [.ref (k 0), .int y, .int x] w (fun r w' => r = unitS (fl, us, sn, pw, pq, cq, ln, tn, tr) y x ∧ w' = w) := by
  refine mw_met (cc := b_D_unit) (maxL := 4) (ret := (some .int)) (by decide) rfl (Nat.le_of_ble_eq_true rfl) ?_
  intro p e s m below meth c ls G hrt hlocks hname h hl
  have G : mw_G p m c b_D_unit 4 s _ (c_D_unit :: TB) R_D D cl (tys cA) n0 := G
  have hx := G.1.1
  have hb := G.1.2.1
  have hl : lv_has ls 4 [(0, .ref (k 0)), (1, .int y), (2, .int x)] := hl
  obtain ⟨pl, Z⟩ := id Y
  have Z : DRp cA w ρ k L fl us sn pw pq cq ln tn tr pl := Z
  obtain ⟨K0, ⟨qf, hq1, hq2⟩, hQ, r0, r1, r4, hL1, hvC⟩ := id Z
  have hD : w (k 0) = some (dcell (k 1) (k 2) (k 4) ln tn tr sn pw pl) := K0.1
  obtain ⟨-, -, ⟨f, g, hC⟩, -, -, hv⟩ := id K0
  have hC : CAx cA w (fun x => ρ x = 1) (k 2) (k 3) L us f g := hC
  have hC1 := hC.1
  have hC2 := hC.2.1
  have hlen := hC.2.2.1
  have hL6 := hC.2.2.2.1
  refine lv_iload_n hx hb d_D_unit_0 rfl (lv_at hl 1 rfl) ?_
  refine lv_if_lt (tgt := 15) hx hb d_D_unit_1 (by decide) (fun c_1 => ?_) (fun c_1 => ?_)
  · refine lv_iconst (v := (-1)) hx hb d_D_unit_15 (by decide) ?_
    exact mx_reti G h hrt hlocks d_D_unit_16 (⟨by rw [unitS, if_neg (fun z => absurd z.1 (Int32.not_le.mpr c_1))], rfl⟩)
  · refine lv_iload_n hx hb d_D_unit_4 rfl (lv_at hl 1 rfl) ?_
    refine lv_aload_n hx hb d_D_unit_5 rfl (lv_at hl 0 rfl) ?_
    refine mx_get G h hD rfl 1 (by decide) (tb_in in_D) (tb_c k_118) rfl rfl d_D_unit_6 ?_
    refine mx_get G h hC1 rfl 1 (by decide) (tb_in in_C) (tb_c k_60) rfl rfl d_D_unit_9 ?_
    refine lv_icmp_lt (tgt := 17) hx hb d_D_unit_12 (by decide) (fun c_2 => ?_) (fun c_2 => ?_)
    · have hi3 : 0 ≤ y ∧ y < nI us.length := ⟨Int32.not_lt.mp c_1, c_2⟩
      obtain ⟨j, hj, hyj⟩ := ixQ us.length rfl (by omega) hi3.1 hi3.2
      have hyc : y.toNatClampNeg = j := by rw [hyj]; exact nI_c (by omega)
      obtain ⟨u, hu⟩ := getQ (l := us) hj
      have hgj := hC.2.2.2.2.2.1 j u hu
      have hVu := hv u (List.mem_of_getElem? hu)
      refine lv_aload_n hx hb d_D_unit_17 rfl (lv_at hl 0 rfl) ?_
      refine mx_get G h hD rfl 1 (by decide) (tb_in in_D) (tb_c k_118) rfl rfl d_D_unit_18 ?_
      refine mx_get G h hC1 rfl 0 (by decide) (tb_in in_C) (tb_c k_58) rfl rfl d_D_unit_21 ?_
      refine lv_iload_n hx hb d_D_unit_24 rfl (lv_at hl 1 rfl) ?_
      refine ax_a G h 3 hC2 rfl j hyj (by omega) (by omega) ((hC.2.2.2.2.1 j (by omega)).1) d_D_unit_25 ?_
      refine lv_astore_n (lv' := [(3, .ref (g j)), (0, .ref (k 0)), (1, .int y), (2, .int x)]) hx hb d_D_unit_26 rfl hl (by decide) rfl (fun ls hl => ?_)
      refine lv_iload_n hx hb d_D_unit_27 rfl (lv_at hl 3 rfl) ?_
      rcases pk_ix x (n := 3) (by decide) with ho | ho | ⟨jx, hjx, hxj⟩
      · have hno : ∀ i, i < 3 → ¬ x = nI i := fun i hi z => absurd ho (by rw [z]; exact nI_pos (by omega))
        have hn0 : ¬ x = 0 := hno 0 (by decide)
        have hn1 : ¬ x = 1 := hno 1 (by decide)
        have hn2 : ¬ x = 2 := hno 2 (by decide)
        refine lv_tableOut (tgt := 79) hx hb d_D_unit_28 (Or.inl (toI_neg ho)) (by decide) ?_
        refine lv_iconst (v := (-1)) hx hb d_D_unit_79 (by decide) ?_
        exact mx_reti G h hrt hlocks d_D_unit_80 (⟨by rw [unitS, if_pos hi3, hyc]; show (-1 : Int32) = match us[j]? with | some v => if x = 0 then v.1 else if x = 1 then v.2.1 else if x = 2 then v.2.2.2 else -1 | none => -1; rw [hu]; show (-1 : Int32) = if x = 0 then u.1 else if x = 1 then u.2.1 else if x = 2 then u.2.2.2 else -1; rw [if_neg hn0, if_neg hn1, if_neg hn2], rfl⟩)
      · have hno : ∀ i, i < 3 → ¬ x = nI i := fun i hi z => absurd ho (by rw [z, nI_leI (by decide) (by omega)]; omega)
        have hn0 : ¬ x = 0 := hno 0 (by decide)
        have hn1 : ¬ x = 1 := hno 1 (by decide)
        have hn2 : ¬ x = 2 := hno 2 (by decide)
        refine lv_tableOut (tgt := 79) hx hb d_D_unit_28 (Or.inr (toI_big (n := 2) (by decide) ho)) (by decide) ?_
        refine lv_iconst (v := (-1)) hx hb d_D_unit_79 (by decide) ?_
        exact mx_reti G h hrt hlocks d_D_unit_80 (⟨by rw [unitS, if_pos hi3, hyc]; show (-1 : Int32) = match us[j]? with | some v => if x = 0 then v.1 else if x = 1 then v.2.1 else if x = 2 then v.2.2.2 else -1 | none => -1; rw [hu]; show (-1 : Int32) = if x = 0 then u.1 else if x = 1 then u.2.1 else if x = 2 then u.2.2.2 else -1; rw [if_neg hn0, if_neg hn1, if_neg hn2], rfl⟩)
      · rcases (show jx = 0 ∨ jx = 1 ∨ jx = 2 by omega) with rfl | rfl | rfl
        · subst hxj
          refine lv_tableIn (tgt := 56) hx hb d_D_unit_28 (by decide) (by decide) rfl (by decide) ?_
          refine lv_aload_n hx hb d_D_unit_56 rfl (lv_at hl 0 rfl) ?_
          refine mx_get G h hgj rfl 0 (by decide) (tb_in in_U) (tb_c k_38) rfl rfl d_D_unit_57 ?_
          exact mx_reti G h hrt hlocks d_D_unit_60 (⟨by rw [unitS, if_pos hi3, hyc]; show u.1 = match us[j]? with | some v => if nI 0 = 0 then v.1 else if nI 0 = 1 then v.2.1 else if nI 0 = 2 then v.2.2.2 else -1 | none => -1; rw [hu]; show u.1 = if nI 0 = 0 then u.1 else if nI 0 = 1 then u.2.1 else if nI 0 = 2 then u.2.2.2 else -1; rw [if_pos (by decide)], rfl⟩)
        · subst hxj
          refine lv_tableIn (tgt := 61) hx hb d_D_unit_28 (by decide) (by decide) rfl (by decide) ?_
          refine lv_aload_n hx hb d_D_unit_61 rfl (lv_at hl 0 rfl) ?_
          refine mx_get G h hgj rfl 1 (by decide) (tb_in in_U) (tb_c k_41) rfl rfl d_D_unit_62 ?_
          exact mx_reti G h hrt hlocks d_D_unit_65 (⟨by rw [unitS, if_pos hi3, hyc]; show u.2.1 = match us[j]? with | some v => if nI 1 = 0 then v.1 else if nI 1 = 1 then v.2.1 else if nI 1 = 2 then v.2.2.2 else -1 | none => -1; rw [hu]; show u.2.1 = if nI 1 = 0 then u.1 else if nI 1 = 1 then u.2.1 else if nI 1 = 2 then u.2.2.2 else -1; rw [if_neg (by decide), if_pos (by decide)], rfl⟩)
        · subst hxj
          refine lv_tableIn (tgt := 66) hx hb d_D_unit_28 (by decide) (by decide) rfl (by decide) ?_
          refine lv_aload_n hx hb d_D_unit_66 rfl (lv_at hl 0 rfl) ?_
          refine mx_get G h hgj rfl 3 (by decide) (tb_in in_U) (tb_c k_46) rfl rfl d_D_unit_67 ?_
          refine lv_if_eq (tgt := 77) hx hb d_D_unit_70 (by decide) (fun c_3 => ?_) (fun c_3 => ?_)
          · refine lv_iconst (v := 0) hx hb d_D_unit_77 (by decide) ?_
            exact mx_reti G h hrt hlocks d_D_unit_78 (⟨by rw [unitS, if_pos hi3, hyc]; show (0 : Int32) = match us[j]? with | some v => if nI 2 = 0 then v.1 else if nI 2 = 1 then v.2.1 else if nI 2 = 2 then v.2.2.2 else -1 | none => -1; rw [hu]; show (0 : Int32) = if nI 2 = 0 then u.1 else if nI 2 = 1 then u.2.1 else if nI 2 = 2 then u.2.2.2 else -1; rw [if_neg (by decide), if_neg (by decide), if_pos (by decide), c_3], rfl⟩)
          · refine lv_iconst (v := 1) hx hb d_D_unit_73 (by decide) ?_
            refine lv_goto (tgt := 78) hx hb d_D_unit_74 (by decide) ?_
            exact mx_reti G h hrt hlocks d_D_unit_78 (⟨by rw [unitS, if_pos hi3, hyc]; show (1 : Int32) = match us[j]? with | some v => if nI 2 = 0 then v.1 else if nI 2 = 1 then v.2.1 else if nI 2 = 2 then v.2.2.2 else -1 | none => -1; rw [hu]; show (1 : Int32) = if nI 2 = 0 then u.1 else if nI 2 = 1 then u.2.1 else if nI 2 = 2 then u.2.2.2 else -1; rw [if_neg (by decide), if_neg (by decide), if_pos (by decide), hVu.2.2.2.2.2.resolve_left c_3], rfl⟩)
    · refine lv_iconst (v := (-1)) hx hb d_D_unit_15 (by decide) ?_
      exact mx_reti G h hrt hlocks d_D_unit_16 (⟨by rw [unitS, if_neg (fun z => c_2 z.2)], rfl⟩)
set_option maxHeartbeats 4000000 in
set_option maxRecDepth 100000 in
theorem m_D_count {l : Launch} {D : va_G} {cA : Nat → ClassId} {n0 : Nat} {w : mw} {ρ k : Nat → Nat} {L : Nat} {fl : Nat → Int64} {us : List uU} {sn pw : Nat} {pq : Nat → List pC} {cq : Nat → List (Int32 × Int64)} {ln : Nat} {tn : Int32} {tr : Int64} (Y : DR cA w ρ k L (fl, us, sn, pw, pq, cq, ln, tn, tr)) {x : Int32} :
    Mi l D cA n0 y_D_count c_D_count (rmd 0) [.ref (k 0), .int x] w (fun r w' => r = countS (fl, us, sn, pw, pq, cq, ln, tn, tr) x ∧ w' = w) := by
  refine mw_met (cc := b_D_count) (maxL := 2) (ret := (some .int)) (by decide) rfl (Nat.le_of_ble_eq_true rfl) ?_
  intro p e s m below meth c ls G hrt hlocks hname h hl
  have G : mw_G p m c b_D_count 2 s _ (c_D_count :: TB) R_D D cl (tys cA) n0 := G
  have hx := G.1.1
  have hb := G.1.2.1
  have hl : lv_has ls 2 [(0, .ref (k 0)), (1, .int x)] := hl
  obtain ⟨pl, Z⟩ := id Y
  have Z : DRp cA w ρ k L fl us sn pw pq cq ln tn tr pl := Z
  obtain ⟨K0, ⟨qf, hq1, hq2⟩, hQ, r0, r1, r4, hL1, hvC⟩ := id Z
  have hD : w (k 0) = some (dcell (k 1) (k 2) (k 4) ln tn tr sn pw pl) := K0.1
  obtain ⟨-, -, ⟨f, g, hC⟩, -, -, hv⟩ := id K0
  have hC : CAx cA w (fun x => ρ x = 1) (k 2) (k 3) L us f g := hC
  have hC1 := hC.1
  refine lv_iload_n hx hb d_D_count_0 rfl (lv_at hl 1 rfl) ?_
  rcases pk_ix x (n := 5) (by decide) with ho | ho | ⟨jx, hjx, hxj⟩
  · have hno : ∀ i, i < 5 → ¬ x = nI i := fun i hi z => absurd ho (by rw [z]; exact nI_pos (by omega))
    have hn0 : ¬ x = 0 := hno 0 (by decide)
    have hn1 : ¬ x = 1 := hno 1 (by decide)
    have hn2 : ¬ x = 2 := hno 2 (by decide)
    have hn3 : ¬ x = 3 := hno 3 (by decide)
    have hn4 : ¬ x = 4 := hno 4 (by decide)
    refine lv_tableOut (tgt := 64) hx hb d_D_count_1 (Or.inl (toI_neg ho)) (by decide) ?_
    refine lv_iconst (v := (-1)) hx hb d_D_count_64 (by decide) ?_
    exact mx_reti G h hrt hlocks d_D_count_65 (⟨by rw [countS, if_neg hn0, if_neg hn1, if_neg hn2, if_neg hn3, if_neg hn4], rfl⟩)
  · have hno : ∀ i, i < 5 → ¬ x = nI i := fun i hi z => absurd ho (by rw [z, nI_leI (by decide) (by omega)]; omega)
    have hn0 : ¬ x = 0 := hno 0 (by decide)
    have hn1 : ¬ x = 1 := hno 1 (by decide)
    have hn2 : ¬ x = 2 := hno 2 (by decide)
    have hn3 : ¬ x = 3 := hno 3 (by decide)
    have hn4 : ¬ x = 4 := hno 4 (by decide)
    refine lv_tableOut (tgt := 64) hx hb d_D_count_1 (Or.inr (toI_big (n := 4) (by decide) ho)) (by decide) ?_
    refine lv_iconst (v := (-1)) hx hb d_D_count_64 (by decide) ?_
    exact mx_reti G h hrt hlocks d_D_count_65 (⟨by rw [countS, if_neg hn0, if_neg hn1, if_neg hn2, if_neg hn3, if_neg hn4], rfl⟩)
  · rcases (show jx = 0 ∨ jx = 1 ∨ jx = 2 ∨ jx = 3 ∨ jx = 4 by omega) with rfl | rfl | rfl | rfl | rfl
    · subst hxj
      refine lv_tableIn (tgt := 36) hx hb d_D_count_1 (by decide) (by decide) rfl (by decide) ?_
      refine lv_aload_n hx hb d_D_count_36 rfl (lv_at hl 0 rfl) ?_
      refine mx_get G h hD rfl 1 (by decide) (tb_in in_D) (tb_c k_118) rfl rfl d_D_count_37 ?_
      refine mx_get G h hC1 rfl 1 (by decide) (tb_in in_C) (tb_c k_60) rfl rfl d_D_count_40 ?_
      exact mx_reti G h hrt hlocks d_D_count_43 (⟨by rw [countS, if_pos (by decide)], rfl⟩)
    · subst hxj
      refine lv_tableIn (tgt := 44) hx hb d_D_count_1 (by decide) (by decide) rfl (by decide) ?_
      refine lv_aload_n hx hb d_D_count_44 rfl (lv_at hl 0 rfl) ?_
      refine mx_get G h hD rfl 3 (by decide) (tb_in in_D) (tb_c k_120) rfl rfl d_D_count_45 ?_
      exact mx_reti G h hrt hlocks d_D_count_48 (⟨by rw [countS, if_neg (by decide), if_pos (by decide)], rfl⟩)
    · subst hxj
      refine lv_tableIn (tgt := 49) hx hb d_D_count_1 (by decide) (by decide) rfl (by decide) ?_
      refine lv_aload_n hx hb d_D_count_49 rfl (lv_at hl 0 rfl) ?_
      refine mx_get G h hD rfl 6 (by decide) (tb_in in_D) (tb_c k_123) rfl rfl d_D_count_50 ?_
      exact mx_reti G h hrt hlocks d_D_count_53 (⟨by rw [countS, if_neg (by decide), if_neg (by decide), if_pos (by decide)], rfl⟩)
    · subst hxj
      refine lv_tableIn (tgt := 54) hx hb d_D_count_1 (by decide) (by decide) rfl (by decide) ?_
      refine lv_aload_n hx hb d_D_count_54 rfl (lv_at hl 0 rfl) ?_
      refine mx_get G h hD rfl 7 (by decide) (tb_in in_D) (tb_c k_124) rfl rfl d_D_count_55 ?_
      exact mx_reti G h hrt hlocks d_D_count_58 (⟨by rw [countS, if_neg (by decide), if_neg (by decide), if_neg (by decide), if_pos (by decide)], rfl⟩)
    · subst hxj
      refine lv_tableIn (tgt := 59) hx hb d_D_count_1 (by decide) (by decide) rfl (by decide) ?_
      refine lv_aload_n hx hb d_D_count_59 rfl (lv_at hl 0 rfl) ?_
      refine mx_get G h hD rfl 4 (by decide) (tb_in in_D) (tb_c k_121) rfl rfl d_D_count_60 ?_
      exact mx_reti G h hrt hlocks d_D_count_63 (⟨by rw [countS, if_neg (by decide), if_neg (by decide), if_neg (by decide), if_neg (by decide), if_pos (by decide)], rfl⟩)
end
section
/-! The reference: one object, fourteen rows of 520 places. q i the address of the row in field i; F i the row's ints (bits for 4 and 6); R the row 19 -/
abbrev mcell (q : Nat → Nat) (lim un sn pg bd cm cp : Nat) (tk : Int32) (rs : Int64) : va_E := .inr (5, [.int (nI lim), .ref (q 1), .ref (q 2), .ref (q 3), .ref (q 4), .ref (q 5), .ref (q 6), .int (nI un), .int (nI sn), .int (nI pg), .int (nI bd), .ref (q 11), .ref (q 12), .ref (q 13), .ref (q 14), .ref (q 15), .int (nI cm), .ref (q 17), .ref (q 18), .ref (q 19), .int (nI cp), .int tk, .long rs])
def ixI : List Nat := [1, 2, 3, 5, 11, 12, 13, 14, 15, 17, 18]
def ixZ : List Nat := [4, 6]
def MX (cA : Nat → ClassId) (w : mw) (ρ q : Nat → Nat) (lim un sn pg bd cm cp : Nat) (tk : Int32) (rs : Int64) (F : Nat → Nat → Int32) (R : Nat → Int64) : Prop :=
  w (q 0) = some (mcell q lim un sn pg bd cm cp tk rs) ∧ (∀ i ∈ ixI, w (q i) = some (ints cA 520 (F i))) ∧ (∀ i ∈ ixZ, w (q i) = some (bools cA 520 (F i))) ∧ w (q 19) = some (longs cA 520 R) ∧ (∀ i ∈ ixI ++ ixZ, ∀ j ∈ ixI ++ ixZ, q i = q j → i = j) ∧ ρ (q 0) = 7 ∧ (∀ i ∈ ixI ++ ixZ, ρ (q i) = 7) ∧ ρ (q 19) = 7
section MXL
variable {cA : Nat → ClassId} {w w' : mw} {ρ q : Nat → Nat} {lim un sn pg bd cm cp : Nat} {tk : Int32} {rs : Int64} {F : Nat → Nat → Int32} {R : Nat → Int64}
theorem MX.put0 (h : MX cA w ρ q lim un sn pg bd cm cp tk rs F R) (un' sn' pg' bd' cm' cp' : Nat) (tk' : Int32) (rs' : Int64) : MX cA (mw_up w (q 0) (mcell q lim un' sn' pg' bd' cm' cp' tk' rs')) ρ q lim un' sn' pg' bd' cm' cp' tk' rs' F R := by
  obtain ⟨h1, h2, h3, h4, h5, h6⟩ := h
  exact ⟨mw_self, fun i hi => by rw [mw_ne (mw_apart (h2 i hi) h1 (by simp))]; exact h2 i hi, fun i hi => by rw [mw_ne (mw_apart (h3 i hi) h1 (by simp))]; exact h3 i hi, by rw [mw_ne (mw_apart h4 h1 (by simp))]; exact h4, h5, h6⟩
theorem ixIZ {i j : Nat} (hi : i ∈ ixI) (hj : j ∈ ixZ) : i ≠ j := by
  intro z
  subst z
  simp [ixI, ixZ] at hi hj
  omega
theorem MX.putI (h : MX cA w ρ q lim un sn pg bd cm cp tk rs F R) (i : Nat) (hi : i ∈ ixI) (f : Nat → Int32) : MX cA (mw_up w (q i) (ints cA 520 f)) ρ q lim un sn pg bd cm cp tk rs (va_up F i f) R := by
  obtain ⟨h1, h2, h3, h4, h5, h6⟩ := h
  refine ⟨by rw [mw_ne (mw_apart h1 (h2 i hi) (by simp))]; exact h1, fun j hj => ?_, fun j hj => ?_, by rw [mw_ne (mw_apart h4 (h2 i hi) (by simp))]; exact h4, h5, h6⟩
  · by_cases e : j = i
    · subst e; simp only [va_up, if_true]; exact mw_self
    · simp only [va_up, if_neg e]
      rw [mw_ne (fun z => e (h5 j (List.mem_append_left _ hj) i (List.mem_append_left _ hi) z))]
      exact h2 j hj
  · have e : j ≠ i := (ixIZ hi hj).symm
    simp only [va_up, if_neg e]
    rw [mw_ne (fun z => e (h5 j (List.mem_append_right _ hj) i (List.mem_append_left _ hi) z))]
    exact h3 j hj
theorem MX.putZ (h : MX cA w ρ q lim un sn pg bd cm cp tk rs F R) (i : Nat) (hi : i ∈ ixZ) (f : Nat → Int32) : MX cA (mw_up w (q i) (bools cA 520 f)) ρ q lim un sn pg bd cm cp tk rs (va_up F i f) R := by
  obtain ⟨h1, h2, h3, h4, h5, h6⟩ := h
  refine ⟨by rw [mw_ne (mw_apart h1 (h3 i hi) (by simp))]; exact h1, fun j hj => ?_, fun j hj => ?_, by rw [mw_ne (mw_apart h4 (h3 i hi) (by simp))]; exact h4, h5, h6⟩
  · have e : j ≠ i := ixIZ hj hi
    simp only [va_up, if_neg e]
    rw [mw_ne (fun z => e (h5 j (List.mem_append_left _ hj) i (List.mem_append_right _ hi) z))]
    exact h2 j hj
  · by_cases e : j = i
    · subst e; simp only [va_up, if_true]; exact mw_self
    · simp only [va_up, if_neg e]
      rw [mw_ne (fun z => e (h5 j (List.mem_append_right _ hj) i (List.mem_append_right _ hi) z))]
      exact h3 j hj
theorem MX.putL (h : MX cA w ρ q lim un sn pg bd cm cp tk rs F R) (R' : Nat → Int64) : MX cA (mw_up w (q 19) (longs cA 520 R')) ρ q lim un sn pg bd cm cp tk rs F R' := by
  obtain ⟨h1, h2, h3, h4, h5, h6⟩ := h
  exact ⟨by rw [mw_ne (mw_apart h1 h4 (by simp))]; exact h1, fun i hi => by rw [mw_ne (mw_apart (h2 i hi) h4 (by simp))]; exact h2 i hi, fun i hi => by rw [mw_ne (mw_apart (h3 i hi) h4 (by simp))]; exact h3 i hi, mw_self, h5, h6⟩
theorem MX.frame (h : MX cA w ρ q lim un sn pg bd cm cp tk rs F R) (e : ∀ x, ρ x = 7 → w' x = w x) : MX cA w' ρ q lim un sn pg bd cm cp tk rs F R := by
  obtain ⟨h1, h2, h3, h4, h5, r0, r1, r2⟩ := h
  exact ⟨by rw [e _ r0]; exact h1, fun i hi => by rw [e _ (r1 i (List.mem_append_left _ hi))]; exact h2 i hi, fun i hi => by rw [e _ (r1 i (List.mem_append_right _ hi))]; exact h3 i hi, by rw [e _ r2]; exact h4, h5, r0, r1, r2⟩
end MXL
/-- unit u of the log; which are in the cache; pending commands of a queue; completions of a queue -/
def uN (F : Nat → Nat → Int32) (u : Nat) : uU := (F 1 u, F 2 u, F 3 u, F 4 u)
def liveN (F : Nat → Nat → Int32) (n : Nat) : List Nat := (List.range n).filter (fun u => decide (¬ F 6 u = 0))
def pendN (F : Nat → Nat → Int32) (n : Nat) (x : Int32) : List Nat := ((List.range n).map (fun i => i + 1)).filter (fun c => decide (F 11 c = x))
def doneN (F : Nat → Nat → Int32) (n : Nat) (x : Int32) : List Nat := (List.range n).filter (fun i => decide (F 17 i = x))
theorem liveN_s (F : Nat → Nat → Int32) (n : Nat) : liveN F (n + 1) = if F 6 n = 0 then liveN F n else liveN F n ++ [n] := by
  simp only [liveN, List.range_succ, List.filter_append]
  by_cases h : F 6 n = 0 <;> simp [h]
theorem pendN_s (F : Nat → Nat → Int32) (n : Nat) (x : Int32) : pendN F (n + 1) x = if F 11 (n + 1) = x then pendN F n x ++ [n + 1] else pendN F n x := by
  simp only [pendN, List.range_succ, List.map_append, List.filter_append]
  by_cases h : F 11 (n + 1) = x <;> simp [h]
theorem doneN_s (F : Nat → Nat → Int32) (n : Nat) (x : Int32) : doneN F (n + 1) x = if F 17 n = x then doneN F n x ++ [n] else doneN F n x := by
  simp only [doneN, List.range_succ, List.filter_append]
  by_cases h : F 17 n = x <;> simp [h]
theorem liveN_le (F : Nat → Nat → Int32) (n : Nat) : (liveN F n).length ≤ n := by
  have := List.length_filter_le (fun u => decide (¬ F 6 u = 0)) (List.range n)
  rw [List.length_range] at this
  exact this
theorem pendN_le (F : Nat → Nat → Int32) (n : Nat) (x : Int32) : (pendN F n x).length ≤ n := by
  have := List.length_filter_le (fun c => decide (F 11 c = x)) ((List.range n).map (fun i => i + 1))
  rw [List.length_map, List.length_range] at this
  exact this
theorem doneN_le (F : Nat → Nat → Int32) (n : Nat) (x : Int32) : (doneN F n x).length ≤ n := by
  have := List.length_filter_le (fun i => decide (F 17 i = x)) (List.range n)
  rw [List.length_range] at this
  exact this
theorem pendN_pre (F : Nat → Nat → Int32) (n : Nat) (x : Int32) : ∀ t : Nat, ∃ r, pendN F (n + t) x = pendN F n x ++ r
  | 0 => ⟨[], by simp⟩
  | t + 1 => by
    obtain ⟨r, hr⟩ := pendN_pre F n x t
    rw [show n + (t + 1) = n + t + 1 by omega, pendN_s]
    split
    · exact ⟨r ++ [n + t + 1], by rw [hr, List.append_assoc]⟩
    · exact ⟨r, hr⟩
/-- the last stored of the first n units that covers x -/
def bestN (F : Nat → Nat → Int32) (x : Int32) : Nat → Option Nat
  | 0 => none
  | n + 1 => if 0 < F 5 n ∧ cov (uN F n) x ∧ (∀ b, bestN F x n = some b → F 5 b < F 5 n) then some n else bestN F x n
def inFl (F : Nat → Nat → Int32) (n : Nat) (x : Int32) : Int64 := match bestN F x n with
  | some b => wrd (uN F b) x
  | none => NN
def hldN (F : Nat → Nat → Int32) (un : Nat) (x : Int32) : Nat → Int64
  | 0 => inFl F un x
  | n + 1 => if ¬ F 6 n = 0 ∧ cov (uN F n) x then wrd (uN F n) x else hldN F un x n
theorem d_M_in_0 : decode b_M_in 0 = .ok (.iload_n 0, 1) := by decide +kernel
theorem d_M_in_1 : decode b_M_in 1 = .ok (.ifCond .lt 12, 3) := by decide +kernel
theorem d_M_in_4 : decode b_M_in 4 = .ok (.iload_n 0, 1) := by decide +kernel
theorem d_M_in_5 : decode b_M_in 5 = .ok (.iload_n 1, 1) := by decide +kernel
theorem d_M_in_6 : decode b_M_in 6 = .ok (.if_icmp .ge 7, 3) := by decide +kernel
theorem d_M_in_9 : decode b_M_in 9 = .ok (.iconst 1, 1) := by decide +kernel
theorem d_M_in_10 : decode b_M_in 10 = .ok (.goto 4, 3) := by decide +kernel
theorem d_M_in_13 : decode b_M_in 13 = .ok (.iconst 0, 1) := by decide +kernel
theorem d_M_in_14 : decode b_M_in 14 = .ok (.ireturn, 1) := by decide +kernel
theorem d_M_inCache_0 : decode b_M_inCache 0 = .ok (.iconst 0, 1) := by decide +kernel
theorem d_M_inCache_1 : decode b_M_inCache 1 = .ok (.istore_n 1, 1) := by decide +kernel
theorem d_M_inCache_2 : decode b_M_inCache 2 = .ok (.iconst 0, 1) := by decide +kernel
theorem d_M_inCache_3 : decode b_M_inCache 3 = .ok (.istore_n 2, 1) := by decide +kernel
theorem d_M_inCache_4 : decode b_M_inCache 4 = .ok (.iload_n 2, 1) := by decide +kernel
theorem d_M_inCache_5 : decode b_M_inCache 5 = .ok (.aload_n 0, 1) := by decide +kernel
theorem d_M_inCache_6 : decode b_M_inCache 6 = .ok (.getfield 64, 3) := by decide +kernel
theorem d_M_inCache_9 : decode b_M_inCache 9 = .ok (.if_icmp .ge 21, 3) := by decide +kernel
theorem d_M_inCache_12 : decode b_M_inCache 12 = .ok (.aload_n 0, 1) := by decide +kernel
theorem d_M_inCache_13 : decode b_M_inCache 13 = .ok (.getfield 26, 3) := by decide +kernel
theorem d_M_inCache_16 : decode b_M_inCache 16 = .ok (.iload_n 2, 1) := by decide +kernel
theorem d_M_inCache_17 : decode b_M_inCache 17 = .ok (.baload, 1) := by decide +kernel
theorem d_M_inCache_18 : decode b_M_inCache 18 = .ok (.ifCond .eq 6, 3) := by decide +kernel
theorem d_M_inCache_21 : decode b_M_inCache 21 = .ok (.iinc 1 1, 3) := by decide +kernel
theorem d_M_inCache_24 : decode b_M_inCache 24 = .ok (.iinc 2 1, 3) := by decide +kernel
theorem d_M_inCache_27 : decode b_M_inCache 27 = .ok (.goto (-23), 3) := by decide +kernel
theorem d_M_inCache_30 : decode b_M_inCache 30 = .ok (.iload_n 1, 1) := by decide +kernel
theorem d_M_inCache_31 : decode b_M_inCache 31 = .ok (.ireturn, 1) := by decide +kernel
theorem d_M_wordOf_0 : decode b_M_wordOf 0 = .ok (.aload_n 0, 1) := by decide +kernel
theorem d_M_wordOf_1 : decode b_M_wordOf 1 = .ok (.getfield 19, 3) := by decide +kernel
theorem d_M_wordOf_4 : decode b_M_wordOf 4 = .ok (.iload_n 1, 1) := by decide +kernel
theorem d_M_wordOf_5 : decode b_M_wordOf 5 = .ok (.baload, 1) := by decide +kernel
theorem d_M_wordOf_6 : decode b_M_wordOf 6 = .ok (.ifCond .eq 9, 3) := by decide +kernel
theorem d_M_wordOf_9 : decode b_M_wordOf 9 = .ok (.ldc2_w 54, 3) := by decide +kernel
theorem d_M_wordOf_12 : decode b_M_wordOf 12 = .ok (.goto 19, 3) := by decide +kernel
theorem d_M_wordOf_15 : decode b_M_wordOf 15 = .ok (.aload_n 0, 1) := by decide +kernel
theorem d_M_wordOf_16 : decode b_M_wordOf 16 = .ok (.getfield 16, 3) := by decide +kernel
theorem d_M_wordOf_19 : decode b_M_wordOf 19 = .ok (.iload_n 1, 1) := by decide +kernel
theorem d_M_wordOf_20 : decode b_M_wordOf 20 = .ok (.iaload, 1) := by decide +kernel
theorem d_M_wordOf_21 : decode b_M_wordOf 21 = .ok (.iload_n 2, 1) := by decide +kernel
theorem d_M_wordOf_22 : decode b_M_wordOf 22 = .ok (.aload_n 0, 1) := by decide +kernel
theorem d_M_wordOf_23 : decode b_M_wordOf 23 = .ok (.getfield 7, 3) := by decide +kernel
theorem d_M_wordOf_26 : decode b_M_wordOf 26 = .ok (.iload_n 1, 1) := by decide +kernel
theorem d_M_wordOf_27 : decode b_M_wordOf 27 = .ok (.iaload, 1) := by decide +kernel
theorem d_M_wordOf_28 : decode b_M_wordOf 28 = .ok (.isub, 1) := by decide +kernel
theorem d_M_wordOf_29 : decode b_M_wordOf 29 = .ok (.iadd, 1) := by decide +kernel
theorem d_M_wordOf_30 : decode b_M_wordOf 30 = .ok (.i2l, 1) := by decide +kernel
theorem d_M_wordOf_31 : decode b_M_wordOf 31 = .ok (.lreturn, 1) := by decide +kernel
theorem d_M_covers_0 : decode b_M_covers 0 = .ok (.iload_n 2, 1) := by decide +kernel
theorem d_M_covers_1 : decode b_M_covers 1 = .ok (.aload_n 0, 1) := by decide +kernel
theorem d_M_covers_2 : decode b_M_covers 2 = .ok (.getfield 7, 3) := by decide +kernel
theorem d_M_covers_5 : decode b_M_covers 5 = .ok (.iload_n 1, 1) := by decide +kernel
theorem d_M_covers_6 : decode b_M_covers 6 = .ok (.iaload, 1) := by decide +kernel
theorem d_M_covers_7 : decode b_M_covers 7 = .ok (.if_icmp .lt 24, 3) := by decide +kernel
theorem d_M_covers_10 : decode b_M_covers 10 = .ok (.iload_n 2, 1) := by decide +kernel
theorem d_M_covers_11 : decode b_M_covers 11 = .ok (.aload_n 0, 1) := by decide +kernel
theorem d_M_covers_12 : decode b_M_covers 12 = .ok (.getfield 7, 3) := by decide +kernel
theorem d_M_covers_15 : decode b_M_covers 15 = .ok (.iload_n 1, 1) := by decide +kernel
theorem d_M_covers_16 : decode b_M_covers 16 = .ok (.iaload, 1) := by decide +kernel
theorem d_M_covers_17 : decode b_M_covers 17 = .ok (.aload_n 0, 1) := by decide +kernel
theorem d_M_covers_18 : decode b_M_covers 18 = .ok (.getfield 13, 3) := by decide +kernel
theorem d_M_covers_21 : decode b_M_covers 21 = .ok (.iload_n 1, 1) := by decide +kernel
theorem d_M_covers_22 : decode b_M_covers 22 = .ok (.iaload, 1) := by decide +kernel
theorem d_M_covers_23 : decode b_M_covers 23 = .ok (.iadd, 1) := by decide +kernel
theorem d_M_covers_24 : decode b_M_covers 24 = .ok (.if_icmp .ge 7, 3) := by decide +kernel
theorem d_M_covers_27 : decode b_M_covers 27 = .ok (.iconst 1, 1) := by decide +kernel
theorem d_M_covers_28 : decode b_M_covers 28 = .ok (.goto 4, 3) := by decide +kernel
theorem d_M_covers_31 : decode b_M_covers 31 = .ok (.iconst 0, 1) := by decide +kernel
theorem d_M_covers_32 : decode b_M_covers 32 = .ok (.ireturn, 1) := by decide +kernel
theorem d_M_inFlash_0 : decode b_M_inFlash 0 = .ok (.iconst (-1), 1) := by decide +kernel
theorem d_M_inFlash_1 : decode b_M_inFlash 1 = .ok (.istore_n 2, 1) := by decide +kernel
theorem d_M_inFlash_2 : decode b_M_inFlash 2 = .ok (.iconst 0, 1) := by decide +kernel
theorem d_M_inFlash_3 : decode b_M_inFlash 3 = .ok (.istore_n 3, 1) := by decide +kernel
theorem d_M_inFlash_4 : decode b_M_inFlash 4 = .ok (.iload_n 3, 1) := by decide +kernel
theorem d_M_inFlash_5 : decode b_M_inFlash 5 = .ok (.aload_n 0, 1) := by decide +kernel
theorem d_M_inFlash_6 : decode b_M_inFlash 6 = .ok (.getfield 64, 3) := by decide +kernel
theorem d_M_inFlash_9 : decode b_M_inFlash 9 = .ok (.if_icmp .ge 48, 3) := by decide +kernel
theorem d_M_inFlash_12 : decode b_M_inFlash 12 = .ok (.aload_n 0, 1) := by decide +kernel
theorem d_M_inFlash_13 : decode b_M_inFlash 13 = .ok (.getfield 23, 3) := by decide +kernel
theorem d_M_inFlash_16 : decode b_M_inFlash 16 = .ok (.iload_n 3, 1) := by decide +kernel
theorem d_M_inFlash_17 : decode b_M_inFlash 17 = .ok (.iaload, 1) := by decide +kernel
theorem d_M_inFlash_18 : decode b_M_inFlash 18 = .ok (.ifCond .le 33, 3) := by decide +kernel
theorem d_M_inFlash_21 : decode b_M_inFlash 21 = .ok (.aload_n 0, 1) := by decide +kernel
theorem d_M_inFlash_22 : decode b_M_inFlash 22 = .ok (.iload_n 3, 1) := by decide +kernel
theorem d_M_inFlash_23 : decode b_M_inFlash 23 = .ok (.iload_n 1, 1) := by decide +kernel
theorem d_M_inFlash_24 : decode b_M_inFlash 24 = .ok (.invokevirtual 67, 3) := by decide +kernel
theorem d_M_inFlash_27 : decode b_M_inFlash 27 = .ok (.ifCond .eq 24, 3) := by decide +kernel
theorem d_M_inFlash_30 : decode b_M_inFlash 30 = .ok (.iload_n 2, 1) := by decide +kernel
theorem d_M_inFlash_31 : decode b_M_inFlash 31 = .ok (.ifCond .lt 18, 3) := by decide +kernel
theorem d_M_inFlash_34 : decode b_M_inFlash 34 = .ok (.aload_n 0, 1) := by decide +kernel
theorem d_M_inFlash_35 : decode b_M_inFlash 35 = .ok (.getfield 23, 3) := by decide +kernel
theorem d_M_inFlash_38 : decode b_M_inFlash 38 = .ok (.iload_n 3, 1) := by decide +kernel
theorem d_M_inFlash_39 : decode b_M_inFlash 39 = .ok (.iaload, 1) := by decide +kernel
theorem d_M_inFlash_40 : decode b_M_inFlash 40 = .ok (.aload_n 0, 1) := by decide +kernel
theorem d_M_inFlash_41 : decode b_M_inFlash 41 = .ok (.getfield 23, 3) := by decide +kernel
theorem d_M_inFlash_44 : decode b_M_inFlash 44 = .ok (.iload_n 2, 1) := by decide +kernel
theorem d_M_inFlash_45 : decode b_M_inFlash 45 = .ok (.iaload, 1) := by decide +kernel
theorem d_M_inFlash_46 : decode b_M_inFlash 46 = .ok (.if_icmp .le 5, 3) := by decide +kernel
theorem d_M_inFlash_49 : decode b_M_inFlash 49 = .ok (.iload_n 3, 1) := by decide +kernel
theorem d_M_inFlash_50 : decode b_M_inFlash 50 = .ok (.istore_n 2, 1) := by decide +kernel
theorem d_M_inFlash_51 : decode b_M_inFlash 51 = .ok (.iinc 3 1, 3) := by decide +kernel
theorem d_M_inFlash_54 : decode b_M_inFlash 54 = .ok (.goto (-50), 3) := by decide +kernel
theorem d_M_inFlash_57 : decode b_M_inFlash 57 = .ok (.iload_n 2, 1) := by decide +kernel
theorem d_M_inFlash_58 : decode b_M_inFlash 58 = .ok (.ifCond .ge 9, 3) := by decide +kernel
theorem d_M_inFlash_61 : decode b_M_inFlash 61 = .ok (.ldc2_w 54, 3) := by decide +kernel
theorem d_M_inFlash_64 : decode b_M_inFlash 64 = .ok (.goto 9, 3) := by decide +kernel
theorem d_M_inFlash_67 : decode b_M_inFlash 67 = .ok (.aload_n 0, 1) := by decide +kernel
theorem d_M_inFlash_68 : decode b_M_inFlash 68 = .ok (.iload_n 2, 1) := by decide +kernel
theorem d_M_inFlash_69 : decode b_M_inFlash 69 = .ok (.iload_n 1, 1) := by decide +kernel
theorem d_M_inFlash_70 : decode b_M_inFlash 70 = .ok (.invokevirtual 71, 3) := by decide +kernel
theorem d_M_inFlash_73 : decode b_M_inFlash 73 = .ok (.lreturn, 1) := by decide +kernel
theorem d_M_holds_0 : decode b_M_holds 0 = .ok (.aload_n 0, 1) := by decide +kernel
theorem d_M_holds_1 : decode b_M_holds 1 = .ok (.getfield 64, 3) := by decide +kernel
theorem d_M_holds_4 : decode b_M_holds 4 = .ok (.iconst 1, 1) := by decide +kernel
theorem d_M_holds_5 : decode b_M_holds 5 = .ok (.isub, 1) := by decide +kernel
theorem d_M_holds_6 : decode b_M_holds 6 = .ok (.istore_n 2, 1) := by decide +kernel
theorem d_M_holds_7 : decode b_M_holds 7 = .ok (.iload_n 2, 1) := by decide +kernel
theorem d_M_holds_8 : decode b_M_holds 8 = .ok (.ifCond .lt 34, 3) := by decide +kernel
theorem d_M_holds_11 : decode b_M_holds 11 = .ok (.aload_n 0, 1) := by decide +kernel
theorem d_M_holds_12 : decode b_M_holds 12 = .ok (.getfield 26, 3) := by decide +kernel
theorem d_M_holds_15 : decode b_M_holds 15 = .ok (.iload_n 2, 1) := by decide +kernel
theorem d_M_holds_16 : decode b_M_holds 16 = .ok (.baload, 1) := by decide +kernel
theorem d_M_holds_17 : decode b_M_holds 17 = .ok (.ifCond .eq 19, 3) := by decide +kernel
theorem d_M_holds_20 : decode b_M_holds 20 = .ok (.aload_n 0, 1) := by decide +kernel
theorem d_M_holds_21 : decode b_M_holds 21 = .ok (.iload_n 2, 1) := by decide +kernel
theorem d_M_holds_22 : decode b_M_holds 22 = .ok (.iload_n 1, 1) := by decide +kernel
theorem d_M_holds_23 : decode b_M_holds 23 = .ok (.invokevirtual 67, 3) := by decide +kernel
theorem d_M_holds_26 : decode b_M_holds 26 = .ok (.ifCond .eq 10, 3) := by decide +kernel
theorem d_M_holds_29 : decode b_M_holds 29 = .ok (.aload_n 0, 1) := by decide +kernel
theorem d_M_holds_30 : decode b_M_holds 30 = .ok (.iload_n 2, 1) := by decide +kernel
theorem d_M_holds_31 : decode b_M_holds 31 = .ok (.iload_n 1, 1) := by decide +kernel
theorem d_M_holds_32 : decode b_M_holds 32 = .ok (.invokevirtual 71, 3) := by decide +kernel
theorem d_M_holds_35 : decode b_M_holds 35 = .ok (.lreturn, 1) := by decide +kernel
theorem d_M_holds_36 : decode b_M_holds 36 = .ok (.iinc 2 (-1), 3) := by decide +kernel
theorem d_M_holds_39 : decode b_M_holds 39 = .ok (.goto (-32), 3) := by decide +kernel
theorem d_M_holds_42 : decode b_M_holds 42 = .ok (.aload_n 0, 1) := by decide +kernel
theorem d_M_holds_43 : decode b_M_holds 43 = .ok (.iload_n 1, 1) := by decide +kernel
theorem d_M_holds_44 : decode b_M_holds 44 = .ok (.invokevirtual 75, 3) := by decide +kernel
theorem d_M_holds_47 : decode b_M_holds 47 = .ok (.lreturn, 1) := by decide +kernel
theorem d_M_pending_0 : decode b_M_pending 0 = .ok (.iconst 0, 1) := by decide +kernel
theorem d_M_pending_1 : decode b_M_pending 1 = .ok (.istore_n 2, 1) := by decide +kernel
theorem d_M_pending_2 : decode b_M_pending 2 = .ok (.iconst 1, 1) := by decide +kernel
theorem d_M_pending_3 : decode b_M_pending 3 = .ok (.istore_n 3, 1) := by decide +kernel
theorem d_M_pending_4 : decode b_M_pending 4 = .ok (.iload_n 3, 1) := by decide +kernel
theorem d_M_pending_5 : decode b_M_pending 5 = .ok (.aload_n 0, 1) := by decide +kernel
theorem d_M_pending_6 : decode b_M_pending 6 = .ok (.getfield 116, 3) := by decide +kernel
theorem d_M_pending_9 : decode b_M_pending 9 = .ok (.if_icmp .gt 22, 3) := by decide +kernel
theorem d_M_pending_12 : decode b_M_pending 12 = .ok (.aload_n 0, 1) := by decide +kernel
theorem d_M_pending_13 : decode b_M_pending 13 = .ok (.getfield 29, 3) := by decide +kernel
theorem d_M_pending_16 : decode b_M_pending 16 = .ok (.iload_n 3, 1) := by decide +kernel
theorem d_M_pending_17 : decode b_M_pending 17 = .ok (.iaload, 1) := by decide +kernel
theorem d_M_pending_18 : decode b_M_pending 18 = .ok (.iload_n 1, 1) := by decide +kernel
theorem d_M_pending_19 : decode b_M_pending 19 = .ok (.if_icmp .ne 6, 3) := by decide +kernel
theorem d_M_pending_22 : decode b_M_pending 22 = .ok (.iinc 2 1, 3) := by decide +kernel
theorem d_M_pending_25 : decode b_M_pending 25 = .ok (.iinc 3 1, 3) := by decide +kernel
theorem d_M_pending_28 : decode b_M_pending 28 = .ok (.goto (-24), 3) := by decide +kernel
theorem d_M_pending_31 : decode b_M_pending 31 = .ok (.iload_n 2, 1) := by decide +kernel
theorem d_M_pending_32 : decode b_M_pending 32 = .ok (.ireturn, 1) := by decide +kernel
theorem d_M_picked_0 : decode b_M_picked 0 = .ok (.iconst 0, 1) := by decide +kernel
theorem d_M_picked_1 : decode b_M_picked 1 = .ok (.istore_n 3, 1) := by decide +kernel
theorem d_M_picked_2 : decode b_M_picked 2 = .ok (.iconst 1, 1) := by decide +kernel
theorem d_M_picked_3 : decode b_M_picked 3 = .ok (.istore 4, 2) := by decide +kernel
theorem d_M_picked_5 : decode b_M_picked 5 = .ok (.iload 4, 2) := by decide +kernel
theorem d_M_picked_7 : decode b_M_picked 7 = .ok (.aload_n 0, 1) := by decide +kernel
theorem d_M_picked_8 : decode b_M_picked 8 = .ok (.getfield 116, 3) := by decide +kernel
theorem d_M_picked_11 : decode b_M_picked 11 = .ok (.if_icmp .gt 31, 3) := by decide +kernel
theorem d_M_picked_14 : decode b_M_picked 14 = .ok (.aload_n 0, 1) := by decide +kernel
theorem d_M_picked_15 : decode b_M_picked 15 = .ok (.getfield 29, 3) := by decide +kernel
theorem d_M_picked_18 : decode b_M_picked 18 = .ok (.iload 4, 2) := by decide +kernel
theorem d_M_picked_20 : decode b_M_picked 20 = .ok (.iaload, 1) := by decide +kernel
theorem d_M_picked_21 : decode b_M_picked 21 = .ok (.iload_n 1, 1) := by decide +kernel
theorem d_M_picked_22 : decode b_M_picked 22 = .ok (.if_icmp .ne 14, 3) := by decide +kernel
theorem d_M_picked_25 : decode b_M_picked 25 = .ok (.iload_n 3, 1) := by decide +kernel
theorem d_M_picked_26 : decode b_M_picked 26 = .ok (.iload_n 2, 1) := by decide +kernel
theorem d_M_picked_27 : decode b_M_picked 27 = .ok (.if_icmp .ne 6, 3) := by decide +kernel
theorem d_M_picked_30 : decode b_M_picked 30 = .ok (.iload 4, 2) := by decide +kernel
theorem d_M_picked_32 : decode b_M_picked 32 = .ok (.ireturn, 1) := by decide +kernel
theorem d_M_picked_33 : decode b_M_picked 33 = .ok (.iinc 3 1, 3) := by decide +kernel
theorem d_M_picked_36 : decode b_M_picked 36 = .ok (.iinc 4 1, 3) := by decide +kernel
theorem d_M_picked_39 : decode b_M_picked 39 = .ok (.goto (-34), 3) := by decide +kernel
theorem d_M_picked_42 : decode b_M_picked 42 = .ok (.iconst 0, 1) := by decide +kernel
theorem d_M_picked_43 : decode b_M_picked 43 = .ok (.ireturn, 1) := by decide +kernel
theorem d_M_done_0 : decode b_M_done 0 = .ok (.iconst 0, 1) := by decide +kernel
theorem d_M_done_1 : decode b_M_done 1 = .ok (.istore_n 2, 1) := by decide +kernel
theorem d_M_done_2 : decode b_M_done 2 = .ok (.iconst 0, 1) := by decide +kernel
theorem d_M_done_3 : decode b_M_done 3 = .ok (.istore_n 3, 1) := by decide +kernel
theorem d_M_done_4 : decode b_M_done 4 = .ok (.iload_n 3, 1) := by decide +kernel
theorem d_M_done_5 : decode b_M_done 5 = .ok (.aload_n 0, 1) := by decide +kernel
theorem d_M_done_6 : decode b_M_done 6 = .ok (.getfield 119, 3) := by decide +kernel
theorem d_M_done_9 : decode b_M_done 9 = .ok (.if_icmp .ge 22, 3) := by decide +kernel
theorem d_M_done_12 : decode b_M_done 12 = .ok (.aload_n 0, 1) := by decide +kernel
theorem d_M_done_13 : decode b_M_done 13 = .ok (.getfield 44, 3) := by decide +kernel
theorem d_M_done_16 : decode b_M_done 16 = .ok (.iload_n 3, 1) := by decide +kernel
theorem d_M_done_17 : decode b_M_done 17 = .ok (.iaload, 1) := by decide +kernel
theorem d_M_done_18 : decode b_M_done 18 = .ok (.iload_n 1, 1) := by decide +kernel
theorem d_M_done_19 : decode b_M_done 19 = .ok (.if_icmp .ne 6, 3) := by decide +kernel
theorem d_M_done_22 : decode b_M_done 22 = .ok (.iinc 2 1, 3) := by decide +kernel
theorem d_M_done_25 : decode b_M_done 25 = .ok (.iinc 3 1, 3) := by decide +kernel
theorem d_M_done_28 : decode b_M_done 28 = .ok (.goto (-24), 3) := by decide +kernel
theorem d_M_done_31 : decode b_M_done 31 = .ok (.iload_n 2, 1) := by decide +kernel
theorem d_M_done_32 : decode b_M_done 32 = .ok (.ireturn, 1) := by decide +kernel
set_option maxHeartbeats 4000000 in
set_option maxRecDepth 100000 in
theorem m_M_in {l : Launch} {D : va_G} {cA : Nat → ClassId} {n0 : Nat} {w : mw} {x n : Int32} :
    Mi l D cA n0 y_M_in c_M_in (rmd 0) [.int x, .int n] w (fun r w' => r = bI (0 ≤ x ∧ x < n) ∧ w' = w) := by
  refine mw_met (cc := b_M_in) (maxL := 2) (ret := (some .boolean)) (by decide) rfl (Nat.le_of_ble_eq_true rfl) ?_
  intro p e s m below meth c ls G hrt hlocks hname h hl
  have G : mw_G p m c b_M_in 2 s _ (c_M_in :: TB) R_M D cl (tys cA) n0 := G
  have hx := G.1.1
  have hb := G.1.2.1
  have hl : lv_has ls 2 [(0, .int x), (1, .int n)] := hl
  refine lv_iload_n hx hb d_M_in_0 rfl (lv_at hl 0 rfl) ?_
  refine lv_if_lt (tgt := 13) hx hb d_M_in_1 (by decide) (fun c_1 => ?_) (fun c_1 => ?_)
  · refine lv_iconst (v := 0) hx hb d_M_in_13 (by decide) ?_
    exact mx_retz G h hrt hlocks d_M_in_14 rfl (⟨(bI_f (fun z => absurd z.1 (Int32.not_le.mpr c_1))).symm, rfl⟩)
  · refine lv_iload_n hx hb d_M_in_4 rfl (lv_at hl 0 rfl) ?_
    refine lv_iload_n hx hb d_M_in_5 rfl (lv_at hl 1 rfl) ?_
    refine lv_icmp_ge (tgt := 13) hx hb d_M_in_6 (by decide) (fun c_2 => ?_) (fun c_2 => ?_)
    · refine lv_iconst (v := 0) hx hb d_M_in_13 (by decide) ?_
      exact mx_retz G h hrt hlocks d_M_in_14 rfl (⟨(bI_f (fun z => absurd z.2 (Int32.not_lt.mpr c_2))).symm, rfl⟩)
    · refine lv_iconst (v := 1) hx hb d_M_in_9 (by decide) ?_
      refine lv_goto (tgt := 14) hx hb d_M_in_10 (by decide) ?_
      exact mx_retz G h hrt hlocks d_M_in_14 rfl (⟨(bI_t ⟨Int32.not_lt.mp c_1, Int32.not_le.mp c_2⟩).symm, rfl⟩)
set_option maxHeartbeats 4000000 in
set_option maxRecDepth 100000 in
theorem m_M_wordOf {l : Launch} {D : va_G} {cA : Nat → ClassId} {n0 : Nat} {w : mw} {ρ q : Nat → Nat} {lim un sn pg bd cm cp : Nat} {tk : Int32} {rs : Int64} {F : Nat → Nat → Int32} {R : Nat → Int64} (X : MX cA w ρ q lim un sn pg bd cm cp tk rs F R) {u : Nat} (hu : u < 520) {y x : Int32} (hyu : y = nI u) :
    Ml l D cA n0 y_M_wordOf c_M_wordOf (rmd 0) [.ref (q 0), .int y, .int x] w (fun r w' => r = wrd (uN F u) x ∧ w' = w) := by
  refine mw_met (cc := b_M_wordOf) (maxL := 3) (ret := (some .long)) (by decide) rfl (Nat.le_of_ble_eq_true rfl) ?_
  intro p e s m below meth c ls G hrt hlocks hname h hl
  have G : mw_G p m c b_M_wordOf 3 s _ (c_M_wordOf :: TB) R_M D cl (tys cA) n0 := G
  have hx := G.1.1
  have hb := G.1.2.1
  have hl : lv_has ls 3 [(0, .ref (q 0)), (1, .int y), (2, .int x)] := hl
  refine lv_aload_n hx hb d_M_wordOf_0 rfl (lv_at hl 0 rfl) ?_
  refine mx_get G h X.1 rfl 4 (by decide) (tb_in in_M) (tb_c k_316) rfl rfl d_M_wordOf_1 ?_
  refine lv_iload_n hx hb d_M_wordOf_4 rfl (lv_at hl 1 rfl) ?_
  refine ax_z G h (X.2.2.1 4 (by decide)) u hyu hu (by decide) d_M_wordOf_5 ?_
  refine lv_if_eq (tgt := 15) hx hb d_M_wordOf_6 (by decide) (fun c_1 => ?_) (fun c_1 => ?_)
  · refine lv_aload_n hx hb d_M_wordOf_15 rfl (lv_at hl 0 rfl) ?_
    refine mx_get G h X.1 rfl 3 (by decide) (tb_in in_M) (tb_c k_315) rfl rfl d_M_wordOf_16 ?_
    refine lv_iload_n hx hb d_M_wordOf_19 rfl (lv_at hl 1 rfl) ?_
    refine ax_i G h (X.2.1 3 (by decide)) u hyu hu (by decide) d_M_wordOf_20 ?_
    refine lv_iload_n hx hb d_M_wordOf_21 rfl (lv_at hl 2 rfl) ?_
    refine lv_aload_n hx hb d_M_wordOf_22 rfl (lv_at hl 0 rfl) ?_
    refine mx_get G h X.1 rfl 1 (by decide) (tb_in in_M) (tb_c k_313) rfl rfl d_M_wordOf_23 ?_
    refine lv_iload_n hx hb d_M_wordOf_26 rfl (lv_at hl 1 rfl) ?_
    refine ax_i G h (X.2.1 1 (by decide)) u hyu hu (by decide) d_M_wordOf_27 ?_
    refine lv_isub hx hb d_M_wordOf_28 ?_
    refine lv_iadd hx hb d_M_wordOf_29 ?_
    refine lv_i2l hx hb d_M_wordOf_30 rfl ?_
    exact mx_retl G h hrt hlocks d_M_wordOf_31 (⟨by rw [wrd, if_pos (show (uN F u).2.2.2 = 0 from c_1)]; rfl, rfl⟩)
  · refine lv_ldc2 (v := NN) hx hb G.1.2.2.2.1 (G.1.2.2.2.2 _ (tb_c k_311)) d_M_wordOf_9 ?_
    refine lv_goto (tgt := 31) hx hb d_M_wordOf_12 (by decide) ?_
    exact mx_retl G h hrt hlocks d_M_wordOf_31 (⟨by rw [wrd, if_neg (show ¬ (uN F u).2.2.2 = 0 from c_1)], rfl⟩)
set_option maxHeartbeats 4000000 in
set_option maxRecDepth 100000 in
theorem m_M_covers {l : Launch} {D : va_G} {cA : Nat → ClassId} {n0 : Nat} {w : mw} {ρ q : Nat → Nat} {lim un sn pg bd cm cp : Nat} {tk : Int32} {rs : Int64} {F : Nat → Nat → Int32} {R : Nat → Int64} (X : MX cA w ρ q lim un sn pg bd cm cp tk rs F R) {u : Nat} (hu : u < 520) {y x : Int32} (hyu : y = nI u) :
    Mi l D cA n0 y_M_covers c_M_covers (rmd 0) [.ref (q 0), .int y, .int x] w (fun r w' => r = bI (cov (uN F u) x) ∧ w' = w) := by
  refine mw_met (cc := b_M_covers) (maxL := 3) (ret := (some .boolean)) (by decide) rfl (Nat.le_of_ble_eq_true rfl) ?_
  intro p e s m below meth c ls G hrt hlocks hname h hl
  have G : mw_G p m c b_M_covers 3 s _ (c_M_covers :: TB) R_M D cl (tys cA) n0 := G
  have hx := G.1.1
  have hb := G.1.2.1
  have hl : lv_has ls 3 [(0, .ref (q 0)), (1, .int y), (2, .int x)] := hl
  refine lv_iload_n hx hb d_M_covers_0 rfl (lv_at hl 2 rfl) ?_
  refine lv_aload_n hx hb d_M_covers_1 rfl (lv_at hl 0 rfl) ?_
  refine mx_get G h X.1 rfl 1 (by decide) (tb_in in_M) (tb_c k_313) rfl rfl d_M_covers_2 ?_
  refine lv_iload_n hx hb d_M_covers_5 rfl (lv_at hl 1 rfl) ?_
  refine ax_i G h (X.2.1 1 (by decide)) u hyu hu (by decide) d_M_covers_6 ?_
  refine lv_icmp_lt (tgt := 31) hx hb d_M_covers_7 (by decide) (fun c_1 => ?_) (fun c_1 => ?_)
  · refine lv_iconst (v := 0) hx hb d_M_covers_31 (by decide) ?_
    exact mx_retz G h hrt hlocks d_M_covers_32 rfl (⟨(bI_f (fun z => absurd z.1 (Int32.not_le.mpr c_1))).symm, rfl⟩)
  · refine lv_iload_n hx hb d_M_covers_10 rfl (lv_at hl 2 rfl) ?_
    refine lv_aload_n hx hb d_M_covers_11 rfl (lv_at hl 0 rfl) ?_
    refine mx_get G h X.1 rfl 1 (by decide) (tb_in in_M) (tb_c k_313) rfl rfl d_M_covers_12 ?_
    refine lv_iload_n hx hb d_M_covers_15 rfl (lv_at hl 1 rfl) ?_
    refine ax_i G h (X.2.1 1 (by decide)) u hyu hu (by decide) d_M_covers_16 ?_
    refine lv_aload_n hx hb d_M_covers_17 rfl (lv_at hl 0 rfl) ?_
    refine mx_get G h X.1 rfl 2 (by decide) (tb_in in_M) (tb_c k_314) rfl rfl d_M_covers_18 ?_
    refine lv_iload_n hx hb d_M_covers_21 rfl (lv_at hl 1 rfl) ?_
    refine ax_i G h (X.2.1 2 (by decide)) u hyu hu (by decide) d_M_covers_22 ?_
    refine lv_iadd hx hb d_M_covers_23 ?_
    refine lv_icmp_ge (tgt := 31) hx hb d_M_covers_24 (by decide) (fun c_2 => ?_) (fun c_2 => ?_)
    · refine lv_iconst (v := 0) hx hb d_M_covers_31 (by decide) ?_
      exact mx_retz G h hrt hlocks d_M_covers_32 rfl (⟨(bI_f (fun z => absurd z.2 (Int32.not_lt.mpr c_2))).symm, rfl⟩)
    · refine lv_iconst (v := 1) hx hb d_M_covers_27 (by decide) ?_
      refine lv_goto (tgt := 32) hx hb d_M_covers_28 (by decide) ?_
      exact mx_retz G h hrt hlocks d_M_covers_32 rfl (⟨(bI_t (P := cov (uN F u) x) ⟨Int32.not_lt.mp c_1, Int32.not_le.mp c_2⟩).symm, rfl⟩)
set_option maxHeartbeats 4000000 in
set_option maxRecDepth 100000 in
theorem m_M_inCache {l : Launch} {D : va_G} {cA : Nat → ClassId} {n0 : Nat} {w : mw} {ρ q : Nat → Nat} {lim un sn pg bd cm cp : Nat} {tk : Int32} {rs : Int64} {F : Nat → Nat → Int32} {R : Nat → Int64} (X : MX cA w ρ q lim un sn pg bd cm cp tk rs F R) (hun : un ≤ 512) (hcm : cm ≤ 512) (hcp : cp ≤ 512) :
    Mi l D cA n0 y_M_inCache c_M_inCache (rmd 0) [.ref (q 0)] w (fun r w' => r = nI (liveN F un).length ∧ w' = w) := by
  refine mw_met (cc := b_M_inCache) (maxL := 3) (ret := (some .int)) (by decide) rfl (Nat.le_of_ble_eq_true rfl) ?_
  intro p e s m below meth c ls G hrt hlocks hname h hl
  have G : mw_G p m c b_M_inCache 3 s _ (c_M_inCache :: TB) R_M D cl (tys cA) n0 := G
  have hx := G.1.1
  have hb := G.1.2.1
  have hl : lv_has ls 3 [(0, .ref (q 0))] := hl
  refine lv_iconst (v := 0) hx hb d_M_inCache_0 (by decide) ?_
  refine lv_istore_n (lv' := [(1, .int 0), (0, .ref (q 0))]) hx hb d_M_inCache_1 rfl hl (by decide) rfl (fun ls hl => ?_)
  refine lv_iconst (v := 0) hx hb d_M_inCache_2 (by decide) ?_
  refine lv_istore_n (lv' := [(2, .int 0), (1, .int 0), (0, .ref (q 0))]) hx hb d_M_inCache_3 rfl hl (by decide) rfl (fun ls hl => ?_)
  have loop : ∀ (t k : Nat), k + t = un → ∀ (H : Heap) (locs : List Loc) (ls : Array Slot), mw_H n0 D cl s w H locs → lv_has ls 3 [(2, .int (nI k)), (1, .int (nI (liveN F k).length)), (0, .ref (q 0))] → W p l e (rmd 0) s m ([.ref (q 0)] : List Value).toArray below meth c H locs 0 0 (MQ below (mw_Qi n0 D cl (fun r w' => r = nI (liveN F un).length ∧ w' = w)) ([.ref (q 0)] : List Value).toArray s 0 0 (mw_A n0)) (F0 m 4 ls []) := by
    intro t
    induction t with
    | zero =>
      intro k hk H locs ls h hl
      have hk : k = un := hk
      refine lv_iload_n hx hb d_M_inCache_4 rfl (lv_at hl 0 rfl) ?_
      refine lv_aload_n hx hb d_M_inCache_5 rfl (lv_at hl 2 rfl) ?_
      refine mx_get G h X.1 rfl 7 (by decide) (tb_in in_M) (tb_c k_319) rfl rfl d_M_inCache_6 ?_
      refine lv_icmp_ge (tgt := 30) hx hb d_M_inCache_9 (by decide) (fun c_1 => ?_) (fun c_1 => ?_)
      · refine lv_iload_n hx hb d_M_inCache_30 rfl (lv_at hl 1 rfl) ?_
        exact mx_reti G h hrt hlocks d_M_inCache_31 (⟨by rw [hk], rfl⟩)
      · exact absurd (by rw [hk]; exact Int32.le_refl _) c_1
    | succ t ih =>
      intro k hk H locs ls h hl
      refine lv_iload_n hx hb d_M_inCache_4 rfl (lv_at hl 0 rfl) ?_
      refine lv_aload_n hx hb d_M_inCache_5 rfl (lv_at hl 2 rfl) ?_
      refine mx_get G h X.1 rfl 7 (by decide) (tb_in in_M) (tb_c k_319) rfl rfl d_M_inCache_6 ?_
      refine lv_icmp_ge (tgt := 30) hx hb d_M_inCache_9 (by decide) (fun c_2 => ?_) (fun c_2 => ?_)
      · exact absurd ((nI_leI (by omega) (by omega)).mp c_2) (by omega)
      · refine lv_aload_n hx hb d_M_inCache_12 rfl (lv_at hl 2 rfl) ?_
        refine mx_get G h X.1 rfl 6 (by decide) (tb_in in_M) (tb_c k_318) rfl rfl d_M_inCache_13 ?_
        refine lv_iload_n hx hb d_M_inCache_16 rfl (lv_at hl 0 rfl) ?_
        refine ax_z G h (X.2.2.1 6 (by decide)) k rfl (by omega) (by decide) d_M_inCache_17 ?_
        refine lv_if_eq (tgt := 24) hx hb d_M_inCache_18 (by decide) (fun c_3 => ?_) (fun c_3 => ?_)
        · refine lv_iinc (v := (nI k) + 1) (lv' := [(2, .int ((nI k) + 1)), (1, .int (nI (liveN F k).length)), (0, .ref (q 0))]) hx hb d_M_inCache_24 hl (k := 0) rfl rfl (by decide) rfl (fun ls hl => ?_)
          refine lv_goto (tgt := 4) hx hb d_M_inCache_27 (by decide) ?_
          simp only [nI_1] at hl
          refine ih (k + 1) (by omega) H locs ls h ?_
          have q1 : liveN F (k + 1) = liveN F k := by rw [liveN_s, if_pos c_3]
          rw [q1]
          exact lv_sub hl [0, 1, 2] rfl
        · refine lv_iinc (v := (nI (liveN F k).length) + 1) (lv' := [(1, .int ((nI (liveN F k).length) + 1)), (2, .int (nI k)), (0, .ref (q 0))]) hx hb d_M_inCache_21 hl (k := 1) rfl rfl (by decide) rfl (fun ls hl => ?_)
          refine lv_iinc (v := (nI k) + 1) (lv' := [(2, .int ((nI k) + 1)), (1, .int ((nI (liveN F k).length) + 1)), (0, .ref (q 0))]) hx hb d_M_inCache_24 hl (k := 1) rfl rfl (by decide) rfl (fun ls hl => ?_)
          refine lv_goto (tgt := 4) hx hb d_M_inCache_27 (by decide) ?_
          simp only [nI_1] at hl
          refine ih (k + 1) (by omega) H locs ls h ?_
          have q1 : (liveN F (k + 1)).length = (liveN F k).length + 1 := by rw [liveN_s, if_neg c_3]; simp
          rw [q1]
          exact lv_sub hl [0, 1, 2] rfl
  exact loop un 0 (by omega) _ _ ls h (lv_sub hl [0, 1, 2] rfl)
set_option maxHeartbeats 4000000 in
set_option maxRecDepth 100000 in
theorem m_M_done {l : Launch} {D : va_G} {cA : Nat → ClassId} {n0 : Nat} {w : mw} {ρ q : Nat → Nat} {lim un sn pg bd cm cp : Nat} {tk : Int32} {rs : Int64} {F : Nat → Nat → Int32} {R : Nat → Int64} (X : MX cA w ρ q lim un sn pg bd cm cp tk rs F R) (hun : un ≤ 512) (hcm : cm ≤ 512) (hcp : cp ≤ 512) {x : Int32} :
    Mi l D cA n0 y_M_done c_M_done (rmd 0) [.ref (q 0), .int x] w (fun r w' => r = nI (doneN F cp x).length ∧ w' = w) := by
  refine mw_met (cc := b_M_done) (maxL := 4) (ret := (some .int)) (by decide) rfl (Nat.le_of_ble_eq_true rfl) ?_
  intro p e s m below meth c ls G hrt hlocks hname h hl
  have G : mw_G p m c b_M_done 4 s _ (c_M_done :: TB) R_M D cl (tys cA) n0 := G
  have hx := G.1.1
  have hb := G.1.2.1
  have hl : lv_has ls 4 [(0, .ref (q 0)), (1, .int x)] := hl
  refine lv_iconst (v := 0) hx hb d_M_done_0 (by decide) ?_
  refine lv_istore_n (lv' := [(2, .int 0), (0, .ref (q 0)), (1, .int x)]) hx hb d_M_done_1 rfl hl (by decide) rfl (fun ls hl => ?_)
  refine lv_iconst (v := 0) hx hb d_M_done_2 (by decide) ?_
  refine lv_istore_n (lv' := [(3, .int 0), (2, .int 0), (0, .ref (q 0)), (1, .int x)]) hx hb d_M_done_3 rfl hl (by decide) rfl (fun ls hl => ?_)
  have loop : ∀ (t k : Nat), k + t = cp → ∀ (H : Heap) (locs : List Loc) (ls : Array Slot), mw_H n0 D cl s w H locs → lv_has ls 4 [(3, .int (nI k)), (2, .int (nI (doneN F k x).length)), (0, .ref (q 0)), (1, .int x)] → W p l e (rmd 0) s m ([.ref (q 0), .int x] : List Value).toArray below meth c H locs 0 0 (MQ below (mw_Qi n0 D cl (fun r w' => r = nI (doneN F cp x).length ∧ w' = w)) ([.ref (q 0), .int x] : List Value).toArray s 0 0 (mw_A n0)) (F0 m 4 ls []) := by
    intro t
    induction t with
    | zero =>
      intro k hk H locs ls h hl
      have hk : k = cp := hk
      refine lv_iload_n hx hb d_M_done_4 rfl (lv_at hl 0 rfl) ?_
      refine lv_aload_n hx hb d_M_done_5 rfl (lv_at hl 2 rfl) ?_
      refine mx_get G h X.1 rfl 20 (by decide) (tb_in in_M) (tb_c k_332) rfl rfl d_M_done_6 ?_
      refine lv_icmp_ge (tgt := 31) hx hb d_M_done_9 (by decide) (fun c_1 => ?_) (fun c_1 => ?_)
      · refine lv_iload_n hx hb d_M_done_31 rfl (lv_at hl 1 rfl) ?_
        exact mx_reti G h hrt hlocks d_M_done_32 (⟨by rw [hk], rfl⟩)
      · exact absurd (by rw [hk]; exact Int32.le_refl _) c_1
    | succ t ih =>
      intro k hk H locs ls h hl
      refine lv_iload_n hx hb d_M_done_4 rfl (lv_at hl 0 rfl) ?_
      refine lv_aload_n hx hb d_M_done_5 rfl (lv_at hl 2 rfl) ?_
      refine mx_get G h X.1 rfl 20 (by decide) (tb_in in_M) (tb_c k_332) rfl rfl d_M_done_6 ?_
      refine lv_icmp_ge (tgt := 31) hx hb d_M_done_9 (by decide) (fun c_2 => ?_) (fun c_2 => ?_)
      · exact absurd ((nI_leI (by omega) (by omega)).mp c_2) (by omega)
      · refine lv_aload_n hx hb d_M_done_12 rfl (lv_at hl 2 rfl) ?_
        refine mx_get G h X.1 rfl 17 (by decide) (tb_in in_M) (tb_c k_329) rfl rfl d_M_done_13 ?_
        refine lv_iload_n hx hb d_M_done_16 rfl (lv_at hl 0 rfl) ?_
        refine ax_i G h (X.2.1 17 (by decide)) k rfl (by omega) (by decide) d_M_done_17 ?_
        refine lv_iload_n hx hb d_M_done_18 rfl (lv_at hl 3 rfl) ?_
        refine lv_icmp_ne (tgt := 25) hx hb d_M_done_19 (by decide) (fun c_3 => ?_) (fun c_3 => ?_)
        · refine lv_iinc (v := (nI k) + 1) (lv' := [(3, .int ((nI k) + 1)), (2, .int (nI (doneN F k x).length)), (0, .ref (q 0)), (1, .int x)]) hx hb d_M_done_25 hl (k := 0) rfl rfl (by decide) rfl (fun ls hl => ?_)
          refine lv_goto (tgt := 4) hx hb d_M_done_28 (by decide) ?_
          simp only [nI_1] at hl
          refine ih (k + 1) (by omega) H locs ls h ?_
          have q1 : doneN F (k + 1) x = doneN F k x := by rw [doneN_s, if_neg c_3]
          rw [q1]
          exact lv_sub hl [0, 1, 2, 3] rfl
        · refine lv_iinc (v := (nI (doneN F k x).length) + 1) (lv' := [(2, .int ((nI (doneN F k x).length) + 1)), (3, .int (nI k)), (0, .ref (q 0)), (1, .int x)]) hx hb d_M_done_22 hl (k := 1) rfl rfl (by decide) rfl (fun ls hl => ?_)
          refine lv_iinc (v := (nI k) + 1) (lv' := [(3, .int ((nI k) + 1)), (2, .int ((nI (doneN F k x).length) + 1)), (0, .ref (q 0)), (1, .int x)]) hx hb d_M_done_25 hl (k := 1) rfl rfl (by decide) rfl (fun ls hl => ?_)
          refine lv_goto (tgt := 4) hx hb d_M_done_28 (by decide) ?_
          simp only [nI_1] at hl
          refine ih (k + 1) (by omega) H locs ls h ?_
          have q1 : (doneN F (k + 1) x).length = (doneN F k x).length + 1 := by rw [doneN_s, if_pos c_3]; simp
          rw [q1]
          exact lv_sub hl [0, 1, 2, 3] rfl
  exact loop cp 0 (by omega) _ _ ls h (lv_sub hl [0, 1, 2, 3] rfl)
set_option maxHeartbeats 4000000 in
set_option maxRecDepth 100000 in
theorem m_M_pending {l : Launch} {D : va_G} {cA : Nat → ClassId} {n0 : Nat} {w : mw} {ρ q : Nat → Nat} {lim un sn pg bd cm cp : Nat} {tk : Int32} {rs : Int64} {F : Nat → Nat → Int32} {R : Nat → Int64} (X : MX cA w ρ q lim un sn pg bd cm cp tk rs F R) (hun : un ≤ 512) (hcm : cm ≤ 512) (hcp : cp ≤ 512) {x : Int32} :
    Mi l D cA n0 y_M_pending c_M_pending (rmd 0) [.ref (q 0), .int x] w (fun r w' => r = nI (pendN F cm x).length ∧ w' = w) := by
  refine mw_met (cc := b_M_pending) (maxL := 4) (ret := (some .int)) (by decide) rfl (Nat.le_of_ble_eq_true rfl) ?_
  intro p e s m below meth c ls G hrt hlocks hname h hl
  have G : mw_G p m c b_M_pending 4 s _ (c_M_pending :: TB) R_M D cl (tys cA) n0 := G
  have hx := G.1.1
  have hb := G.1.2.1
  have hl : lv_has ls 4 [(0, .ref (q 0)), (1, .int x)] := hl
  refine lv_iconst (v := 0) hx hb d_M_pending_0 (by decide) ?_
  refine lv_istore_n (lv' := [(2, .int 0), (0, .ref (q 0)), (1, .int x)]) hx hb d_M_pending_1 rfl hl (by decide) rfl (fun ls hl => ?_)
  refine lv_iconst (v := 1) hx hb d_M_pending_2 (by decide) ?_
  refine lv_istore_n (lv' := [(3, .int 1), (2, .int 0), (0, .ref (q 0)), (1, .int x)]) hx hb d_M_pending_3 rfl hl (by decide) rfl (fun ls hl => ?_)
  have loop : ∀ (t k : Nat), k + t = cm → ∀ (H : Heap) (locs : List Loc) (ls : Array Slot), mw_H n0 D cl s w H locs → lv_has ls 4 [(3, .int (nI (k + 1))), (2, .int (nI (pendN F k x).length)), (0, .ref (q 0)), (1, .int x)] → W p l e (rmd 0) s m ([.ref (q 0), .int x] : List Value).toArray below meth c H locs 0 0 (MQ below (mw_Qi n0 D cl (fun r w' => r = nI (pendN F cm x).length ∧ w' = w)) ([.ref (q 0), .int x] : List Value).toArray s 0 0 (mw_A n0)) (F0 m 4 ls []) := by
    intro t
    induction t with
    | zero =>
      intro k hk H locs ls h hl
      have hk : k = cm := hk
      refine lv_iload_n hx hb d_M_pending_4 rfl (lv_at hl 0 rfl) ?_
      refine lv_aload_n hx hb d_M_pending_5 rfl (lv_at hl 2 rfl) ?_
      refine mx_get G h X.1 rfl 16 (by decide) (tb_in in_M) (tb_c k_328) rfl rfl d_M_pending_6 ?_
      refine lv_icmp_gt (tgt := 31) hx hb d_M_pending_9 (by decide) (fun c_1 => ?_) (fun c_1 => ?_)
      · refine lv_iload_n hx hb d_M_pending_31 rfl (lv_at hl 1 rfl) ?_
        exact mx_reti G h hrt hlocks d_M_pending_32 (⟨by rw [hk], rfl⟩)
      · exact absurd ((nI_ltI (by omega) (by omega)).mpr (by omega)) c_1
    | succ t ih =>
      intro k hk H locs ls h hl
      refine lv_iload_n hx hb d_M_pending_4 rfl (lv_at hl 0 rfl) ?_
      refine lv_aload_n hx hb d_M_pending_5 rfl (lv_at hl 2 rfl) ?_
      refine mx_get G h X.1 rfl 16 (by decide) (tb_in in_M) (tb_c k_328) rfl rfl d_M_pending_6 ?_
      refine lv_icmp_gt (tgt := 31) hx hb d_M_pending_9 (by decide) (fun c_2 => ?_) (fun c_2 => ?_)
      · exact absurd ((nI_ltI (by omega) (by omega)).mp c_2) (by omega)
      · refine lv_aload_n hx hb d_M_pending_12 rfl (lv_at hl 2 rfl) ?_
        refine mx_get G h X.1 rfl 11 (by decide) (tb_in in_M) (tb_c k_323) rfl rfl d_M_pending_13 ?_
        refine lv_iload_n hx hb d_M_pending_16 rfl (lv_at hl 0 rfl) ?_
        refine ax_i G h (X.2.1 11 (by decide)) (k + 1) rfl (by omega) (by decide) d_M_pending_17 ?_
        refine lv_iload_n hx hb d_M_pending_18 rfl (lv_at hl 3 rfl) ?_
        refine lv_icmp_ne (tgt := 25) hx hb d_M_pending_19 (by decide) (fun c_3 => ?_) (fun c_3 => ?_)
        · refine lv_iinc (v := (nI (k + 1)) + 1) (lv' := [(3, .int ((nI (k + 1)) + 1)), (2, .int (nI (pendN F k x).length)), (0, .ref (q 0)), (1, .int x)]) hx hb d_M_pending_25 hl (k := 0) rfl rfl (by decide) rfl (fun ls hl => ?_)
          refine lv_goto (tgt := 4) hx hb d_M_pending_28 (by decide) ?_
          simp only [nI_1] at hl
          refine ih (k + 1) (by omega) H locs ls h ?_
          have q1 : pendN F (k + 1) x = pendN F k x := by rw [pendN_s, if_neg c_3]
          rw [q1]
          exact lv_sub hl [0, 1, 2, 3] rfl
        · refine lv_iinc (v := (nI (pendN F k x).length) + 1) (lv' := [(2, .int ((nI (pendN F k x).length) + 1)), (3, .int (nI (k + 1))), (0, .ref (q 0)), (1, .int x)]) hx hb d_M_pending_22 hl (k := 1) rfl rfl (by decide) rfl (fun ls hl => ?_)
          refine lv_iinc (v := (nI (k + 1)) + 1) (lv' := [(3, .int ((nI (k + 1)) + 1)), (2, .int ((nI (pendN F k x).length) + 1)), (0, .ref (q 0)), (1, .int x)]) hx hb d_M_pending_25 hl (k := 1) rfl rfl (by decide) rfl (fun ls hl => ?_)
          refine lv_goto (tgt := 4) hx hb d_M_pending_28 (by decide) ?_
          simp only [nI_1] at hl
          refine ih (k + 1) (by omega) H locs ls h ?_
          have q1 : (pendN F (k + 1) x).length = (pendN F k x).length + 1 := by rw [pendN_s, if_pos c_3]; simp
          rw [q1]
          exact lv_sub hl [0, 1, 2, 3] rfl
  exact loop cm 0 (by omega) _ _ ls h (lv_sub hl [0, 1, 2, 3] rfl)
set_option maxHeartbeats 4000000 in
set_option maxRecDepth 100000 in
theorem m_M_picked {l : Launch} {D : va_G} {cA : Nat → ClassId} {n0 : Nat} {w : mw} {ρ q : Nat → Nat} {lim un sn pg bd cm cp : Nat} {tk : Int32} {rs : Int64} {F : Nat → Nat → Int32} {R : Nat → Int64} (X : MX cA w ρ q lim un sn pg bd cm cp tk rs F R) (hun : un ≤ 512) (hcm : cm ≤ 512) (hcp : cp ≤ 512) {x y : Int32} {i : Nat} (hyi : y = nI i) (hi : i < 1000) :
    Mi l D cA n0 y_M_picked c_M_picked (rmd 0) [.ref (q 0), .int x, .int y] w (fun r w' => r = (match (pendN F cm x)[i]? with | some c => nI c | none => 0) ∧ w' = w) := by
  refine mw_met (cc := b_M_picked) (maxL := 5) (ret := (some .int)) (by decide) rfl (Nat.le_of_ble_eq_true rfl) ?_
  intro p e s m below meth c ls G hrt hlocks hname h hl
  have G : mw_G p m c b_M_picked 5 s _ (c_M_picked :: TB) R_M D cl (tys cA) n0 := G
  have hx := G.1.1
  have hb := G.1.2.1
  have hl : lv_has ls 5 [(0, .ref (q 0)), (1, .int x), (2, .int y)] := hl
  refine lv_iconst (v := 0) hx hb d_M_picked_0 (by decide) ?_
  refine lv_istore_n (lv' := [(3, .int 0), (0, .ref (q 0)), (1, .int x), (2, .int y)]) hx hb d_M_picked_1 rfl hl (by decide) rfl (fun ls hl => ?_)
  refine lv_iconst (v := 1) hx hb d_M_picked_2 (by decide) ?_
  refine lv_istore (lv' := [(4, .int 1), (3, .int 0), (0, .ref (q 0)), (1, .int x), (2, .int y)]) hx hb d_M_picked_3 hl (by decide) rfl (fun ls hl => ?_)
  have loop : ∀ (t k : Nat), k + t = cm → (pendN F k x).length ≤ i → ∀ (H : Heap) (locs : List Loc) (ls : Array Slot), mw_H n0 D cl s w H locs → lv_has ls 5 [(4, .int (nI (k + 1))), (3, .int (nI (pendN F k x).length)), (0, .ref (q 0)), (1, .int x), (2, .int y)] → W p l e (rmd 0) s m ([.ref (q 0), .int x, .int y] : List Value).toArray below meth c H locs 0 0 (MQ below (mw_Qi n0 D cl (fun r w' => r = (match (pendN F cm x)[i]? with | some c => nI c | none => 0) ∧ w' = w)) ([.ref (q 0), .int x, .int y] : List Value).toArray s 0 0 (mw_A n0)) (F0 m 5 ls []) := by
    intro t
    induction t with
    | zero =>
      intro k hk hle H locs ls h hl
      have hk : k = cm := hk
      refine lv_iload hx hb d_M_picked_5 (lv_at hl 0 rfl) ?_
      refine lv_aload_n hx hb d_M_picked_7 rfl (lv_at hl 2 rfl) ?_
      refine mx_get G h X.1 rfl 16 (by decide) (tb_in in_M) (tb_c k_328) rfl rfl d_M_picked_8 ?_
      refine lv_icmp_gt (tgt := 42) hx hb d_M_picked_11 (by decide) (fun c_1 => ?_) (fun c_1 => ?_)
      · refine lv_iconst (v := 0) hx hb d_M_picked_42 (by decide) ?_
        exact mx_reti G h hrt hlocks d_M_picked_43 (⟨by rw [hk] at hle; rw [List.getElem?_eq_none hle], rfl⟩)
      · exact absurd ((nI_ltI (by omega) (by omega)).mpr (by omega)) c_1
    | succ t ih =>
      intro k hk hle H locs ls h hl
      have hkl := pendN_le F k x
      refine lv_iload hx hb d_M_picked_5 (lv_at hl 0 rfl) ?_
      refine lv_aload_n hx hb d_M_picked_7 rfl (lv_at hl 2 rfl) ?_
      refine mx_get G h X.1 rfl 16 (by decide) (tb_in in_M) (tb_c k_328) rfl rfl d_M_picked_8 ?_
      refine lv_icmp_gt (tgt := 42) hx hb d_M_picked_11 (by decide) (fun c_2 => ?_) (fun c_2 => ?_)
      · exact absurd ((nI_ltI (by omega) (by omega)).mp c_2) (by omega)
      · refine lv_aload_n hx hb d_M_picked_14 rfl (lv_at hl 2 rfl) ?_
        refine mx_get G h X.1 rfl 11 (by decide) (tb_in in_M) (tb_c k_323) rfl rfl d_M_picked_15 ?_
        refine lv_iload hx hb d_M_picked_18 (lv_at hl 0 rfl) ?_
        refine ax_i G h (X.2.1 11 (by decide)) (k + 1) rfl (by omega) (by decide) d_M_picked_20 ?_
        refine lv_iload_n hx hb d_M_picked_21 rfl (lv_at hl 3 rfl) ?_
        refine lv_icmp_ne (tgt := 36) hx hb d_M_picked_22 (by decide) (fun c_3 => ?_) (fun c_3 => ?_)
        · refine lv_iinc (v := (nI (k + 1)) + 1) (lv' := [(4, .int ((nI (k + 1)) + 1)), (3, .int (nI (pendN F k x).length)), (0, .ref (q 0)), (1, .int x), (2, .int y)]) hx hb d_M_picked_36 hl (k := 0) rfl rfl (by decide) rfl (fun ls hl => ?_)
          refine lv_goto (tgt := 5) hx hb d_M_picked_39 (by decide) ?_
          simp only [nI_1] at hl
          have q1 : pendN F (k + 1) x = pendN F k x := by rw [pendN_s, if_neg c_3]
          refine ih (k + 1) (by omega) (by rw [q1]; exact hle) H locs ls h ?_
          rw [q1]
          exact lv_sub hl [0, 1, 2, 3, 4] rfl
        · refine lv_iload_n hx hb d_M_picked_25 rfl (lv_at hl 1 rfl) ?_
          refine lv_iload_n hx hb d_M_picked_26 rfl (lv_at hl 4 rfl) ?_
          refine lv_icmp_ne (tgt := 33) hx hb d_M_picked_27 (by decide) (fun c_4 => ?_) (fun c_4 => ?_)
          · refine lv_iinc (v := (nI (pendN F k x).length) + 1) (lv' := [(3, .int ((nI (pendN F k x).length) + 1)), (4, .int (nI (k + 1))), (0, .ref (q 0)), (1, .int x), (2, .int y)]) hx hb d_M_picked_33 hl (k := 1) rfl rfl (by decide) rfl (fun ls hl => ?_)
            refine lv_iinc (v := (nI (k + 1)) + 1) (lv' := [(4, .int ((nI (k + 1)) + 1)), (3, .int ((nI (pendN F k x).length) + 1)), (0, .ref (q 0)), (1, .int x), (2, .int y)]) hx hb d_M_picked_36 hl (k := 1) rfl rfl (by decide) rfl (fun ls hl => ?_)
            refine lv_goto (tgt := 5) hx hb d_M_picked_39 (by decide) ?_
            simp only [nI_1] at hl
            have q1 : (pendN F (k + 1) x).length = (pendN F k x).length + 1 := by rw [pendN_s, if_pos c_3]; simp
            have hne : (pendN F k x).length ≠ i := fun z => c_4 (by rw [hyi, z])
            refine ih (k + 1) (by omega) (by omega) H locs ls h ?_
            rw [q1]
            exact lv_sub hl [0, 1, 2, 3, 4] rfl
          · refine lv_iload hx hb d_M_picked_30 (lv_at hl 0 rfl) ?_
            have hli : (pendN F k x).length = i := (nI_eq (by omega) (by omega)).mp (by rw [c_4, hyi])
            obtain ⟨r9, hr9⟩ := pendN_pre F (k + 1) x t
            have hg : (pendN F cm x)[i]? = some (k + 1) := by
              rw [show cm = k + 1 + t by omega, hr9, pendN_s, if_pos c_3, ← hli]
              simp
            exact mx_reti G h hrt hlocks d_M_picked_32 (⟨by rw [hg], rfl⟩)
  exact loop cm 0 (by omega) (Nat.zero_le _) _ _ ls h (lv_sub hl [0, 1, 2, 3, 4] rfl)
def bst (b : Option Nat) : Int32 := match b with
  | some b => nI b
  | none => -1
theorem bestN_lt {F : Nat → Nat → Int32} {x : Int32} : ∀ {n b : Nat}, bestN F x n = some b → b < n
  | 0, b, h => by cases h
  | n + 1, b, h => by
    rw [bestN] at h
    split at h
    · cases h; exact Nat.lt_succ_self _
    · exact Nat.lt_succ_of_lt (bestN_lt h)
set_option maxHeartbeats 4000000 in
set_option maxRecDepth 100000 in
theorem m_M_inFlash {l : Launch} {D : va_G} {cA : Nat → ClassId} {n0 : Nat} {w : mw} {ρ q : Nat → Nat} {lim un sn pg bd cm cp : Nat} {tk : Int32} {rs : Int64} {F : Nat → Nat → Int32} {R : Nat → Int64} (X : MX cA w ρ q lim un sn pg bd cm cp tk rs F R) (hun : un ≤ 512) (hcm : cm ≤ 512) (hcp : cp ≤ 512) {x : Int32} :
    Ml l D cA n0 y_M_inFlash c_M_inFlash (rmd 1) [.ref (q 0), .int x] w (fun r w' => r = inFl F un x ∧ w' = w) := by
  refine mw_met (cc := b_M_inFlash) (maxL := 4) (ret := (some .long)) (by decide) rfl (Nat.le_of_ble_eq_true rfl) ?_
  intro p e s m below meth c ls G hrt hlocks hname h hl
  have G : mw_G p m c b_M_inFlash 4 s _ (c_M_inFlash :: TB) R_M D cl (tys cA) n0 := G
  have hx := G.1.1
  have hb := G.1.2.1
  have hl : lv_has ls 4 [(0, .ref (q 0)), (1, .int x)] := hl
  refine lv_iconst (v := (-1)) hx hb d_M_inFlash_0 (by decide) ?_
  refine lv_istore_n (lv' := [(2, .int (-1)), (0, .ref (q 0)), (1, .int x)]) hx hb d_M_inFlash_1 rfl hl (by decide) rfl (fun ls hl => ?_)
  refine lv_iconst (v := 0) hx hb d_M_inFlash_2 (by decide) ?_
  refine lv_istore_n (lv' := [(3, .int 0), (2, .int (-1)), (0, .ref (q 0)), (1, .int x)]) hx hb d_M_inFlash_3 rfl hl (by decide) rfl (fun ls hl => ?_)
  have loop : ∀ (t k : Nat), k + t = un → ∀ (H : Heap) (locs : List Loc) (ls : Array Slot), mw_H n0 D cl s w H locs → lv_has ls 4 [(3, .int (nI k)), (2, .int (bst (bestN F x k))), (0, .ref (q 0)), (1, .int x)] → W p l e (rmd 1) s m ([.ref (q 0), .int x] : List Value).toArray below meth c H locs 0 0 (MQ below (mw_Ql n0 D cl (fun r w' => r = inFl F un x ∧ w' = w)) ([.ref (q 0), .int x] : List Value).toArray s 0 0 (mw_A n0)) (F0 m 4 ls []) := by
    intro t
    induction t with
    | zero =>
      intro k hk H locs ls h hl
      have hk : k = un := hk
      subst hk
      cases hb9 : bestN F x k with
      | none =>
        rw [hb9] at hl
        have hl : lv_has ls 4 [(3, .int (nI k)), (2, .int (-1)), (0, .ref (q 0)), (1, .int x)] := hl
        refine lv_iload_n hx hb d_M_inFlash_4 rfl (lv_at hl 0 rfl) ?_
        refine lv_aload_n hx hb d_M_inFlash_5 rfl (lv_at hl 2 rfl) ?_
        refine mx_get G h X.1 rfl 7 (by decide) (tb_in in_M) (tb_c k_319) rfl rfl d_M_inFlash_6 ?_
        refine lv_icmp_ge (tgt := 57) hx hb d_M_inFlash_9 (by decide) (fun c_1 => ?_) (fun c_1 => ?_)
        · refine lv_iload_n hx hb d_M_inFlash_57 rfl (lv_at hl 1 rfl) ?_
          refine lv_if_ge (tgt := 67) hx hb d_M_inFlash_58 (by decide) (fun c_2 => ?_) (fun c_2 => ?_)
          · exact absurd c_2 (by decide)
          · refine lv_ldc2 (v := NN) hx hb G.1.2.2.2.1 (G.1.2.2.2.2 _ (tb_c k_311)) d_M_inFlash_61 ?_
            refine lv_goto (tgt := 73) hx hb d_M_inFlash_64 (by decide) ?_
            exact mx_retl G h hrt hlocks d_M_inFlash_73 (⟨by rw [inFl, hb9], rfl⟩)
        · exact absurd (Int32.le_refl _) c_1
      | some b =>
        have hbk := bestN_lt hb9
        rw [hb9] at hl
        have hl : lv_has ls 4 [(3, .int (nI k)), (2, .int (nI b)), (0, .ref (q 0)), (1, .int x)] := hl
        refine lv_iload_n hx hb d_M_inFlash_4 rfl (lv_at hl 0 rfl) ?_
        refine lv_aload_n hx hb d_M_inFlash_5 rfl (lv_at hl 2 rfl) ?_
        refine mx_get G h X.1 rfl 7 (by decide) (tb_in in_M) (tb_c k_319) rfl rfl d_M_inFlash_6 ?_
        refine lv_icmp_ge (tgt := 57) hx hb d_M_inFlash_9 (by decide) (fun c_3 => ?_) (fun c_3 => ?_)
        · refine lv_iload_n hx hb d_M_inFlash_57 rfl (lv_at hl 1 rfl) ?_
          refine lv_if_ge (tgt := 67) hx hb d_M_inFlash_58 (by decide) (fun c_4 => ?_) (fun c_4 => ?_)
          · refine lv_aload_n hx hb d_M_inFlash_67 rfl (lv_at hl 2 rfl) ?_
            refine lv_iload_n hx hb d_M_inFlash_68 rfl (lv_at hl 1 rfl) ?_
            refine lv_iload_n hx hb d_M_inFlash_69 rfl (lv_at hl 3 rfl) ?_
            refine mx_cl (cV (As := [.int (nI b), .int x]) (rest := []) G h (m_M_wordOf X (u := b) (by omega) rfl (x := x)) k_422 k_424 ks_20 k_7 k_425 hd_M_wordOf rfl rfl ⟨Nat.le_of_ble_eq_true rfl, Nat.le_of_ble_eq_true rfl⟩ X.1 rfl rfl hl.1 rfl (Nat.le_of_ble_eq_true rfl) d_M_inFlash_70 ⟨Nat.le_of_ble_eq_true rfl, Nat.le_of_ble_eq_true rfl⟩) h (fun r_6 w_5 H locs h hcp => ?_)
            obtain ⟨er_7, ew_8⟩ := hcp
            subst er_7
            rw [ew_8] at h
            exact mx_retl G h hrt hlocks d_M_inFlash_73 (⟨by rw [inFl, hb9], rfl⟩)
          · exact absurd (nI_pos' (by omega)) c_4
        · exact absurd (Int32.le_refl _) c_3
    | succ t ih =>
      intro k hk H locs ls h hl
      have step : ∀ (b : Option Nat), bestN F x (k + 1) = b → ∀ (H : Heap) (locs : List Loc) (ls : Array Slot), mw_H n0 D cl s w H locs → lv_has ls 4 [(3, .int (nI k)), (2, .int (bst b)), (0, .ref (q 0)), (1, .int x)] → W p l e (rmd 1) s m ([.ref (q 0), .int x] : List Value).toArray below meth c H locs 0 0 (MQ below (mw_Ql n0 D cl (fun r w' => r = inFl F un x ∧ w' = w)) ([.ref (q 0), .int x] : List Value).toArray s 0 0 (mw_A n0)) (F0 m 51 ls []) := by
        intro b hb9 H locs ls h hl
        refine lv_iinc (v := (nI k) + 1) (lv' := [(3, .int ((nI k) + 1)), (2, .int (bst b)), (0, .ref (q 0)), (1, .int x)]) hx hb d_M_inFlash_51 hl (k := 0) rfl rfl (by decide) rfl (fun ls hl => ?_)
        refine lv_goto (tgt := 4) hx hb d_M_inFlash_54 (by decide) ?_
        simp only [nI_1] at hl
        refine ih (k + 1) (by omega) H locs ls h ?_
        rw [hb9]
        exact lv_sub hl [0, 1, 2, 3] rfl
      refine lv_iload_n hx hb d_M_inFlash_4 rfl (lv_at hl 0 rfl) ?_
      refine lv_aload_n hx hb d_M_inFlash_5 rfl (lv_at hl 2 rfl) ?_
      refine mx_get G h X.1 rfl 7 (by decide) (tb_in in_M) (tb_c k_319) rfl rfl d_M_inFlash_6 ?_
      refine lv_icmp_ge (tgt := 57) hx hb d_M_inFlash_9 (by decide) (fun c_9 => ?_) (fun c_9 => ?_)
      · exact absurd ((nI_leI (by omega) (by omega)).mp c_9) (by omega)
      · refine lv_aload_n hx hb d_M_inFlash_12 rfl (lv_at hl 2 rfl) ?_
        refine mx_get G h X.1 rfl 5 (by decide) (tb_in in_M) (tb_c k_317) rfl rfl d_M_inFlash_13 ?_
        refine lv_iload_n hx hb d_M_inFlash_16 rfl (lv_at hl 0 rfl) ?_
        refine ax_i G h (X.2.1 5 (by decide)) k rfl (by omega) (by decide) d_M_inFlash_17 ?_
        refine lv_if_le (tgt := 51) hx hb d_M_inFlash_18 (by decide) (fun c_10 => ?_) (fun c_10 => ?_)
        · exact step _ (by rw [bestN, if_neg (fun z => absurd z.1 (Int32.not_lt.mpr c_10))]) H locs ls h hl
        · refine lv_aload_n hx hb d_M_inFlash_21 rfl (lv_at hl 2 rfl) ?_
          refine lv_iload_n hx hb d_M_inFlash_22 rfl (lv_at hl 0 rfl) ?_
          refine lv_iload_n hx hb d_M_inFlash_23 rfl (lv_at hl 3 rfl) ?_
          refine mx_ci (cV (As := [.int (nI k), .int x]) (rest := []) G h (m_M_covers X (u := k) (by omega) rfl (x := x)) k_418 k_420 ks_19 k_7 k_421 hd_M_covers rfl rfl ⟨Nat.le_of_ble_eq_true rfl, Nat.le_of_ble_eq_true rfl⟩ X.1 rfl rfl hl.1 rfl (Nat.le_of_ble_eq_true rfl) d_M_inFlash_24 ⟨Nat.le_of_ble_eq_true rfl, Nat.le_of_ble_eq_true rfl⟩) h (fun r_12 w_11 H locs h hcp => ?_)
          obtain ⟨er_13, ew_14⟩ := hcp
          subst er_13
          rw [ew_14] at h
          refine lv_if_eq (tgt := 51) hx hb d_M_inFlash_27 (by decide) (fun c_15 => ?_) (fun c_15 => ?_)
          · exact step _ (by rw [bestN, if_neg (fun z => bI_0 c_15 z.2.1)]) H locs ls h hl
          · cases hb9 : bestN F x k with
            | none =>
              rw [hb9] at hl
              have hl : lv_has ls 4 [(3, .int (nI k)), (2, .int (-1)), (0, .ref (q 0)), (1, .int x)] := hl
              refine lv_iload_n hx hb d_M_inFlash_30 rfl (lv_at hl 1 rfl) ?_
              refine lv_if_lt (tgt := 49) hx hb d_M_inFlash_31 (by decide) (fun c_16 => ?_) (fun c_16 => ?_)
              · refine lv_iload_n hx hb d_M_inFlash_49 rfl (lv_at hl 0 rfl) ?_
                refine lv_istore_n (lv' := [(2, .int (nI k)), (3, .int (nI k)), (0, .ref (q 0)), (1, .int x)]) hx hb d_M_inFlash_50 rfl hl (by decide) rfl (fun ls hl => ?_)
                exact step (some k) (by rw [bestN, if_pos ⟨Int32.not_le.mp c_10, bI_n c_15, fun b z => by rw [hb9] at z; cases z⟩]) H locs ls h (lv_sub hl [1, 0, 2, 3] rfl)
              · exact absurd (by decide) c_16
            | some b =>
              have hbk := bestN_lt hb9
              rw [hb9] at hl
              have hl : lv_has ls 4 [(3, .int (nI k)), (2, .int (nI b)), (0, .ref (q 0)), (1, .int x)] := hl
              refine lv_iload_n hx hb d_M_inFlash_30 rfl (lv_at hl 1 rfl) ?_
              refine lv_if_lt (tgt := 49) hx hb d_M_inFlash_31 (by decide) (fun c_17 => ?_) (fun c_17 => ?_)
              · exact absurd c_17 (nI_pos (by omega))
              · refine lv_aload_n hx hb d_M_inFlash_34 rfl (lv_at hl 2 rfl) ?_
                refine mx_get G h X.1 rfl 5 (by decide) (tb_in in_M) (tb_c k_317) rfl rfl d_M_inFlash_35 ?_
                refine lv_iload_n hx hb d_M_inFlash_38 rfl (lv_at hl 0 rfl) ?_
                refine ax_i G h (X.2.1 5 (by decide)) k rfl (by omega) (by decide) d_M_inFlash_39 ?_
                refine lv_aload_n hx hb d_M_inFlash_40 rfl (lv_at hl 2 rfl) ?_
                refine mx_get G h X.1 rfl 5 (by decide) (tb_in in_M) (tb_c k_317) rfl rfl d_M_inFlash_41 ?_
                refine lv_iload_n hx hb d_M_inFlash_44 rfl (lv_at hl 1 rfl) ?_
                refine ax_i G h (X.2.1 5 (by decide)) b rfl (by omega) (by decide) d_M_inFlash_45 ?_
                refine lv_icmp_le (tgt := 51) hx hb d_M_inFlash_46 (by decide) (fun c_18 => ?_) (fun c_18 => ?_)
                · exact step (some b) (by rw [bestN, if_neg (fun z => absurd (z.2.2 b hb9) (Int32.not_lt.mpr c_18))]; exact hb9) H locs ls h (lv_sub hl [0, 1, 2, 3] rfl)
                · refine lv_iload_n hx hb d_M_inFlash_49 rfl (lv_at hl 0 rfl) ?_
                  refine lv_istore_n (lv' := [(2, .int (nI k)), (3, .int (nI k)), (0, .ref (q 0)), (1, .int x)]) hx hb d_M_inFlash_50 rfl hl (by decide) rfl (fun ls hl => ?_)
                  exact step (some k) (by rw [bestN, if_pos ⟨Int32.not_le.mp c_10, bI_n c_15, fun b2 z => by rw [hb9] at z; cases z; exact Int32.not_le.mp c_18⟩]) H locs ls h (lv_sub hl [1, 0, 2, 3] rfl)
  exact loop un 0 (by omega) _ _ ls h (lv_sub hl [0, 1, 2, 3] rfl)
set_option maxHeartbeats 4000000 in
set_option maxRecDepth 100000 in
theorem m_M_holds {l : Launch} {D : va_G} {cA : Nat → ClassId} {n0 : Nat} {w : mw} {ρ q : Nat → Nat} {lim un sn pg bd cm cp : Nat} {tk : Int32} {rs : Int64} {F : Nat → Nat → Int32} {R : Nat → Int64} (X : MX cA w ρ q lim un sn pg bd cm cp tk rs F R) (hun : un ≤ 512) (hcm : cm ≤ 512) (hcp : cp ≤ 512) {x : Int32} :
    Ml l D cA n0 y_M_holds c_M_holds (rmd 2) [.ref (q 0), .int x] w (fun r w' => r = hldN F un x un ∧ w' = w) := by
  refine mw_met (cc := b_M_holds) (maxL := 3) (ret := (some .long)) (by decide) rfl (Nat.le_of_ble_eq_true rfl) ?_
  intro p e s m below meth c ls G hrt hlocks hname h hl
  have G : mw_G p m c b_M_holds 3 s _ (c_M_holds :: TB) R_M D cl (tys cA) n0 := G
  have hx := G.1.1
  have hb := G.1.2.1
  have hl : lv_has ls 3 [(0, .ref (q 0)), (1, .int x)] := hl
  refine lv_aload_n hx hb d_M_holds_0 rfl (lv_at hl 0 rfl) ?_
  refine mx_get G h X.1 rfl 7 (by decide) (tb_in in_M) (tb_c k_319) rfl rfl d_M_holds_1 ?_
  refine lv_iconst (v := 1) hx hb d_M_holds_4 (by decide) ?_
  refine lv_isub hx hb d_M_holds_5 ?_
  refine lv_istore_n (lv' := [(2, .int ((nI un) - 1)), (0, .ref (q 0)), (1, .int x)]) hx hb d_M_holds_6 rfl hl (by decide) rfl (fun ls hl => ?_)
  have loop : ∀ (j : Nat), j ≤ un → hldN F un x un = hldN F un x j → ∀ (H : Heap) (locs : List Loc) (ls : Array Slot), mw_H n0 D cl s w H locs → lv_has ls 3 [(2, .int (nI j - 1)), (0, .ref (q 0)), (1, .int x)] → W p l e (rmd 2) s m ([.ref (q 0), .int x] : List Value).toArray below meth c H locs 0 0 (MQ below (mw_Ql n0 D cl (fun r w' => r = hldN F un x un ∧ w' = w)) ([.ref (q 0), .int x] : List Value).toArray s 0 0 (mw_A n0)) (F0 m 7 ls []) := by
    intro j
    induction j with
    | zero =>
      intro hj he H locs ls h hl
      refine lv_iload_n hx hb d_M_holds_7 rfl (lv_at hl 0 rfl) ?_
      refine lv_if_lt (tgt := 42) hx hb d_M_holds_8 (by decide) (fun c_1 => ?_) (fun c_1 => ?_)
      · refine lv_aload_n hx hb d_M_holds_42 rfl (lv_at hl 1 rfl) ?_
        refine lv_iload_n hx hb d_M_holds_43 rfl (lv_at hl 2 rfl) ?_
        refine mx_cl (cV (As := [.int x]) (rest := []) G h (m_M_inFlash X hun hcm hcp (x := x)) k_426 k_428 ks_21 k_7 k_429 hd_M_inFlash rfl rfl ⟨Nat.le_of_ble_eq_true rfl, Nat.le_of_ble_eq_true rfl⟩ X.1 rfl rfl hl.1 rfl (Nat.le_of_ble_eq_true rfl) d_M_holds_44 ⟨Nat.le_of_ble_eq_true rfl, Nat.le_of_ble_eq_true rfl⟩) h (fun r_3 w_2 H locs h hcp => ?_)
        obtain ⟨er_4, ew_5⟩ := hcp
        subst er_4
        rw [ew_5] at h
        exact mx_retl G h hrt hlocks d_M_holds_47 (⟨by rw [he]; rfl, rfl⟩)
      · exact absurd (by decide) c_1
    | succ k ih =>
      intro hj he H locs ls h hl
      rw [nI_pred k] at hl
      refine lv_iload_n hx hb d_M_holds_7 rfl (lv_at hl 0 rfl) ?_
      refine lv_if_lt (tgt := 42) hx hb d_M_holds_8 (by decide) (fun c_6 => ?_) (fun c_6 => ?_)
      · exact absurd c_6 (nI_pos (by omega))
      · refine lv_aload_n hx hb d_M_holds_11 rfl (lv_at hl 1 rfl) ?_
        refine mx_get G h X.1 rfl 6 (by decide) (tb_in in_M) (tb_c k_318) rfl rfl d_M_holds_12 ?_
        refine lv_iload_n hx hb d_M_holds_15 rfl (lv_at hl 0 rfl) ?_
        refine ax_z G h (X.2.2.1 6 (by decide)) k rfl (by omega) (by decide) d_M_holds_16 ?_
        refine lv_if_eq (tgt := 36) hx hb d_M_holds_17 (by decide) (fun c_7 => ?_) (fun c_7 => ?_)
        · refine lv_iinc (v := (nI k) + (-1)) (lv' := [(2, .int ((nI k) + (-1))), (0, .ref (q 0)), (1, .int x)]) hx hb d_M_holds_36 hl (k := 0) rfl rfl (by decide) rfl (fun ls hl => ?_)
          refine lv_goto (tgt := 7) hx hb d_M_holds_39 (by decide) ?_
          rw [nI_m1] at hl
          exact ih (by omega) (by rw [he, hldN, if_neg (fun z => z.1 c_7)]) H locs ls h (lv_sub hl [0, 1, 2] rfl)
        · refine lv_aload_n hx hb d_M_holds_20 rfl (lv_at hl 1 rfl) ?_
          refine lv_iload_n hx hb d_M_holds_21 rfl (lv_at hl 0 rfl) ?_
          refine lv_iload_n hx hb d_M_holds_22 rfl (lv_at hl 2 rfl) ?_
          refine mx_ci (cV (As := [.int (nI k), .int x]) (rest := []) G h (m_M_covers X (u := k) (by omega) rfl (x := x)) k_418 k_420 ks_19 k_7 k_421 hd_M_covers rfl rfl ⟨Nat.le_of_ble_eq_true rfl, Nat.le_of_ble_eq_true rfl⟩ X.1 rfl rfl hl.1 rfl (Nat.le_of_ble_eq_true rfl) d_M_holds_23 ⟨Nat.le_of_ble_eq_true rfl, Nat.le_of_ble_eq_true rfl⟩) h (fun r_9 w_8 H locs h hcp => ?_)
          obtain ⟨er_10, ew_11⟩ := hcp
          subst er_10
          rw [ew_11] at h
          refine lv_if_eq (tgt := 36) hx hb d_M_holds_26 (by decide) (fun c_12 => ?_) (fun c_12 => ?_)
          · refine lv_iinc (v := (nI k) + (-1)) (lv' := [(2, .int ((nI k) + (-1))), (0, .ref (q 0)), (1, .int x)]) hx hb d_M_holds_36 hl (k := 0) rfl rfl (by decide) rfl (fun ls hl => ?_)
            refine lv_goto (tgt := 7) hx hb d_M_holds_39 (by decide) ?_
            rw [nI_m1] at hl
            exact ih (by omega) (by rw [he, hldN, if_neg (fun z => bI_0 c_12 z.2)]) H locs ls h (lv_sub hl [0, 1, 2] rfl)
          · refine lv_aload_n hx hb d_M_holds_29 rfl (lv_at hl 1 rfl) ?_
            refine lv_iload_n hx hb d_M_holds_30 rfl (lv_at hl 0 rfl) ?_
            refine lv_iload_n hx hb d_M_holds_31 rfl (lv_at hl 2 rfl) ?_
            refine mx_cl (cV (As := [.int (nI k), .int x]) (rest := []) G h (m_M_wordOf X (u := k) (by omega) rfl (x := x)) k_422 k_424 ks_20 k_7 k_425 hd_M_wordOf rfl rfl ⟨Nat.le_of_ble_eq_true rfl, Nat.le_of_ble_eq_true rfl⟩ X.1 rfl rfl hl.1 rfl (Nat.le_of_ble_eq_true rfl) d_M_holds_32 ⟨Nat.le_of_ble_eq_true rfl, Nat.le_of_ble_eq_true rfl⟩) h (fun r_14 w_13 H locs h hcp => ?_)
            obtain ⟨er_15, ew_16⟩ := hcp
            subst er_15
            rw [ew_16] at h
            exact mx_retl G h hrt hlocks d_M_holds_35 (⟨by rw [he, hldN, if_pos ⟨c_7, bI_n c_12⟩], rfl⟩)
  exact loop un (Nat.le_refl _) rfl _ _ ls h (lv_sub hl [0, 1, 2] rfl)
end
section
/-! The log against the flash and the cache -/
def stF (F : Nat → Nat → Int32) (u : Nat) (x : Int32) : Nat → Nat → Int32 := va_up (va_up F 5 (upd (F 5) u x)) 6 (upd (F 6) u 0)
theorem stF_5 {F : Nat → Nat → Int32} {u v : Nat} {x : Int32} : stF F u x 5 v = if v = u then x else F 5 v := by simp [stF, va_up, upd]
theorem stF_6 {F : Nat → Nat → Int32} {u v : Nat} {x : Int32} : stF F u x 6 v = if v = u then 0 else F 6 v := by simp [stF, va_up, upd]
theorem stF_o {F : Nat → Nat → Int32} {u i : Nat} {x : Int32} (h5 : i ≠ 5) (h6 : i ≠ 6) : stF F u x i = F i := by simp [stF, va_up, h5, h6]
theorem stF_uN {F : Nat → Nat → Int32} {u v : Nat} {x : Int32} : uN (stF F u x) v = uN F v := by simp [uN, stF, va_up]
theorem bestN_cov {F : Nat → Nat → Int32} {x : Int32} : ∀ {n b : Nat}, bestN F x n = some b → cov (uN F b) x
  | 0, b, h => by cases h
  | n + 1, b, h => by
    rw [bestN] at h
    split at h
    · rename_i hc; cases h; exact hc.2.1
    · exact bestN_cov h
/-- rows that agree below n give the same -/
theorem bestN_congr {F F' : Nat → Nat → Int32} {x : Int32} : ∀ {n : Nat}, (∀ v, v < n → F' 5 v = F 5 v ∧ uN F' v = uN F v) → bestN F' x n = bestN F x n
  | 0, _ => rfl
  | n + 1, h => by
    have ih : bestN F' x n = bestN F x n := bestN_congr (fun v hv => h v (by omega))
    have hn := h n (by omega)
    rw [bestN, bestN, ih, hn.1, hn.2]
    have e : (∀ b, bestN F x n = some b → F' 5 b < F 5 n) ↔ (∀ b, bestN F x n = some b → F 5 b < F 5 n) := by
      constructor
      · intro z b hb; rw [← (h b (by have := bestN_lt hb; omega)).1]; exact z b hb
      · intro z b hb; rw [(h b (by have := bestN_lt hb; omega)).1]; exact z b hb
    simp only [e]
theorem liveN_congr {F F' : Nat → Nat → Int32} : ∀ {n : Nat}, (∀ v, v < n → F' 6 v = F 6 v) → liveN F' n = liveN F n
  | 0, _ => rfl
  | n + 1, h => by rw [liveN_s, liveN_s, liveN_congr (fun v hv => h v (by omega)), h n (by omega)]
theorem liveN_mem {F : Nat → Nat → Int32} {n u : Nat} : u ∈ liveN F n ↔ u < n ∧ ¬ F 6 u = 0 := by simp [liveN]
theorem bestN_c {F : Nat → Nat → Int32} {x : Int32} {n : Nat} (h : 0 < F 5 n ∧ cov (uN F n) x ∧ ∀ b, bestN F x n = some b → F 5 b < F 5 n) : bestN F x (n + 1) = some n := by rw [bestN]; exact if_pos h
theorem bestN_k {F : Nat → Nat → Int32} {x : Int32} {n : Nat} (h : ¬ (0 < F 5 n ∧ cov (uN F n) x ∧ ∀ b, bestN F x n = some b → F 5 b < F 5 n)) : bestN F x (n + 1) = bestN F x n := by rw [bestN]; exact if_neg h
theorem bestN_lo {F : Nat → Nat → Int32} {u n : Nat} {x y : Int32} (h : n ≤ u) : bestN (stF F u y) x n = bestN F x n := bestN_congr (fun v hv => ⟨by rw [stF_5, if_neg (by omega)], stF_uN⟩)
theorem bestN_st {F : Nat → Nat → Int32} {u sn : Nat} {x : Int32} (hsn : sn < 1000000) : ∀ {n : Nat}, u < n → (∀ v, v < n → ∃ k, k ≤ sn ∧ F 5 v = nI k) → bestN (stF F u (nI (sn + 1))) x n = if cov (uN F u) x then some u else bestN F x n
  | 0, hu, _ => by omega
  | n + 1, hu, h => by
    obtain ⟨kn, hkn, ekn⟩ := h n (by omega)
    by_cases e : n = u
    · subst e
      by_cases hc : cov (uN F n) x
      · rw [if_pos hc]
        refine bestN_c ⟨by rw [stF_5, if_pos rfl, ← nI_0]; exact nI_lt (by omega) (by omega), by rw [stF_uN]; exact hc, fun b hb => ?_⟩
        have hbn := bestN_lt hb
        obtain ⟨kb, hkb, ekb⟩ := h b (by omega)
        rw [stF_5, if_neg (by omega), stF_5, if_pos rfl, ekb]
        exact nI_lt (by omega) (by omega)
      · rw [if_neg hc, bestN_k (fun z => hc (by have z2 := z.2.1; rw [stF_uN] at z2; exact z2)), bestN_k (fun z => hc z.2.1), bestN_lo (Nat.le_refl _)]
    · have ih := bestN_st hsn (n := n) (u := u) (x := x) (by omega) (fun v hv => h v (by omega))
      have e5 : stF F u (nI (sn + 1)) 5 n = F 5 n := by rw [stF_5, if_neg e]
      by_cases hc : cov (uN F u) x
      · rw [if_pos hc] at ih ⊢
        rw [bestN_k, ih]
        intro z
        have z2 := z.2.2 u ih
        rw [e5, stF_5, if_pos rfl, ekn, nI_ltI (by omega) (by omega)] at z2
        omega
      · rw [if_neg hc] at ih ⊢
        have hne : ∀ b, bestN F x n = some b → stF F u (nI (sn + 1)) 5 b = F 5 b := fun b hb => by
          rw [stF_5, if_neg (fun z => hc (by rw [← z]; exact bestN_cov hb))]
        by_cases hp : 0 < F 5 n ∧ cov (uN F n) x ∧ ∀ b, bestN F x n = some b → F 5 b < F 5 n
        · rw [bestN_c hp]
          exact bestN_c ⟨by rw [e5]; exact hp.1, by rw [stF_uN]; exact hp.2.1, fun b hb => by rw [ih] at hb; rw [hne b hb, e5]; exact hp.2.2 b hb⟩
        · rw [bestN_k hp, bestN_k, ih]
          intro z
          exact hp ⟨by have := z.1; rw [e5] at this; exact this, by have := z.2.1; rw [stF_uN] at this; exact this, fun b hb => by have := z.2.2 b (by rw [ih]; exact hb); rw [hne b hb, e5] at this; exact this⟩
theorem inFl_st {F : Nat → Nat → Int32} {u sn n : Nat} {x : Int32} (hsn : sn < 1000000) (hu : u < n) (h : ∀ v, v < n → ∃ k, k ≤ sn ∧ F 5 v = nI k) : inFl (stF F u (nI (sn + 1))) n x = if cov (uN F u) x then wrd (uN F u) x else inFl F n x := by
  rw [inFl, bestN_st hsn hu h]
  by_cases hc : cov (uN F u) x
  · rw [if_pos hc, if_pos hc]
    show wrd (uN (stF F u (nI (sn + 1))) u) x = _
    rw [stF_uN]
  · rw [if_neg hc, if_neg hc, inFl]
    cases bestN F x n with
    | none => rfl
    | some b => show wrd (uN (stF F u (nI (sn + 1))) b) x = _; rw [stF_uN]
theorem liveN_st {F : Nat → Nat → Int32} {u : Nat} {x : Int32} : ∀ {n : Nat}, liveN (stF F u x) n = (liveN F n).filter (fun v => decide (v ≠ u))
  | 0 => rfl
  | n + 1 => by
    rw [liveN_s, liveN_s, liveN_st, stF_6]
    by_cases hu : n = u
    · subst hu
      rw [if_pos rfl, if_pos rfl]
      split
      · rfl
      · simp
    · rw [if_neg hu]
      split
      · rfl
      · simp [hu]
theorem liveN_nd {F : Nat → Nat → Int32} {n : Nat} : (liveN F n).Nodup := List.Pairwise.filter _ List.nodup_range
theorem liveN_hd {F : Nat → Nat → Int32} {u n : Nat} {x : Int32} {r : List Nat} (h : liveN F n = u :: r) : liveN (stF F u x) n = r := by
  have hn := liveN_nd (F := F) (n := n)
  rw [h] at hn
  rw [liveN_st, h]
  have hr : ∀ v ∈ r, v ≠ u := fun v hv z => (List.nodup_cons.mp hn).1 (by rw [← z]; exact hv)
  simp
  exact hr
theorem covN {u : uU} {a : Nat} (hv : vU u) (ha : a < 24) : cov u (nI a) ↔ fsU u ≤ a ∧ a < fsU u + lnU u := by
  obtain ⟨h1, h2, h3, h4, h5, -⟩ := hv
  unfold cov
  rw [h1, h2, nI_add]
  rw [nI_leI (by omega) (by omega), nI_ltI (by omega) (by omega)]
/-- the log tells this flash, this cache -/
def LG (F : Nat → Nat → Int32) (un sn : Nat) (fl : Nat → Int64) (us : List uU) : Prop :=
  us = (liveN F un).map (uN F) ∧ (∀ a, a < 24 → fl a = inFl F un (nI a)) ∧ (∀ u, u < un → vU (uN F u)) ∧ (∀ u, u < un → ∃ k, k ≤ sn ∧ F 5 u = nI k) ∧ (∀ u, un ≤ u → F 6 u = 0) ∧ sn + (liveN F un).length ≤ un ∧ un ≤ 512
theorem LG.hldE {F : Nat → Nat → Int32} {un sn : Nat} {fl : Nat → Int64} {us : List uU} (h : LG F un sn fl us) {a : Nat} (ha : a < 24) : hldN F un (nI a) un = hld fl us a := by
  have key : ∀ n, hldN F un (nI a) n = hld fl ((liveN F n).map (uN F)) a := by
    intro n
    induction n with
    | zero => show inFl F un (nI a) = fl a; exact (h.2.1 a ha).symm
    | succ n ih =>
      rw [hldN, liveN_s]
      by_cases h6 : F 6 n = 0
      · rw [if_neg (fun z => z.1 h6), if_pos h6]; exact ih
      · rw [if_neg h6, List.map_append, List.map_cons, List.map_nil, hld_snoc]
        by_cases hc : cov (uN F n) (nI a)
        · rw [if_pos ⟨h6, hc⟩, if_pos hc]
        · rw [if_neg (fun z => hc z.2), if_neg hc]; exact ih
  rw [key un, h.1]
theorem LG.store {F : Nat → Nat → Int32} {un sn : Nat} {fl : Nat → Int64} {us us' : List uU} (h : LG F un sn fl us) {u : Nat} (hu : u < un) (hl : sn + 1 + us'.length ≤ un) (hus : us' = (liveN (stF F u (nI (sn + 1))) un).map (uN F)) : LG (stF F u (nI (sn + 1))) un (sn + 1) (apU (uN F u) (lnU (uN F u)) fl) us' := by
  obtain ⟨h1, h2, h3, h4, h5, h6, h7⟩ := h
  refine ⟨?_, fun a ha => ?_, fun v hv => by rw [stF_uN]; exact h3 v hv, fun v hv => ?_, fun v hv => ?_, ?_, h7⟩
  · rw [hus]; exact List.map_congr_left (fun v _ => stF_uN.symm)
  · rw [inFl_st (by omega) hu h4, apU]
    by_cases hc : cov (uN F u) (nI a)
    · rw [if_pos hc, if_pos ((covN (h3 u hu) ha).mp hc)]
    · rw [if_neg hc, if_neg (fun z => hc ((covN (h3 u hu) ha).mpr z))]; exact h2 a ha
  · rw [stF_5]
    by_cases e : v = u
    · rw [if_pos e]; exact ⟨sn + 1, Nat.le_refl _, rfl⟩
    · rw [if_neg e]; obtain ⟨k, hk, e2⟩ := h4 v hv; exact ⟨k, by omega, e2⟩
  · rw [stF_6]
    by_cases e : v = u
    · rw [if_pos e]
    · rw [if_neg e]; exact h5 v hv
  · have : us'.length = (liveN (stF F u (nI (sn + 1))) un).length := by rw [hus, List.length_map]
    omega
/-- rows 7 and on are the same -/
def SF (F F' : Nat → Nat → Int32) : Prop := ∀ i, 7 ≤ i → F' i = F i
theorem SF.rf {F : Nat → Nat → Int32} : SF F F := fun _ _ => rfl
theorem SF.tr {F F1 F2 : Nat → Nat → Int32} (h1 : SF F F1) (h2 : SF F1 F2) : SF F F2 := fun i hi => (h2 i hi).trans (h1 i hi)
theorem SF.st {F : Nat → Nat → Int32} {u : Nat} {x : Int32} : SF F (stF F u x) := fun i hi => stF_o (by omega) (by omega)
def MC (cA : Nat → ClassId) (w : mw) (ρ q : Nat → Nat) (lim un cm cp : Nat) (tk : Int32) (rs : Int64) (F : Nat → Nat → Int32) (R : Nat → Int64) (κ : kS) : Prop :=
  MX cA w ρ q lim un κ.2.2.1 κ.2.2.2.1 κ.2.2.2.2 cm cp tk rs F R ∧ LG F un κ.2.2.1 κ.1 κ.2.1
abbrev P7 (ρ : Nat → Nat) : Nat → Prop := fun y => ρ y = 7
theorem d_M_store_0 : decode b_M_store 0 = .ok (.iconst 0, 1) := by decide +kernel
theorem d_M_store_1 : decode b_M_store 1 = .ok (.istore_n 2, 1) := by decide +kernel
theorem d_M_store_2 : decode b_M_store 2 = .ok (.iload_n 2, 1) := by decide +kernel
theorem d_M_store_3 : decode b_M_store 3 = .ok (.aload_n 0, 1) := by decide +kernel
theorem d_M_store_4 : decode b_M_store 4 = .ok (.getfield 13, 3) := by decide +kernel
theorem d_M_store_7 : decode b_M_store 7 = .ok (.iload_n 1, 1) := by decide +kernel
theorem d_M_store_8 : decode b_M_store 8 = .ok (.iaload, 1) := by decide +kernel
theorem d_M_store_9 : decode b_M_store 9 = .ok (.if_icmp .ge 38, 3) := by decide +kernel
theorem d_M_store_12 : decode b_M_store 12 = .ok (.aload_n 0, 1) := by decide +kernel
theorem d_M_store_13 : decode b_M_store 13 = .ok (.getfield 79, 3) := by decide +kernel
theorem d_M_store_16 : decode b_M_store 16 = .ok (.ifCond .ne 5, 3) := by decide +kernel
theorem d_M_store_19 : decode b_M_store 19 = .ok (.iconst 0, 1) := by decide +kernel
theorem d_M_store_20 : decode b_M_store 20 = .ok (.ireturn, 1) := by decide +kernel
theorem d_M_store_21 : decode b_M_store 21 = .ok (.aload_n 0, 1) := by decide +kernel
theorem d_M_store_22 : decode b_M_store 22 = .ok (.dup, 1) := by decide +kernel
theorem d_M_store_23 : decode b_M_store 23 = .ok (.getfield 79, 3) := by decide +kernel
theorem d_M_store_26 : decode b_M_store 26 = .ok (.iconst 1, 1) := by decide +kernel
theorem d_M_store_27 : decode b_M_store 27 = .ok (.isub, 1) := by decide +kernel
theorem d_M_store_28 : decode b_M_store 28 = .ok (.putfield 79, 3) := by decide +kernel
theorem d_M_store_31 : decode b_M_store 31 = .ok (.aload_n 0, 1) := by decide +kernel
theorem d_M_store_32 : decode b_M_store 32 = .ok (.dup, 1) := by decide +kernel
theorem d_M_store_33 : decode b_M_store 33 = .ok (.getfield 82, 3) := by decide +kernel
theorem d_M_store_36 : decode b_M_store 36 = .ok (.iconst 1, 1) := by decide +kernel
theorem d_M_store_37 : decode b_M_store 37 = .ok (.iadd, 1) := by decide +kernel
theorem d_M_store_38 : decode b_M_store 38 = .ok (.putfield 82, 3) := by decide +kernel
theorem d_M_store_41 : decode b_M_store 41 = .ok (.iinc 2 1, 3) := by decide +kernel
theorem d_M_store_44 : decode b_M_store 44 = .ok (.goto (-42), 3) := by decide +kernel
theorem d_M_store_47 : decode b_M_store 47 = .ok (.aload_n 0, 1) := by decide +kernel
theorem d_M_store_48 : decode b_M_store 48 = .ok (.dup, 1) := by decide +kernel
theorem d_M_store_49 : decode b_M_store 49 = .ok (.getfield 85, 3) := by decide +kernel
theorem d_M_store_52 : decode b_M_store 52 = .ok (.iconst 1, 1) := by decide +kernel
theorem d_M_store_53 : decode b_M_store 53 = .ok (.iadd, 1) := by decide +kernel
theorem d_M_store_54 : decode b_M_store 54 = .ok (.putfield 85, 3) := by decide +kernel
theorem d_M_store_57 : decode b_M_store 57 = .ok (.aload_n 0, 1) := by decide +kernel
theorem d_M_store_58 : decode b_M_store 58 = .ok (.getfield 23, 3) := by decide +kernel
theorem d_M_store_61 : decode b_M_store 61 = .ok (.iload_n 1, 1) := by decide +kernel
theorem d_M_store_62 : decode b_M_store 62 = .ok (.aload_n 0, 1) := by decide +kernel
theorem d_M_store_63 : decode b_M_store 63 = .ok (.getfield 85, 3) := by decide +kernel
theorem d_M_store_66 : decode b_M_store 66 = .ok (.iastore, 1) := by decide +kernel
theorem d_M_store_67 : decode b_M_store 67 = .ok (.aload_n 0, 1) := by decide +kernel
theorem d_M_store_68 : decode b_M_store 68 = .ok (.getfield 26, 3) := by decide +kernel
theorem d_M_store_71 : decode b_M_store 71 = .ok (.iload_n 1, 1) := by decide +kernel
theorem d_M_store_72 : decode b_M_store 72 = .ok (.iconst 0, 1) := by decide +kernel
theorem d_M_store_73 : decode b_M_store 73 = .ok (.bastore, 1) := by decide +kernel
theorem d_M_store_74 : decode b_M_store 74 = .ok (.iconst 1, 1) := by decide +kernel
theorem d_M_store_75 : decode b_M_store 75 = .ok (.ireturn, 1) := by decide +kernel
theorem d_M_storeOldest_0 : decode b_M_storeOldest 0 = .ok (.iconst 0, 1) := by decide +kernel
theorem d_M_storeOldest_1 : decode b_M_storeOldest 1 = .ok (.istore_n 1, 1) := by decide +kernel
theorem d_M_storeOldest_2 : decode b_M_storeOldest 2 = .ok (.iload_n 1, 1) := by decide +kernel
theorem d_M_storeOldest_3 : decode b_M_storeOldest 3 = .ok (.aload_n 0, 1) := by decide +kernel
theorem d_M_storeOldest_4 : decode b_M_storeOldest 4 = .ok (.getfield 64, 3) := by decide +kernel
theorem d_M_storeOldest_7 : decode b_M_storeOldest 7 = .ok (.if_icmp .ge 24, 3) := by decide +kernel
theorem d_M_storeOldest_10 : decode b_M_storeOldest 10 = .ok (.aload_n 0, 1) := by decide +kernel
theorem d_M_storeOldest_11 : decode b_M_storeOldest 11 = .ok (.getfield 26, 3) := by decide +kernel
theorem d_M_storeOldest_14 : decode b_M_storeOldest 14 = .ok (.iload_n 1, 1) := by decide +kernel
theorem d_M_storeOldest_15 : decode b_M_storeOldest 15 = .ok (.baload, 1) := by decide +kernel
theorem d_M_storeOldest_16 : decode b_M_storeOldest 16 = .ok (.ifCond .eq 9, 3) := by decide +kernel
theorem d_M_storeOldest_19 : decode b_M_storeOldest 19 = .ok (.aload_n 0, 1) := by decide +kernel
theorem d_M_storeOldest_20 : decode b_M_storeOldest 20 = .ok (.iload_n 1, 1) := by decide +kernel
theorem d_M_storeOldest_21 : decode b_M_storeOldest 21 = .ok (.invokevirtual 88, 3) := by decide +kernel
theorem d_M_storeOldest_24 : decode b_M_storeOldest 24 = .ok (.ireturn, 1) := by decide +kernel
theorem d_M_storeOldest_25 : decode b_M_storeOldest 25 = .ok (.iinc 1 1, 3) := by decide +kernel
theorem d_M_storeOldest_28 : decode b_M_storeOldest 28 = .ok (.goto (-26), 3) := by decide +kernel
theorem d_M_storeOldest_31 : decode b_M_storeOldest 31 = .ok (.iconst 1, 1) := by decide +kernel
theorem d_M_storeOldest_32 : decode b_M_storeOldest 32 = .ok (.ireturn, 1) := by decide +kernel
theorem d_M_empty_0 : decode b_M_empty 0 = .ok (.iconst 1, 1) := by decide +kernel
theorem d_M_empty_1 : decode b_M_empty 1 = .ok (.istore_n 1, 1) := by decide +kernel
theorem d_M_empty_2 : decode b_M_empty 2 = .ok (.iload_n 1, 1) := by decide +kernel
theorem d_M_empty_3 : decode b_M_empty 3 = .ok (.ifCond .eq 18, 3) := by decide +kernel
theorem d_M_empty_6 : decode b_M_empty 6 = .ok (.aload_n 0, 1) := by decide +kernel
theorem d_M_empty_7 : decode b_M_empty 7 = .ok (.invokevirtual 92, 3) := by decide +kernel
theorem d_M_empty_10 : decode b_M_empty 10 = .ok (.ifCond .le 11, 3) := by decide +kernel
theorem d_M_empty_13 : decode b_M_empty 13 = .ok (.aload_n 0, 1) := by decide +kernel
theorem d_M_empty_14 : decode b_M_empty 14 = .ok (.invokevirtual 96, 3) := by decide +kernel
theorem d_M_empty_17 : decode b_M_empty 17 = .ok (.istore_n 1, 1) := by decide +kernel
theorem d_M_empty_18 : decode b_M_empty 18 = .ok (.goto (-16), 3) := by decide +kernel
theorem d_M_empty_21 : decode b_M_empty 21 = .ok (.iload_n 1, 1) := by decide +kernel
theorem d_M_empty_22 : decode b_M_empty 22 = .ok (.ireturn, 1) := by decide +kernel
set_option maxHeartbeats 4000000 in
set_option maxRecDepth 100000 in
theorem m_M_store {l : Launch} {D : va_G} {cA : Nat → ClassId} {n0 : Nat} {w : mw} {ρ q : Nat → Nat} {lim un sn pg bd cm cp : Nat} {tk : Int32} {rs : Int64} {F : Nat → Nat → Int32} {R : Nat → Int64} (X : MX cA w ρ q lim un sn pg bd cm cp tk rs F R) {u : Nat} (hu : u < 520) (hV : vU (uN F u)) (hbd : bd < 1000) {y : Int32} (hyu : y = nI u) :
    Mi l D cA n0 y_M_store c_M_store (rmd 0) [.ref (q 0), .int y] w (fun r w' => (lnU (uN F u) ≤ bd → r = 1 ∧ MX cA w' ρ q lim un (sn + 1) (pg + lnU (uN F u)) (bd - lnU (uN F u)) cm cp tk rs (stF F u (nI (sn + 1))) R ∧ FR w w' (P7 ρ)) ∧ (bd < lnU (uN F u) → r = 0 ∧ MX cA w' ρ q lim un sn (pg + bd) 0 cm cp tk rs F R ∧ FR w w' (P7 ρ))) := by
  refine mw_met (cc := b_M_store) (maxL := 3) (ret := (some .boolean)) (by decide) rfl (Nat.le_of_ble_eq_true rfl) ?_
  intro p e s m below meth c ls G hrt hlocks hname h hl
  have G : mw_G p m c b_M_store 3 s _ (c_M_store :: TB) R_M D cl (tys cA) n0 := G
  have hx := G.1.1
  have hb := G.1.2.1
  have hl : lv_has ls 3 [(0, .ref (q 0)), (1, .int y)] := hl
  obtain ⟨hu1, hu2, hl1, hl4, h24, hz⟩ := hV
  have hu2 : F 2 u = nI (lnU (uN F u)) := hu2
  obtain ⟨ln, hln⟩ : ∃ n, n = lnU (uN F u) := ⟨_, rfl⟩
  rw [← hln] at hu2 hl1 hl4 h24 ⊢
  refine lv_iconst (v := 0) hx hb d_M_store_0 (by decide) ?_
  refine lv_istore_n (lv' := [(2, .int 0), (0, .ref (q 0)), (1, .int y)]) hx hb d_M_store_1 rfl hl (by decide) rfl (fun ls hl => ?_)
  have r0 := X.2.2.2.2.2.1
  have loop : ∀ (t i : Nat), i + t = ln → i ≤ bd → ∀ (v : mw), MX cA v ρ q lim un sn (pg + i) (bd - i) cm cp tk rs F R → FR w v (P7 ρ) → ∀ (H : Heap) (locs : List Loc) (ls : Array Slot), mw_H n0 D cl s v H locs → lv_has ls 3 [(2, .int (nI i)), (0, .ref (q 0)), (1, .int y)] → W p l e (rmd 0) s m ([.ref (q 0), .int y] : List Value).toArray below meth c H locs 0 0 (MQ below (mw_Qi n0 D cl (fun r w' => (ln ≤ bd → r = 1 ∧ MX cA w' ρ q lim un (sn + 1) (pg + ln) (bd - ln) cm cp tk rs (stF F u (nI (sn + 1))) R ∧ FR w w' (P7 ρ)) ∧ (bd < ln → r = 0 ∧ MX cA w' ρ q lim un sn (pg + bd) 0 cm cp tk rs F R ∧ FR w w' (P7 ρ)))) ([.ref (q 0), .int y] : List Value).toArray s 0 0 (mw_A n0)) (F0 m 2 ls []) := by
    intro t
    induction t with
    | zero =>
      intro i hi hib v V hfr H locs ls h hl
      have hi : i = ln := hi
      subst hi
      refine lv_iload_n hx hb d_M_store_2 rfl (lv_at hl 0 rfl) ?_
      refine lv_aload_n hx hb d_M_store_3 rfl (lv_at hl 1 rfl) ?_
      refine mx_get G h V.1 rfl 2 (by decide) (tb_in in_M) (tb_c k_314) rfl rfl d_M_store_4 ?_
      refine lv_iload_n hx hb d_M_store_7 rfl (lv_at hl 2 rfl) ?_
      refine ax_i G h (V.2.1 2 (by decide)) u hyu hu (by decide) d_M_store_8 ?_
      refine lv_icmp_ge (tgt := 47) hx hb d_M_store_9 (by decide) (fun c_1 => ?_) (fun c_1 => ?_)
      · refine lv_aload_n hx hb d_M_store_47 rfl (lv_at hl 1 rfl) ?_
        refine lv_dup hx hb d_M_store_48 rfl ?_
        refine mx_get G h V.1 rfl 8 (by decide) (tb_in in_M) (tb_c k_320) rfl rfl d_M_store_49 ?_
        refine lv_iconst (v := 1) hx hb d_M_store_52 (by decide) ?_
        refine lv_iadd hx hb d_M_store_53 ?_
        have et_2 : (nI sn) + 1 = nI (sn + 1) := nI_1 sn
        rw [et_2]
        refine mx_put G h V.1 rfl 8 (by decide) (tb_in in_M) t_M t_M_ok n_M (tb_c k_320) rfl rfl rfl rfl rfl (Nat.le_of_ble_eq_true rfl) d_M_store_54 (fun H locs h => ?_)
        have h : mw_H n0 D cl s (mw_up v (q 0) (.inr (5, [.int (nI lim), .ref (q 1), .ref (q 2), .ref (q 3), .ref (q 4), .ref (q 5), .ref (q 6), .int (nI un), .int (nI (sn + 1)), .int (nI (pg + i)), .int (nI (bd - i)), .ref (q 11), .ref (q 12), .ref (q 13), .ref (q 14), .ref (q 15), .int (nI cm), .ref (q 17), .ref (q 18), .ref (q 19), .int (nI cp), .int tk, .long rs]))) H locs := h
        obtain ⟨w_3, ew_3⟩ : ∃ xx : mw, mw_up v (q 0) (.inr (5, [.int (nI lim), .ref (q 1), .ref (q 2), .ref (q 3), .ref (q 4), .ref (q 5), .ref (q 6), .int (nI un), .int (nI (sn + 1)), .int (nI (pg + i)), .int (nI (bd - i)), .ref (q 11), .ref (q 12), .ref (q 13), .ref (q 14), .ref (q 15), .int (nI cm), .ref (q 17), .ref (q 18), .ref (q 19), .int (nI cp), .int tk, .long rs])) = xx := ⟨_, rfl⟩
        rw [ew_3] at h
        have f_4 : w_3 (q 0) = some (.inr (5, [.int (nI lim), .ref (q 1), .ref (q 2), .ref (q 3), .ref (q 4), .ref (q 5), .ref (q 6), .int (nI un), .int (nI (sn + 1)), .int (nI (pg + i)), .int (nI (bd - i)), .ref (q 11), .ref (q 12), .ref (q 13), .ref (q 14), .ref (q 15), .int (nI cm), .ref (q 17), .ref (q 18), .ref (q 19), .int (nI cp), .int tk, .long rs])) := by rw [← ew_3]; exact mw_self
        have V1 : MX cA w_3 ρ q lim un (sn + 1) (pg + i) (bd - i) cm cp tk rs F R := by rw [← ew_3]; exact V.put0 un (sn + 1) (pg + i) (bd - i) cm cp tk rs
        have hfr1 : FR w w_3 (P7 ρ) := hfr.tr (by rw [← ew_3]; exact FQ r0)
        refine lv_aload_n hx hb d_M_store_57 rfl (lv_at hl 1 rfl) ?_
        refine mx_get G h V1.1 rfl 5 (by decide) (tb_in in_M) (tb_c k_317) rfl rfl d_M_store_58 ?_
        refine lv_iload_n hx hb d_M_store_61 rfl (lv_at hl 2 rfl) ?_
        refine lv_aload_n hx hb d_M_store_62 rfl (lv_at hl 1 rfl) ?_
        refine mx_get G h V1.1 rfl 8 (by decide) (tb_in in_M) (tb_c k_320) rfl rfl d_M_store_63 ?_
        refine ax_si G h (V1.2.1 5 (by decide)) u hyu hu (by decide) d_M_store_66 (fun H locs h => ?_)
        have h : mw_H n0 D cl s (mw_up w_3 (q 5) (.inl (cA 0, 520, .inl (upd (F 5) u (nI (sn + 1)))))) H locs := h
        obtain ⟨w_5, ew_5⟩ : ∃ xx : mw, mw_up w_3 (q 5) (.inl (cA 0, 520, .inl (upd (F 5) u (nI (sn + 1))))) = xx := ⟨_, rfl⟩
        rw [ew_5] at h
        have f_6 : w_5 (q 5) = some (.inl (cA 0, 520, .inl (upd (F 5) u (nI (sn + 1))))) := by rw [← ew_5]; exact mw_self
        have V2 : MX cA w_5 ρ q lim un (sn + 1) (pg + i) (bd - i) cm cp tk rs (va_up F 5 (upd (F 5) u (nI (sn + 1)))) R := by rw [← ew_5]; exact V1.putI 5 (by decide) _
        have hfr2 : FR w w_5 (P7 ρ) := hfr1.tr (by rw [← ew_5]; exact FQ (X.2.2.2.2.2.2.1 5 (by decide)))
        refine lv_aload_n hx hb d_M_store_67 rfl (lv_at hl 1 rfl) ?_
        refine mx_get G h V2.1 rfl 6 (by decide) (tb_in in_M) (tb_c k_318) rfl rfl d_M_store_68 ?_
        refine lv_iload_n hx hb d_M_store_71 rfl (lv_at hl 2 rfl) ?_
        refine lv_iconst (v := 0) hx hb d_M_store_72 (by decide) ?_
        refine ax_sz G h (V2.2.2.1 6 (by decide)) u hyu hu (by decide) (by decide) d_M_store_73 (fun H locs h => ?_)
        have h : mw_H n0 D cl s (mw_up w_5 (q 6) (.inl (cA 2, 520, .inl (upd ((va_up F 5 (upd (F 5) u (nI (sn + 1)))) 6) u 0)))) H locs := h
        obtain ⟨w_7, ew_7⟩ : ∃ xx : mw, mw_up w_5 (q 6) (.inl (cA 2, 520, .inl (upd ((va_up F 5 (upd (F 5) u (nI (sn + 1)))) 6) u 0))) = xx := ⟨_, rfl⟩
        rw [ew_7] at h
        have f_8 : w_7 (q 6) = some (.inl (cA 2, 520, .inl (upd ((va_up F 5 (upd (F 5) u (nI (sn + 1)))) 6) u 0))) := by rw [← ew_7]; exact mw_self
        have V3 : MX cA w_7 ρ q lim un (sn + 1) (pg + i) (bd - i) cm cp tk rs (stF F u (nI (sn + 1))) R := by rw [← ew_7]; exact V2.putZ 6 (by decide) _
        have hfr3 : FR w w_7 (P7 ρ) := hfr2.tr (by rw [← ew_7]; exact FQ (X.2.2.2.2.2.2.1 6 (by decide)))
        refine lv_iconst (v := 1) hx hb d_M_store_74 (by decide) ?_
        exact mx_retz G h hrt hlocks d_M_store_75 rfl (⟨fun _ => ⟨rfl, V3, hfr3⟩, fun z => absurd z (by omega)⟩)
      · exact absurd (by rw [hu2]; exact Int32.le_refl _) c_1
    | succ t ih =>
      intro i hi hib v V hfr H locs ls h hl
      refine lv_iload_n hx hb d_M_store_2 rfl (lv_at hl 0 rfl) ?_
      refine lv_aload_n hx hb d_M_store_3 rfl (lv_at hl 1 rfl) ?_
      refine mx_get G h V.1 rfl 2 (by decide) (tb_in in_M) (tb_c k_314) rfl rfl d_M_store_4 ?_
      refine lv_iload_n hx hb d_M_store_7 rfl (lv_at hl 2 rfl) ?_
      refine ax_i G h (V.2.1 2 (by decide)) u hyu hu (by decide) d_M_store_8 ?_
      refine lv_icmp_ge (tgt := 47) hx hb d_M_store_9 (by decide) (fun c_9 => ?_) (fun c_9 => ?_)
      · exact absurd c_9 (by rw [hu2, nI_leI (by omega) (by omega)]; omega)
      · refine lv_aload_n hx hb d_M_store_12 rfl (lv_at hl 1 rfl) ?_
        refine mx_get G h V.1 rfl 10 (by decide) (tb_in in_M) (tb_c k_322) rfl rfl d_M_store_13 ?_
        refine lv_if_ne (tgt := 21) hx hb d_M_store_16 (by decide) (fun c_10 => ?_) (fun c_10 => ?_)
        · have hlt : i < bd := by
            rcases Nat.lt_or_ge i bd with z | z
            · exact z
            · exact absurd (by rw [show bd - i = 0 by omega]; rfl) c_10
          refine lv_aload_n hx hb d_M_store_21 rfl (lv_at hl 1 rfl) ?_
          refine lv_dup hx hb d_M_store_22 rfl ?_
          refine mx_get G h V.1 rfl 10 (by decide) (tb_in in_M) (tb_c k_322) rfl rfl d_M_store_23 ?_
          refine lv_iconst (v := 1) hx hb d_M_store_26 (by decide) ?_
          refine lv_isub hx hb d_M_store_27 ?_
          have et_11 : (nI (bd - i)) - 1 = nI (bd - (i + 1)) := by rw [nI_sub1 (by omega)]; congr 1
          rw [et_11]
          refine mx_put G h V.1 rfl 10 (by decide) (tb_in in_M) t_M t_M_ok n_M (tb_c k_322) rfl rfl rfl rfl rfl (Nat.le_of_ble_eq_true rfl) d_M_store_28 (fun H locs h => ?_)
          have h : mw_H n0 D cl s (mw_up v (q 0) (.inr (5, [.int (nI lim), .ref (q 1), .ref (q 2), .ref (q 3), .ref (q 4), .ref (q 5), .ref (q 6), .int (nI un), .int (nI sn), .int (nI (pg + i)), .int (nI (bd - (i + 1))), .ref (q 11), .ref (q 12), .ref (q 13), .ref (q 14), .ref (q 15), .int (nI cm), .ref (q 17), .ref (q 18), .ref (q 19), .int (nI cp), .int tk, .long rs]))) H locs := h
          obtain ⟨w_12, ew_12⟩ : ∃ xx : mw, mw_up v (q 0) (.inr (5, [.int (nI lim), .ref (q 1), .ref (q 2), .ref (q 3), .ref (q 4), .ref (q 5), .ref (q 6), .int (nI un), .int (nI sn), .int (nI (pg + i)), .int (nI (bd - (i + 1))), .ref (q 11), .ref (q 12), .ref (q 13), .ref (q 14), .ref (q 15), .int (nI cm), .ref (q 17), .ref (q 18), .ref (q 19), .int (nI cp), .int tk, .long rs])) = xx := ⟨_, rfl⟩
          rw [ew_12] at h
          have f_13 : w_12 (q 0) = some (.inr (5, [.int (nI lim), .ref (q 1), .ref (q 2), .ref (q 3), .ref (q 4), .ref (q 5), .ref (q 6), .int (nI un), .int (nI sn), .int (nI (pg + i)), .int (nI (bd - (i + 1))), .ref (q 11), .ref (q 12), .ref (q 13), .ref (q 14), .ref (q 15), .int (nI cm), .ref (q 17), .ref (q 18), .ref (q 19), .int (nI cp), .int tk, .long rs])) := by rw [← ew_12]; exact mw_self
          refine lv_aload_n hx hb d_M_store_31 rfl (lv_at hl 1 rfl) ?_
          refine lv_dup hx hb d_M_store_32 rfl ?_
          refine mx_get G h f_13 rfl 9 (by decide) (tb_in in_M) (tb_c k_321) rfl rfl d_M_store_33 ?_
          refine lv_iconst (v := 1) hx hb d_M_store_36 (by decide) ?_
          refine lv_iadd hx hb d_M_store_37 ?_
          have et_14 : (nI (pg + i)) + 1 = nI (pg + (i + 1)) := by rw [nI_1]; rfl
          rw [et_14]
          refine mx_put G h f_13 rfl 9 (by decide) (tb_in in_M) t_M t_M_ok n_M (tb_c k_321) rfl rfl rfl rfl rfl (Nat.le_of_ble_eq_true rfl) d_M_store_38 (fun H locs h => ?_)
          have h : mw_H n0 D cl s (mw_up w_12 (q 0) (.inr (5, [.int (nI lim), .ref (q 1), .ref (q 2), .ref (q 3), .ref (q 4), .ref (q 5), .ref (q 6), .int (nI un), .int (nI sn), .int (nI (pg + (i + 1))), .int (nI (bd - (i + 1))), .ref (q 11), .ref (q 12), .ref (q 13), .ref (q 14), .ref (q 15), .int (nI cm), .ref (q 17), .ref (q 18), .ref (q 19), .int (nI cp), .int tk, .long rs]))) H locs := h
          obtain ⟨w_15, ew_15⟩ : ∃ xx : mw, mw_up w_12 (q 0) (.inr (5, [.int (nI lim), .ref (q 1), .ref (q 2), .ref (q 3), .ref (q 4), .ref (q 5), .ref (q 6), .int (nI un), .int (nI sn), .int (nI (pg + (i + 1))), .int (nI (bd - (i + 1))), .ref (q 11), .ref (q 12), .ref (q 13), .ref (q 14), .ref (q 15), .int (nI cm), .ref (q 17), .ref (q 18), .ref (q 19), .int (nI cp), .int tk, .long rs])) = xx := ⟨_, rfl⟩
          rw [ew_15] at h
          have f_16 : w_15 (q 0) = some (.inr (5, [.int (nI lim), .ref (q 1), .ref (q 2), .ref (q 3), .ref (q 4), .ref (q 5), .ref (q 6), .int (nI un), .int (nI sn), .int (nI (pg + (i + 1))), .int (nI (bd - (i + 1))), .ref (q 11), .ref (q 12), .ref (q 13), .ref (q 14), .ref (q 15), .int (nI cm), .ref (q 17), .ref (q 18), .ref (q 19), .int (nI cp), .int tk, .long rs])) := by rw [← ew_15]; exact mw_self
          refine lv_iinc (v := (nI i) + 1) (lv' := [(2, .int ((nI i) + 1)), (0, .ref (q 0)), (1, .int y)]) hx hb d_M_store_41 hl (k := 0) rfl rfl (by decide) rfl (fun ls hl => ?_)
          refine lv_goto (tgt := 2) hx hb d_M_store_44 (by decide) ?_
          rw [nI_1] at hl
          have q1 : mw_up v (q 0) (mcell q lim un sn (pg + (i + 1)) (bd - (i + 1)) cm cp tk rs) = w_15 := by rw [← ew_15, ← ew_12, mw_uu]
          exact ih (i + 1) (by omega) (by omega) _ (by rw [← q1]; exact V.put0 un sn (pg + (i + 1)) (bd - (i + 1)) cm cp tk rs) (hfr.tr (by rw [← q1]; exact FQ r0)) H locs ls h (lv_sub hl [0, 1, 2] rfl)
        · refine lv_iconst (v := 0) hx hb d_M_store_19 (by decide) ?_
          have hib2 : i = bd := by
            rcases Nat.lt_or_ge i bd with z | z
            · exact absurd c_10 (nI_ne0 (by omega) (by omega))
            · omega
          exact mx_retz G h hrt hlocks d_M_store_20 rfl (⟨fun z => absurd z (by omega), fun _ => ⟨rfl, by rw [hib2, Nat.sub_self] at V; exact V, hfr⟩⟩)
  exact loop ln 0 (by omega) (Nat.zero_le _) w X FR.rf _ _ ls h (lv_sub hl [0, 1, 2] rfl)
theorem liveN_pre (F : Nat → Nat → Int32) (n : Nat) : ∀ t : Nat, ∃ r, liveN F (n + t) = liveN F n ++ r
  | 0 => ⟨[], by simp⟩
  | t + 1 => by
    obtain ⟨r, hr⟩ := liveN_pre F n t
    rw [show n + (t + 1) = n + t + 1 by omega, liveN_s]
    split
    · exact ⟨r, hr⟩
    · exact ⟨r ++ [n + t], by rw [hr, List.append_assoc]⟩
set_option maxHeartbeats 4000000 in
set_option maxRecDepth 100000 in
theorem m_M_storeOldest {l : Launch} {D : va_G} {cA : Nat → ClassId} {n0 : Nat} {w : mw} {ρ q : Nat → Nat} {lim un cm cp : Nat} {tk : Int32} {rs : Int64} {F : Nat → Nat → Int32} {R : Nat → Int64} {fl : Nat → Int64} {us : List uU} {sn pg bd : Nat} (Y : MC cA w ρ q lim un cm cp tk rs F R (fl, us, sn, pg, bd)) (hcm : cm ≤ 512) (hcp : cp ≤ 512) (hbd : bd < 1000) :
    Mi l D cA n0 y_M_storeOldest c_M_storeOldest (rmd 1) [.ref (q 0)] w (fun r w' => r = bI ((stoO (fl, us, sn, pg, bd)).1 = true) ∧ ∃ F', MC cA w' ρ q lim un cm cp tk rs F' R (stoO (fl, us, sn, pg, bd)).2 ∧ SF F F' ∧ FR w w' (P7 ρ)) := by
  refine mw_met (cc := b_M_storeOldest) (maxL := 2) (ret := (some .boolean)) (by decide) rfl (Nat.le_of_ble_eq_true rfl) ?_
  intro p e s m below meth c ls G hrt hlocks hname h hl
  have G : mw_G p m c b_M_storeOldest 2 s _ (c_M_storeOldest :: TB) R_M D cl (tys cA) n0 := G
  have hx := G.1.1
  have hb := G.1.2.1
  have hl : lv_has ls 2 [(0, .ref (q 0))] := hl
  obtain ⟨X, hG⟩ := id Y
  have X : MX cA w ρ q lim un sn pg bd cm cp tk rs F R := X
  have hG : LG F un sn fl us := hG
  have hun := hG.2.2.2.2.2.2
  refine lv_iconst (v := 0) hx hb d_M_storeOldest_0 (by decide) ?_
  refine lv_istore_n (lv' := [(1, .int 0), (0, .ref (q 0))]) hx hb d_M_storeOldest_1 rfl hl (by decide) rfl (fun ls hl => ?_)
  have loop : ∀ (t k : Nat), k + t = un → liveN F k = [] → ∀ (H : Heap) (locs : List Loc) (ls : Array Slot), mw_H n0 D cl s w H locs → lv_has ls 2 [(1, .int (nI k)), (0, .ref (q 0))] → W p l e (rmd 1) s m ([.ref (q 0)] : List Value).toArray below meth c H locs 0 0 (MQ below (mw_Qi n0 D cl (fun r w' => r = bI ((stoO (fl, us, sn, pg, bd)).1 = true) ∧ ∃ F', MC cA w' ρ q lim un cm cp tk rs F' R (stoO (fl, us, sn, pg, bd)).2 ∧ SF F F' ∧ FR w w' (P7 ρ))) ([.ref (q 0)] : List Value).toArray s 0 0 (mw_A n0)) (F0 m 2 ls []) := by
    intro t
    induction t with
    | zero =>
      intro k hk hlv H locs ls h hl
      have hk : k = un := hk
      refine lv_iload_n hx hb d_M_storeOldest_2 rfl (lv_at hl 0 rfl) ?_
      refine lv_aload_n hx hb d_M_storeOldest_3 rfl (lv_at hl 1 rfl) ?_
      refine mx_get G h X.1 rfl 7 (by decide) (tb_in in_M) (tb_c k_319) rfl rfl d_M_storeOldest_4 ?_
      refine lv_icmp_ge (tgt := 31) hx hb d_M_storeOldest_7 (by decide) (fun c_1 => ?_) (fun c_1 => ?_)
      · refine lv_iconst (v := 1) hx hb d_M_storeOldest_31 (by decide) ?_
        have hus : us = [] := by rw [hG.1, ← hk, hlv]; rfl
        subst hus
        exact mx_retz G h hrt hlocks d_M_storeOldest_32 rfl (⟨rfl, F, Y, SF.rf, FR.rf⟩)
      · exact absurd (by rw [hk]; exact Int32.le_refl _) c_1
    | succ t ih =>
      intro k hk hlv H locs ls h hl
      refine lv_iload_n hx hb d_M_storeOldest_2 rfl (lv_at hl 0 rfl) ?_
      refine lv_aload_n hx hb d_M_storeOldest_3 rfl (lv_at hl 1 rfl) ?_
      refine mx_get G h X.1 rfl 7 (by decide) (tb_in in_M) (tb_c k_319) rfl rfl d_M_storeOldest_4 ?_
      refine lv_icmp_ge (tgt := 31) hx hb d_M_storeOldest_7 (by decide) (fun c_2 => ?_) (fun c_2 => ?_)
      · exact absurd ((nI_leI (by omega) (by omega)).mp c_2) (by omega)
      · refine lv_aload_n hx hb d_M_storeOldest_10 rfl (lv_at hl 1 rfl) ?_
        refine mx_get G h X.1 rfl 6 (by decide) (tb_in in_M) (tb_c k_318) rfl rfl d_M_storeOldest_11 ?_
        refine lv_iload_n hx hb d_M_storeOldest_14 rfl (lv_at hl 0 rfl) ?_
        refine ax_z G h (X.2.2.1 6 (by decide)) k rfl (by omega) (by decide) d_M_storeOldest_15 ?_
        refine lv_if_eq (tgt := 25) hx hb d_M_storeOldest_16 (by decide) (fun c_3 => ?_) (fun c_3 => ?_)
        · refine lv_iinc (v := (nI k) + 1) (lv' := [(1, .int ((nI k) + 1)), (0, .ref (q 0))]) hx hb d_M_storeOldest_25 hl (k := 0) rfl rfl (by decide) rfl (fun ls hl => ?_)
          refine lv_goto (tgt := 2) hx hb d_M_storeOldest_28 (by decide) ?_
          rw [nI_1] at hl
          exact ih (k + 1) (by omega) (by rw [liveN_s, if_pos c_3]; exact hlv) H locs ls h (lv_sub hl [0, 1] rfl)
        · obtain ⟨rr, hrr⟩ := liveN_pre F (k + 1) t
          have hlv2 : liveN F un = k :: rr := by rw [show un = k + 1 + t by omega, hrr, liveN_s, if_neg c_3, hlv]; rfl
          have hus : us = uN F k :: rr.map (uN F) := by rw [hG.1, hlv2]; rfl
          have hVk := hG.2.2.1 k (by omega)
          refine lv_aload_n hx hb d_M_storeOldest_19 rfl (lv_at hl 1 rfl) ?_
          refine lv_iload_n hx hb d_M_storeOldest_20 rfl (lv_at hl 0 rfl) ?_
          refine mx_ci (cV (As := [.int (nI k)]) (rest := []) G h (m_M_store X (u := k) (by omega) hVk hbd rfl) k_446 k_448 ks_26 k_7 k_449 hd_M_store rfl rfl ⟨Nat.le_of_ble_eq_true rfl, Nat.le_of_ble_eq_true rfl⟩ X.1 rfl rfl hl.1 rfl (Nat.le_of_ble_eq_true rfl) d_M_storeOldest_21 ⟨Nat.le_of_ble_eq_true rfl, Nat.le_of_ble_eq_true rfl⟩) h (fun r_5 w_4 H locs h hcp1 => ?_)
          rcases Nat.lt_or_ge bd (lnU (uN F k)) with hlt | hge
          · obtain ⟨er, X1, hf1⟩ := hcp1.2 hlt
            subst er
            have e9 : stoO (fl, us, sn, pg, bd) = (false, (fl, us, sn, pg + bd, 0)) := by rw [hus]; exact stoO_f hlt
            exact mx_retz G h hrt hlocks d_M_storeOldest_24 rfl (by rw [e9]; exact ⟨rfl, F, ⟨X1, hG⟩, SF.rf, hf1⟩)
          · obtain ⟨er, X1, hf1⟩ := hcp1.1 hge
            subst er
            have e9 : stoO (fl, us, sn, pg, bd) = (true, (apU (uN F k) (lnU (uN F k)) fl, rr.map (uN F), sn + 1, pg + lnU (uN F k), bd - lnU (uN F k))) := by rw [hus]; exact stoO_t hge
            have hln : sn + 1 + (rr.map (uN F)).length ≤ un := by have := hG.2.2.2.2.2.1; rw [hlv2] at this; rw [List.length_map]; simp at this; omega
            exact mx_retz G h hrt hlocks d_M_storeOldest_24 rfl (by rw [e9]; exact ⟨rfl, _, ⟨X1, hG.store (by omega) hln (by rw [liveN_hd hlv2])⟩, SF.st, hf1⟩)
  exact loop un 0 (by omega) rfl _ _ ls h (lv_sub hl [0, 1] rfl)
set_option maxHeartbeats 4000000 in
set_option maxRecDepth 100000 in
theorem m_M_empty {l : Launch} {D : va_G} {cA : Nat → ClassId} {n0 : Nat} {w : mw} {ρ q : Nat → Nat} {lim un cm cp : Nat} {tk : Int32} {rs : Int64} {F : Nat → Nat → Int32} {R : Nat → Int64} {fl : Nat → Int64} {us : List uU} {sn pg bd : Nat} (Y : MC cA w ρ q lim un cm cp tk rs F R (fl, us, sn, pg, bd)) (hcm : cm ≤ 512) (hcp : cp ≤ 512) (hbd : bd < 1000) :
    Mi l D cA n0 y_M_empty c_M_empty (rmd 2) [.ref (q 0)] w (fun r w' => r = bI ((empK (fl, us, sn, pg, bd)).1 = true) ∧ ∃ F', MC cA w' ρ q lim un cm cp tk rs F' R (empK (fl, us, sn, pg, bd)).2 ∧ SF F F' ∧ FR w w' (P7 ρ)) := by
  refine mw_met (cc := b_M_empty) (maxL := 2) (ret := (some .boolean)) (by decide) rfl (Nat.le_of_ble_eq_true rfl) ?_
  intro p e s m below meth c ls G hrt hlocks hname h hl
  have G : mw_G p m c b_M_empty 2 s _ (c_M_empty :: TB) R_M D cl (tys cA) n0 := G
  have hx := G.1.1
  have hb := G.1.2.1
  have hl : lv_has ls 2 [(0, .ref (q 0))] := hl
  have hG := Y.2
  have hun := hG.2.2.2.2.2.2
  refine lv_iconst (v := 1) hx hb d_M_empty_0 (by decide) ?_
  refine lv_istore_n (lv' := [(1, .int 1), (0, .ref (q 0))]) hx hb d_M_empty_1 rfl hl (by decide) rfl (fun ls hl => ?_)
  have loop : ∀ (vs : List uU) (gl : Nat → Int64) (s1 p1 b1 : Nat) (E : Nat → Nat → Int32) (v : mw), b1 < 1000 → MC cA v ρ q lim un cm cp tk rs E R (gl, vs, s1, p1, b1) → SF F E → FR w v (P7 ρ) → empA vs gl s1 p1 b1 = empA us fl sn pg bd → ∀ (H : Heap) (locs : List Loc) (ls : Array Slot), mw_H n0 D cl s v H locs → lv_has ls 2 [(1, .int 1), (0, .ref (q 0))] → W p l e (rmd 2) s m ([.ref (q 0)] : List Value).toArray below meth c H locs 0 0 (MQ below (mw_Qi n0 D cl (fun r w' => r = bI ((empK (fl, us, sn, pg, bd)).1 = true) ∧ ∃ F', MC cA w' ρ q lim un cm cp tk rs F' R (empK (fl, us, sn, pg, bd)).2 ∧ SF F F' ∧ FR w w' (P7 ρ))) ([.ref (q 0)] : List Value).toArray s 0 0 (mw_A n0)) (F0 m 2 ls []) := by
    intro vs
    induction vs with
    | nil =>
      intro gl s1 p1 b1 E v hb1 V hsf hfr he H locs ls h hl
      have hE0 : (liveN E un).length = 0 := by have := congrArg List.length V.2.1; simp at this; omega
      refine lv_iload_n hx hb d_M_empty_2 rfl (lv_at hl 0 rfl) ?_
      refine lv_if_eq (tgt := 21) hx hb d_M_empty_3 (by decide) (fun c_1 => ?_) (fun c_1 => ?_)
      · exact absurd c_1 (by decide)
      · refine lv_aload_n hx hb d_M_empty_6 rfl (lv_at hl 1 rfl) ?_
        refine mx_ci (cV (As := []) (rest := []) G h (m_M_inCache V.1 hun hcm hcp) k_434 k_436 ks_23 k_7 k_437 hd_M_inCache rfl rfl ⟨Nat.le_of_ble_eq_true rfl, Nat.le_of_ble_eq_true rfl⟩ V.1.1 rfl rfl hl.1 rfl (Nat.le_of_ble_eq_true rfl) d_M_empty_7 ⟨Nat.le_of_ble_eq_true rfl, Nat.le_of_ble_eq_true rfl⟩) h (fun r_3 w_2 H locs h hcp1 => ?_)
        obtain ⟨er_4, ew_5⟩ := hcp1
        subst er_4
        rw [ew_5] at h
        refine lv_if_le (tgt := 21) hx hb d_M_empty_10 (by decide) (fun c_6 => ?_) (fun c_6 => ?_)
        · refine lv_iload_n hx hb d_M_empty_21 rfl (lv_at hl 0 rfl) ?_
          exact mx_retz G h hrt hlocks d_M_empty_22 rfl (⟨by show 1 = bI ((empA us fl sn pg bd).1 = true); rw [← he]; rfl, E, by show MC cA v ρ q lim un cm cp tk rs E R (empA us fl sn pg bd).2; rw [← he]; exact V, hsf, hfr⟩)
        · exact absurd (by rw [hE0]; decide) c_6
    | cons u vs ih =>
      intro gl s1 p1 b1 E v hb1 V hsf hfr he H locs ls h hl
      have hEl := liveN_le E un
      have hE0 : 0 < (liveN E un).length := by have := congrArg List.length V.2.1; simp at this; omega
      refine lv_iload_n hx hb d_M_empty_2 rfl (lv_at hl 0 rfl) ?_
      refine lv_if_eq (tgt := 21) hx hb d_M_empty_3 (by decide) (fun c_7 => ?_) (fun c_7 => ?_)
      · exact absurd c_7 (by decide)
      · refine lv_aload_n hx hb d_M_empty_6 rfl (lv_at hl 1 rfl) ?_
        refine mx_ci (cV (As := []) (rest := []) G h (m_M_inCache V.1 hun hcm hcp) k_434 k_436 ks_23 k_7 k_437 hd_M_inCache rfl rfl ⟨Nat.le_of_ble_eq_true rfl, Nat.le_of_ble_eq_true rfl⟩ V.1.1 rfl rfl hl.1 rfl (Nat.le_of_ble_eq_true rfl) d_M_empty_7 ⟨Nat.le_of_ble_eq_true rfl, Nat.le_of_ble_eq_true rfl⟩) h (fun r_9 w_8 H locs h hcp1 => ?_)
        obtain ⟨er_10, ew_11⟩ := hcp1
        subst er_10
        rw [ew_11] at h
        refine lv_if_le (tgt := 21) hx hb d_M_empty_10 (by decide) (fun c_12 => ?_) (fun c_12 => ?_)
        · exact absurd c_12 (nI_nle hE0 (by omega))
        · refine lv_aload_n hx hb d_M_empty_13 rfl (lv_at hl 1 rfl) ?_
          refine mx_ci (cV (As := []) (rest := []) G h (m_M_storeOldest V hcm hcp hb1) k_442 k_444 ks_25 k_7 k_445 hd_M_storeOldest rfl rfl ⟨Nat.le_of_ble_eq_true rfl, Nat.le_of_ble_eq_true rfl⟩ V.1.1 rfl rfl hl.1 rfl (Nat.le_of_ble_eq_true rfl) d_M_empty_14 ⟨Nat.le_of_ble_eq_true rfl, Nat.le_of_ble_eq_true rfl⟩) h (fun r_14 w_13 H locs h hcp1 => ?_)
          obtain ⟨er, E1, V1, hsf1, hf1⟩ := hcp1
          rcases Nat.lt_or_ge b1 (lnU u) with hlt | hge
          · rw [stoO_f hlt] at er V1
            have er : r_14 = 0 := er
            subst er
            refine lv_istore_n (lv' := [(1, .int 0), (0, .ref (q 0))]) hx hb d_M_empty_17 rfl hl (by decide) rfl (fun ls hl => ?_)
            refine lv_goto (tgt := 2) hx hb d_M_empty_18 (by decide) ?_
            refine lv_iload_n hx hb d_M_empty_2 rfl (lv_at hl 0 rfl) ?_
            refine lv_if_eq (tgt := 21) hx hb d_M_empty_3 (by decide) (fun c_15 => ?_) (fun c_15 => ?_)
            · refine lv_iload_n hx hb d_M_empty_21 rfl (lv_at hl 0 rfl) ?_
              exact mx_retz G h hrt hlocks d_M_empty_22 rfl (⟨by show 0 = bI ((empA us fl sn pg bd).1 = true); rw [← he, empA_f hlt]; rfl, E1, by show MC cA _ ρ q lim un cm cp tk rs E1 R (empA us fl sn pg bd).2; rw [← he, empA_f hlt]; exact V1, hsf.tr hsf1, hfr.tr hf1⟩)
            · exact absurd rfl c_15
          · rw [stoO_t hge] at er V1
            have er : r_14 = 1 := er
            subst er
            refine lv_istore_n (lv' := [(1, .int 1), (0, .ref (q 0))]) hx hb d_M_empty_17 rfl hl (by decide) rfl (fun ls hl => ?_)
            refine lv_goto (tgt := 2) hx hb d_M_empty_18 (by decide) ?_
            exact ih _ _ _ _ E1 _ (by omega) V1 (hsf.tr hsf1) (hfr.tr hf1) (by rw [← he, empA_t hge]) H locs ls h (lv_sub hl [0, 1] rfl)
  exact loop us fl sn pg bd F w hbd Y SF.rf FR.rf rfl _ _ ls h (lv_sub hl [0, 1] rfl)
end
section
/-! A unit is made in the log -/
def mkF (F : Nat → Nat → Int32) (un c : Nat) : Nat → Nat → Int32 := va_up (va_up (va_up (va_up (va_up F 1 (upd (F 1) un (F 13 c))) 2 (upd (F 2) un (F 14 c))) 3 (upd (F 3) un (F 15 c))) 4 (upd (F 4) un (bI (F 12 c = 4)))) 5 (upd (F 5) un 0)
def cmdN (F : Nat → Nat → Int32) (c : Nat) : pC := (nI c, F 12 c, F 13 c, F 14 c, F 15 c)
theorem mkF_6 {F : Nat → Nat → Int32} {un c : Nat} : mkF F un c 6 = F 6 := by simp [mkF, va_up]
theorem mkF_5 {F : Nat → Nat → Int32} {un c v : Nat} : mkF F un c 5 v = if v = un then 0 else F 5 v := by simp [mkF, va_up, upd]
theorem mkF_new {F : Nat → Nat → Int32} {un c : Nat} : uN (mkF F un c) un = uof (cmdN F c) := by simp [uN, mkF, va_up, upd, uof, cmdN]; first | rfl | congr
theorem mkF_old {F : Nat → Nat → Int32} {un c v : Nat} (h : v ≠ un) : uN (mkF F un c) v = uN F v := by simp [uN, mkF, va_up, upd, h]
theorem mkF_SF {F : Nat → Nat → Int32} {un c : Nat} : SF F (mkF F un c) := fun i hi => by
  have h1 : i ≠ 1 := by omega
  have h2 : i ≠ 2 := by omega
  have h3 : i ≠ 3 := by omega
  have h4 : i ≠ 4 := by omega
  have h5 : i ≠ 5 := by omega
  simp [mkF, va_up, h1, h2, h3, h4, h5]
theorem LG.grow {F F' : Nat → Nat → Int32} {un sn : Nat} {fl : Nat → Int64} {us us' : List uU} {u : uU} (h : LG F un sn fl us) (hun : un + 1 ≤ 512) (hV : vU u) (ho : ∀ v, v < un → F' 5 v = F 5 v ∧ uN F' v = uN F v) (h6 : ∀ v, v ≠ un → F' 6 v = F 6 v) (hn5 : F' 5 un = 0) (hnu : uN F' un = u) (hus : us' = if F' 6 un = 0 then us else us ++ [u]) : LG F' (un + 1) sn fl us' := by
  obtain ⟨h1, h2, h3, h4, h5, h7, h8⟩ := h
  have hl : liveN F' un = liveN F un := liveN_congr (fun v hv => h6 v (by omega))
  have hm : (liveN F un).map (uN F') = (liveN F un).map (uN F) := List.map_congr_left (fun v hv => (ho v (liveN_mem.mp hv).1).2)
  refine ⟨?_, fun a ha => ?_, fun v hv => ?_, fun v hv => ?_, fun v hv => ?_, ?_, hun⟩
  · rw [hus, liveN_s, hl]
    split
    · rw [hm]; exact h1
    · rw [List.map_append, hm, ← h1, List.map_cons, List.map_nil, hnu]
  · rw [h2 a ha, inFl, inFl, bestN_k (fun z => absurd z.1 (by rw [hn5]; decide)), bestN_congr ho]
    cases hb : bestN F (nI a) un with
    | none => rfl
    | some b => show wrd (uN F b) (nI a) = wrd (uN F' b) (nI a); rw [(ho b (bestN_lt hb)).2]
  · by_cases e : v = un
    · rw [e, hnu]; exact hV
    · rw [(ho v (by omega)).2]; exact h3 v (by omega)
  · by_cases e : v = un
    · rw [e, hn5]; exact ⟨0, Nat.zero_le _, rfl⟩
    · rw [(ho v (by omega)).1]; exact h4 v (by omega)
  · rw [h6 v (by omega)]; exact h5 v (by omega)
  · rw [liveN_s, hl]
    split
    · omega
    · rw [List.length_append]; simp; omega
theorem LG.make {F : Nat → Nat → Int32} {un sn c : Nat} {fl : Nat → Int64} {us : List uU} (h : LG F un sn fl us) (hun : un + 1 ≤ 512) (hV : vU (uof (cmdN F c))) : LG (mkF F un c) (un + 1) sn fl us :=
  h.grow hun hV (fun v hv => ⟨by rw [mkF_5, if_neg (by omega)], mkF_old (by omega)⟩) (fun v _ => by rw [mkF_6]) (by rw [mkF_5, if_pos rfl]) mkF_new (by rw [mkF_6, if_pos (h.2.2.2.2.1 un (Nat.le_refl _))])
theorem LG.makeC {F : Nat → Nat → Int32} {un sn c : Nat} {fl : Nat → Int64} {us : List uU} (h : LG F un sn fl us) (hun : un + 1 ≤ 512) (hV : vU (uof (cmdN F c))) : LG (va_up (mkF F un c) 6 (upd (F 6) un 1)) (un + 1) sn fl (us ++ [uof (cmdN F c)]) := by
  have e5 : ∀ i, i ≠ 6 → va_up (mkF F un c) 6 (upd (F 6) un 1) i = mkF F un c i := fun i hi => by simp [va_up, hi]
  have e6 : va_up (mkF F un c) 6 (upd (F 6) un 1) 6 = upd (F 6) un 1 := by simp [va_up]
  have eu : ∀ v, uN (va_up (mkF F un c) 6 (upd (F 6) un 1)) v = uN (mkF F un c) v := fun v => by simp [uN, va_up]
  refine h.grow hun hV (fun v hv => ⟨by rw [e5 5 (by decide), mkF_5, if_neg (by omega)], by rw [eu]; exact mkF_old (by omega)⟩) (fun v hv => by rw [e6]; simp [upd, hv]) (by rw [e5 5 (by decide), mkF_5, if_pos rfl]) (by rw [eu]; exact mkF_new) ?_
  rw [e6, if_neg (by simp [upd])]
theorem LG.live_st {F : Nat → Nat → Int32} {un sn c : Nat} {fl : Nat → Int64} {us : List uU} {x : Int32} (h : LG F un sn fl us) : us = (liveN (stF (mkF F un c) un x) (un + 1)).map (uN (mkF F un c)) := by
  rw [liveN_st, liveN_s, mkF_6, if_pos (h.2.2.2.2.1 un (Nat.le_refl _)), h.1, liveN_congr (F' := mkF F un c) (F := F) (fun v _ => by rw [mkF_6])]
  rw [List.filter_eq_self.mpr (fun v hv => by have := (liveN_mem.mp hv).1; simp; omega)]
  exact List.map_congr_left (fun v hv => (mkF_old (by have := (liveN_mem.mp hv).1; omega)).symm)
theorem SF.up6 {F F' : Nat → Nat → Int32} {f : Nat → Int32} (h : SF F F') : SF F (va_up F' 6 f) := fun i hi => by
  have h6 : i ≠ 6 := by omega
  simp only [va_up, if_neg h6]
  exact h i hi
theorem cmdN_SF {F F' : Nat → Nat → Int32} {c : Nat} (h : SF F F') : cmdN F' c = cmdN F c := by
  simp only [cmdN, h 12 (by decide), h 13 (by decide), h 14 (by decide), h 15 (by decide)]
theorem d_M_make_0 : decode b_M_make 0 = .ok (.aload_n 0, 1) := by decide +kernel
theorem d_M_make_1 : decode b_M_make 1 = .ok (.getfield 7, 3) := by decide +kernel
theorem d_M_make_4 : decode b_M_make 4 = .ok (.aload_n 0, 1) := by decide +kernel
theorem d_M_make_5 : decode b_M_make 5 = .ok (.getfield 64, 3) := by decide +kernel
theorem d_M_make_8 : decode b_M_make 8 = .ok (.aload_n 0, 1) := by decide +kernel
theorem d_M_make_9 : decode b_M_make 9 = .ok (.getfield 35, 3) := by decide +kernel
theorem d_M_make_12 : decode b_M_make 12 = .ok (.iload_n 1, 1) := by decide +kernel
theorem d_M_make_13 : decode b_M_make 13 = .ok (.iaload, 1) := by decide +kernel
theorem d_M_make_14 : decode b_M_make 14 = .ok (.iastore, 1) := by decide +kernel
theorem d_M_make_15 : decode b_M_make 15 = .ok (.aload_n 0, 1) := by decide +kernel
theorem d_M_make_16 : decode b_M_make 16 = .ok (.getfield 13, 3) := by decide +kernel
theorem d_M_make_19 : decode b_M_make 19 = .ok (.aload_n 0, 1) := by decide +kernel
theorem d_M_make_20 : decode b_M_make 20 = .ok (.getfield 64, 3) := by decide +kernel
theorem d_M_make_23 : decode b_M_make 23 = .ok (.aload_n 0, 1) := by decide +kernel
theorem d_M_make_24 : decode b_M_make 24 = .ok (.getfield 38, 3) := by decide +kernel
theorem d_M_make_27 : decode b_M_make 27 = .ok (.iload_n 1, 1) := by decide +kernel
theorem d_M_make_28 : decode b_M_make 28 = .ok (.iaload, 1) := by decide +kernel
theorem d_M_make_29 : decode b_M_make 29 = .ok (.iastore, 1) := by decide +kernel
theorem d_M_make_30 : decode b_M_make 30 = .ok (.aload_n 0, 1) := by decide +kernel
theorem d_M_make_31 : decode b_M_make 31 = .ok (.getfield 16, 3) := by decide +kernel
theorem d_M_make_34 : decode b_M_make 34 = .ok (.aload_n 0, 1) := by decide +kernel
theorem d_M_make_35 : decode b_M_make 35 = .ok (.getfield 64, 3) := by decide +kernel
theorem d_M_make_38 : decode b_M_make 38 = .ok (.aload_n 0, 1) := by decide +kernel
theorem d_M_make_39 : decode b_M_make 39 = .ok (.getfield 41, 3) := by decide +kernel
theorem d_M_make_42 : decode b_M_make 42 = .ok (.iload_n 1, 1) := by decide +kernel
theorem d_M_make_43 : decode b_M_make 43 = .ok (.iaload, 1) := by decide +kernel
theorem d_M_make_44 : decode b_M_make 44 = .ok (.iastore, 1) := by decide +kernel
theorem d_M_make_45 : decode b_M_make 45 = .ok (.aload_n 0, 1) := by decide +kernel
theorem d_M_make_46 : decode b_M_make 46 = .ok (.getfield 19, 3) := by decide +kernel
theorem d_M_make_49 : decode b_M_make 49 = .ok (.aload_n 0, 1) := by decide +kernel
theorem d_M_make_50 : decode b_M_make 50 = .ok (.getfield 64, 3) := by decide +kernel
theorem d_M_make_53 : decode b_M_make 53 = .ok (.aload_n 0, 1) := by decide +kernel
theorem d_M_make_54 : decode b_M_make 54 = .ok (.getfield 32, 3) := by decide +kernel
theorem d_M_make_57 : decode b_M_make 57 = .ok (.iload_n 1, 1) := by decide +kernel
theorem d_M_make_58 : decode b_M_make 58 = .ok (.iaload, 1) := by decide +kernel
theorem d_M_make_59 : decode b_M_make 59 = .ok (.iconst 4, 1) := by decide +kernel
theorem d_M_make_60 : decode b_M_make 60 = .ok (.if_icmp .ne 7, 3) := by decide +kernel
theorem d_M_make_63 : decode b_M_make 63 = .ok (.iconst 1, 1) := by decide +kernel
theorem d_M_make_64 : decode b_M_make 64 = .ok (.goto 4, 3) := by decide +kernel
theorem d_M_make_67 : decode b_M_make 67 = .ok (.iconst 0, 1) := by decide +kernel
theorem d_M_make_68 : decode b_M_make 68 = .ok (.bastore, 1) := by decide +kernel
theorem d_M_make_69 : decode b_M_make 69 = .ok (.aload_n 0, 1) := by decide +kernel
theorem d_M_make_70 : decode b_M_make 70 = .ok (.getfield 23, 3) := by decide +kernel
theorem d_M_make_73 : decode b_M_make 73 = .ok (.aload_n 0, 1) := by decide +kernel
theorem d_M_make_74 : decode b_M_make 74 = .ok (.getfield 64, 3) := by decide +kernel
theorem d_M_make_77 : decode b_M_make 77 = .ok (.iconst 0, 1) := by decide +kernel
theorem d_M_make_78 : decode b_M_make 78 = .ok (.iastore, 1) := by decide +kernel
theorem d_M_make_79 : decode b_M_make 79 = .ok (.aload_n 0, 1) := by decide +kernel
theorem d_M_make_80 : decode b_M_make 80 = .ok (.dup, 1) := by decide +kernel
theorem d_M_make_81 : decode b_M_make 81 = .ok (.getfield 64, 3) := by decide +kernel
theorem d_M_make_84 : decode b_M_make 84 = .ok (.iconst 1, 1) := by decide +kernel
theorem d_M_make_85 : decode b_M_make 85 = .ok (.iadd, 1) := by decide +kernel
theorem d_M_make_86 : decode b_M_make 86 = .ok (.putfield 64, 3) := by decide +kernel
theorem d_M_make_89 : decode b_M_make 89 = .ok (.aload_n 0, 1) := by decide +kernel
theorem d_M_make_90 : decode b_M_make 90 = .ok (.getfield 64, 3) := by decide +kernel
theorem d_M_make_93 : decode b_M_make 93 = .ok (.iconst 1, 1) := by decide +kernel
theorem d_M_make_94 : decode b_M_make 94 = .ok (.isub, 1) := by decide +kernel
theorem d_M_make_95 : decode b_M_make 95 = .ok (.ireturn, 1) := by decide +kernel
theorem d_M_total_0 : decode b_M_total 0 = .ok (.lconst 0, 1) := by decide +kernel
theorem d_M_total_1 : decode b_M_total 1 = .ok (.lstore_n 2, 1) := by decide +kernel
theorem d_M_total_2 : decode b_M_total 2 = .ok (.iconst 0, 1) := by decide +kernel
theorem d_M_total_3 : decode b_M_total 3 = .ok (.istore 4, 2) := by decide +kernel
theorem d_M_total_5 : decode b_M_total 5 = .ok (.iload 4, 2) := by decide +kernel
theorem d_M_total_7 : decode b_M_total 7 = .ok (.aload_n 0, 1) := by decide +kernel
theorem d_M_total_8 : decode b_M_total 8 = .ok (.getfield 38, 3) := by decide +kernel
theorem d_M_total_11 : decode b_M_total 11 = .ok (.iload_n 1, 1) := by decide +kernel
theorem d_M_total_12 : decode b_M_total 12 = .ok (.iaload, 1) := by decide +kernel
theorem d_M_total_13 : decode b_M_total 13 = .ok (.if_icmp .ge 38, 3) := by decide +kernel
theorem d_M_total_16 : decode b_M_total 16 = .ok (.aload_n 0, 1) := by decide +kernel
theorem d_M_total_17 : decode b_M_total 17 = .ok (.aload_n 0, 1) := by decide +kernel
theorem d_M_total_18 : decode b_M_total 18 = .ok (.getfield 35, 3) := by decide +kernel
theorem d_M_total_21 : decode b_M_total 21 = .ok (.iload_n 1, 1) := by decide +kernel
theorem d_M_total_22 : decode b_M_total 22 = .ok (.iaload, 1) := by decide +kernel
theorem d_M_total_23 : decode b_M_total 23 = .ok (.iload 4, 2) := by decide +kernel
theorem d_M_total_25 : decode b_M_total 25 = .ok (.iadd, 1) := by decide +kernel
theorem d_M_total_26 : decode b_M_total 26 = .ok (.invokevirtual 100, 3) := by decide +kernel
theorem d_M_total_29 : decode b_M_total 29 = .ok (.lstore 5, 2) := by decide +kernel
theorem d_M_total_31 : decode b_M_total 31 = .ok (.lload 5, 2) := by decide +kernel
theorem d_M_total_33 : decode b_M_total 33 = .ok (.ldc2_w 54, 3) := by decide +kernel
theorem d_M_total_36 : decode b_M_total 36 = .ok (.lcmp, 1) := by decide +kernel
theorem d_M_total_37 : decode b_M_total 37 = .ok (.ifCond .eq 8, 3) := by decide +kernel
theorem d_M_total_40 : decode b_M_total 40 = .ok (.lload_n 2, 1) := by decide +kernel
theorem d_M_total_41 : decode b_M_total 41 = .ok (.lload 5, 2) := by decide +kernel
theorem d_M_total_43 : decode b_M_total 43 = .ok (.ladd, 1) := by decide +kernel
theorem d_M_total_44 : decode b_M_total 44 = .ok (.lstore_n 2, 1) := by decide +kernel
theorem d_M_total_45 : decode b_M_total 45 = .ok (.iinc 4 1, 3) := by decide +kernel
theorem d_M_total_48 : decode b_M_total 48 = .ok (.goto (-43), 3) := by decide +kernel
theorem d_M_total_51 : decode b_M_total 51 = .ok (.lload_n 2, 1) := by decide +kernel
theorem d_M_total_52 : decode b_M_total 52 = .ok (.lreturn, 1) := by decide +kernel
theorem d_M_differing_0 : decode b_M_differing 0 = .ok (.iconst 0, 1) := by decide +kernel
theorem d_M_differing_1 : decode b_M_differing 1 = .ok (.istore_n 2, 1) := by decide +kernel
theorem d_M_differing_2 : decode b_M_differing 2 = .ok (.iconst 0, 1) := by decide +kernel
theorem d_M_differing_3 : decode b_M_differing 3 = .ok (.istore_n 3, 1) := by decide +kernel
theorem d_M_differing_4 : decode b_M_differing 4 = .ok (.iload_n 3, 1) := by decide +kernel
theorem d_M_differing_5 : decode b_M_differing 5 = .ok (.aload_n 0, 1) := by decide +kernel
theorem d_M_differing_6 : decode b_M_differing 6 = .ok (.getfield 38, 3) := by decide +kernel
theorem d_M_differing_9 : decode b_M_differing 9 = .ok (.iload_n 1, 1) := by decide +kernel
theorem d_M_differing_10 : decode b_M_differing 10 = .ok (.iaload, 1) := by decide +kernel
theorem d_M_differing_11 : decode b_M_differing 11 = .ok (.if_icmp .ge 37, 3) := by decide +kernel
theorem d_M_differing_14 : decode b_M_differing 14 = .ok (.aload_n 0, 1) := by decide +kernel
theorem d_M_differing_15 : decode b_M_differing 15 = .ok (.aload_n 0, 1) := by decide +kernel
theorem d_M_differing_16 : decode b_M_differing 16 = .ok (.getfield 35, 3) := by decide +kernel
theorem d_M_differing_19 : decode b_M_differing 19 = .ok (.iload_n 1, 1) := by decide +kernel
theorem d_M_differing_20 : decode b_M_differing 20 = .ok (.iaload, 1) := by decide +kernel
theorem d_M_differing_21 : decode b_M_differing 21 = .ok (.iload_n 3, 1) := by decide +kernel
theorem d_M_differing_22 : decode b_M_differing 22 = .ok (.iadd, 1) := by decide +kernel
theorem d_M_differing_23 : decode b_M_differing 23 = .ok (.invokevirtual 100, 3) := by decide +kernel
theorem d_M_differing_26 : decode b_M_differing 26 = .ok (.aload_n 0, 1) := by decide +kernel
theorem d_M_differing_27 : decode b_M_differing 27 = .ok (.getfield 41, 3) := by decide +kernel
theorem d_M_differing_30 : decode b_M_differing 30 = .ok (.iload_n 1, 1) := by decide +kernel
theorem d_M_differing_31 : decode b_M_differing 31 = .ok (.iaload, 1) := by decide +kernel
theorem d_M_differing_32 : decode b_M_differing 32 = .ok (.iload_n 3, 1) := by decide +kernel
theorem d_M_differing_33 : decode b_M_differing 33 = .ok (.iadd, 1) := by decide +kernel
theorem d_M_differing_34 : decode b_M_differing 34 = .ok (.i2l, 1) := by decide +kernel
theorem d_M_differing_35 : decode b_M_differing 35 = .ok (.lcmp, 1) := by decide +kernel
theorem d_M_differing_36 : decode b_M_differing 36 = .ok (.ifCond .eq 6, 3) := by decide +kernel
theorem d_M_differing_39 : decode b_M_differing 39 = .ok (.iinc 2 1, 3) := by decide +kernel
theorem d_M_differing_42 : decode b_M_differing 42 = .ok (.iinc 3 1, 3) := by decide +kernel
theorem d_M_differing_45 : decode b_M_differing 45 = .ok (.goto (-41), 3) := by decide +kernel
theorem d_M_differing_48 : decode b_M_differing 48 = .ok (.iload_n 2, 1) := by decide +kernel
theorem d_M_differing_49 : decode b_M_differing 49 = .ok (.ireturn, 1) := by decide +kernel
theorem d_M_work_0 : decode b_M_work 0 = .ok (.aload_n 0, 1) := by decide +kernel
theorem d_M_work_1 : decode b_M_work 1 = .ok (.getfield 32, 3) := by decide +kernel
theorem d_M_work_4 : decode b_M_work 4 = .ok (.iload_n 1, 1) := by decide +kernel
theorem d_M_work_5 : decode b_M_work 5 = .ok (.iaload, 1) := by decide +kernel
theorem d_M_work_6 : decode b_M_work 6 = .ok (.ifCond .ne 9, 3) := by decide +kernel
theorem d_M_work_9 : decode b_M_work 9 = .ok (.aload_n 0, 1) := by decide +kernel
theorem d_M_work_10 : decode b_M_work 10 = .ok (.iload_n 1, 1) := by decide +kernel
theorem d_M_work_11 : decode b_M_work 11 = .ok (.invokevirtual 103, 3) := by decide +kernel
theorem d_M_work_14 : decode b_M_work 14 = .ok (.lreturn, 1) := by decide +kernel
theorem d_M_work_15 : decode b_M_work 15 = .ok (.aload_n 0, 1) := by decide +kernel
theorem d_M_work_16 : decode b_M_work 16 = .ok (.getfield 32, 3) := by decide +kernel
theorem d_M_work_19 : decode b_M_work 19 = .ok (.iload_n 1, 1) := by decide +kernel
theorem d_M_work_20 : decode b_M_work 20 = .ok (.iaload, 1) := by decide +kernel
theorem d_M_work_21 : decode b_M_work 21 = .ok (.iconst 5, 1) := by decide +kernel
theorem d_M_work_22 : decode b_M_work 22 = .ok (.if_icmp .ne 10, 3) := by decide +kernel
theorem d_M_work_25 : decode b_M_work 25 = .ok (.aload_n 0, 1) := by decide +kernel
theorem d_M_work_26 : decode b_M_work 26 = .ok (.iload_n 1, 1) := by decide +kernel
theorem d_M_work_27 : decode b_M_work 27 = .ok (.invokevirtual 106, 3) := by decide +kernel
theorem d_M_work_30 : decode b_M_work 30 = .ok (.i2l, 1) := by decide +kernel
theorem d_M_work_31 : decode b_M_work 31 = .ok (.lreturn, 1) := by decide +kernel
theorem d_M_work_32 : decode b_M_work 32 = .ok (.aload_n 0, 1) := by decide +kernel
theorem d_M_work_33 : decode b_M_work 33 = .ok (.getfield 32, 3) := by decide +kernel
theorem d_M_work_36 : decode b_M_work 36 = .ok (.iload_n 1, 1) := by decide +kernel
theorem d_M_work_37 : decode b_M_work 37 = .ok (.iaload, 1) := by decide +kernel
theorem d_M_work_38 : decode b_M_work 38 = .ok (.iconst 3, 1) := by decide +kernel
theorem d_M_work_39 : decode b_M_work 39 = .ok (.if_icmp .ne 16, 3) := by decide +kernel
theorem d_M_work_42 : decode b_M_work 42 = .ok (.aload_n 0, 1) := by decide +kernel
theorem d_M_work_43 : decode b_M_work 43 = .ok (.invokevirtual 92, 3) := by decide +kernel
theorem d_M_work_46 : decode b_M_work 46 = .ok (.istore_n 2, 1) := by decide +kernel
theorem d_M_work_47 : decode b_M_work 47 = .ok (.aload_n 0, 1) := by decide +kernel
theorem d_M_work_48 : decode b_M_work 48 = .ok (.invokevirtual 110, 3) := by decide +kernel
theorem d_M_work_51 : decode b_M_work 51 = .ok (.istore_n 3, 1) := by decide +kernel
theorem d_M_work_52 : decode b_M_work 52 = .ok (.iload_n 2, 1) := by decide +kernel
theorem d_M_work_53 : decode b_M_work 53 = .ok (.i2l, 1) := by decide +kernel
theorem d_M_work_54 : decode b_M_work 54 = .ok (.lreturn, 1) := by decide +kernel
theorem d_M_work_55 : decode b_M_work 55 = .ok (.aload_n 0, 1) := by decide +kernel
theorem d_M_work_56 : decode b_M_work 56 = .ok (.getfield 32, 3) := by decide +kernel
theorem d_M_work_59 : decode b_M_work 59 = .ok (.iload_n 1, 1) := by decide +kernel
theorem d_M_work_60 : decode b_M_work 60 = .ok (.iaload, 1) := by decide +kernel
theorem d_M_work_61 : decode b_M_work 61 = .ok (.iconst 2, 1) := by decide +kernel
theorem d_M_work_62 : decode b_M_work 62 = .ok (.if_icmp .ne 10, 3) := by decide +kernel
theorem d_M_work_65 : decode b_M_work 65 = .ok (.aload_n 0, 1) := by decide +kernel
theorem d_M_work_66 : decode b_M_work 66 = .ok (.invokevirtual 110, 3) := by decide +kernel
theorem d_M_work_69 : decode b_M_work 69 = .ok (.goto 26, 3) := by decide +kernel
theorem d_M_work_72 : decode b_M_work 72 = .ok (.aload_n 0, 1) := by decide +kernel
theorem d_M_work_73 : decode b_M_work 73 = .ok (.invokevirtual 92, 3) := by decide +kernel
theorem d_M_work_76 : decode b_M_work 76 = .ok (.aload_n 0, 1) := by decide +kernel
theorem d_M_work_77 : decode b_M_work 77 = .ok (.getfield 60, 3) := by decide +kernel
theorem d_M_work_80 : decode b_M_work 80 = .ok (.if_icmp .lt 10, 3) := by decide +kernel
theorem d_M_work_83 : decode b_M_work 83 = .ok (.aload_n 0, 1) := by decide +kernel
theorem d_M_work_84 : decode b_M_work 84 = .ok (.invokevirtual 96, 3) := by decide +kernel
theorem d_M_work_87 : decode b_M_work 87 = .ok (.ifCond .eq 7, 3) := by decide +kernel
theorem d_M_work_90 : decode b_M_work 90 = .ok (.iconst 1, 1) := by decide +kernel
theorem d_M_work_91 : decode b_M_work 91 = .ok (.goto 4, 3) := by decide +kernel
theorem d_M_work_94 : decode b_M_work 94 = .ok (.iconst 0, 1) := by decide +kernel
theorem d_M_work_95 : decode b_M_work 95 = .ok (.istore_n 2, 1) := by decide +kernel
theorem d_M_work_96 : decode b_M_work 96 = .ok (.iload_n 2, 1) := by decide +kernel
theorem d_M_work_97 : decode b_M_work 97 = .ok (.ifCond .ne 5, 3) := by decide +kernel
theorem d_M_work_100 : decode b_M_work 100 = .ok (.lconst 0, 1) := by decide +kernel
theorem d_M_work_101 : decode b_M_work 101 = .ok (.lreturn, 1) := by decide +kernel
theorem d_M_work_102 : decode b_M_work 102 = .ok (.aload_n 0, 1) := by decide +kernel
theorem d_M_work_103 : decode b_M_work 103 = .ok (.iload_n 1, 1) := by decide +kernel
theorem d_M_work_104 : decode b_M_work 104 = .ok (.invokevirtual 113, 3) := by decide +kernel
theorem d_M_work_107 : decode b_M_work 107 = .ok (.istore_n 3, 1) := by decide +kernel
theorem d_M_work_108 : decode b_M_work 108 = .ok (.aload_n 0, 1) := by decide +kernel
theorem d_M_work_109 : decode b_M_work 109 = .ok (.getfield 32, 3) := by decide +kernel
theorem d_M_work_112 : decode b_M_work 112 = .ok (.iload_n 1, 1) := by decide +kernel
theorem d_M_work_113 : decode b_M_work 113 = .ok (.iaload, 1) := by decide +kernel
theorem d_M_work_114 : decode b_M_work 114 = .ok (.iconst 2, 1) := by decide +kernel
theorem d_M_work_115 : decode b_M_work 115 = .ok (.if_icmp .ne 12, 3) := by decide +kernel
theorem d_M_work_118 : decode b_M_work 118 = .ok (.aload_n 0, 1) := by decide +kernel
theorem d_M_work_119 : decode b_M_work 119 = .ok (.iload_n 3, 1) := by decide +kernel
theorem d_M_work_120 : decode b_M_work 120 = .ok (.invokevirtual 88, 3) := by decide +kernel
theorem d_M_work_123 : decode b_M_work 123 = .ok (.istore_n 2, 1) := by decide +kernel
theorem d_M_work_124 : decode b_M_work 124 = .ok (.goto 10, 3) := by decide +kernel
theorem d_M_work_127 : decode b_M_work 127 = .ok (.aload_n 0, 1) := by decide +kernel
theorem d_M_work_128 : decode b_M_work 128 = .ok (.getfield 26, 3) := by decide +kernel
theorem d_M_work_131 : decode b_M_work 131 = .ok (.iload_n 3, 1) := by decide +kernel
theorem d_M_work_132 : decode b_M_work 132 = .ok (.iconst 1, 1) := by decide +kernel
theorem d_M_work_133 : decode b_M_work 133 = .ok (.bastore, 1) := by decide +kernel
theorem d_M_work_134 : decode b_M_work 134 = .ok (.lconst 0, 1) := by decide +kernel
theorem d_M_work_135 : decode b_M_work 135 = .ok (.lreturn, 1) := by decide +kernel
set_option maxHeartbeats 4000000 in
set_option maxRecDepth 100000 in
theorem m_M_make {l : Launch} {D : va_G} {cA : Nat → ClassId} {n0 : Nat} {w : mw} {ρ q : Nat → Nat} {lim un sn pg bd cm cp : Nat} {tk : Int32} {rs : Int64} {F : Nat → Nat → Int32} {R : Nat → Int64} (X : MX cA w ρ q lim un sn pg bd cm cp tk rs F R) {ci : Nat} (hu : ci < 520) (hun : un < 520) {y : Int32} (hyu : y = nI ci) :
    Mi l D cA n0 y_M_make c_M_make (rmd 0) [.ref (q 0), .int y] w (fun r w' => r = nI un ∧ MX cA w' ρ q lim (un + 1) sn pg bd cm cp tk rs (mkF F un ci) R ∧ FR w w' (P7 ρ)) := by
  refine mw_met (cc := b_M_make) (maxL := 2) (ret := (some .int)) (by decide) rfl (Nat.le_of_ble_eq_true rfl) ?_
  intro p e s m below meth c ls G hrt hlocks hname h hl
  have G : mw_G p m c b_M_make 2 s _ (c_M_make :: TB) R_M D cl (tys cA) n0 := G
  have hx := G.1.1
  have hb := G.1.2.1
  have hl : lv_has ls 2 [(0, .ref (q 0)), (1, .int y)] := hl
  refine lv_aload_n hx hb d_M_make_0 rfl (lv_at hl 0 rfl) ?_
  refine mx_get G h X.1 rfl 1 (by decide) (tb_in in_M) (tb_c k_313) rfl rfl d_M_make_1 ?_
  refine lv_aload_n hx hb d_M_make_4 rfl (lv_at hl 0 rfl) ?_
  refine mx_get G h X.1 rfl 7 (by decide) (tb_in in_M) (tb_c k_319) rfl rfl d_M_make_5 ?_
  refine lv_aload_n hx hb d_M_make_8 rfl (lv_at hl 0 rfl) ?_
  refine mx_get G h X.1 rfl 13 (by decide) (tb_in in_M) (tb_c k_325) rfl rfl d_M_make_9 ?_
  refine lv_iload_n hx hb d_M_make_12 rfl (lv_at hl 1 rfl) ?_
  refine ax_i G h (X.2.1 13 (by decide)) ci hyu hu (by decide) d_M_make_13 ?_
  refine ax_si G h (X.2.1 1 (by decide)) un rfl hun (by decide) d_M_make_14 (fun H locs h => ?_)
  have h : mw_H n0 D cl s (mw_up w (q 1) (.inl (cA 0, 520, .inl (upd (F 1) un ((F 13) ci))))) H locs := h
  obtain ⟨w_1, ew_1⟩ : ∃ xx : mw, mw_up w (q 1) (.inl (cA 0, 520, .inl (upd (F 1) un ((F 13) ci)))) = xx := ⟨_, rfl⟩
  rw [ew_1] at h
  have f_2 : w_1 (q 1) = some (.inl (cA 0, 520, .inl (upd (F 1) un ((F 13) ci)))) := by rw [← ew_1]; exact mw_self
  have V1 : MX cA w_1 ρ q lim un sn pg bd cm cp tk rs (va_up F 1 (upd (F 1) un (F 13 ci))) R := by rw [← ew_1]; exact X.putI 1 (by decide) _
  have hfr1 : FR w w_1 (P7 ρ) := (FR.rf).tr (by rw [← ew_1]; exact FQ (X.2.2.2.2.2.2.1 1 (by decide)))
  refine lv_aload_n hx hb d_M_make_15 rfl (lv_at hl 0 rfl) ?_
  refine mx_get G h V1.1 rfl 2 (by decide) (tb_in in_M) (tb_c k_314) rfl rfl d_M_make_16 ?_
  refine lv_aload_n hx hb d_M_make_19 rfl (lv_at hl 0 rfl) ?_
  refine mx_get G h V1.1 rfl 7 (by decide) (tb_in in_M) (tb_c k_319) rfl rfl d_M_make_20 ?_
  refine lv_aload_n hx hb d_M_make_23 rfl (lv_at hl 0 rfl) ?_
  refine mx_get G h V1.1 rfl 14 (by decide) (tb_in in_M) (tb_c k_326) rfl rfl d_M_make_24 ?_
  refine lv_iload_n hx hb d_M_make_27 rfl (lv_at hl 1 rfl) ?_
  refine ax_i G h (V1.2.1 14 (by decide)) ci hyu hu (by decide) d_M_make_28 ?_
  refine ax_si G h (V1.2.1 2 (by decide)) un rfl hun (by decide) d_M_make_29 (fun H locs h => ?_)
  have h : mw_H n0 D cl s (mw_up w_1 (q 2) (.inl (cA 0, 520, .inl (upd (F 2) un ((F 14) ci))))) H locs := h
  obtain ⟨w_3, ew_3⟩ : ∃ xx : mw, mw_up w_1 (q 2) (.inl (cA 0, 520, .inl (upd (F 2) un ((F 14) ci)))) = xx := ⟨_, rfl⟩
  rw [ew_3] at h
  have f_4 : w_3 (q 2) = some (.inl (cA 0, 520, .inl (upd (F 2) un ((F 14) ci)))) := by rw [← ew_3]; exact mw_self
  have V2 : MX cA w_3 ρ q lim un sn pg bd cm cp tk rs (va_up (va_up F 1 (upd (F 1) un (F 13 ci))) 2 (upd (F 2) un (F 14 ci))) R := by rw [← ew_3]; exact V1.putI 2 (by decide) _
  have hfr2 : FR w w_3 (P7 ρ) := (hfr1).tr (by rw [← ew_3]; exact FQ (X.2.2.2.2.2.2.1 2 (by decide)))
  refine lv_aload_n hx hb d_M_make_30 rfl (lv_at hl 0 rfl) ?_
  refine mx_get G h V2.1 rfl 3 (by decide) (tb_in in_M) (tb_c k_315) rfl rfl d_M_make_31 ?_
  refine lv_aload_n hx hb d_M_make_34 rfl (lv_at hl 0 rfl) ?_
  refine mx_get G h V2.1 rfl 7 (by decide) (tb_in in_M) (tb_c k_319) rfl rfl d_M_make_35 ?_
  refine lv_aload_n hx hb d_M_make_38 rfl (lv_at hl 0 rfl) ?_
  refine mx_get G h V2.1 rfl 15 (by decide) (tb_in in_M) (tb_c k_327) rfl rfl d_M_make_39 ?_
  refine lv_iload_n hx hb d_M_make_42 rfl (lv_at hl 1 rfl) ?_
  refine ax_i G h (V2.2.1 15 (by decide)) ci hyu hu (by decide) d_M_make_43 ?_
  refine ax_si G h (V2.2.1 3 (by decide)) un rfl hun (by decide) d_M_make_44 (fun H locs h => ?_)
  have h : mw_H n0 D cl s (mw_up w_3 (q 3) (.inl (cA 0, 520, .inl (upd (F 3) un ((F 15) ci))))) H locs := h
  obtain ⟨w_5, ew_5⟩ : ∃ xx : mw, mw_up w_3 (q 3) (.inl (cA 0, 520, .inl (upd (F 3) un ((F 15) ci)))) = xx := ⟨_, rfl⟩
  rw [ew_5] at h
  have f_6 : w_5 (q 3) = some (.inl (cA 0, 520, .inl (upd (F 3) un ((F 15) ci)))) := by rw [← ew_5]; exact mw_self
  have V3 : MX cA w_5 ρ q lim un sn pg bd cm cp tk rs (va_up (va_up (va_up F 1 (upd (F 1) un (F 13 ci))) 2 (upd (F 2) un (F 14 ci))) 3 (upd (F 3) un (F 15 ci))) R := by rw [← ew_5]; exact V2.putI 3 (by decide) _
  have hfr3 : FR w w_5 (P7 ρ) := (hfr2).tr (by rw [← ew_5]; exact FQ (X.2.2.2.2.2.2.1 3 (by decide)))
  refine lv_aload_n hx hb d_M_make_45 rfl (lv_at hl 0 rfl) ?_
  refine mx_get G h V3.1 rfl 4 (by decide) (tb_in in_M) (tb_c k_316) rfl rfl d_M_make_46 ?_
  refine lv_aload_n hx hb d_M_make_49 rfl (lv_at hl 0 rfl) ?_
  refine mx_get G h V3.1 rfl 7 (by decide) (tb_in in_M) (tb_c k_319) rfl rfl d_M_make_50 ?_
  refine lv_aload_n hx hb d_M_make_53 rfl (lv_at hl 0 rfl) ?_
  refine mx_get G h V3.1 rfl 12 (by decide) (tb_in in_M) (tb_c k_324) rfl rfl d_M_make_54 ?_
  refine lv_iload_n hx hb d_M_make_57 rfl (lv_at hl 1 rfl) ?_
  refine ax_i G h (V3.2.1 12 (by decide)) ci hyu hu (by decide) d_M_make_58 ?_
  refine lv_iconst (v := 4) hx hb d_M_make_59 (by decide) ?_
  refine lv_icmp_ne (tgt := 67) hx hb d_M_make_60 (by decide) (fun c_7 => ?_) (fun c_7 => ?_)
  · refine lv_iconst (v := 0) hx hb d_M_make_67 (by decide) ?_
    refine ax_sz G h (V3.2.2.1 4 (by decide)) un rfl hun (by decide) (by decide) d_M_make_68 (fun H locs h => ?_)
    have h : mw_H n0 D cl s (mw_up w_5 (q 4) (.inl (cA 2, 520, .inl (upd (F 4) un 0)))) H locs := h
    obtain ⟨w_8, ew_8⟩ : ∃ xx : mw, mw_up w_5 (q 4) (.inl (cA 2, 520, .inl (upd (F 4) un 0))) = xx := ⟨_, rfl⟩
    rw [ew_8] at h
    have f_9 : w_8 (q 4) = some (.inl (cA 2, 520, .inl (upd (F 4) un 0))) := by rw [← ew_8]; exact mw_self
    have hb4 : 0 = bI (F 12 ci = 4) := (bI_f c_7).symm
    have V4 : MX cA w_8 ρ q lim un sn pg bd cm cp tk rs (va_up (va_up (va_up (va_up F 1 (upd (F 1) un (F 13 ci))) 2 (upd (F 2) un (F 14 ci))) 3 (upd (F 3) un (F 15 ci))) 4 (upd (F 4) un 0)) R := by rw [← ew_8]; exact V3.putZ 4 (by decide) _
    have hfr4 : FR w w_8 (P7 ρ) := (hfr3).tr (by rw [← ew_8]; exact FQ (X.2.2.2.2.2.2.1 4 (by decide)))
    refine lv_aload_n hx hb d_M_make_69 rfl (lv_at hl 0 rfl) ?_
    refine mx_get G h V4.1 rfl 5 (by decide) (tb_in in_M) (tb_c k_317) rfl rfl d_M_make_70 ?_
    refine lv_aload_n hx hb d_M_make_73 rfl (lv_at hl 0 rfl) ?_
    refine mx_get G h V4.1 rfl 7 (by decide) (tb_in in_M) (tb_c k_319) rfl rfl d_M_make_74 ?_
    refine lv_iconst (v := 0) hx hb d_M_make_77 (by decide) ?_
    refine ax_si G h (V4.2.1 5 (by decide)) un rfl hun (by decide) d_M_make_78 (fun H locs h => ?_)
    have h : mw_H n0 D cl s (mw_up w_8 (q 5) (.inl (cA 0, 520, .inl (upd (F 5) un 0)))) H locs := h
    obtain ⟨w_10, ew_10⟩ : ∃ xx : mw, mw_up w_8 (q 5) (.inl (cA 0, 520, .inl (upd (F 5) un 0))) = xx := ⟨_, rfl⟩
    rw [ew_10] at h
    have f_11 : w_10 (q 5) = some (.inl (cA 0, 520, .inl (upd (F 5) un 0))) := by rw [← ew_10]; exact mw_self
    have V5 : MX cA w_10 ρ q lim un sn pg bd cm cp tk rs (va_up (va_up (va_up (va_up (va_up F 1 (upd (F 1) un (F 13 ci))) 2 (upd (F 2) un (F 14 ci))) 3 (upd (F 3) un (F 15 ci))) 4 (upd (F 4) un 0)) 5 (upd (F 5) un 0)) R := by rw [← ew_10]; exact V4.putI 5 (by decide) _
    have hfr5 : FR w w_10 (P7 ρ) := (hfr4).tr (by rw [← ew_10]; exact FQ (X.2.2.2.2.2.2.1 5 (by decide)))
    refine lv_aload_n hx hb d_M_make_79 rfl (lv_at hl 0 rfl) ?_
    refine lv_dup hx hb d_M_make_80 rfl ?_
    refine mx_get G h V5.1 rfl 7 (by decide) (tb_in in_M) (tb_c k_319) rfl rfl d_M_make_81 ?_
    refine lv_iconst (v := 1) hx hb d_M_make_84 (by decide) ?_
    refine lv_iadd hx hb d_M_make_85 ?_
    have et_12 : (nI un) + 1 = nI (un + 1) := nI_1 un
    rw [et_12]
    refine mx_put G h V5.1 rfl 7 (by decide) (tb_in in_M) t_M t_M_ok n_M (tb_c k_319) rfl rfl rfl rfl rfl (Nat.le_of_ble_eq_true rfl) d_M_make_86 (fun H locs h => ?_)
    have h : mw_H n0 D cl s (mw_up w_10 (q 0) (.inr (5, [.int (nI lim), .ref (q 1), .ref (q 2), .ref (q 3), .ref (q 4), .ref (q 5), .ref (q 6), .int (nI (un + 1)), .int (nI sn), .int (nI pg), .int (nI bd), .ref (q 11), .ref (q 12), .ref (q 13), .ref (q 14), .ref (q 15), .int (nI cm), .ref (q 17), .ref (q 18), .ref (q 19), .int (nI cp), .int tk, .long rs]))) H locs := h
    obtain ⟨w_13, ew_13⟩ : ∃ xx : mw, mw_up w_10 (q 0) (.inr (5, [.int (nI lim), .ref (q 1), .ref (q 2), .ref (q 3), .ref (q 4), .ref (q 5), .ref (q 6), .int (nI (un + 1)), .int (nI sn), .int (nI pg), .int (nI bd), .ref (q 11), .ref (q 12), .ref (q 13), .ref (q 14), .ref (q 15), .int (nI cm), .ref (q 17), .ref (q 18), .ref (q 19), .int (nI cp), .int tk, .long rs])) = xx := ⟨_, rfl⟩
    rw [ew_13] at h
    have f_14 : w_13 (q 0) = some (.inr (5, [.int (nI lim), .ref (q 1), .ref (q 2), .ref (q 3), .ref (q 4), .ref (q 5), .ref (q 6), .int (nI (un + 1)), .int (nI sn), .int (nI pg), .int (nI bd), .ref (q 11), .ref (q 12), .ref (q 13), .ref (q 14), .ref (q 15), .int (nI cm), .ref (q 17), .ref (q 18), .ref (q 19), .int (nI cp), .int tk, .long rs])) := by rw [← ew_13]; exact mw_self
    have V9 : MX cA w_13 ρ q lim (un + 1) sn pg bd cm cp tk rs (mkF F un ci) R := by rw [← ew_13, mkF, ← hb4]; exact V5.put0 (un + 1) sn pg bd cm cp tk rs
    have hfr9 : FR w w_13 (P7 ρ) := (hfr5).tr (by rw [← ew_13]; exact FQ X.2.2.2.2.2.1)
    refine lv_aload_n hx hb d_M_make_89 rfl (lv_at hl 0 rfl) ?_
    refine mx_get G h f_14 rfl 7 (by decide) (tb_in in_M) (tb_c k_319) rfl rfl d_M_make_90 ?_
    refine lv_iconst (v := 1) hx hb d_M_make_93 (by decide) ?_
    refine lv_isub hx hb d_M_make_94 ?_
    exact mx_reti G h hrt hlocks d_M_make_95 (⟨nI_pred un, V9, hfr9⟩)
  · refine lv_iconst (v := 1) hx hb d_M_make_63 (by decide) ?_
    refine lv_goto (tgt := 68) hx hb d_M_make_64 (by decide) ?_
    refine ax_sz G h (V3.2.2.1 4 (by decide)) un rfl hun (by decide) (by decide) d_M_make_68 (fun H locs h => ?_)
    have h : mw_H n0 D cl s (mw_up w_5 (q 4) (.inl (cA 2, 520, .inl (upd (F 4) un 1)))) H locs := h
    obtain ⟨w_15, ew_15⟩ : ∃ xx : mw, mw_up w_5 (q 4) (.inl (cA 2, 520, .inl (upd (F 4) un 1))) = xx := ⟨_, rfl⟩
    rw [ew_15] at h
    have f_16 : w_15 (q 4) = some (.inl (cA 2, 520, .inl (upd (F 4) un 1))) := by rw [← ew_15]; exact mw_self
    have hb4 : 1 = bI (F 12 ci = 4) := (bI_t c_7).symm
    have V4 : MX cA w_15 ρ q lim un sn pg bd cm cp tk rs (va_up (va_up (va_up (va_up F 1 (upd (F 1) un (F 13 ci))) 2 (upd (F 2) un (F 14 ci))) 3 (upd (F 3) un (F 15 ci))) 4 (upd (F 4) un 1)) R := by rw [← ew_15]; exact V3.putZ 4 (by decide) _
    have hfr4 : FR w w_15 (P7 ρ) := (hfr3).tr (by rw [← ew_15]; exact FQ (X.2.2.2.2.2.2.1 4 (by decide)))
    refine lv_aload_n hx hb d_M_make_69 rfl (lv_at hl 0 rfl) ?_
    refine mx_get G h V4.1 rfl 5 (by decide) (tb_in in_M) (tb_c k_317) rfl rfl d_M_make_70 ?_
    refine lv_aload_n hx hb d_M_make_73 rfl (lv_at hl 0 rfl) ?_
    refine mx_get G h V4.1 rfl 7 (by decide) (tb_in in_M) (tb_c k_319) rfl rfl d_M_make_74 ?_
    refine lv_iconst (v := 0) hx hb d_M_make_77 (by decide) ?_
    refine ax_si G h (V4.2.1 5 (by decide)) un rfl hun (by decide) d_M_make_78 (fun H locs h => ?_)
    have h : mw_H n0 D cl s (mw_up w_15 (q 5) (.inl (cA 0, 520, .inl (upd (F 5) un 0)))) H locs := h
    obtain ⟨w_17, ew_17⟩ : ∃ xx : mw, mw_up w_15 (q 5) (.inl (cA 0, 520, .inl (upd (F 5) un 0))) = xx := ⟨_, rfl⟩
    rw [ew_17] at h
    have f_18 : w_17 (q 5) = some (.inl (cA 0, 520, .inl (upd (F 5) un 0))) := by rw [← ew_17]; exact mw_self
    have V5 : MX cA w_17 ρ q lim un sn pg bd cm cp tk rs (va_up (va_up (va_up (va_up (va_up F 1 (upd (F 1) un (F 13 ci))) 2 (upd (F 2) un (F 14 ci))) 3 (upd (F 3) un (F 15 ci))) 4 (upd (F 4) un 1)) 5 (upd (F 5) un 0)) R := by rw [← ew_17]; exact V4.putI 5 (by decide) _
    have hfr5 : FR w w_17 (P7 ρ) := (hfr4).tr (by rw [← ew_17]; exact FQ (X.2.2.2.2.2.2.1 5 (by decide)))
    refine lv_aload_n hx hb d_M_make_79 rfl (lv_at hl 0 rfl) ?_
    refine lv_dup hx hb d_M_make_80 rfl ?_
    refine mx_get G h V5.1 rfl 7 (by decide) (tb_in in_M) (tb_c k_319) rfl rfl d_M_make_81 ?_
    refine lv_iconst (v := 1) hx hb d_M_make_84 (by decide) ?_
    refine lv_iadd hx hb d_M_make_85 ?_
    have et_19 : (nI un) + 1 = nI (un + 1) := nI_1 un
    rw [et_19]
    refine mx_put G h V5.1 rfl 7 (by decide) (tb_in in_M) t_M t_M_ok n_M (tb_c k_319) rfl rfl rfl rfl rfl (Nat.le_of_ble_eq_true rfl) d_M_make_86 (fun H locs h => ?_)
    have h : mw_H n0 D cl s (mw_up w_17 (q 0) (.inr (5, [.int (nI lim), .ref (q 1), .ref (q 2), .ref (q 3), .ref (q 4), .ref (q 5), .ref (q 6), .int (nI (un + 1)), .int (nI sn), .int (nI pg), .int (nI bd), .ref (q 11), .ref (q 12), .ref (q 13), .ref (q 14), .ref (q 15), .int (nI cm), .ref (q 17), .ref (q 18), .ref (q 19), .int (nI cp), .int tk, .long rs]))) H locs := h
    obtain ⟨w_20, ew_20⟩ : ∃ xx : mw, mw_up w_17 (q 0) (.inr (5, [.int (nI lim), .ref (q 1), .ref (q 2), .ref (q 3), .ref (q 4), .ref (q 5), .ref (q 6), .int (nI (un + 1)), .int (nI sn), .int (nI pg), .int (nI bd), .ref (q 11), .ref (q 12), .ref (q 13), .ref (q 14), .ref (q 15), .int (nI cm), .ref (q 17), .ref (q 18), .ref (q 19), .int (nI cp), .int tk, .long rs])) = xx := ⟨_, rfl⟩
    rw [ew_20] at h
    have f_21 : w_20 (q 0) = some (.inr (5, [.int (nI lim), .ref (q 1), .ref (q 2), .ref (q 3), .ref (q 4), .ref (q 5), .ref (q 6), .int (nI (un + 1)), .int (nI sn), .int (nI pg), .int (nI bd), .ref (q 11), .ref (q 12), .ref (q 13), .ref (q 14), .ref (q 15), .int (nI cm), .ref (q 17), .ref (q 18), .ref (q 19), .int (nI cp), .int tk, .long rs])) := by rw [← ew_20]; exact mw_self
    have V9 : MX cA w_20 ρ q lim (un + 1) sn pg bd cm cp tk rs (mkF F un ci) R := by rw [← ew_20, mkF, ← hb4]; exact V5.put0 (un + 1) sn pg bd cm cp tk rs
    have hfr9 : FR w w_20 (P7 ρ) := (hfr5).tr (by rw [← ew_20]; exact FQ X.2.2.2.2.2.1)
    refine lv_aload_n hx hb d_M_make_89 rfl (lv_at hl 0 rfl) ?_
    refine mx_get G h f_21 rfl 7 (by decide) (tb_in in_M) (tb_c k_319) rfl rfl d_M_make_90 ?_
    refine lv_iconst (v := 1) hx hb d_M_make_93 (by decide) ?_
    refine lv_isub hx hb d_M_make_94 ?_
    exact mx_reti G h hrt hlocks d_M_make_95 (⟨nI_pred un, V9, hfr9⟩)
set_option maxHeartbeats 4000000 in
set_option maxRecDepth 100000 in
theorem m_M_total {l : Launch} {D : va_G} {cA : Nat → ClassId} {n0 : Nat} {w : mw} {ρ q : Nat → Nat} {lim un cm cp : Nat} {tk : Int32} {rs : Int64} {F : Nat → Nat → Int32} {R : Nat → Int64} {fl : Nat → Int64} {us : List uU} {sn pg bd : Nat} (Y : MC cA w ρ q lim un cm cp tk rs F R (fl, us, sn, pg, bd)) (hcm : cm ≤ 512) (hcp : cp ≤ 512) (hbd : bd < 1000) {ci : Nat} (hci : ci ≤ 512) {y : Int32} (hyu : y = nI ci) {u : uU} (hu13 : F 13 ci = u.1) (hu14 : F 14 ci = u.2.1) (hV : vU u) :
    Ml l D cA n0 y_M_total c_M_total (rmd 3) [.ref (q 0), .int y] w (fun r w' => r = sumH fl us (fsU u) (lnU u) ∧ w' = w) := by
  refine mw_met (cc := b_M_total) (maxL := 7) (ret := (some .long)) (by decide) rfl (Nat.le_of_ble_eq_true rfl) ?_
  intro p e s m below meth c ls G hrt hlocks hname h hl
  have G : mw_G p m c b_M_total 7 s _ (c_M_total :: TB) R_M D cl (tys cA) n0 := G
  have hx := G.1.1
  have hb := G.1.2.1
  have hl : lv_has ls 7 [(0, .ref (q 0)), (1, .int y)] := hl
  obtain ⟨X, hG⟩ := id Y
  have X : MX cA w ρ q lim un sn pg bd cm cp tk rs F R := X
  have hG : LG F un sn fl us := hG
  have hun := hG.2.2.2.2.2.2
  obtain ⟨hu1, hu2, hl1, hl4, h24, hz⟩ := hV
  refine lv_lconst (v := 0) hx hb d_M_total_0 (by decide) ?_
  refine lv_lstore_n (lv' := [(2, .long 0), (0, .ref (q 0)), (1, .int y)]) hx hb d_M_total_1 rfl hl (by decide) rfl (fun ls hl => ?_)
  refine lv_iconst (v := 0) hx hb d_M_total_2 (by decide) ?_
  refine lv_istore (lv' := [(4, .int 0), (2, .long 0), (0, .ref (q 0)), (1, .int y)]) hx hb d_M_total_3 hl (by decide) rfl (fun ls hl => ?_)
  have loop : ∀ (t k : Nat), k + t = lnU u → ∀ (H : Heap) (locs : List Loc) (ls : Array Slot), mw_H n0 D cl s w H locs → lv_has ls 7 [(4, .int (nI k)), (2, .long (sumH fl us (fsU u) k)), (0, .ref (q 0)), (1, .int y)] → W p l e (rmd 3) s m ([.ref (q 0), .int y] : List Value).toArray below meth c H locs 0 0 (MQ below (mw_Ql n0 D cl (fun r w' => r = sumH fl us (fsU u) (lnU u) ∧ w' = w)) ([.ref (q 0), .int y] : List Value).toArray s 0 0 (mw_A n0)) (F0 m 5 ls []) := by
    intro t
    induction t with
    | zero =>
      intro k hk H locs ls h hl
      have hk : k = lnU u := hk
      refine lv_iload hx hb d_M_total_5 (lv_at hl 0 rfl) ?_
      refine lv_aload_n hx hb d_M_total_7 rfl (lv_at hl 2 rfl) ?_
      refine mx_get G h X.1 rfl 14 (by decide) (tb_in in_M) (tb_c k_326) rfl rfl d_M_total_8 ?_
      refine lv_iload_n hx hb d_M_total_11 rfl (lv_at hl 3 rfl) ?_
      refine ax_i G h (X.2.1 14 (by decide)) ci hyu (by omega) (by decide) d_M_total_12 ?_
      refine lv_icmp_ge (tgt := 51) hx hb d_M_total_13 (by decide) (fun c_1 => ?_) (fun c_1 => ?_)
      · refine lv_lload_n hx hb d_M_total_51 rfl (lv_at hl 1 rfl) ?_
        exact mx_retl G h hrt hlocks d_M_total_52 (⟨by rw [hk], rfl⟩)
      · exact absurd (by rw [hu14, hu2, hk]; exact Int32.le_refl _) c_1
    | succ t ih =>
      intro k hk H locs ls h hl
      have hq1 : F 13 ci + nI k = nI (fsU u + k) := by rw [hu13, hu1]; exact nI_add _ _
      refine lv_iload hx hb d_M_total_5 (lv_at hl 0 rfl) ?_
      refine lv_aload_n hx hb d_M_total_7 rfl (lv_at hl 2 rfl) ?_
      refine mx_get G h X.1 rfl 14 (by decide) (tb_in in_M) (tb_c k_326) rfl rfl d_M_total_8 ?_
      refine lv_iload_n hx hb d_M_total_11 rfl (lv_at hl 3 rfl) ?_
      refine ax_i G h (X.2.1 14 (by decide)) ci hyu (by omega) (by decide) d_M_total_12 ?_
      refine lv_icmp_ge (tgt := 51) hx hb d_M_total_13 (by decide) (fun c_2 => ?_) (fun c_2 => ?_)
      · exact absurd c_2 (by rw [hu14, hu2, nI_leI (by omega) (by omega)]; omega)
      · refine lv_aload_n hx hb d_M_total_16 rfl (lv_at hl 2 rfl) ?_
        refine lv_aload_n hx hb d_M_total_17 rfl (lv_at hl 2 rfl) ?_
        refine mx_get G h X.1 rfl 13 (by decide) (tb_in in_M) (tb_c k_325) rfl rfl d_M_total_18 ?_
        refine lv_iload_n hx hb d_M_total_21 rfl (lv_at hl 3 rfl) ?_
        refine ax_i G h (X.2.1 13 (by decide)) ci hyu (by omega) (by decide) d_M_total_22 ?_
        refine lv_iload hx hb d_M_total_23 (lv_at hl 0 rfl) ?_
        refine lv_iadd hx hb d_M_total_25 ?_
        have et_3 : ((F 13) ci) + (nI k) = nI (fsU u + k) := hq1
        rw [et_3]
        refine mx_cl (cV (As := [.int (nI (fsU u + k))]) (rest := []) G h (m_M_holds X hun hcm hcp (x := nI (fsU u + k))) k_414 k_416 ks_18 k_7 k_417 hd_M_holds rfl rfl ⟨Nat.le_of_ble_eq_true rfl, Nat.le_of_ble_eq_true rfl⟩ X.1 rfl rfl hl.1 rfl (Nat.le_of_ble_eq_true rfl) d_M_total_26 ⟨Nat.le_of_ble_eq_true rfl, Nat.le_of_ble_eq_true rfl⟩) h (fun r_5 w_4 H locs h hcp1 => ?_)
        obtain ⟨er_6, ew_7⟩ := hcp1
        subst er_6
        rw [ew_7] at h
        have et_8 : hldN F un (nI (fsU u + k)) un = hld fl us (fsU u + k) := hG.hldE (by omega)
        rw [et_8]
        refine lv_lstore (lv' := [(5, .long (hld fl us (fsU u + k))), (4, .int (nI k)), (2, .long (sumH fl us (fsU u) k)), (0, .ref (q 0)), (1, .int y)]) hx hb d_M_total_29 hl (by decide) rfl (fun ls hl => ?_)
        refine lv_lload hx hb d_M_total_31 (lv_at hl 0 rfl) ?_
        refine lv_ldc2 (v := NN) hx hb G.1.2.2.2.1 (G.1.2.2.2.2 _ (tb_c k_311)) d_M_total_33 ?_
        refine W.lcmp hx hb d_M_total_36 ?_
        refine lv_if_eq (tgt := 45) hx hb d_M_total_37 (by decide) (fun c_9 => ?_) (fun c_9 => ?_)
        · refine lv_iinc (v := (nI k) + 1) (lv' := [(4, .int ((nI k) + 1)), (5, .long (hld fl us (fsU u + k))), (2, .long (sumH fl us (fsU u) k)), (0, .ref (q 0)), (1, .int y)]) hx hb d_M_total_45 hl (k := 1) rfl rfl (by decide) rfl (fun ls hl => ?_)
          refine lv_goto (tgt := 5) hx hb d_M_total_48 (by decide) ?_
          rw [nI_1] at hl
          refine ih (k + 1) (by omega) H locs ls h ?_
          have q1 : sumH fl us (fsU u) (k + 1) = sumH fl us (fsU u) k := by rw [sumH, if_pos ((lg_cmp_eq _ _).mp c_9)]
          rw [q1]
          exact lv_sub hl [0, 2, 3, 4] rfl
        · refine lv_lload_n hx hb d_M_total_40 rfl (lv_at hl 2 rfl) ?_
          refine lv_lload hx hb d_M_total_41 (lv_at hl 0 rfl) ?_
          refine lv_ladd hx hb d_M_total_43 ?_
          refine lv_lstore_n (lv' := [(2, .long ((sumH fl us (fsU u) k) + (hld fl us (fsU u + k)))), (5, .long (hld fl us (fsU u + k))), (4, .int (nI k)), (0, .ref (q 0)), (1, .int y)]) hx hb d_M_total_44 rfl hl (by decide) rfl (fun ls hl => ?_)
          refine lv_iinc (v := (nI k) + 1) (lv' := [(4, .int ((nI k) + 1)), (2, .long ((sumH fl us (fsU u) k) + (hld fl us (fsU u + k)))), (5, .long (hld fl us (fsU u + k))), (0, .ref (q 0)), (1, .int y)]) hx hb d_M_total_45 hl (k := 2) rfl rfl (by decide) rfl (fun ls hl => ?_)
          refine lv_goto (tgt := 5) hx hb d_M_total_48 (by decide) ?_
          rw [nI_1] at hl
          refine ih (k + 1) (by omega) H locs ls h ?_
          have q1 : sumH fl us (fsU u) (k + 1) = sumH fl us (fsU u) k + hld fl us (fsU u + k) := by rw [sumH, if_neg (fun z => c_9 ((lg_cmp_eq _ _).mpr z))]
          rw [q1]
          exact lv_sub hl [0, 1, 3, 4] rfl
  exact loop (lnU u) 0 (by omega) _ _ ls h (lv_sub hl [0, 1, 2, 3] rfl)
set_option maxHeartbeats 4000000 in
set_option maxRecDepth 100000 in
theorem m_M_differing {l : Launch} {D : va_G} {cA : Nat → ClassId} {n0 : Nat} {w : mw} {ρ q : Nat → Nat} {lim un cm cp : Nat} {tk : Int32} {rs : Int64} {F : Nat → Nat → Int32} {R : Nat → Int64} {fl : Nat → Int64} {us : List uU} {sn pg bd : Nat} (Y : MC cA w ρ q lim un cm cp tk rs F R (fl, us, sn, pg, bd)) (hcm : cm ≤ 512) (hcp : cp ≤ 512) (hbd : bd < 1000) {ci : Nat} (hci : ci ≤ 512) {y : Int32} (hyu : y = nI ci) {u : uU} (hu13 : F 13 ci = u.1) (hu14 : F 14 ci = u.2.1) (hV : vU u) (hu15 : F 15 ci = u.2.2.1) (hu0 : u.2.2.2 = 0) :
    Mi l D cA n0 y_M_differing c_M_differing (rmd 3) [.ref (q 0), .int y] w (fun r w' => r = misH fl us u (fsU u) (lnU u) ∧ w' = w) := by
  refine mw_met (cc := b_M_differing) (maxL := 4) (ret := (some .int)) (by decide) rfl (Nat.le_of_ble_eq_true rfl) ?_
  intro p e s m below meth c ls G hrt hlocks hname h hl
  have G : mw_G p m c b_M_differing 4 s _ (c_M_differing :: TB) R_M D cl (tys cA) n0 := G
  have hx := G.1.1
  have hb := G.1.2.1
  have hl : lv_has ls 4 [(0, .ref (q 0)), (1, .int y)] := hl
  obtain ⟨X, hG⟩ := id Y
  have X : MX cA w ρ q lim un sn pg bd cm cp tk rs F R := X
  have hG : LG F un sn fl us := hG
  have hun := hG.2.2.2.2.2.2
  obtain ⟨hu1, hu2, hl1, hl4, h24, hz⟩ := hV
  refine lv_iconst (v := 0) hx hb d_M_differing_0 (by decide) ?_
  refine lv_istore_n (lv' := [(2, .int 0), (0, .ref (q 0)), (1, .int y)]) hx hb d_M_differing_1 rfl hl (by decide) rfl (fun ls hl => ?_)
  refine lv_iconst (v := 0) hx hb d_M_differing_2 (by decide) ?_
  refine lv_istore_n (lv' := [(3, .int 0), (2, .int 0), (0, .ref (q 0)), (1, .int y)]) hx hb d_M_differing_3 rfl hl (by decide) rfl (fun ls hl => ?_)
  have loop : ∀ (t k : Nat), k + t = lnU u → ∀ (H : Heap) (locs : List Loc) (ls : Array Slot), mw_H n0 D cl s w H locs → lv_has ls 4 [(3, .int (nI k)), (2, .int (misH fl us u (fsU u) k)), (0, .ref (q 0)), (1, .int y)] → W p l e (rmd 3) s m ([.ref (q 0), .int y] : List Value).toArray below meth c H locs 0 0 (MQ below (mw_Qi n0 D cl (fun r w' => r = misH fl us u (fsU u) (lnU u) ∧ w' = w)) ([.ref (q 0), .int y] : List Value).toArray s 0 0 (mw_A n0)) (F0 m 4 ls []) := by
    intro t
    induction t with
    | zero =>
      intro k hk H locs ls h hl
      have hk : k = lnU u := hk
      refine lv_iload_n hx hb d_M_differing_4 rfl (lv_at hl 0 rfl) ?_
      refine lv_aload_n hx hb d_M_differing_5 rfl (lv_at hl 2 rfl) ?_
      refine mx_get G h X.1 rfl 14 (by decide) (tb_in in_M) (tb_c k_326) rfl rfl d_M_differing_6 ?_
      refine lv_iload_n hx hb d_M_differing_9 rfl (lv_at hl 3 rfl) ?_
      refine ax_i G h (X.2.1 14 (by decide)) ci hyu (by omega) (by decide) d_M_differing_10 ?_
      refine lv_icmp_ge (tgt := 48) hx hb d_M_differing_11 (by decide) (fun c_1 => ?_) (fun c_1 => ?_)
      · refine lv_iload_n hx hb d_M_differing_48 rfl (lv_at hl 1 rfl) ?_
        exact mx_reti G h hrt hlocks d_M_differing_49 (⟨by rw [hk], rfl⟩)
      · exact absurd (by rw [hu14, hu2, hk]; exact Int32.le_refl _) c_1
    | succ t ih =>
      intro k hk H locs ls h hl
      have hq1 : F 13 ci + nI k = nI (fsU u + k) := by rw [hu13, hu1]; exact nI_add _ _
      have hq2 : (F 15 ci + nI k).toInt64 = wrd u (nI (fsU u + k)) := by rw [wrd, if_pos hu0, hu15, hu1, pk_sub (Nat.le_add_right _ _), Nat.add_sub_cancel_left]
      refine lv_iload_n hx hb d_M_differing_4 rfl (lv_at hl 0 rfl) ?_
      refine lv_aload_n hx hb d_M_differing_5 rfl (lv_at hl 2 rfl) ?_
      refine mx_get G h X.1 rfl 14 (by decide) (tb_in in_M) (tb_c k_326) rfl rfl d_M_differing_6 ?_
      refine lv_iload_n hx hb d_M_differing_9 rfl (lv_at hl 3 rfl) ?_
      refine ax_i G h (X.2.1 14 (by decide)) ci hyu (by omega) (by decide) d_M_differing_10 ?_
      refine lv_icmp_ge (tgt := 48) hx hb d_M_differing_11 (by decide) (fun c_2 => ?_) (fun c_2 => ?_)
      · exact absurd c_2 (by rw [hu14, hu2, nI_leI (by omega) (by omega)]; omega)
      · refine lv_aload_n hx hb d_M_differing_14 rfl (lv_at hl 2 rfl) ?_
        refine lv_aload_n hx hb d_M_differing_15 rfl (lv_at hl 2 rfl) ?_
        refine mx_get G h X.1 rfl 13 (by decide) (tb_in in_M) (tb_c k_325) rfl rfl d_M_differing_16 ?_
        refine lv_iload_n hx hb d_M_differing_19 rfl (lv_at hl 3 rfl) ?_
        refine ax_i G h (X.2.1 13 (by decide)) ci hyu (by omega) (by decide) d_M_differing_20 ?_
        refine lv_iload_n hx hb d_M_differing_21 rfl (lv_at hl 0 rfl) ?_
        refine lv_iadd hx hb d_M_differing_22 ?_
        have et_3 : ((F 13) ci) + (nI k) = nI (fsU u + k) := hq1
        rw [et_3]
        refine mx_cl (cV (As := [.int (nI (fsU u + k))]) (rest := []) G h (m_M_holds X hun hcm hcp (x := nI (fsU u + k))) k_414 k_416 ks_18 k_7 k_417 hd_M_holds rfl rfl ⟨Nat.le_of_ble_eq_true rfl, Nat.le_of_ble_eq_true rfl⟩ X.1 rfl rfl hl.1 rfl (Nat.le_of_ble_eq_true rfl) d_M_differing_23 ⟨Nat.le_of_ble_eq_true rfl, Nat.le_of_ble_eq_true rfl⟩) h (fun r_5 w_4 H locs h hcp1 => ?_)
        obtain ⟨er_6, ew_7⟩ := hcp1
        subst er_6
        rw [ew_7] at h
        have et_8 : hldN F un (nI (fsU u + k)) un = hld fl us (fsU u + k) := hG.hldE (by omega)
        rw [et_8]
        refine lv_aload_n hx hb d_M_differing_26 rfl (lv_at hl 2 rfl) ?_
        refine mx_get G h X.1 rfl 15 (by decide) (tb_in in_M) (tb_c k_327) rfl rfl d_M_differing_27 ?_
        refine lv_iload_n hx hb d_M_differing_30 rfl (lv_at hl 3 rfl) ?_
        refine ax_i G h (X.2.1 15 (by decide)) ci hyu (by omega) (by decide) d_M_differing_31 ?_
        refine lv_iload_n hx hb d_M_differing_32 rfl (lv_at hl 0 rfl) ?_
        refine lv_iadd hx hb d_M_differing_33 ?_
        refine lv_i2l hx hb d_M_differing_34 rfl ?_
        have et_9 : (((F 15) ci) + (nI k)).toInt64 = wrd u (nI (fsU u + k)) := hq2
        rw [et_9]
        refine W.lcmp hx hb d_M_differing_35 ?_
        refine lv_if_eq (tgt := 42) hx hb d_M_differing_36 (by decide) (fun c_10 => ?_) (fun c_10 => ?_)
        · refine lv_iinc (v := (nI k) + 1) (lv' := [(3, .int ((nI k) + 1)), (2, .int (misH fl us u (fsU u) k)), (0, .ref (q 0)), (1, .int y)]) hx hb d_M_differing_42 hl (k := 0) rfl rfl (by decide) rfl (fun ls hl => ?_)
          refine lv_goto (tgt := 4) hx hb d_M_differing_45 (by decide) ?_
          rw [nI_1] at hl
          refine ih (k + 1) (by omega) H locs ls h ?_
          have q1 : misH fl us u (fsU u) (k + 1) = misH fl us u (fsU u) k := by rw [misH, if_pos ((lg_cmp_eq _ _).mp c_10)]
          rw [q1]
          exact lv_sub hl [0, 1, 2, 3] rfl
        · refine lv_iinc (v := (misH fl us u (fsU u) k) + 1) (lv' := [(2, .int ((misH fl us u (fsU u) k) + 1)), (3, .int (nI k)), (0, .ref (q 0)), (1, .int y)]) hx hb d_M_differing_39 hl (k := 1) rfl rfl (by decide) rfl (fun ls hl => ?_)
          refine lv_iinc (v := (nI k) + 1) (lv' := [(3, .int ((nI k) + 1)), (2, .int ((misH fl us u (fsU u) k) + 1)), (0, .ref (q 0)), (1, .int y)]) hx hb d_M_differing_42 hl (k := 1) rfl rfl (by decide) rfl (fun ls hl => ?_)
          refine lv_goto (tgt := 4) hx hb d_M_differing_45 (by decide) ?_
          rw [nI_1] at hl
          refine ih (k + 1) (by omega) H locs ls h ?_
          have q1 : misH fl us u (fsU u) (k + 1) = misH fl us u (fsU u) k + 1 := by rw [misH, if_neg (fun z => c_10 ((lg_cmp_eq _ _).mpr z))]
          rw [q1]
          exact lv_sub hl [0, 1, 2, 3] rfl
  exact loop (lnU u) 0 (by omega) _ _ ls h (lv_sub hl [0, 1, 2, 3] rfl)
set_option maxHeartbeats 4000000 in
set_option maxRecDepth 100000 in
theorem m_M_work {l : Launch} {D : va_G} {cA : Nat → ClassId} {n0 : Nat} {w : mw} {ρ q : Nat → Nat} {lim un cm cp : Nat} {tk : Int32} {rs : Int64} {F : Nat → Nat → Int32} {R : Nat → Int64} {fl : Nat → Int64} {us : List uU} {sn pg bd : Nat} (Y : MC cA w ρ q lim un cm cp tk rs F R (fl, us, sn, pg, bd)) (hcm : cm ≤ 512) (hcp : cp ≤ 512) (hbd : bd < 1000) (hun1 : un + 1 ≤ 512) (hlim : lim ≤ 6) {ci kd : Nat} (hci : ci ≤ 512) (hk : F 12 ci = nI kd) (hkd : kd ≤ 5) (hV : kd ≠ 3 → vU (uof (cmdN F ci))) {y : Int32} (hyu : y = nI ci) :
    Ml l D cA n0 y_M_work c_M_work (rmd 4) [.ref (q 0), .int y] w (fun r w' => r = (carA lim kd (uof (cmdN F ci)) (fl, us, sn, pg, bd)).1 ∧ ∃ F' un', un' ≤ un + 1 ∧ MC cA w' ρ q lim un' cm cp tk rs F' R (carA lim kd (uof (cmdN F ci)) (fl, us, sn, pg, bd)).2 ∧ SF F F' ∧ FR w w' (P7 ρ)) := by
  refine mw_met (cc := b_M_work) (maxL := 4) (ret := (some .long)) (by decide) rfl (Nat.le_of_ble_eq_true rfl) ?_
  intro p e s m below meth c ls G hrt hlocks hname h hl
  have G : mw_G p m c b_M_work 4 s _ (c_M_work :: TB) R_M D cl (tys cA) n0 := G
  have hx := G.1.1
  have hb := G.1.2.1
  have hl : lv_has ls 4 [(0, .ref (q 0)), (1, .int y)] := hl
  obtain ⟨X, hG⟩ := id Y
  have X : MX cA w ρ q lim un sn pg bd cm cp tk rs F R := X
  have hG : LG F un sn fl us := hG
  have hun := hG.2.2.2.2.2.2
  have hlen : (liveN F un).length = us.length := by rw [hG.1, List.length_map]
  have hlle := liveN_le F un
  rcases (show kd = 0 ∨ kd = 1 ∨ kd = 2 ∨ kd = 3 ∨ kd = 4 ∨ kd = 5 by omega) with rfl | rfl | rfl | rfl | rfl | rfl
  · refine lv_aload_n hx hb d_M_work_0 rfl (lv_at hl 0 rfl) ?_
    refine mx_get G h X.1 rfl 12 (by decide) (tb_in in_M) (tb_c k_324) rfl rfl d_M_work_1 ?_
    refine lv_iload_n hx hb d_M_work_4 rfl (lv_at hl 1 rfl) ?_
    refine ax_i G h (X.2.1 12 (by decide)) ci hyu (by omega) (by decide) d_M_work_5 ?_
    refine lv_if_ne (tgt := 15) hx hb d_M_work_6 (by decide) (fun c_1 => absurd hk c_1) (fun c_1 => ?_)
    refine lv_aload_n hx hb d_M_work_9 rfl (lv_at hl 0 rfl) ?_
    refine lv_iload_n hx hb d_M_work_10 rfl (lv_at hl 1 rfl) ?_
    refine mx_cl (cV (As := [.int y]) (rest := []) G h (m_M_total Y hcm hcp hbd (by omega) hyu (u := (uof (cmdN F ci))) rfl rfl (hV (by decide))) k_410 k_412 ks_17 k_7 k_413 hd_M_total rfl rfl ⟨Nat.le_of_ble_eq_true rfl, Nat.le_of_ble_eq_true rfl⟩ X.1 rfl rfl hl.1 rfl (Nat.le_of_ble_eq_true rfl) d_M_work_11 ⟨Nat.le_of_ble_eq_true rfl, Nat.le_of_ble_eq_true rfl⟩) h (fun r_3 w_2 H locs h hcp1 => ?_)
    obtain ⟨er_4, ew_5⟩ := hcp1
    subst er_4
    rw [ew_5] at h
    exact mx_retl G h hrt hlocks d_M_work_14 (⟨rfl, F, un, by omega, Y, SF.rf, FR.rf⟩)
  · refine lv_aload_n hx hb d_M_work_0 rfl (lv_at hl 0 rfl) ?_
    refine mx_get G h X.1 rfl 12 (by decide) (tb_in in_M) (tb_c k_324) rfl rfl d_M_work_1 ?_
    refine lv_iload_n hx hb d_M_work_4 rfl (lv_at hl 1 rfl) ?_
    refine ax_i G h (X.2.1 12 (by decide)) ci hyu (by omega) (by decide) d_M_work_5 ?_
    refine lv_if_ne (tgt := 15) hx hb d_M_work_6 (by decide) (fun c_6 => ?_) (fun c_6 => absurd (hk.symm.trans c_6) (by decide))
    refine lv_aload_n hx hb d_M_work_15 rfl (lv_at hl 0 rfl) ?_
    refine mx_get G h X.1 rfl 12 (by decide) (tb_in in_M) (tb_c k_324) rfl rfl d_M_work_16 ?_
    refine lv_iload_n hx hb d_M_work_19 rfl (lv_at hl 1 rfl) ?_
    refine ax_i G h (X.2.1 12 (by decide)) ci hyu (by omega) (by decide) d_M_work_20 ?_
    refine lv_iconst (v := 5) hx hb d_M_work_21 (by decide) ?_
    refine lv_icmp_ne (tgt := 32) hx hb d_M_work_22 (by decide) (fun c_7 => ?_) (fun c_7 => absurd (hk.symm.trans c_7) (by decide))
    refine lv_aload_n hx hb d_M_work_32 rfl (lv_at hl 0 rfl) ?_
    refine mx_get G h X.1 rfl 12 (by decide) (tb_in in_M) (tb_c k_324) rfl rfl d_M_work_33 ?_
    refine lv_iload_n hx hb d_M_work_36 rfl (lv_at hl 1 rfl) ?_
    refine ax_i G h (X.2.1 12 (by decide)) ci hyu (by omega) (by decide) d_M_work_37 ?_
    refine lv_iconst (v := 3) hx hb d_M_work_38 (by decide) ?_
    refine lv_icmp_ne (tgt := 55) hx hb d_M_work_39 (by decide) (fun c_8 => ?_) (fun c_8 => absurd (hk.symm.trans c_8) (by decide))
    refine lv_aload_n hx hb d_M_work_55 rfl (lv_at hl 0 rfl) ?_
    refine mx_get G h X.1 rfl 12 (by decide) (tb_in in_M) (tb_c k_324) rfl rfl d_M_work_56 ?_
    refine lv_iload_n hx hb d_M_work_59 rfl (lv_at hl 1 rfl) ?_
    refine ax_i G h (X.2.1 12 (by decide)) ci hyu (by omega) (by decide) d_M_work_60 ?_
    refine lv_iconst (v := 2) hx hb d_M_work_61 (by decide) ?_
    refine lv_icmp_ne (tgt := 72) hx hb d_M_work_62 (by decide) (fun c_9 => ?_) (fun c_9 => absurd (hk.symm.trans c_9) (by decide))
    have e8 : carA lim 1 (uof (cmdN F ci)) (fl, us, sn, pg, bd) = (0, cacA lim (uof (cmdN F ci)) (fl, us, sn, pg, bd)) := rfl
    rw [e8]
    have add : ∀ (κ : kS) (E : Nat → Nat → Int32) (v : mw), MC cA v ρ q lim un cm cp tk rs E R κ → SF F E → FR w v (P7 ρ) → cacA lim (uof (cmdN F ci)) (fl, us, sn, pg, bd) = (κ.1, κ.2.1 ++ [(uof (cmdN F ci))], κ.2.2) → ∀ (H : Heap) (locs : List Loc) (ls : Array Slot), mw_H n0 D cl s v H locs → lv_has ls 4 [(2, .int 1), (0, .ref (q 0)), (1, .int y)] → W p l e (rmd 4) s m ([.ref (q 0), .int y] : List Value).toArray below meth c H locs 0 0 (MQ below (mw_Ql n0 D cl (fun r w' => r = ((0 : Int64), cacA lim (uof (cmdN F ci)) (fl, us, sn, pg, bd)).1 ∧ ∃ F' un', un' ≤ un + 1 ∧ MC cA w' ρ q lim un' cm cp tk rs F' R ((0 : Int64), cacA lim (uof (cmdN F ci)) (fl, us, sn, pg, bd)).2 ∧ SF F F' ∧ FR w w' (P7 ρ))) ([.ref (q 0), .int y] : List Value).toArray s 0 0 (mw_A n0)) (F0 m 102 ls []) := by
      intro κ E v V hsf hfr he H locs ls h hl
      obtain ⟨X1, hG1⟩ := id V
      have ec : cmdN E ci = cmdN F ci := cmdN_SF hsf
      refine lv_aload_n hx hb d_M_work_102 rfl (lv_at hl 1 rfl) ?_
      refine lv_iload_n hx hb d_M_work_103 rfl (lv_at hl 2 rfl) ?_
      refine mx_ci (cV (As := [.int y]) (rest := []) G h (m_M_make X1 (ci := ci) (by omega) (by omega) hyu) k_450 k_452 ks_27 k_7 k_453 hd_M_make rfl rfl ⟨Nat.le_of_ble_eq_true rfl, Nat.le_of_ble_eq_true rfl⟩ X1.1 rfl rfl hl.1 rfl (Nat.le_of_ble_eq_true rfl) d_M_work_104 ⟨Nat.le_of_ble_eq_true rfl, Nat.le_of_ble_eq_true rfl⟩) h (fun r_11 w_10 H locs h hcp1 => ?_)
      obtain ⟨er2, X2, hf2⟩ := hcp1
      subst er2
      have hk2 : mkF E un ci 12 ci = nI 1 := by rw [mkF_SF 12 (by decide), hsf 12 (by decide)]; exact hk
      refine lv_istore_n (lv' := [(3, .int (nI un)), (2, .int 1), (0, .ref (q 0)), (1, .int y)]) hx hb d_M_work_107 rfl hl (by decide) rfl (fun ls hl => ?_)
      refine lv_aload_n hx hb d_M_work_108 rfl (lv_at hl 2 rfl) ?_
      refine mx_get G h X2.1 rfl 12 (by decide) (tb_in in_M) (tb_c k_324) rfl rfl d_M_work_109 ?_
      refine lv_iload_n hx hb d_M_work_112 rfl (lv_at hl 3 rfl) ?_
      refine ax_i G h (X2.2.1 12 (by decide)) ci hyu (by omega) (by decide) d_M_work_113 ?_
      refine lv_iconst (v := 2) hx hb d_M_work_114 (by decide) ?_
      refine lv_icmp_ne (tgt := 127) hx hb d_M_work_115 (by decide) (fun c_12 => ?_) (fun c_12 => absurd (hk2.symm.trans c_12) (by decide))
      refine lv_aload_n hx hb d_M_work_127 rfl (lv_at hl 2 rfl) ?_
      refine mx_get G h X2.1 rfl 6 (by decide) (tb_in in_M) (tb_c k_318) rfl rfl d_M_work_128 ?_
      refine lv_iload_n hx hb d_M_work_131 rfl (lv_at hl 0 rfl) ?_
      refine lv_iconst (v := 1) hx hb d_M_work_132 (by decide) ?_
      refine ax_sz G h (X2.2.2.1 6 (by decide)) un rfl (by omega) (by decide) (by decide) d_M_work_133 (fun H locs h => ?_)
      have h : mw_H n0 D cl s (mw_up w_10 (q 6) (.inl (cA 2, 520, .inl (upd ((mkF E un ci) 6) un 1)))) H locs := h
      obtain ⟨w_13, ew_13⟩ : ∃ xx : mw, mw_up w_10 (q 6) (.inl (cA 2, 520, .inl (upd ((mkF E un ci) 6) un 1))) = xx := ⟨_, rfl⟩
      rw [ew_13] at h
      have f_14 : w_13 (q 6) = some (.inl (cA 2, 520, .inl (upd ((mkF E un ci) 6) un 1))) := by rw [← ew_13]; exact mw_self
      have X3 : MX cA w_13 ρ q lim (un + 1) κ.2.2.1 κ.2.2.2.1 κ.2.2.2.2 cm cp tk rs (va_up (mkF E un ci) 6 (upd (E 6) un 1)) R := by rw [← ew_13]; exact X2.putZ 6 (by decide) _
      have hf3 : FR w w_13 (P7 ρ) := (hfr.tr hf2).tr (by rw [← ew_13]; exact FQ (X.2.2.2.2.2.2.1 6 (by decide)))
      have hG3 := hG1.makeC (c := ci) (by omega) (by rw [ec]; exact hV (by decide))
      rw [ec] at hG3
      refine lv_lconst (v := 0) hx hb d_M_work_134 (by decide) ?_
      exact mx_retl G h hrt hlocks d_M_work_135 (⟨rfl, _, un + 1, Nat.le_refl _, by rw [he]; exact ⟨X3, hG3⟩, (hsf.tr mkF_SF).up6, hf3⟩)
    refine lv_aload_n hx hb d_M_work_72 rfl (lv_at hl 0 rfl) ?_
    refine mx_ci (cV (As := []) (rest := []) G h (m_M_inCache X hun hcm hcp) k_434 k_436 ks_23 k_7 k_437 hd_M_inCache rfl rfl ⟨Nat.le_of_ble_eq_true rfl, Nat.le_of_ble_eq_true rfl⟩ X.1 rfl rfl hl.1 rfl (Nat.le_of_ble_eq_true rfl) d_M_work_73 ⟨Nat.le_of_ble_eq_true rfl, Nat.le_of_ble_eq_true rfl⟩) h (fun r_16 w_15 H locs h hcp1 => ?_)
    obtain ⟨er_17, ew_18⟩ := hcp1
    subst er_17
    rw [ew_18] at h
    have et_19 : nI (liveN F un).length = nI us.length := by rw [hlen]
    rw [et_19]
    refine lv_aload_n hx hb d_M_work_76 rfl (lv_at hl 0 rfl) ?_
    refine mx_get G h X.1 rfl 0 (by decide) (tb_in in_M) (tb_c k_312) rfl rfl d_M_work_77 ?_
    refine lv_icmp_lt (tgt := 90) hx hb d_M_work_80 (by decide) (fun c_20 => ?_) (fun c_20 => ?_)
    · have hlt : us.length < lim := (nI_ltI (by omega) (by omega)).mp c_20
      refine lv_iconst (v := 1) hx hb d_M_work_90 (by decide) ?_
      refine lv_goto (tgt := 95) hx hb d_M_work_91 (by decide) ?_
      refine lv_istore_n (lv' := [(2, .int 1), (0, .ref (q 0)), (1, .int y)]) hx hb d_M_work_95 rfl hl (by decide) rfl (fun ls hl => ?_)
      refine lv_iload_n hx hb d_M_work_96 rfl (lv_at hl 0 rfl) ?_
      refine lv_if_ne (tgt := 102) hx hb d_M_work_97 (by decide) (fun c_21 => ?_) (fun c_21 => absurd c_21 (by decide))
      exact add (fl, us, sn, pg, bd) F w Y SF.rf FR.rf (by simp only [cacA]; rw [if_neg (by omega)]) H locs ls h (lv_sub hl [0, 1, 2] rfl)
    · have hge : lim ≤ us.length := Nat.not_lt.mp (fun z => c_20 ((nI_ltI (by omega) (by omega)).mpr z))
      refine lv_aload_n hx hb d_M_work_83 rfl (lv_at hl 0 rfl) ?_
      refine mx_ci (cV (As := []) (rest := []) G h (m_M_storeOldest Y hcm hcp hbd) k_442 k_444 ks_25 k_7 k_445 hd_M_storeOldest rfl rfl ⟨Nat.le_of_ble_eq_true rfl, Nat.le_of_ble_eq_true rfl⟩ X.1 rfl rfl hl.1 rfl (Nat.le_of_ble_eq_true rfl) d_M_work_84 ⟨Nat.le_of_ble_eq_true rfl, Nat.le_of_ble_eq_true rfl⟩) h (fun r_23 w_22 H locs h hcp1 => ?_)
      obtain ⟨er, E1, V1, hsf1, hf1⟩ := hcp1
      subst er
      refine lv_if_eq (tgt := 94) hx hb d_M_work_87 (by decide) (fun c_24 => ?_) (fun c_24 => ?_)
      · refine lv_iconst (v := 0) hx hb d_M_work_94 (by decide) ?_
        refine lv_istore_n (lv' := [(2, .int 0), (0, .ref (q 0)), (1, .int y)]) hx hb d_M_work_95 rfl hl (by decide) rfl (fun ls hl => ?_)
        refine lv_iload_n hx hb d_M_work_96 rfl (lv_at hl 0 rfl) ?_
        refine lv_if_ne (tgt := 102) hx hb d_M_work_97 (by decide) (fun c_25 => absurd rfl c_25) (fun c_25 => ?_)
        refine lv_lconst (v := 0) hx hb d_M_work_100 (by decide) ?_
        exact mx_retl G h hrt hlocks d_M_work_101 (⟨rfl, E1, un, by omega, by simp only [cacA]; rw [if_pos hge, if_neg (bI_0 c_24)]; exact V1, hsf1, hf1⟩)
      · refine lv_iconst (v := 1) hx hb d_M_work_90 (by decide) ?_
        refine lv_goto (tgt := 95) hx hb d_M_work_91 (by decide) ?_
        refine lv_istore_n (lv' := [(2, .int 1), (0, .ref (q 0)), (1, .int y)]) hx hb d_M_work_95 rfl hl (by decide) rfl (fun ls hl => ?_)
        refine lv_iload_n hx hb d_M_work_96 rfl (lv_at hl 0 rfl) ?_
        refine lv_if_ne (tgt := 102) hx hb d_M_work_97 (by decide) (fun c_26 => ?_) (fun c_26 => absurd c_26 (by decide))
        exact add (stoO (fl, us, sn, pg, bd)).2 E1 _ V1 hsf1 hf1 (by simp only [cacA]; rw [if_pos hge, if_pos (bI_n c_24)]) H locs ls h (lv_sub hl [0, 1, 2] rfl)
  · refine lv_aload_n hx hb d_M_work_0 rfl (lv_at hl 0 rfl) ?_
    refine mx_get G h X.1 rfl 12 (by decide) (tb_in in_M) (tb_c k_324) rfl rfl d_M_work_1 ?_
    refine lv_iload_n hx hb d_M_work_4 rfl (lv_at hl 1 rfl) ?_
    refine ax_i G h (X.2.1 12 (by decide)) ci hyu (by omega) (by decide) d_M_work_5 ?_
    refine lv_if_ne (tgt := 15) hx hb d_M_work_6 (by decide) (fun c_27 => ?_) (fun c_27 => absurd (hk.symm.trans c_27) (by decide))
    refine lv_aload_n hx hb d_M_work_15 rfl (lv_at hl 0 rfl) ?_
    refine mx_get G h X.1 rfl 12 (by decide) (tb_in in_M) (tb_c k_324) rfl rfl d_M_work_16 ?_
    refine lv_iload_n hx hb d_M_work_19 rfl (lv_at hl 1 rfl) ?_
    refine ax_i G h (X.2.1 12 (by decide)) ci hyu (by omega) (by decide) d_M_work_20 ?_
    refine lv_iconst (v := 5) hx hb d_M_work_21 (by decide) ?_
    refine lv_icmp_ne (tgt := 32) hx hb d_M_work_22 (by decide) (fun c_28 => ?_) (fun c_28 => absurd (hk.symm.trans c_28) (by decide))
    refine lv_aload_n hx hb d_M_work_32 rfl (lv_at hl 0 rfl) ?_
    refine mx_get G h X.1 rfl 12 (by decide) (tb_in in_M) (tb_c k_324) rfl rfl d_M_work_33 ?_
    refine lv_iload_n hx hb d_M_work_36 rfl (lv_at hl 1 rfl) ?_
    refine ax_i G h (X.2.1 12 (by decide)) ci hyu (by omega) (by decide) d_M_work_37 ?_
    refine lv_iconst (v := 3) hx hb d_M_work_38 (by decide) ?_
    refine lv_icmp_ne (tgt := 55) hx hb d_M_work_39 (by decide) (fun c_29 => ?_) (fun c_29 => absurd (hk.symm.trans c_29) (by decide))
    refine lv_aload_n hx hb d_M_work_55 rfl (lv_at hl 0 rfl) ?_
    refine mx_get G h X.1 rfl 12 (by decide) (tb_in in_M) (tb_c k_324) rfl rfl d_M_work_56 ?_
    refine lv_iload_n hx hb d_M_work_59 rfl (lv_at hl 1 rfl) ?_
    refine ax_i G h (X.2.1 12 (by decide)) ci hyu (by omega) (by decide) d_M_work_60 ?_
    refine lv_iconst (v := 2) hx hb d_M_work_61 (by decide) ?_
    refine lv_icmp_ne (tgt := 72) hx hb d_M_work_62 (by decide) (fun c_30 => absurd hk c_30) (fun c_30 => ?_)
    refine lv_aload_n hx hb d_M_work_65 rfl (lv_at hl 0 rfl) ?_
    refine mx_ci (cV (As := []) (rest := []) G h (m_M_empty Y hcm hcp hbd) k_438 k_440 ks_24 k_7 k_441 hd_M_empty rfl rfl ⟨Nat.le_of_ble_eq_true rfl, Nat.le_of_ble_eq_true rfl⟩ X.1 rfl rfl hl.1 rfl (Nat.le_of_ble_eq_true rfl) d_M_work_66 ⟨Nat.le_of_ble_eq_true rfl, Nat.le_of_ble_eq_true rfl⟩) h (fun r_32 w_31 H locs h hcp1 => ?_)
    obtain ⟨er, E1, V1, hsf1, hf1⟩ := hcp1
    subst er
    refine lv_goto (tgt := 95) hx hb d_M_work_69 (by decide) ?_
    refine lv_istore_n (lv' := [(2, .int (bI ((empK (fl, us, sn, pg, bd)).1 = true))), (0, .ref (q 0)), (1, .int y)]) hx hb d_M_work_95 rfl hl (by decide) rfl (fun ls hl => ?_)
    refine lv_iload_n hx hb d_M_work_96 rfl (lv_at hl 0 rfl) ?_
    have hpl1 : (empK (fl, us, sn, pg, bd)).2.2.2.2.2 < 1000 := Nat.lt_of_le_of_lt empA_pl hbd
    refine lv_if_ne (tgt := 102) hx hb d_M_work_97 (by decide) (fun c_33 => ?_) (fun c_33 => ?_)
    · have e9 : forA (uof (cmdN F ci)) (fl, us, sn, pg, bd) = stoF (uof (cmdN F ci)) (empK (fl, us, sn, pg, bd)).2 := by simp only [forA]; rw [if_pos (bI_n c_33)]
      have e8 : carA lim 2 (uof (cmdN F ci)) (fl, us, sn, pg, bd) = (0, stoF (uof (cmdN F ci)) (empK (fl, us, sn, pg, bd)).2) := by rw [← e9]; rfl
      rw [e8]
      generalize (empK (fl, us, sn, pg, bd)).2 = κ at V1 hpl1
      obtain ⟨X1, hG1⟩ := id V1
      have ec : cmdN E1 ci = cmdN F ci := cmdN_SF hsf1
      refine lv_aload_n hx hb d_M_work_102 rfl (lv_at hl 1 rfl) ?_
      refine lv_iload_n hx hb d_M_work_103 rfl (lv_at hl 2 rfl) ?_
      refine mx_ci (cV (As := [.int y]) (rest := []) G h (m_M_make X1 (ci := ci) (by omega) (by omega) hyu) k_450 k_452 ks_27 k_7 k_453 hd_M_make rfl rfl ⟨Nat.le_of_ble_eq_true rfl, Nat.le_of_ble_eq_true rfl⟩ X1.1 rfl rfl hl.1 rfl (Nat.le_of_ble_eq_true rfl) d_M_work_104 ⟨Nat.le_of_ble_eq_true rfl, Nat.le_of_ble_eq_true rfl⟩) h (fun r_35 w_34 H locs h hcp1 => ?_)
      obtain ⟨er2, X2, hf2⟩ := hcp1
      subst er2
      have hk2 : mkF E1 un ci 12 ci = nI 2 := by rw [mkF_SF 12 (by decide), hsf1 12 (by decide)]; exact hk
      have hG2 := hG1.make (c := ci) (by omega) (by rw [ec]; exact hV (by decide))
      have hn2 : uN (mkF E1 un ci) un = (uof (cmdN F ci)) := by rw [mkF_new, ec]
      refine lv_istore_n (lv' := [(3, .int (nI un)), (2, .int (bI ((empK (fl, us, sn, pg, bd)).1 = true))), (0, .ref (q 0)), (1, .int y)]) hx hb d_M_work_107 rfl hl (by decide) rfl (fun ls hl => ?_)
      refine lv_aload_n hx hb d_M_work_108 rfl (lv_at hl 2 rfl) ?_
      refine mx_get G h X2.1 rfl 12 (by decide) (tb_in in_M) (tb_c k_324) rfl rfl d_M_work_109 ?_
      refine lv_iload_n hx hb d_M_work_112 rfl (lv_at hl 3 rfl) ?_
      refine ax_i G h (X2.2.1 12 (by decide)) ci hyu (by omega) (by decide) d_M_work_113 ?_
      refine lv_iconst (v := 2) hx hb d_M_work_114 (by decide) ?_
      refine lv_icmp_ne (tgt := 127) hx hb d_M_work_115 (by decide) (fun c_36 => absurd hk2 c_36) (fun c_36 => ?_)
      refine lv_aload_n hx hb d_M_work_118 rfl (lv_at hl 2 rfl) ?_
      refine lv_iload_n hx hb d_M_work_119 rfl (lv_at hl 0 rfl) ?_
      refine mx_ci (cV (As := [.int (nI un)]) (rest := []) G h (m_M_store X2 (u := un) (by omega) (by rw [hn2]; exact hV (by decide)) hpl1 rfl) k_446 k_448 ks_26 k_7 k_449 hd_M_store rfl rfl ⟨Nat.le_of_ble_eq_true rfl, Nat.le_of_ble_eq_true rfl⟩ X2.1 rfl rfl hl.1 rfl (Nat.le_of_ble_eq_true rfl) d_M_work_120 ⟨Nat.le_of_ble_eq_true rfl, Nat.le_of_ble_eq_true rfl⟩) h (fun r_38 w_37 H locs h hcp1 => ?_)
      refine lv_istore_n (lv' := [(2, .int r_38), (3, .int (nI un)), (0, .ref (q 0)), (1, .int y)]) hx hb d_M_work_123 rfl hl (by decide) rfl (fun ls hl => ?_)
      refine lv_goto (tgt := 134) hx hb d_M_work_124 (by decide) ?_
      refine lv_lconst (v := 0) hx hb d_M_work_134 (by decide) ?_
      rw [hn2] at hcp1
      rcases Nat.lt_or_ge κ.2.2.2.2 (lnU (uof (cmdN F ci))) with hlt | hge
      · obtain ⟨-, X3, hf3⟩ := hcp1.2 hlt
        exact mx_retl G h hrt hlocks d_M_work_135 (⟨rfl, _, un + 1, Nat.le_refl _, by rw [stoF, if_neg (by omega)]; exact ⟨X3, hG2⟩, hsf1.tr mkF_SF, (hf1.tr hf2).tr hf3⟩)
      · obtain ⟨-, X3, hf3⟩ := hcp1.1 hge
        have hG3 := hG2.store (u := un) (us' := κ.2.1) (by omega) (by have h9 := hG1.2.2.2.2.2.1; have h8 := congrArg List.length hG1.1; rw [List.length_map] at h8; omega) (LG.live_st hG1)
        rw [hn2] at hG3
        exact mx_retl G h hrt hlocks d_M_work_135 (⟨rfl, _, un + 1, Nat.le_refl _, by rw [stoF, if_pos hge]; exact ⟨X3, hG3⟩, (hsf1.tr mkF_SF).tr SF.st, (hf1.tr hf2).tr hf3⟩)
    · refine lv_lconst (v := 0) hx hb d_M_work_100 (by decide) ?_
      have e9 : forA (uof (cmdN F ci)) (fl, us, sn, pg, bd) = (empK (fl, us, sn, pg, bd)).2 := by simp only [forA]; rw [if_neg (bI_0 c_33)]
      have e8 : carA lim 2 (uof (cmdN F ci)) (fl, us, sn, pg, bd) = (0, (empK (fl, us, sn, pg, bd)).2) := by rw [← e9]; rfl
      exact mx_retl G h hrt hlocks d_M_work_101 (by rw [e8]; exact ⟨rfl, E1, un, by omega, V1, hsf1, hf1⟩)
  · refine lv_aload_n hx hb d_M_work_0 rfl (lv_at hl 0 rfl) ?_
    refine mx_get G h X.1 rfl 12 (by decide) (tb_in in_M) (tb_c k_324) rfl rfl d_M_work_1 ?_
    refine lv_iload_n hx hb d_M_work_4 rfl (lv_at hl 1 rfl) ?_
    refine ax_i G h (X.2.1 12 (by decide)) ci hyu (by omega) (by decide) d_M_work_5 ?_
    refine lv_if_ne (tgt := 15) hx hb d_M_work_6 (by decide) (fun c_39 => ?_) (fun c_39 => absurd (hk.symm.trans c_39) (by decide))
    refine lv_aload_n hx hb d_M_work_15 rfl (lv_at hl 0 rfl) ?_
    refine mx_get G h X.1 rfl 12 (by decide) (tb_in in_M) (tb_c k_324) rfl rfl d_M_work_16 ?_
    refine lv_iload_n hx hb d_M_work_19 rfl (lv_at hl 1 rfl) ?_
    refine ax_i G h (X.2.1 12 (by decide)) ci hyu (by omega) (by decide) d_M_work_20 ?_
    refine lv_iconst (v := 5) hx hb d_M_work_21 (by decide) ?_
    refine lv_icmp_ne (tgt := 32) hx hb d_M_work_22 (by decide) (fun c_40 => ?_) (fun c_40 => absurd (hk.symm.trans c_40) (by decide))
    refine lv_aload_n hx hb d_M_work_32 rfl (lv_at hl 0 rfl) ?_
    refine mx_get G h X.1 rfl 12 (by decide) (tb_in in_M) (tb_c k_324) rfl rfl d_M_work_33 ?_
    refine lv_iload_n hx hb d_M_work_36 rfl (lv_at hl 1 rfl) ?_
    refine ax_i G h (X.2.1 12 (by decide)) ci hyu (by omega) (by decide) d_M_work_37 ?_
    refine lv_iconst (v := 3) hx hb d_M_work_38 (by decide) ?_
    refine lv_icmp_ne (tgt := 55) hx hb d_M_work_39 (by decide) (fun c_41 => absurd hk c_41) (fun c_41 => ?_)
    refine lv_aload_n hx hb d_M_work_42 rfl (lv_at hl 0 rfl) ?_
    refine mx_ci (cV (As := []) (rest := []) G h (m_M_inCache X hun hcm hcp) k_434 k_436 ks_23 k_7 k_437 hd_M_inCache rfl rfl ⟨Nat.le_of_ble_eq_true rfl, Nat.le_of_ble_eq_true rfl⟩ X.1 rfl rfl hl.1 rfl (Nat.le_of_ble_eq_true rfl) d_M_work_43 ⟨Nat.le_of_ble_eq_true rfl, Nat.le_of_ble_eq_true rfl⟩) h (fun r_43 w_42 H locs h hcp1 => ?_)
    obtain ⟨er_44, ew_45⟩ := hcp1
    subst er_44
    rw [ew_45] at h
    have et_46 : nI (liveN F un).length = nI us.length := by rw [hlen]
    rw [et_46]
    refine lv_istore_n (lv' := [(2, .int (nI us.length)), (0, .ref (q 0)), (1, .int y)]) hx hb d_M_work_46 rfl hl (by decide) rfl (fun ls hl => ?_)
    refine lv_aload_n hx hb d_M_work_47 rfl (lv_at hl 1 rfl) ?_
    refine mx_ci (cV (As := []) (rest := []) G h (m_M_empty Y hcm hcp hbd) k_438 k_440 ks_24 k_7 k_441 hd_M_empty rfl rfl ⟨Nat.le_of_ble_eq_true rfl, Nat.le_of_ble_eq_true rfl⟩ X.1 rfl rfl hl.1 rfl (Nat.le_of_ble_eq_true rfl) d_M_work_48 ⟨Nat.le_of_ble_eq_true rfl, Nat.le_of_ble_eq_true rfl⟩) h (fun r_48 w_47 H locs h hcp1 => ?_)
    obtain ⟨-, E1, V1, hsf1, hf1⟩ := hcp1
    refine lv_istore_n (lv' := [(3, .int r_48), (2, .int (nI us.length)), (0, .ref (q 0)), (1, .int y)]) hx hb d_M_work_51 rfl hl (by decide) rfl (fun ls hl => ?_)
    refine lv_iload_n hx hb d_M_work_52 rfl (lv_at hl 1 rfl) ?_
    refine lv_i2l hx hb d_M_work_53 rfl ?_
    exact mx_retl G h hrt hlocks d_M_work_54 (⟨rfl, E1, un, by omega, V1, hsf1, hf1⟩)
  · refine lv_aload_n hx hb d_M_work_0 rfl (lv_at hl 0 rfl) ?_
    refine mx_get G h X.1 rfl 12 (by decide) (tb_in in_M) (tb_c k_324) rfl rfl d_M_work_1 ?_
    refine lv_iload_n hx hb d_M_work_4 rfl (lv_at hl 1 rfl) ?_
    refine ax_i G h (X.2.1 12 (by decide)) ci hyu (by omega) (by decide) d_M_work_5 ?_
    refine lv_if_ne (tgt := 15) hx hb d_M_work_6 (by decide) (fun c_49 => ?_) (fun c_49 => absurd (hk.symm.trans c_49) (by decide))
    refine lv_aload_n hx hb d_M_work_15 rfl (lv_at hl 0 rfl) ?_
    refine mx_get G h X.1 rfl 12 (by decide) (tb_in in_M) (tb_c k_324) rfl rfl d_M_work_16 ?_
    refine lv_iload_n hx hb d_M_work_19 rfl (lv_at hl 1 rfl) ?_
    refine ax_i G h (X.2.1 12 (by decide)) ci hyu (by omega) (by decide) d_M_work_20 ?_
    refine lv_iconst (v := 5) hx hb d_M_work_21 (by decide) ?_
    refine lv_icmp_ne (tgt := 32) hx hb d_M_work_22 (by decide) (fun c_50 => ?_) (fun c_50 => absurd (hk.symm.trans c_50) (by decide))
    refine lv_aload_n hx hb d_M_work_32 rfl (lv_at hl 0 rfl) ?_
    refine mx_get G h X.1 rfl 12 (by decide) (tb_in in_M) (tb_c k_324) rfl rfl d_M_work_33 ?_
    refine lv_iload_n hx hb d_M_work_36 rfl (lv_at hl 1 rfl) ?_
    refine ax_i G h (X.2.1 12 (by decide)) ci hyu (by omega) (by decide) d_M_work_37 ?_
    refine lv_iconst (v := 3) hx hb d_M_work_38 (by decide) ?_
    refine lv_icmp_ne (tgt := 55) hx hb d_M_work_39 (by decide) (fun c_51 => ?_) (fun c_51 => absurd (hk.symm.trans c_51) (by decide))
    refine lv_aload_n hx hb d_M_work_55 rfl (lv_at hl 0 rfl) ?_
    refine mx_get G h X.1 rfl 12 (by decide) (tb_in in_M) (tb_c k_324) rfl rfl d_M_work_56 ?_
    refine lv_iload_n hx hb d_M_work_59 rfl (lv_at hl 1 rfl) ?_
    refine ax_i G h (X.2.1 12 (by decide)) ci hyu (by omega) (by decide) d_M_work_60 ?_
    refine lv_iconst (v := 2) hx hb d_M_work_61 (by decide) ?_
    refine lv_icmp_ne (tgt := 72) hx hb d_M_work_62 (by decide) (fun c_52 => ?_) (fun c_52 => absurd (hk.symm.trans c_52) (by decide))
    have e8 : carA lim 4 (uof (cmdN F ci)) (fl, us, sn, pg, bd) = (0, cacA lim (uof (cmdN F ci)) (fl, us, sn, pg, bd)) := rfl
    rw [e8]
    have add : ∀ (κ : kS) (E : Nat → Nat → Int32) (v : mw), MC cA v ρ q lim un cm cp tk rs E R κ → SF F E → FR w v (P7 ρ) → cacA lim (uof (cmdN F ci)) (fl, us, sn, pg, bd) = (κ.1, κ.2.1 ++ [(uof (cmdN F ci))], κ.2.2) → ∀ (H : Heap) (locs : List Loc) (ls : Array Slot), mw_H n0 D cl s v H locs → lv_has ls 4 [(2, .int 1), (0, .ref (q 0)), (1, .int y)] → W p l e (rmd 4) s m ([.ref (q 0), .int y] : List Value).toArray below meth c H locs 0 0 (MQ below (mw_Ql n0 D cl (fun r w' => r = ((0 : Int64), cacA lim (uof (cmdN F ci)) (fl, us, sn, pg, bd)).1 ∧ ∃ F' un', un' ≤ un + 1 ∧ MC cA w' ρ q lim un' cm cp tk rs F' R ((0 : Int64), cacA lim (uof (cmdN F ci)) (fl, us, sn, pg, bd)).2 ∧ SF F F' ∧ FR w w' (P7 ρ))) ([.ref (q 0), .int y] : List Value).toArray s 0 0 (mw_A n0)) (F0 m 102 ls []) := by
      intro κ E v V hsf hfr he H locs ls h hl
      obtain ⟨X1, hG1⟩ := id V
      have ec : cmdN E ci = cmdN F ci := cmdN_SF hsf
      refine lv_aload_n hx hb d_M_work_102 rfl (lv_at hl 1 rfl) ?_
      refine lv_iload_n hx hb d_M_work_103 rfl (lv_at hl 2 rfl) ?_
      refine mx_ci (cV (As := [.int y]) (rest := []) G h (m_M_make X1 (ci := ci) (by omega) (by omega) hyu) k_450 k_452 ks_27 k_7 k_453 hd_M_make rfl rfl ⟨Nat.le_of_ble_eq_true rfl, Nat.le_of_ble_eq_true rfl⟩ X1.1 rfl rfl hl.1 rfl (Nat.le_of_ble_eq_true rfl) d_M_work_104 ⟨Nat.le_of_ble_eq_true rfl, Nat.le_of_ble_eq_true rfl⟩) h (fun r_54 w_53 H locs h hcp1 => ?_)
      obtain ⟨er2, X2, hf2⟩ := hcp1
      subst er2
      have hk2 : mkF E un ci 12 ci = nI 4 := by rw [mkF_SF 12 (by decide), hsf 12 (by decide)]; exact hk
      refine lv_istore_n (lv' := [(3, .int (nI un)), (2, .int 1), (0, .ref (q 0)), (1, .int y)]) hx hb d_M_work_107 rfl hl (by decide) rfl (fun ls hl => ?_)
      refine lv_aload_n hx hb d_M_work_108 rfl (lv_at hl 2 rfl) ?_
      refine mx_get G h X2.1 rfl 12 (by decide) (tb_in in_M) (tb_c k_324) rfl rfl d_M_work_109 ?_
      refine lv_iload_n hx hb d_M_work_112 rfl (lv_at hl 3 rfl) ?_
      refine ax_i G h (X2.2.1 12 (by decide)) ci hyu (by omega) (by decide) d_M_work_113 ?_
      refine lv_iconst (v := 2) hx hb d_M_work_114 (by decide) ?_
      refine lv_icmp_ne (tgt := 127) hx hb d_M_work_115 (by decide) (fun c_55 => ?_) (fun c_55 => absurd (hk2.symm.trans c_55) (by decide))
      refine lv_aload_n hx hb d_M_work_127 rfl (lv_at hl 2 rfl) ?_
      refine mx_get G h X2.1 rfl 6 (by decide) (tb_in in_M) (tb_c k_318) rfl rfl d_M_work_128 ?_
      refine lv_iload_n hx hb d_M_work_131 rfl (lv_at hl 0 rfl) ?_
      refine lv_iconst (v := 1) hx hb d_M_work_132 (by decide) ?_
      refine ax_sz G h (X2.2.2.1 6 (by decide)) un rfl (by omega) (by decide) (by decide) d_M_work_133 (fun H locs h => ?_)
      have h : mw_H n0 D cl s (mw_up w_53 (q 6) (.inl (cA 2, 520, .inl (upd ((mkF E un ci) 6) un 1)))) H locs := h
      obtain ⟨w_56, ew_56⟩ : ∃ xx : mw, mw_up w_53 (q 6) (.inl (cA 2, 520, .inl (upd ((mkF E un ci) 6) un 1))) = xx := ⟨_, rfl⟩
      rw [ew_56] at h
      have f_57 : w_56 (q 6) = some (.inl (cA 2, 520, .inl (upd ((mkF E un ci) 6) un 1))) := by rw [← ew_56]; exact mw_self
      have X3 : MX cA w_56 ρ q lim (un + 1) κ.2.2.1 κ.2.2.2.1 κ.2.2.2.2 cm cp tk rs (va_up (mkF E un ci) 6 (upd (E 6) un 1)) R := by rw [← ew_56]; exact X2.putZ 6 (by decide) _
      have hf3 : FR w w_56 (P7 ρ) := (hfr.tr hf2).tr (by rw [← ew_56]; exact FQ (X.2.2.2.2.2.2.1 6 (by decide)))
      have hG3 := hG1.makeC (c := ci) (by omega) (by rw [ec]; exact hV (by decide))
      rw [ec] at hG3
      refine lv_lconst (v := 0) hx hb d_M_work_134 (by decide) ?_
      exact mx_retl G h hrt hlocks d_M_work_135 (⟨rfl, _, un + 1, Nat.le_refl _, by rw [he]; exact ⟨X3, hG3⟩, (hsf.tr mkF_SF).up6, hf3⟩)
    refine lv_aload_n hx hb d_M_work_72 rfl (lv_at hl 0 rfl) ?_
    refine mx_ci (cV (As := []) (rest := []) G h (m_M_inCache X hun hcm hcp) k_434 k_436 ks_23 k_7 k_437 hd_M_inCache rfl rfl ⟨Nat.le_of_ble_eq_true rfl, Nat.le_of_ble_eq_true rfl⟩ X.1 rfl rfl hl.1 rfl (Nat.le_of_ble_eq_true rfl) d_M_work_73 ⟨Nat.le_of_ble_eq_true rfl, Nat.le_of_ble_eq_true rfl⟩) h (fun r_59 w_58 H locs h hcp1 => ?_)
    obtain ⟨er_60, ew_61⟩ := hcp1
    subst er_60
    rw [ew_61] at h
    have et_62 : nI (liveN F un).length = nI us.length := by rw [hlen]
    rw [et_62]
    refine lv_aload_n hx hb d_M_work_76 rfl (lv_at hl 0 rfl) ?_
    refine mx_get G h X.1 rfl 0 (by decide) (tb_in in_M) (tb_c k_312) rfl rfl d_M_work_77 ?_
    refine lv_icmp_lt (tgt := 90) hx hb d_M_work_80 (by decide) (fun c_63 => ?_) (fun c_63 => ?_)
    · have hlt : us.length < lim := (nI_ltI (by omega) (by omega)).mp c_63
      refine lv_iconst (v := 1) hx hb d_M_work_90 (by decide) ?_
      refine lv_goto (tgt := 95) hx hb d_M_work_91 (by decide) ?_
      refine lv_istore_n (lv' := [(2, .int 1), (0, .ref (q 0)), (1, .int y)]) hx hb d_M_work_95 rfl hl (by decide) rfl (fun ls hl => ?_)
      refine lv_iload_n hx hb d_M_work_96 rfl (lv_at hl 0 rfl) ?_
      refine lv_if_ne (tgt := 102) hx hb d_M_work_97 (by decide) (fun c_64 => ?_) (fun c_64 => absurd c_64 (by decide))
      exact add (fl, us, sn, pg, bd) F w Y SF.rf FR.rf (by simp only [cacA]; rw [if_neg (by omega)]) H locs ls h (lv_sub hl [0, 1, 2] rfl)
    · have hge : lim ≤ us.length := Nat.not_lt.mp (fun z => c_63 ((nI_ltI (by omega) (by omega)).mpr z))
      refine lv_aload_n hx hb d_M_work_83 rfl (lv_at hl 0 rfl) ?_
      refine mx_ci (cV (As := []) (rest := []) G h (m_M_storeOldest Y hcm hcp hbd) k_442 k_444 ks_25 k_7 k_445 hd_M_storeOldest rfl rfl ⟨Nat.le_of_ble_eq_true rfl, Nat.le_of_ble_eq_true rfl⟩ X.1 rfl rfl hl.1 rfl (Nat.le_of_ble_eq_true rfl) d_M_work_84 ⟨Nat.le_of_ble_eq_true rfl, Nat.le_of_ble_eq_true rfl⟩) h (fun r_66 w_65 H locs h hcp1 => ?_)
      obtain ⟨er, E1, V1, hsf1, hf1⟩ := hcp1
      subst er
      refine lv_if_eq (tgt := 94) hx hb d_M_work_87 (by decide) (fun c_67 => ?_) (fun c_67 => ?_)
      · refine lv_iconst (v := 0) hx hb d_M_work_94 (by decide) ?_
        refine lv_istore_n (lv' := [(2, .int 0), (0, .ref (q 0)), (1, .int y)]) hx hb d_M_work_95 rfl hl (by decide) rfl (fun ls hl => ?_)
        refine lv_iload_n hx hb d_M_work_96 rfl (lv_at hl 0 rfl) ?_
        refine lv_if_ne (tgt := 102) hx hb d_M_work_97 (by decide) (fun c_68 => absurd rfl c_68) (fun c_68 => ?_)
        refine lv_lconst (v := 0) hx hb d_M_work_100 (by decide) ?_
        exact mx_retl G h hrt hlocks d_M_work_101 (⟨rfl, E1, un, by omega, by simp only [cacA]; rw [if_pos hge, if_neg (bI_0 c_67)]; exact V1, hsf1, hf1⟩)
      · refine lv_iconst (v := 1) hx hb d_M_work_90 (by decide) ?_
        refine lv_goto (tgt := 95) hx hb d_M_work_91 (by decide) ?_
        refine lv_istore_n (lv' := [(2, .int 1), (0, .ref (q 0)), (1, .int y)]) hx hb d_M_work_95 rfl hl (by decide) rfl (fun ls hl => ?_)
        refine lv_iload_n hx hb d_M_work_96 rfl (lv_at hl 0 rfl) ?_
        refine lv_if_ne (tgt := 102) hx hb d_M_work_97 (by decide) (fun c_69 => ?_) (fun c_69 => absurd c_69 (by decide))
        exact add (stoO (fl, us, sn, pg, bd)).2 E1 _ V1 hsf1 hf1 (by simp only [cacA]; rw [if_pos hge, if_pos (bI_n c_67)]) H locs ls h (lv_sub hl [0, 1, 2] rfl)
  · refine lv_aload_n hx hb d_M_work_0 rfl (lv_at hl 0 rfl) ?_
    refine mx_get G h X.1 rfl 12 (by decide) (tb_in in_M) (tb_c k_324) rfl rfl d_M_work_1 ?_
    refine lv_iload_n hx hb d_M_work_4 rfl (lv_at hl 1 rfl) ?_
    refine ax_i G h (X.2.1 12 (by decide)) ci hyu (by omega) (by decide) d_M_work_5 ?_
    refine lv_if_ne (tgt := 15) hx hb d_M_work_6 (by decide) (fun c_70 => ?_) (fun c_70 => absurd (hk.symm.trans c_70) (by decide))
    refine lv_aload_n hx hb d_M_work_15 rfl (lv_at hl 0 rfl) ?_
    refine mx_get G h X.1 rfl 12 (by decide) (tb_in in_M) (tb_c k_324) rfl rfl d_M_work_16 ?_
    refine lv_iload_n hx hb d_M_work_19 rfl (lv_at hl 1 rfl) ?_
    refine ax_i G h (X.2.1 12 (by decide)) ci hyu (by omega) (by decide) d_M_work_20 ?_
    refine lv_iconst (v := 5) hx hb d_M_work_21 (by decide) ?_
    refine lv_icmp_ne (tgt := 32) hx hb d_M_work_22 (by decide) (fun c_71 => absurd hk c_71) (fun c_71 => ?_)
    refine lv_aload_n hx hb d_M_work_25 rfl (lv_at hl 0 rfl) ?_
    refine lv_iload_n hx hb d_M_work_26 rfl (lv_at hl 1 rfl) ?_
    refine mx_ci (cV (As := [.int y]) (rest := []) G h (m_M_differing Y hcm hcp hbd (by omega) hyu (u := (uof (cmdN F ci))) rfl rfl (hV (by decide)) rfl (bI_f (by rw [show (cmdN F ci).2.1 = nI 5 from hk]; decide))) k_430 k_432 ks_22 k_7 k_433 hd_M_differing rfl rfl ⟨Nat.le_of_ble_eq_true rfl, Nat.le_of_ble_eq_true rfl⟩ X.1 rfl rfl hl.1 rfl (Nat.le_of_ble_eq_true rfl) d_M_work_27 ⟨Nat.le_of_ble_eq_true rfl, Nat.le_of_ble_eq_true rfl⟩) h (fun r_73 w_72 H locs h hcp1 => ?_)
    obtain ⟨er_74, ew_75⟩ := hcp1
    subst er_74
    rw [ew_75] at h
    refine lv_i2l hx hb d_M_work_30 rfl ?_
    exact mx_retl G h hrt hlocks d_M_work_31 (⟨rfl, F, un, by omega, Y, SF.rf, FR.rf⟩)
end
section
/-! The reference's state against the document's -/
def QN (F : Nat → Nat → Int32) (R : Nat → Int64) (cm cp : Nat) (pq : Nat → List pC) (cq : Nat → List (Int32 × Int64)) : Prop :=
  (∀ j, j < 3 → pq j = (pendN F cm (nI j)).map (cmdN F)) ∧ (∀ j, j < 3 → cq j = (doneN F cp (nI j)).map (fun i => (F 18 i, R i))) ∧ (∀ j, j < 3 → (pq j).length ≤ 4 ∧ (cq j).length ≤ 4) ∧ (∀ c, 1 ≤ c → c ≤ cm → vC (cmdN F c))
def MR (cA : Nat → ClassId) (w : mw) (ρ q : Nat → Nat) (lim t : Nat) (g : gS) : Prop := ∃ un cp bd F R, MC cA w ρ q lim un g.2.2.2.2.2.2.1 cp g.2.2.2.2.2.2.2.1 g.2.2.2.2.2.2.2.2 F R (g.1, g.2.1, g.2.2.1, g.2.2.2.1, bd) ∧ un ≤ t ∧ g.2.2.2.2.2.2.1 ≤ t ∧ cp ≤ t ∧ bd < 1000 ∧ QN F R g.2.2.2.2.2.2.1 cp g.2.2.2.2.1 g.2.2.2.2.2.1
theorem uN_congr {F F' : Nat → Nat → Int32} (h : ∀ i, i ≤ 6 → F' i = F i) (v : Nat) : uN F' v = uN F v := by
  simp only [uN, h 1 (by decide), h 2 (by decide), h 3 (by decide), h 4 (by decide)]
theorem LG.cong {F F' : Nat → Nat → Int32} {un sn : Nat} {fl : Nat → Int64} {us : List uU} (hG : LG F un sn fl us) (h : ∀ i, i ≤ 6 → F' i = F i) : LG F' un sn fl us := by
  obtain ⟨h1, h2, h3, h4, h5, h6, h7⟩ := hG
  have hl : liveN F' un = liveN F un := liveN_congr (fun v _ => by rw [h 6 (by decide)])
  refine ⟨?_, fun a ha => ?_, fun v hv => by rw [uN_congr h]; exact h3 v hv, fun v hv => by rw [h 5 (by decide)]; exact h4 v hv, fun v hv => by rw [h 6 (by decide)]; exact h5 v hv, by rw [hl]; exact h6, h7⟩
  · rw [hl, h1]; exact List.map_congr_left (fun v _ => (uN_congr h v).symm)
  · rw [h2 a ha, inFl, inFl, bestN_congr (F' := F') (F := F) (fun v _ => ⟨by rw [h 5 (by decide)], uN_congr h v⟩)]
    cases bestN F (nI a) un with
    | none => rfl
    | some b => show wrd (uN F b) (nI a) = wrd (uN F' b) (nI a); rw [uN_congr h]
theorem pendN_congr {F F' : Nat → Nat → Int32} {x : Int32} : ∀ {n : Nat}, (∀ c, 1 ≤ c → c ≤ n → (F' 11 c = x ↔ F 11 c = x)) → pendN F' n x = pendN F n x
  | 0, _ => rfl
  | n + 1, h => by
    rw [pendN_s, pendN_s, pendN_congr (fun c h1 h2 => h c h1 (by omega))]
    by_cases e : F 11 (n + 1) = x
    · rw [if_pos e, if_pos ((h (n + 1) (by omega) (by omega)).mpr e)]
    · rw [if_neg e, if_neg (fun z => e ((h (n + 1) (by omega) (by omega)).mp z))]
theorem doneN_congr {F F' : Nat → Nat → Int32} {x : Int32} : ∀ {n : Nat}, (∀ i, i < n → (F' 17 i = x ↔ F 17 i = x)) → doneN F' n x = doneN F n x
  | 0, _ => rfl
  | n + 1, h => by
    rw [doneN_s, doneN_s, doneN_congr (fun i h2 => h i (by omega))]
    by_cases e : F 17 n = x
    · rw [if_pos e, if_pos ((h n (by omega)).mpr e)]
    · rw [if_neg e, if_neg (fun z => e ((h n (by omega)).mp z))]
theorem pendN_mem {F : Nat → Nat → Int32} {n c : Nat} {x : Int32} : c ∈ pendN F n x ↔ (1 ≤ c ∧ c ≤ n) ∧ F 11 c = x := by
  simp only [pendN, List.mem_filter, List.mem_map, List.mem_range, decide_eq_true_eq]
  constructor
  · rintro ⟨⟨i, hi, rfl⟩, h⟩; exact ⟨⟨by omega, by omega⟩, h⟩
  · rintro ⟨⟨h1, h2⟩, h⟩; exact ⟨⟨c - 1, by omega, by omega⟩, h⟩
theorem doneN_mem {F : Nat → Nat → Int32} {n i : Nat} {x : Int32} : i ∈ doneN F n x ↔ i < n ∧ F 17 i = x := by simp [doneN]
theorem pendN_nd {F : Nat → Nat → Int32} {n : Nat} {x : Int32} : (pendN F n x).Nodup := by
  refine List.Pairwise.filter _ (List.Pairwise.map _ (fun a b h => ?_) List.nodup_range)
  intro z
  exact h (by omega)
theorem doneN_nd {F : Nat → Nat → Int32} {n : Nat} {x : Int32} : (doneN F n x).Nodup := List.Pairwise.filter _ List.nodup_range
theorem filt_ne {c : Nat} : ∀ {l : List Nat} {i : Nat}, l.Nodup → l[i]? = some c → l.filter (fun v => decide (v ≠ c)) = l.eraseIdx i
  | [], i, _, h => by simp at h
  | a :: l, 0, hn, h => by
    simp at h
    subst h
    have := (List.nodup_cons.mp hn).1
    simp only [List.eraseIdx_cons_zero]
    rw [List.filter_cons_of_neg (by simp)]
    exact List.filter_eq_self.mpr (fun v hv => by simp; intro z; exact this (by rw [← z]; exact hv))
  | a :: l, i + 1, hn, h => by
    rw [List.getElem?_cons_succ] at h
    have ha : a ≠ c := fun z => (List.nodup_cons.mp hn).1 (by rw [z]; exact List.mem_of_getElem? h)
    rw [List.eraseIdx_cons_succ, List.filter_cons_of_pos (by simp [ha]), filt_ne (List.nodup_cons.mp hn).2 h]
theorem pendN_off {F : Nat → Nat → Int32} {c : Nat} {x y : Int32} (hy : y ≠ x) : ∀ {n : Nat}, pendN (va_up F 11 (upd (F 11) c y)) n x = (pendN F n x).filter (fun v => decide (v ≠ c))
  | 0 => rfl
  | n + 1 => by
    rw [pendN_s, pendN_s, pendN_off hy]
    have e : va_up F 11 (upd (F 11) c y) 11 (n + 1) = if n + 1 = c then y else F 11 (n + 1) := by simp [va_up, upd]
    rw [e]
    by_cases hc : n + 1 = c
    · subst hc
      rw [if_pos rfl, if_neg hy]
      split
      · simp
      · rfl
    · rw [if_neg hc]
      split
      · simp [hc]
      · rfl
theorem doneN_off {F : Nat → Nat → Int32} {c : Nat} {x y : Int32} (hy : y ≠ x) : ∀ {n : Nat}, doneN (va_up F 17 (upd (F 17) c y)) n x = (doneN F n x).filter (fun v => decide (v ≠ c))
  | 0 => rfl
  | n + 1 => by
    rw [doneN_s, doneN_s, doneN_off hy]
    have e : va_up F 17 (upd (F 17) c y) 17 n = if n = c then y else F 17 n := by simp [va_up, upd]
    rw [e]
    by_cases hc : n = c
    · subst hc
      rw [if_pos rfl, if_neg hy]
      split
      · simp
      · rfl
    · rw [if_neg hc]
      split
      · simp [hc]
      · rfl
/-! enough pages: what a command does doesn't depend on how many more there are -/
def sumL : List uU → Nat
  | [] => 0
  | u :: us => lnU u + sumL us
theorem sumL_le : ∀ {us : List uU}, (∀ u ∈ us, vU u) → sumL us ≤ 4 * us.length
  | [], _ => Nat.le_refl _
  | u :: us, h => by
    have h1 := (h u List.mem_cons_self).2.2.2.1
    have h2 := sumL_le (us := us) (fun v hv => h v (List.mem_cons_of_mem _ hv))
    simp only [sumL, List.length_cons]
    omega
theorem empA_en : ∀ {us : List uU} {fl : Nat → Int64} {st pw : Nat}, ∃ X A B, ∀ pl, sumL us ≤ pl → empA us fl st pw pl = (true, (X, [], A, B, pl - sumL us))
  | [], fl, st, pw => ⟨fl, st, pw, fun pl _ => rfl⟩
  | u :: us, fl, st, pw => by
    obtain ⟨X, A, B, h⟩ := empA_en (us := us) (fl := apU u (lnU u) fl) (st := st + 1) (pw := pw + lnU u)
    refine ⟨X, A, B, fun pl hp => ?_⟩
    have hp : lnU u + sumL us ≤ pl := hp
    rw [empA_t (by omega), h (pl - lnU u) (by omega)]
    simp only [sumL]
    rw [show pl - lnU u - sumL us = pl - (lnU u + sumL us) by omega]
def drp (κ : kS) : (Nat → Int64) × List uU × Nat × Nat := (κ.1, κ.2.1, κ.2.2.1, κ.2.2.2.1)
theorem carA_en {L kd : Nat} {u : uU} {fl : Nat → Int64} {us : List uU} {sn pw p1 p2 : Nat} (hu : kd = 2 → lnU u ≤ 4) (hv : ∀ u ∈ us, vU u) (hl : us.length ≤ 6) (h1 : 28 ≤ p1) (h2 : 28 ≤ p2) : (carA L kd u (fl, us, sn, pw, p1)).1 = (carA L kd u (fl, us, sn, pw, p2)).1 ∧ drp (carA L kd u (fl, us, sn, pw, p1)).2 = drp (carA L kd u (fl, us, sn, pw, p2)).2 := by
  have hs := sumL_le hv
  obtain ⟨X, A, B, he⟩ := empA_en (us := us) (fl := fl) (st := sn) (pw := pw)
  have e1 : empK (fl, us, sn, pw, p1) = (true, (X, [], A, B, p1 - sumL us)) := he p1 (by omega)
  have e2 : empK (fl, us, sn, pw, p2) = (true, (X, [], A, B, p2 - sumL us)) := he p2 (by omega)
  unfold carA
  by_cases c0 : kd = 0
  · rw [if_pos c0, if_pos c0]; exact ⟨rfl, rfl⟩
  · rw [if_neg c0, if_neg c0]
    by_cases c1 : kd = 1 ∨ kd = 4
    · rw [if_pos c1, if_pos c1]
      refine ⟨rfl, ?_⟩
      simp only [cacA]
      by_cases cl : L ≤ us.length
      · rw [if_pos cl, if_pos cl]
        cases us with
        | nil => rfl
        | cons v vs =>
          have h4 := (hv v List.mem_cons_self).2.2.2.1
          rw [stoO_t (by omega), stoO_t (by omega)]
          rfl
      · rw [if_neg cl, if_neg cl]; rfl
    · rw [if_neg c1, if_neg c1]
      by_cases c2 : kd = 2
      · rw [if_pos c2, if_pos c2]
        refine ⟨rfl, ?_⟩
        have h4 := hu c2
        simp only [forA]
        rw [e1, e2, if_pos rfl, if_pos rfl, stoF, stoF, if_pos (by show lnU u ≤ p1 - sumL us; omega), if_pos (by show lnU u ≤ p2 - sumL us; omega)]
        rfl
      · rw [if_neg c2, if_neg c2]
        by_cases c3 : kd = 3
        · rw [if_pos c3, if_pos c3]
          refine ⟨rfl, ?_⟩
          show drp (empK (fl, us, sn, pw, p1)).2 = drp (empK (fl, us, sn, pw, p2)).2
          rw [e1, e2]
          rfl
        · rw [if_neg c3, if_neg c3]; exact ⟨rfl, rfl⟩
theorem stoO_cons {κ : kS} : (stoO κ).2.2.2.2.1 + (stoO κ).2.2.2.2.2 = κ.2.2.2.1 + κ.2.2.2.2 := by
  obtain ⟨fl, us, st, pw, pl⟩ := κ
  cases us with
  | nil => rfl
  | cons u us =>
    rcases Nat.lt_or_ge pl (lnU u) with h | h
    · rw [stoO_f h]; rfl
    · rw [stoO_t h]; show pw + lnU u + (pl - lnU u) = pw + pl; omega
theorem empA_cons : ∀ {us : List uU} {fl : Nat → Int64} {st pw pl : Nat}, (empA us fl st pw pl).2.2.2.2.1 + (empA us fl st pw pl).2.2.2.2.2 = pw + pl
  | [], _, _, _, _ => rfl
  | u :: us, fl, st, pw, pl => by
    rcases Nat.lt_or_ge pl (lnU u) with h | h
    · rw [empA_f h]; rfl
    · rw [empA_t h, empA_cons]; omega
theorem carA_cons {L kd : Nat} {u : uU} {κ : kS} : (carA L kd u κ).2.2.2.2.1 + (carA L kd u κ).2.2.2.2.2 = κ.2.2.2.1 + κ.2.2.2.2 := by
  unfold carA
  by_cases c0 : kd = 0
  · rw [if_pos c0]
  · rw [if_neg c0]
    by_cases c1 : kd = 1 ∨ kd = 4
    · rw [if_pos c1]
      simp only [cacA]
      by_cases cl : L ≤ κ.2.1.length
      · rw [if_pos cl]
        split
        · exact stoO_cons
        · exact stoO_cons
      · rw [if_neg cl]
    · rw [if_neg c1]
      by_cases c2 : kd = 2
      · rw [if_pos c2]
        simp only [forA]
        have hc : (empK κ).2.2.2.2.1 + (empK κ).2.2.2.2.2 = κ.2.2.2.1 + κ.2.2.2.2 := empA_cons
        split
        · simp only [stoF]
          split
          · show (empK κ).2.2.2.2.1 + lnU u + ((empK κ).2.2.2.2.2 - lnU u) = _; omega
          · show (empK κ).2.2.2.2.1 + (empK κ).2.2.2.2.2 + 0 = _; omega
        · exact hc
      · rw [if_neg c2]
        by_cases c3 : kd = 3
        · rw [if_pos c3]; exact empA_cons
        · rw [if_neg c3]
end
section
theorem lt6 {x : Int32} : x < 6 ↔ x ≤ 5 := by
  rw [Int32.lt_iff_toInt_lt, Int32.le_iff_toInt_le]
  have h1 : (6 : Int32).toInt = 6 := rfl
  have h2 : (5 : Int32).toInt = 5 := rfl
  omega
theorem lt31 {x : Int32} : x < 31 ↔ x ≤ 30 := by
  rw [Int32.lt_iff_toInt_lt, Int32.le_iff_toInt_le]
  have h1 : (31 : Int32).toInt = 31 := rfl
  have h2 : (30 : Int32).toInt = 30 := rfl
  omega
theorem lt25 {a n : Int32} (h1 : 1 ≤ n) (h4 : n ≤ 4) : a < 25 - n ↔ a ≤ 24 - n := by
  obtain ⟨nn, hn, rfl⟩ := ixL 4 rfl (by decide) (Int32.le_trans (by decide) h1) h4
  have e1 : (25 : Int32) - nI nn = nI (25 - nn) := pk_sub (a := 25) (b := nn) (by omega)
  have e2 : (24 : Int32) - nI nn = nI (24 - nn) := pk_sub (a := 24) (b := nn) (by omega)
  rw [e1, e2, Int32.lt_iff_toInt_lt, Int32.le_iff_toInt_le, nI_toInt (by omega), nI_toInt (by omega)]
  omega
def sbF (F : Nat → Nat → Int32) (c : Nat) (x kd a n v : Int32) : Nat → Nat → Int32 := va_up (va_up (va_up (va_up (va_up F 11 (upd (F 11) c x)) 12 (upd (F 12) c kd)) 13 (upd (F 13) c a)) 14 (upd (F 14) c n)) 15 (upd (F 15) c v)
theorem nI_j {i j : Nat} (hi : i < 3) (hj : j < 3) (h : nI i = nI j) : i = j := (nI_eq (by omega) (by omega)).mp h
theorem QN.sub {F : Nat → Nat → Int32} {R : Nat → Int64} {cm cp : Nat} {pq : Nat → List pC} {cq : Nat → List (Int32 × Int64)} (h : QN F R cm cp pq cq) {j : Nat} (hj : j < 3) (hl : (pq j).length < 4) {kd a n v : Int32} (hv : vC (nI (cm + 1), kd, a, n, v)) : QN (sbF F (cm + 1) (nI j) kd a n v) R (cm + 1) cp (va_up pq j (pq j ++ [(nI (cm + 1), kd, a, n, v)])) cq := by
  obtain ⟨h1, h2, h3, h4⟩ := h
  have o11 : ∀ c, c ≠ cm + 1 → sbF F (cm + 1) (nI j) kd a n v 11 c = F 11 c := fun c hc => by simp [sbF, va_up, upd, hc]
  have n11 : sbF F (cm + 1) (nI j) kd a n v 11 (cm + 1) = nI j := by simp [sbF, va_up, upd]
  have oc : ∀ c, c ≠ cm + 1 → cmdN (sbF F (cm + 1) (nI j) kd a n v) c = cmdN F c := fun c hc => by simp [cmdN, sbF, va_up, upd, hc]
  have nc : cmdN (sbF F (cm + 1) (nI j) kd a n v) (cm + 1) = (nI (cm + 1), kd, a, n, v) := by simp [cmdN, sbF, va_up, upd]
  have o17 : sbF F (cm + 1) (nI j) kd a n v 17 = F 17 := by simp [sbF, va_up]
  have o18 : sbF F (cm + 1) (nI j) kd a n v 18 = F 18 := by simp [sbF, va_up]
  refine ⟨fun i hi => ?_, fun i hi => ?_, fun i hi => ?_, fun c hc1 hc2 => ?_⟩
  · have hm : (pendN F cm (nI i)).map (cmdN (sbF F (cm + 1) (nI j) kd a n v)) = (pendN F cm (nI i)).map (cmdN F) := List.map_congr_left (fun c hc => oc c (by have := (pendN_mem.mp hc).1.2; omega))
    rw [pendN_s, n11, pendN_congr (F' := sbF F (cm + 1) (nI j) kd a n v) (F := F) (fun c _ hc => by rw [o11 c (by omega)])]
    by_cases e : i = j
    · subst e
      rw [if_pos rfl, List.map_append, hm, ← h1 i hi, List.map_cons, List.map_nil, nc]
      simp only [va_up, if_true]
    · rw [if_neg (fun z => e (nI_j hi hj z.symm)), hm, ← h1 i hi]
      simp only [va_up, if_neg e]
  · rw [h2 i hi, doneN_congr (F' := sbF F (cm + 1) (nI j) kd a n v) (F := F) (fun c _ => by rw [o17]), o18]
  · refine ⟨?_, (h3 i hi).2⟩
    by_cases e : i = j
    · subst e; simp only [va_up, if_true, List.length_append, List.length_cons, List.length_nil]; omega
    · simp only [va_up, if_neg e]; exact (h3 i hi).1
  · by_cases e : c = cm + 1
    · rw [e, nc]; exact hv
    · rw [oc c e]; exact h4 c hc1 (by omega)
theorem QN.sf {F F' : Nat → Nat → Int32} {R : Nat → Int64} {cm cp : Nat} {pq : Nat → List pC} {cq : Nat → List (Int32 × Int64)} (h : QN F R cm cp pq cq) (hs : SF F F') : QN F' R cm cp pq cq := by
  obtain ⟨h1, h2, h3, h4⟩ := h
  refine ⟨fun i hi => ?_, fun i hi => ?_, h3, fun c a b => by rw [cmdN_SF hs]; exact h4 c a b⟩
  · rw [h1 i hi, pendN_congr (F' := F') (F := F) (fun c _ _ => by rw [hs 11 (by decide)])]
    exact List.map_congr_left (fun c _ => (cmdN_SF hs).symm)
  · rw [h2 i hi, doneN_congr (F' := F') (F := F) (fun c _ => by rw [hs 17 (by decide)]), hs 18 (by decide)]
theorem map_erase {α β : Type} {f : α → β} : ∀ {l : List α} {i : Nat}, (l.map f).eraseIdx i = (l.eraseIdx i).map f
  | [], _ => rfl
  | a :: l, 0 => rfl
  | a :: l, i + 1 => by
    rw [List.map_cons, List.eraseIdx_cons_succ, List.eraseIdx_cons_succ, List.map_cons, map_erase]
theorem carA_pl {L kd : Nat} {u : uU} {κ : kS} : (carA L kd u κ).2.2.2.2.2 ≤ κ.2.2.2.2 := by
  unfold carA
  by_cases c0 : kd = 0
  · rw [if_pos c0]; exact Nat.le_refl _
  · rw [if_neg c0]
    by_cases c1 : kd = 1 ∨ kd = 4
    · rw [if_pos c1]
      simp only [cacA]
      by_cases cl : L ≤ κ.2.1.length
      · rw [if_pos cl]
        split
        · exact stoO_pl
        · exact stoO_pl
      · rw [if_neg cl]; exact Nat.le_refl _
    · rw [if_neg c1]
      by_cases c2 : kd = 2
      · rw [if_pos c2]
        simp only [forA]
        have hc : (empK κ).2.2.2.2.2 ≤ κ.2.2.2.2 := empA_pl
        split
        · simp only [stoF]
          split
          · show (empK κ).2.2.2.2.2 - lnU u ≤ _; omega
          · exact Nat.zero_le _
        · exact hc
      · rw [if_neg c2]
        by_cases c3 : kd = 3
        · rw [if_pos c3]; exact empA_pl
        · rw [if_neg c3]; exact Nat.le_refl _
def dnF (F : Nat → Nat → Int32) (cp c : Nat) (x : Int32) : Nat → Nat → Int32 := va_up (va_up (va_up F 17 (upd (F 17) cp x)) 18 (upd (F 18) cp (nI c))) 11 (upd (F 11) c (-1))
theorem m1ne (j : Nat) (hj : j < 3) : (-1 : Int32) ≠ nI j := by
  rcases (show j = 0 ∨ j = 1 ∨ j = 2 by omega) with rfl | rfl | rfl <;> decide
theorem QN.step {F : Nat → Nat → Int32} {R : Nat → Int64} {cm cp : Nat} {pq : Nat → List pC} {cq : Nat → List (Int32 × Int64)} (h : QN F R cm cp pq cq) {j i c : Nat} (hj : j < 3) (hc : (pendN F cm (nI j))[i]? = some c) (hl : (cq j).length < 4) (r : Int64) : QN (dnF F cp c (nI j)) (vp_updL R cp r) cm (cp + 1) (va_up pq j ((pq j).eraseIdx i)) (va_up cq j (cq j ++ [(nI c, r)])) := by
  obtain ⟨h1, h2, h3, h4⟩ := h
  have hcm := (pendN_mem.mp (List.mem_of_getElem? hc))
  have e11 : dnF F cp c (nI j) 11 = va_up F 11 (upd (F 11) c (-1)) 11 := by simp [dnF, va_up]
  have n17 : dnF F cp c (nI j) 17 cp = nI j := by simp [dnF, va_up, upd]
  have o17 : ∀ k, k ≠ cp → dnF F cp c (nI j) 17 k = F 17 k := fun k hk => by simp [dnF, va_up, upd, hk]
  have n18 : dnF F cp c (nI j) 18 cp = nI c := by simp [dnF, va_up, upd]
  have o18 : ∀ k, k ≠ cp → dnF F cp c (nI j) 18 k = F 18 k := fun k hk => by simp [dnF, va_up, upd, hk]
  have oc : ∀ k, cmdN (dnF F cp c (nI j)) k = cmdN F k := fun k => by simp [cmdN, dnF, va_up]
  refine ⟨fun i2 hi => ?_, fun i2 hi => ?_, fun i2 hi => ⟨?_, ?_⟩, fun k a b => by rw [oc]; exact h4 k a b⟩
  · have em : ∀ l : List Nat, l.map (cmdN (dnF F cp c (nI j))) = l.map (cmdN F) := fun l => List.map_congr_left (fun k _ => oc k)
    rw [em, pendN_congr (F' := dnF F cp c (nI j)) (F := va_up F 11 (upd (F 11) c (-1))) (fun k _ _ => by rw [e11]), pendN_off (m1ne i2 hi)]
    by_cases e : i2 = j
    · subst e
      rw [filt_ne pendN_nd hc]
      simp only [va_up, if_true]
      rw [h1 i2 hi, map_erase]
    · simp only [va_up, if_neg e]
      rw [List.filter_eq_self.mpr (fun k hk => by simp; intro z; subst z; exact e (nI_j hi hj ((pendN_mem.mp hk).2.symm.trans hcm.2))), h1 i2 hi]
  · rw [doneN_s, n17, doneN_congr (F' := dnF F cp c (nI j)) (F := F) (fun k hk => by rw [o17 k (by omega)])]
    have em : ∀ x, (doneN F cp x).map (fun i => (dnF F cp c (nI j) 18 i, vp_updL R cp r i)) = (doneN F cp x).map (fun i => (F 18 i, R i)) := fun x => List.map_congr_left (fun k hk => by have := (doneN_mem.mp hk).1; rw [o18 k (by omega)]; simp only [vp_updL]; rw [if_neg (by omega)])
    by_cases e : i2 = j
    · subst e
      rw [if_pos rfl, List.map_append, em, ← h2 i2 hi]
      simp only [va_up, if_true, List.map_cons, List.map_nil, n18, vp_updL]
    · rw [if_neg (fun z => e (nI_j hi hj z.symm)), em, ← h2 i2 hi]
      simp only [va_up, if_neg e]
  · by_cases e : i2 = j
    · subst e; simp only [va_up, if_true]; exact Nat.le_trans (List.length_eraseIdx_le _ _) (h3 i2 hi).1
    · simp only [va_up, if_neg e]; exact (h3 i2 hi).1
  · by_cases e : i2 = j
    · subst e; simp only [va_up, if_true, List.length_append, List.length_cons, List.length_nil]; omega
    · simp only [va_up, if_neg e]; exact (h3 i2 hi).2
theorem QN.take {F : Nat → Nat → Int32} {R : Nat → Int64} {cm cp : Nat} {pq : Nat → List pC} {cq : Nat → List (Int32 × Int64)} (h : QN F R cm cp pq cq) {j i : Nat} (hj : j < 3) {rr : List Nat} (hc : doneN F cp (nI j) = i :: rr) : QN (va_up F 17 (upd (F 17) i (-1))) R cm cp pq (va_up cq j (rr.map (fun i => (F 18 i, R i)))) := by
  obtain ⟨h1, h2, h3, h4⟩ := h
  have hci := doneN_mem.mp (show i ∈ doneN F cp (nI j) by rw [hc]; exact List.mem_cons_self)
  have e11 : va_up F 17 (upd (F 17) i (-1)) 11 = F 11 := by simp [va_up]
  have e18 : va_up F 17 (upd (F 17) i (-1)) 18 = F 18 := by simp [va_up]
  have oc : ∀ k, cmdN (va_up F 17 (upd (F 17) i (-1))) k = cmdN F k := fun k => by simp [cmdN, va_up]
  refine ⟨fun i2 hi => ?_, fun i2 hi => ?_, fun i2 hi => ⟨(h3 i2 hi).1, ?_⟩, fun k a b => by rw [oc]; exact h4 k a b⟩
  · rw [h1 i2 hi, pendN_congr (F' := va_up F 17 (upd (F 17) i (-1))) (F := F) (fun k _ _ => by rw [e11])]
    exact List.map_congr_left (fun k _ => (oc k).symm)
  · rw [doneN_off (m1ne i2 hi), e18]
    by_cases e : i2 = j
    · subst e
      rw [filt_ne (i := 0) doneN_nd (by rw [hc]; rfl), hc]
      simp only [va_up, if_true, List.eraseIdx_cons_zero]
    · simp only [va_up, if_neg e]
      rw [List.filter_eq_self.mpr (fun k hk => by simp; intro z; subst z; exact e (nI_j hi hj ((doneN_mem.mp hk).2.symm.trans hci.2))), h2 i2 hi]
  · by_cases e : i2 = j
    · subst e
      simp only [va_up, if_true, List.length_map]
      have := (h3 i2 hi).2
      rw [h2 i2 hi, hc] at this
      simp at this
      omega
    · simp only [va_up, if_neg e]; exact (h3 i2 hi).2
theorem doneN_pre (F : Nat → Nat → Int32) (n : Nat) (x : Int32) : ∀ t : Nat, ∃ r, doneN F (n + t) x = doneN F n x ++ r
  | 0 => ⟨[], by simp⟩
  | t + 1 => by
    obtain ⟨r, hr⟩ := doneN_pre F n x t
    rw [show n + (t + 1) = n + t + 1 by omega, doneN_s]
    split
    · exact ⟨r ++ [n + t], by rw [hr, List.append_assoc]⟩
    · exact ⟨r, hr⟩
theorem d_M_submit_0 : decode b_M_submit 0 = .ok (.iload_n 1, 1) := by decide +kernel
theorem d_M_submit_1 : decode b_M_submit 1 = .ok (.iconst 3, 1) := by decide +kernel
theorem d_M_submit_2 : decode b_M_submit 2 = .ok (.invokestatic 122, 3) := by decide +kernel
theorem d_M_submit_5 : decode b_M_submit 5 = .ok (.ifCond .eq 12, 3) := by decide +kernel
theorem d_M_submit_8 : decode b_M_submit 8 = .ok (.iload_n 2, 1) := by decide +kernel
theorem d_M_submit_9 : decode b_M_submit 9 = .ok (.bipush 6, 2) := by decide +kernel
theorem d_M_submit_11 : decode b_M_submit 11 = .ok (.invokestatic 122, 3) := by decide +kernel
theorem d_M_submit_14 : decode b_M_submit 14 = .ok (.ifCond .ne 5, 3) := by decide +kernel
theorem d_M_submit_17 : decode b_M_submit 17 = .ok (.iconst (-1), 1) := by decide +kernel
theorem d_M_submit_18 : decode b_M_submit 18 = .ok (.ireturn, 1) := by decide +kernel
theorem d_M_submit_19 : decode b_M_submit 19 = .ok (.iload_n 2, 1) := by decide +kernel
theorem d_M_submit_20 : decode b_M_submit 20 = .ok (.iconst 3, 1) := by decide +kernel
theorem d_M_submit_21 : decode b_M_submit 21 = .ok (.if_icmp .eq 29, 3) := by decide +kernel
theorem d_M_submit_24 : decode b_M_submit 24 = .ok (.iload 4, 2) := by decide +kernel
theorem d_M_submit_26 : decode b_M_submit 26 = .ok (.iconst 1, 1) := by decide +kernel
theorem d_M_submit_27 : decode b_M_submit 27 = .ok (.if_icmp .lt 21, 3) := by decide +kernel
theorem d_M_submit_30 : decode b_M_submit 30 = .ok (.iload 4, 2) := by decide +kernel
theorem d_M_submit_32 : decode b_M_submit 32 = .ok (.iconst 4, 1) := by decide +kernel
theorem d_M_submit_33 : decode b_M_submit 33 = .ok (.if_icmp .gt 15, 3) := by decide +kernel
theorem d_M_submit_36 : decode b_M_submit 36 = .ok (.iload_n 3, 1) := by decide +kernel
theorem d_M_submit_37 : decode b_M_submit 37 = .ok (.bipush 25, 2) := by decide +kernel
theorem d_M_submit_39 : decode b_M_submit 39 = .ok (.iload 4, 2) := by decide +kernel
theorem d_M_submit_41 : decode b_M_submit 41 = .ok (.isub, 1) := by decide +kernel
theorem d_M_submit_42 : decode b_M_submit 42 = .ok (.invokestatic 122, 3) := by decide +kernel
theorem d_M_submit_45 : decode b_M_submit 45 = .ok (.ifCond .ne 5, 3) := by decide +kernel
theorem d_M_submit_48 : decode b_M_submit 48 = .ok (.iconst (-1), 1) := by decide +kernel
theorem d_M_submit_49 : decode b_M_submit 49 = .ok (.ireturn, 1) := by decide +kernel
theorem d_M_submit_50 : decode b_M_submit 50 = .ok (.aload_n 0, 1) := by decide +kernel
theorem d_M_submit_51 : decode b_M_submit 51 = .ok (.iload_n 1, 1) := by decide +kernel
theorem d_M_submit_52 : decode b_M_submit 52 = .ok (.invokevirtual 125, 3) := by decide +kernel
theorem d_M_submit_55 : decode b_M_submit 55 = .ok (.iconst 4, 1) := by decide +kernel
theorem d_M_submit_56 : decode b_M_submit 56 = .ok (.if_icmp .ne 6, 3) := by decide +kernel
theorem d_M_submit_59 : decode b_M_submit 59 = .ok (.bipush (-2), 2) := by decide +kernel
theorem d_M_submit_61 : decode b_M_submit 61 = .ok (.ireturn, 1) := by decide +kernel
theorem d_M_submit_62 : decode b_M_submit 62 = .ok (.aload_n 0, 1) := by decide +kernel
theorem d_M_submit_63 : decode b_M_submit 63 = .ok (.dup, 1) := by decide +kernel
theorem d_M_submit_64 : decode b_M_submit 64 = .ok (.getfield 116, 3) := by decide +kernel
theorem d_M_submit_67 : decode b_M_submit 67 = .ok (.iconst 1, 1) := by decide +kernel
theorem d_M_submit_68 : decode b_M_submit 68 = .ok (.iadd, 1) := by decide +kernel
theorem d_M_submit_69 : decode b_M_submit 69 = .ok (.putfield 116, 3) := by decide +kernel
theorem d_M_submit_72 : decode b_M_submit 72 = .ok (.aload_n 0, 1) := by decide +kernel
theorem d_M_submit_73 : decode b_M_submit 73 = .ok (.getfield 29, 3) := by decide +kernel
theorem d_M_submit_76 : decode b_M_submit 76 = .ok (.aload_n 0, 1) := by decide +kernel
theorem d_M_submit_77 : decode b_M_submit 77 = .ok (.getfield 116, 3) := by decide +kernel
theorem d_M_submit_80 : decode b_M_submit 80 = .ok (.iload_n 1, 1) := by decide +kernel
theorem d_M_submit_81 : decode b_M_submit 81 = .ok (.iastore, 1) := by decide +kernel
theorem d_M_submit_82 : decode b_M_submit 82 = .ok (.aload_n 0, 1) := by decide +kernel
theorem d_M_submit_83 : decode b_M_submit 83 = .ok (.getfield 32, 3) := by decide +kernel
theorem d_M_submit_86 : decode b_M_submit 86 = .ok (.aload_n 0, 1) := by decide +kernel
theorem d_M_submit_87 : decode b_M_submit 87 = .ok (.getfield 116, 3) := by decide +kernel
theorem d_M_submit_90 : decode b_M_submit 90 = .ok (.iload_n 2, 1) := by decide +kernel
theorem d_M_submit_91 : decode b_M_submit 91 = .ok (.iastore, 1) := by decide +kernel
theorem d_M_submit_92 : decode b_M_submit 92 = .ok (.aload_n 0, 1) := by decide +kernel
theorem d_M_submit_93 : decode b_M_submit 93 = .ok (.getfield 35, 3) := by decide +kernel
theorem d_M_submit_96 : decode b_M_submit 96 = .ok (.aload_n 0, 1) := by decide +kernel
theorem d_M_submit_97 : decode b_M_submit 97 = .ok (.getfield 116, 3) := by decide +kernel
theorem d_M_submit_100 : decode b_M_submit 100 = .ok (.iload_n 3, 1) := by decide +kernel
theorem d_M_submit_101 : decode b_M_submit 101 = .ok (.iastore, 1) := by decide +kernel
theorem d_M_submit_102 : decode b_M_submit 102 = .ok (.aload_n 0, 1) := by decide +kernel
theorem d_M_submit_103 : decode b_M_submit 103 = .ok (.getfield 38, 3) := by decide +kernel
theorem d_M_submit_106 : decode b_M_submit 106 = .ok (.aload_n 0, 1) := by decide +kernel
theorem d_M_submit_107 : decode b_M_submit 107 = .ok (.getfield 116, 3) := by decide +kernel
theorem d_M_submit_110 : decode b_M_submit 110 = .ok (.iload 4, 2) := by decide +kernel
theorem d_M_submit_112 : decode b_M_submit 112 = .ok (.iastore, 1) := by decide +kernel
theorem d_M_submit_113 : decode b_M_submit 113 = .ok (.aload_n 0, 1) := by decide +kernel
theorem d_M_submit_114 : decode b_M_submit 114 = .ok (.getfield 41, 3) := by decide +kernel
theorem d_M_submit_117 : decode b_M_submit 117 = .ok (.aload_n 0, 1) := by decide +kernel
theorem d_M_submit_118 : decode b_M_submit 118 = .ok (.getfield 116, 3) := by decide +kernel
theorem d_M_submit_121 : decode b_M_submit 121 = .ok (.iload 5, 2) := by decide +kernel
theorem d_M_submit_123 : decode b_M_submit 123 = .ok (.iastore, 1) := by decide +kernel
theorem d_M_submit_124 : decode b_M_submit 124 = .ok (.aload_n 0, 1) := by decide +kernel
theorem d_M_submit_125 : decode b_M_submit 125 = .ok (.getfield 116, 3) := by decide +kernel
theorem d_M_submit_128 : decode b_M_submit 128 = .ok (.ireturn, 1) := by decide +kernel
theorem d_M_step_0 : decode b_M_step 0 = .ok (.iload_n 1, 1) := by decide +kernel
theorem d_M_step_1 : decode b_M_step 1 = .ok (.iconst 3, 1) := by decide +kernel
theorem d_M_step_2 : decode b_M_step 2 = .ok (.invokestatic 122, 3) := by decide +kernel
theorem d_M_step_5 : decode b_M_step 5 = .ok (.ifCond .eq 20, 3) := by decide +kernel
theorem d_M_step_8 : decode b_M_step 8 = .ok (.iload_n 2, 1) := by decide +kernel
theorem d_M_step_9 : decode b_M_step 9 = .ok (.iconst 4, 1) := by decide +kernel
theorem d_M_step_10 : decode b_M_step 10 = .ok (.invokestatic 122, 3) := by decide +kernel
theorem d_M_step_13 : decode b_M_step 13 = .ok (.ifCond .eq 12, 3) := by decide +kernel
theorem d_M_step_16 : decode b_M_step 16 = .ok (.aload_n 0, 1) := by decide +kernel
theorem d_M_step_17 : decode b_M_step 17 = .ok (.iload_n 1, 1) := by decide +kernel
theorem d_M_step_18 : decode b_M_step 18 = .ok (.iload_n 2, 1) := by decide +kernel
theorem d_M_step_19 : decode b_M_step 19 = .ok (.invokevirtual 128, 3) := by decide +kernel
theorem d_M_step_22 : decode b_M_step 22 = .ok (.ifCond .ne 5, 3) := by decide +kernel
theorem d_M_step_25 : decode b_M_step 25 = .ok (.iconst (-1), 1) := by decide +kernel
theorem d_M_step_26 : decode b_M_step 26 = .ok (.ireturn, 1) := by decide +kernel
theorem d_M_step_27 : decode b_M_step 27 = .ok (.aload_n 0, 1) := by decide +kernel
theorem d_M_step_28 : decode b_M_step 28 = .ok (.iload_n 1, 1) := by decide +kernel
theorem d_M_step_29 : decode b_M_step 29 = .ok (.invokevirtual 132, 3) := by decide +kernel
theorem d_M_step_32 : decode b_M_step 32 = .ok (.iconst 4, 1) := by decide +kernel
theorem d_M_step_33 : decode b_M_step 33 = .ok (.if_icmp .ne 6, 3) := by decide +kernel
theorem d_M_step_36 : decode b_M_step 36 = .ok (.bipush (-3), 2) := by decide +kernel
theorem d_M_step_38 : decode b_M_step 38 = .ok (.ireturn, 1) := by decide +kernel
theorem d_M_step_39 : decode b_M_step 39 = .ok (.aload_n 0, 1) := by decide +kernel
theorem d_M_step_40 : decode b_M_step 40 = .ok (.iload_n 1, 1) := by decide +kernel
theorem d_M_step_41 : decode b_M_step 41 = .ok (.iload_n 2, 1) := by decide +kernel
theorem d_M_step_42 : decode b_M_step 42 = .ok (.invokevirtual 128, 3) := by decide +kernel
theorem d_M_step_45 : decode b_M_step 45 = .ok (.istore_n 3, 1) := by decide +kernel
theorem d_M_step_46 : decode b_M_step 46 = .ok (.aload_n 0, 1) := by decide +kernel
theorem d_M_step_47 : decode b_M_step 47 = .ok (.bipush 100, 2) := by decide +kernel
theorem d_M_step_49 : decode b_M_step 49 = .ok (.putfield 79, 3) := by decide +kernel
theorem d_M_step_52 : decode b_M_step 52 = .ok (.aload_n 0, 1) := by decide +kernel
theorem d_M_step_53 : decode b_M_step 53 = .ok (.getfield 50, 3) := by decide +kernel
theorem d_M_step_56 : decode b_M_step 56 = .ok (.aload_n 0, 1) := by decide +kernel
theorem d_M_step_57 : decode b_M_step 57 = .ok (.getfield 119, 3) := by decide +kernel
theorem d_M_step_60 : decode b_M_step 60 = .ok (.aload_n 0, 1) := by decide +kernel
theorem d_M_step_61 : decode b_M_step 61 = .ok (.iload_n 3, 1) := by decide +kernel
theorem d_M_step_62 : decode b_M_step 62 = .ok (.invokevirtual 135, 3) := by decide +kernel
theorem d_M_step_65 : decode b_M_step 65 = .ok (.lastore, 1) := by decide +kernel
theorem d_M_step_66 : decode b_M_step 66 = .ok (.aload_n 0, 1) := by decide +kernel
theorem d_M_step_67 : decode b_M_step 67 = .ok (.getfield 44, 3) := by decide +kernel
theorem d_M_step_70 : decode b_M_step 70 = .ok (.aload_n 0, 1) := by decide +kernel
theorem d_M_step_71 : decode b_M_step 71 = .ok (.getfield 119, 3) := by decide +kernel
theorem d_M_step_74 : decode b_M_step 74 = .ok (.iload_n 1, 1) := by decide +kernel
theorem d_M_step_75 : decode b_M_step 75 = .ok (.iastore, 1) := by decide +kernel
theorem d_M_step_76 : decode b_M_step 76 = .ok (.aload_n 0, 1) := by decide +kernel
theorem d_M_step_77 : decode b_M_step 77 = .ok (.getfield 47, 3) := by decide +kernel
theorem d_M_step_80 : decode b_M_step 80 = .ok (.aload_n 0, 1) := by decide +kernel
theorem d_M_step_81 : decode b_M_step 81 = .ok (.getfield 119, 3) := by decide +kernel
theorem d_M_step_84 : decode b_M_step 84 = .ok (.iload_n 3, 1) := by decide +kernel
theorem d_M_step_85 : decode b_M_step 85 = .ok (.iastore, 1) := by decide +kernel
theorem d_M_step_86 : decode b_M_step 86 = .ok (.aload_n 0, 1) := by decide +kernel
theorem d_M_step_87 : decode b_M_step 87 = .ok (.dup, 1) := by decide +kernel
theorem d_M_step_88 : decode b_M_step 88 = .ok (.getfield 119, 3) := by decide +kernel
theorem d_M_step_91 : decode b_M_step 91 = .ok (.iconst 1, 1) := by decide +kernel
theorem d_M_step_92 : decode b_M_step 92 = .ok (.iadd, 1) := by decide +kernel
theorem d_M_step_93 : decode b_M_step 93 = .ok (.putfield 119, 3) := by decide +kernel
theorem d_M_step_96 : decode b_M_step 96 = .ok (.aload_n 0, 1) := by decide +kernel
theorem d_M_step_97 : decode b_M_step 97 = .ok (.getfield 29, 3) := by decide +kernel
theorem d_M_step_100 : decode b_M_step 100 = .ok (.iload_n 3, 1) := by decide +kernel
theorem d_M_step_101 : decode b_M_step 101 = .ok (.iconst (-1), 1) := by decide +kernel
theorem d_M_step_102 : decode b_M_step 102 = .ok (.iastore, 1) := by decide +kernel
theorem d_M_step_103 : decode b_M_step 103 = .ok (.iload_n 3, 1) := by decide +kernel
theorem d_M_step_104 : decode b_M_step 104 = .ok (.ireturn, 1) := by decide +kernel
theorem d_M_take_0 : decode b_M_take 0 = .ok (.iload_n 1, 1) := by decide +kernel
theorem d_M_take_1 : decode b_M_take 1 = .ok (.iconst 3, 1) := by decide +kernel
theorem d_M_take_2 : decode b_M_take 2 = .ok (.invokestatic 122, 3) := by decide +kernel
theorem d_M_take_5 : decode b_M_take 5 = .ok (.ifCond .ne 5, 3) := by decide +kernel
theorem d_M_take_8 : decode b_M_take 8 = .ok (.iconst (-1), 1) := by decide +kernel
theorem d_M_take_9 : decode b_M_take 9 = .ok (.ireturn, 1) := by decide +kernel
theorem d_M_take_10 : decode b_M_take 10 = .ok (.iconst 0, 1) := by decide +kernel
theorem d_M_take_11 : decode b_M_take 11 = .ok (.istore_n 2, 1) := by decide +kernel
theorem d_M_take_12 : decode b_M_take 12 = .ok (.iload_n 2, 1) := by decide +kernel
theorem d_M_take_13 : decode b_M_take 13 = .ok (.aload_n 0, 1) := by decide +kernel
theorem d_M_take_14 : decode b_M_take 14 = .ok (.getfield 119, 3) := by decide +kernel
theorem d_M_take_17 : decode b_M_take 17 = .ok (.if_icmp .ge 51, 3) := by decide +kernel
theorem d_M_take_20 : decode b_M_take 20 = .ok (.aload_n 0, 1) := by decide +kernel
theorem d_M_take_21 : decode b_M_take 21 = .ok (.getfield 44, 3) := by decide +kernel
theorem d_M_take_24 : decode b_M_take 24 = .ok (.iload_n 2, 1) := by decide +kernel
theorem d_M_take_25 : decode b_M_take 25 = .ok (.iaload, 1) := by decide +kernel
theorem d_M_take_26 : decode b_M_take 26 = .ok (.iload_n 1, 1) := by decide +kernel
theorem d_M_take_27 : decode b_M_take 27 = .ok (.if_icmp .ne 35, 3) := by decide +kernel
theorem d_M_take_30 : decode b_M_take 30 = .ok (.aload_n 0, 1) := by decide +kernel
theorem d_M_take_31 : decode b_M_take 31 = .ok (.getfield 44, 3) := by decide +kernel
theorem d_M_take_34 : decode b_M_take 34 = .ok (.iload_n 2, 1) := by decide +kernel
theorem d_M_take_35 : decode b_M_take 35 = .ok (.iconst (-1), 1) := by decide +kernel
theorem d_M_take_36 : decode b_M_take 36 = .ok (.iastore, 1) := by decide +kernel
theorem d_M_take_37 : decode b_M_take 37 = .ok (.aload_n 0, 1) := by decide +kernel
theorem d_M_take_38 : decode b_M_take 38 = .ok (.aload_n 0, 1) := by decide +kernel
theorem d_M_take_39 : decode b_M_take 39 = .ok (.getfield 47, 3) := by decide +kernel
theorem d_M_take_42 : decode b_M_take 42 = .ok (.iload_n 2, 1) := by decide +kernel
theorem d_M_take_43 : decode b_M_take 43 = .ok (.iaload, 1) := by decide +kernel
theorem d_M_take_44 : decode b_M_take 44 = .ok (.putfield 138, 3) := by decide +kernel
theorem d_M_take_47 : decode b_M_take 47 = .ok (.aload_n 0, 1) := by decide +kernel
theorem d_M_take_48 : decode b_M_take 48 = .ok (.aload_n 0, 1) := by decide +kernel
theorem d_M_take_49 : decode b_M_take 49 = .ok (.getfield 50, 3) := by decide +kernel
theorem d_M_take_52 : decode b_M_take 52 = .ok (.iload_n 2, 1) := by decide +kernel
theorem d_M_take_53 : decode b_M_take 53 = .ok (.laload, 1) := by decide +kernel
theorem d_M_take_54 : decode b_M_take 54 = .ok (.putfield 56, 3) := by decide +kernel
theorem d_M_take_57 : decode b_M_take 57 = .ok (.aload_n 0, 1) := by decide +kernel
theorem d_M_take_58 : decode b_M_take 58 = .ok (.getfield 138, 3) := by decide +kernel
theorem d_M_take_61 : decode b_M_take 61 = .ok (.ireturn, 1) := by decide +kernel
theorem d_M_take_62 : decode b_M_take 62 = .ok (.iinc 2 1, 3) := by decide +kernel
theorem d_M_take_65 : decode b_M_take 65 = .ok (.goto (-53), 3) := by decide +kernel
theorem d_M_take_68 : decode b_M_take 68 = .ok (.iconst (-1), 1) := by decide +kernel
theorem d_M_take_69 : decode b_M_take 69 = .ok (.ireturn, 1) := by decide +kernel
set_option maxHeartbeats 4000000 in
set_option maxRecDepth 100000 in
theorem m_M_submit {l : Launch} {D : va_G} {cA : Nat → ClassId} {n0 : Nat} {w : mw} {ρ q : Nat → Nat} {lim t : Nat} {fl : Nat → Int64} {us : List uU} {sn pw : Nat} {pq : Nat → List pC} {cq : Nat → List (Int32 × Int64)} {ln : Nat} {tn : Int32} {tr : Int64} (Y : MR cA w ρ q lim t (fl, us, sn, pw, pq, cq, ln, tn, tr)) (ht : t + 1 ≤ 512) {qu kd a n v : Int32} :
    Mi l D cA n0 y_M_submit c_M_submit (rmd 1) [.ref (q 0), .int qu, .int kd, .int a, .int n, .int v] w (fun r w' => r = (submitS (fl, us, sn, pw, pq, cq, ln, tn, tr) qu kd a n v).1 ∧ MR cA w' ρ q lim (t + 1) (submitS (fl, us, sn, pw, pq, cq, ln, tn, tr) qu kd a n v).2 ∧ FR w w' (P7 ρ)) := by
  refine mw_met (cc := b_M_submit) (maxL := 6) (ret := (some .int)) (by decide) rfl (Nat.le_of_ble_eq_true rfl) ?_
  intro p e s m below meth c ls G hrt hlocks hname h hl
  have G : mw_G p m c b_M_submit 6 s _ (c_M_submit :: TB) R_M D cl (tys cA) n0 := G
  have hx := G.1.1
  have hb := G.1.2.1
  have hl : lv_has ls 6 [(0, .ref (q 0)), (1, .int qu), (2, .int kd), (3, .int a), (4, .int n), (5, .int v)] := hl
  obtain ⟨un, cp, bd, F, R, V, hut, hct, hpt, hbd, hQN⟩ := id Y
  have V : MC cA w ρ q lim un ln cp tn tr F R (fl, us, sn, pw, bd) := V
  have hct : ln ≤ t := hct
  have hQN : QN F R ln cp pq cq := hQN
  obtain ⟨X, hG⟩ := id V
  have X : MX cA w ρ q lim un sn pw bd ln cp tn tr F R := X
  have hG : LG F un sn fl us := hG
  obtain ⟨hQp, hQc, hQl, hQv⟩ := id hQN
  have hun : un ≤ 512 := by omega
  have hcm : ln ≤ 512 := by omega
  have hcp : cp ≤ 512 := by omega
  refine lv_iload_n hx hb d_M_submit_0 rfl (lv_at hl 1 rfl) ?_
  refine lv_iconst (v := 3) hx hb d_M_submit_1 (by decide) ?_
  refine mx_ci (cS (As := [.int qu, .int 3]) (rest := []) G h (m_M_in (x := qu) (n := 3)) k_387 k_388 k_7 k_389 rfl hd_M_in rfl rfl ⟨Nat.le_of_ble_eq_true rfl, Nat.le_of_ble_eq_true rfl⟩ rfl hl.1 rfl (Nat.le_of_ble_eq_true rfl) d_M_submit_2 ⟨Nat.le_of_ble_eq_true rfl, Nat.le_of_ble_eq_true rfl⟩) h (fun r_2 w_1 H locs h hcp1 => ?_)
  obtain ⟨er_3, ew_4⟩ := hcp1
  subst er_3
  rw [ew_4] at h
  refine lv_if_eq (tgt := 17) hx hb d_M_submit_5 (by decide) (fun c_5 => ?_) (fun c_5 => ?_)
  · refine lv_iconst (v := (-1)) hx hb d_M_submit_17 (by decide) ?_
    have e9 : submitS (fl, us, sn, pw, pq, cq, ln, tn, tr) qu kd a n v = (-1, (fl, us, sn, pw, pq, cq, ln, tn, tr)) := by simp only [submitS]; rw [if_neg (fun z => bI_0 c_5 z.1)]
    exact mx_reti G h hrt hlocks d_M_submit_18 (by rw [e9]; exact ⟨rfl, ⟨un, cp, bd, F, R, V, by omega, Nat.le_succ_of_le hct, by omega, hbd, hQN⟩, FR.rf⟩)
  · refine lv_iload_n hx hb d_M_submit_8 rfl (lv_at hl 2 rfl) ?_
    refine lv_bipush (v := 6) hx hb d_M_submit_9 (by decide) ?_
    refine mx_ci (cS (As := [.int kd, .int 6]) (rest := []) G h (m_M_in (x := kd) (n := 6)) k_387 k_388 k_7 k_389 rfl hd_M_in rfl rfl ⟨Nat.le_of_ble_eq_true rfl, Nat.le_of_ble_eq_true rfl⟩ rfl hl.1 rfl (Nat.le_of_ble_eq_true rfl) d_M_submit_11 ⟨Nat.le_of_ble_eq_true rfl, Nat.le_of_ble_eq_true rfl⟩) h (fun r_7 w_6 H locs h hcp1 => ?_)
    obtain ⟨er_8, ew_9⟩ := hcp1
    subst er_8
    rw [ew_9] at h
    refine lv_if_ne (tgt := 19) hx hb d_M_submit_14 (by decide) (fun c_10 => ?_) (fun c_10 => ?_)
    · have hk0 : 0 ≤ kd := (bI_n c_10).1
      have hk5 : kd ≤ 5 := lt6.mp (bI_n c_10).2
      have hi3 := bI_n c_5
      obtain ⟨j, hj, hqj⟩ := ixQ 3 rfl (by decide) hi3.1 hi3.2
      have hqc : qu.toNatClampNeg = j := by rw [hqj]; exact nI_c (by omega)
      have hplen : (pendN F ln qu).length = (pq j).length := by rw [hqj, hQp j hj, List.length_map]
      have hclen : (doneN F cp qu).length = (cq j).length := by rw [hqj, hQc j hj, List.length_map]
      have hp4 := (hQl j hj).1
      have hc4 := (hQl j hj).2
      have main : (kd = 3 ∨ (1 ≤ n ∧ n ≤ 4 ∧ 0 ≤ a ∧ a ≤ 24 - n)) → ∀ (H : Heap) (locs : List Loc), mw_H n0 D cl s w H locs → W p l e (rmd 1) s m ([.ref (q 0), .int qu, .int kd, .int a, .int n, .int v] : List Value).toArray below meth c H locs 0 0 (MQ below (mw_Qi n0 D cl (fun r w' => r = (submitS (fl, us, sn, pw, pq, cq, ln, tn, tr) qu kd a n v).1 ∧ MR cA w' ρ q lim (t + 1) (submitS (fl, us, sn, pw, pq, cq, ln, tn, tr) qu kd a n v).2 ∧ FR w w' (P7 ρ))) ([.ref (q 0), .int qu, .int kd, .int a, .int n, .int v] : List Value).toArray s 0 0 (mw_A n0)) (F0 m 50 ls []) := by
        intro hok H locs h
        refine lv_aload_n hx hb d_M_submit_50 rfl (lv_at hl 0 rfl) ?_
        refine lv_iload_n hx hb d_M_submit_51 rfl (lv_at hl 1 rfl) ?_
        refine mx_ci (cV (As := [.int qu]) (rest := []) G h (m_M_pending X hun hcm hcp (x := qu)) k_390 k_392 ks_13 k_7 k_393 hd_M_pending rfl rfl ⟨Nat.le_of_ble_eq_true rfl, Nat.le_of_ble_eq_true rfl⟩ X.1 rfl rfl hl.1 rfl (Nat.le_of_ble_eq_true rfl) d_M_submit_52 ⟨Nat.le_of_ble_eq_true rfl, Nat.le_of_ble_eq_true rfl⟩) h (fun r_12 w_11 H locs h hcp1 => ?_)
        obtain ⟨er_13, ew_14⟩ := hcp1
        subst er_13
        rw [ew_14] at h
        have et_15 : nI (pendN F ln qu).length = nI (pq j).length := by rw [hplen]
        rw [et_15]
        refine lv_iconst (v := 4) hx hb d_M_submit_55 (by decide) ?_
        refine lv_icmp_ne (tgt := 62) hx hb d_M_submit_56 (by decide) (fun c_16 => ?_) (fun c_16 => ?_)
        · have hlt : (pq j).length < 4 := by
            rcases Nat.lt_or_ge (pq j).length 4 with z | z
            · exact z
            · exact absurd (by rw [show (pq j).length = 4 by omega]; rfl) c_16
          refine lv_aload_n hx hb d_M_submit_62 rfl (lv_at hl 0 rfl) ?_
          refine lv_dup hx hb d_M_submit_63 rfl ?_
          refine mx_get G h X.1 rfl 16 (by decide) (tb_in in_M) (tb_c k_328) rfl rfl d_M_submit_64 ?_
          refine lv_iconst (v := 1) hx hb d_M_submit_67 (by decide) ?_
          refine lv_iadd hx hb d_M_submit_68 ?_
          have et_17 : (nI ln) + 1 = nI (ln + 1) := nI_1 ln
          rw [et_17]
          refine mx_put G h X.1 rfl 16 (by decide) (tb_in in_M) t_M t_M_ok n_M (tb_c k_328) rfl rfl rfl rfl rfl (Nat.le_of_ble_eq_true rfl) d_M_submit_69 (fun H locs h => ?_)
          have h : mw_H n0 D cl s (mw_up w (q 0) (.inr (5, [.int (nI lim), .ref (q 1), .ref (q 2), .ref (q 3), .ref (q 4), .ref (q 5), .ref (q 6), .int (nI un), .int (nI sn), .int (nI pw), .int (nI bd), .ref (q 11), .ref (q 12), .ref (q 13), .ref (q 14), .ref (q 15), .int (nI (ln + 1)), .ref (q 17), .ref (q 18), .ref (q 19), .int (nI cp), .int tn, .long tr]))) H locs := h
          obtain ⟨w_18, ew_18⟩ : ∃ xx : mw, mw_up w (q 0) (.inr (5, [.int (nI lim), .ref (q 1), .ref (q 2), .ref (q 3), .ref (q 4), .ref (q 5), .ref (q 6), .int (nI un), .int (nI sn), .int (nI pw), .int (nI bd), .ref (q 11), .ref (q 12), .ref (q 13), .ref (q 14), .ref (q 15), .int (nI (ln + 1)), .ref (q 17), .ref (q 18), .ref (q 19), .int (nI cp), .int tn, .long tr])) = xx := ⟨_, rfl⟩
          rw [ew_18] at h
          have f_19 : w_18 (q 0) = some (.inr (5, [.int (nI lim), .ref (q 1), .ref (q 2), .ref (q 3), .ref (q 4), .ref (q 5), .ref (q 6), .int (nI un), .int (nI sn), .int (nI pw), .int (nI bd), .ref (q 11), .ref (q 12), .ref (q 13), .ref (q 14), .ref (q 15), .int (nI (ln + 1)), .ref (q 17), .ref (q 18), .ref (q 19), .int (nI cp), .int tn, .long tr])) := by rw [← ew_18]; exact mw_self
          have X0 : MX cA w_18 ρ q lim un sn pw bd (ln + 1) cp tn tr F R := by rw [← ew_18]; exact X.put0 un sn pw bd (ln + 1) cp tn tr
          have hfr0 : FR w w_18 (P7 ρ) := by rw [← ew_18]; exact FQ X.2.2.2.2.2.1
          refine lv_aload_n hx hb d_M_submit_72 rfl (lv_at hl 0 rfl) ?_
          refine mx_get G h X0.1 rfl 11 (by decide) (tb_in in_M) (tb_c k_323) rfl rfl d_M_submit_73 ?_
          refine lv_aload_n hx hb d_M_submit_76 rfl (lv_at hl 0 rfl) ?_
          refine mx_get G h X0.1 rfl 16 (by decide) (tb_in in_M) (tb_c k_328) rfl rfl d_M_submit_77 ?_
          refine lv_iload_n hx hb d_M_submit_80 rfl (lv_at hl 1 rfl) ?_
          refine ax_si G h (X0.2.1 11 (by decide)) (ln + 1) rfl (by omega) (by decide) d_M_submit_81 (fun H locs h => ?_)
          have h : mw_H n0 D cl s (mw_up w_18 (q 11) (.inl (cA 0, 520, .inl (upd (F 11) (ln + 1) qu)))) H locs := h
          obtain ⟨w_20, ew_20⟩ : ∃ xx : mw, mw_up w_18 (q 11) (.inl (cA 0, 520, .inl (upd (F 11) (ln + 1) qu))) = xx := ⟨_, rfl⟩
          rw [ew_20] at h
          have f_21 : w_20 (q 11) = some (.inl (cA 0, 520, .inl (upd (F 11) (ln + 1) qu))) := by rw [← ew_20]; exact mw_self
          have X1 : MX cA w_20 ρ q lim un sn pw bd (ln + 1) cp tn tr (va_up F 11 (upd (F 11) (ln + 1) qu)) R := by rw [← ew_20]; exact X0.putI 11 (by decide) _
          have hfr1 : FR w w_20 (P7 ρ) := hfr0.tr (by rw [← ew_20]; exact FQ (X.2.2.2.2.2.2.1 11 (by decide)))
          refine lv_aload_n hx hb d_M_submit_82 rfl (lv_at hl 0 rfl) ?_
          refine mx_get G h X1.1 rfl 12 (by decide) (tb_in in_M) (tb_c k_324) rfl rfl d_M_submit_83 ?_
          refine lv_aload_n hx hb d_M_submit_86 rfl (lv_at hl 0 rfl) ?_
          refine mx_get G h X1.1 rfl 16 (by decide) (tb_in in_M) (tb_c k_328) rfl rfl d_M_submit_87 ?_
          refine lv_iload_n hx hb d_M_submit_90 rfl (lv_at hl 2 rfl) ?_
          refine ax_si G h (X1.2.1 12 (by decide)) (ln + 1) rfl (by omega) (by decide) d_M_submit_91 (fun H locs h => ?_)
          have h : mw_H n0 D cl s (mw_up w_20 (q 12) (.inl (cA 0, 520, .inl (upd (F 12) (ln + 1) kd)))) H locs := h
          obtain ⟨w_22, ew_22⟩ : ∃ xx : mw, mw_up w_20 (q 12) (.inl (cA 0, 520, .inl (upd (F 12) (ln + 1) kd))) = xx := ⟨_, rfl⟩
          rw [ew_22] at h
          have f_23 : w_22 (q 12) = some (.inl (cA 0, 520, .inl (upd (F 12) (ln + 1) kd))) := by rw [← ew_22]; exact mw_self
          have X2 : MX cA w_22 ρ q lim un sn pw bd (ln + 1) cp tn tr (va_up (va_up F 11 (upd (F 11) (ln + 1) qu)) 12 (upd (F 12) (ln + 1) kd)) R := by rw [← ew_22]; exact X1.putI 12 (by decide) _
          have hfr2 : FR w w_22 (P7 ρ) := hfr1.tr (by rw [← ew_22]; exact FQ (X.2.2.2.2.2.2.1 12 (by decide)))
          refine lv_aload_n hx hb d_M_submit_92 rfl (lv_at hl 0 rfl) ?_
          refine mx_get G h X2.1 rfl 13 (by decide) (tb_in in_M) (tb_c k_325) rfl rfl d_M_submit_93 ?_
          refine lv_aload_n hx hb d_M_submit_96 rfl (lv_at hl 0 rfl) ?_
          refine mx_get G h X2.1 rfl 16 (by decide) (tb_in in_M) (tb_c k_328) rfl rfl d_M_submit_97 ?_
          refine lv_iload_n hx hb d_M_submit_100 rfl (lv_at hl 3 rfl) ?_
          refine ax_si G h (X2.2.1 13 (by decide)) (ln + 1) rfl (by omega) (by decide) d_M_submit_101 (fun H locs h => ?_)
          have h : mw_H n0 D cl s (mw_up w_22 (q 13) (.inl (cA 0, 520, .inl (upd (F 13) (ln + 1) a)))) H locs := h
          obtain ⟨w_24, ew_24⟩ : ∃ xx : mw, mw_up w_22 (q 13) (.inl (cA 0, 520, .inl (upd (F 13) (ln + 1) a))) = xx := ⟨_, rfl⟩
          rw [ew_24] at h
          have f_25 : w_24 (q 13) = some (.inl (cA 0, 520, .inl (upd (F 13) (ln + 1) a))) := by rw [← ew_24]; exact mw_self
          have X3 : MX cA w_24 ρ q lim un sn pw bd (ln + 1) cp tn tr (va_up (va_up (va_up F 11 (upd (F 11) (ln + 1) qu)) 12 (upd (F 12) (ln + 1) kd)) 13 (upd (F 13) (ln + 1) a)) R := by rw [← ew_24]; exact X2.putI 13 (by decide) _
          have hfr3 : FR w w_24 (P7 ρ) := hfr2.tr (by rw [← ew_24]; exact FQ (X.2.2.2.2.2.2.1 13 (by decide)))
          refine lv_aload_n hx hb d_M_submit_102 rfl (lv_at hl 0 rfl) ?_
          refine mx_get G h X3.1 rfl 14 (by decide) (tb_in in_M) (tb_c k_326) rfl rfl d_M_submit_103 ?_
          refine lv_aload_n hx hb d_M_submit_106 rfl (lv_at hl 0 rfl) ?_
          refine mx_get G h X3.1 rfl 16 (by decide) (tb_in in_M) (tb_c k_328) rfl rfl d_M_submit_107 ?_
          refine lv_iload hx hb d_M_submit_110 (lv_at hl 4 rfl) ?_
          refine ax_si G h (X3.2.1 14 (by decide)) (ln + 1) rfl (by omega) (by decide) d_M_submit_112 (fun H locs h => ?_)
          have h : mw_H n0 D cl s (mw_up w_24 (q 14) (.inl (cA 0, 520, .inl (upd (F 14) (ln + 1) n)))) H locs := h
          obtain ⟨w_26, ew_26⟩ : ∃ xx : mw, mw_up w_24 (q 14) (.inl (cA 0, 520, .inl (upd (F 14) (ln + 1) n))) = xx := ⟨_, rfl⟩
          rw [ew_26] at h
          have f_27 : w_26 (q 14) = some (.inl (cA 0, 520, .inl (upd (F 14) (ln + 1) n))) := by rw [← ew_26]; exact mw_self
          have X4 : MX cA w_26 ρ q lim un sn pw bd (ln + 1) cp tn tr (va_up (va_up (va_up (va_up F 11 (upd (F 11) (ln + 1) qu)) 12 (upd (F 12) (ln + 1) kd)) 13 (upd (F 13) (ln + 1) a)) 14 (upd (F 14) (ln + 1) n)) R := by rw [← ew_26]; exact X3.putI 14 (by decide) _
          have hfr4 : FR w w_26 (P7 ρ) := hfr3.tr (by rw [← ew_26]; exact FQ (X.2.2.2.2.2.2.1 14 (by decide)))
          refine lv_aload_n hx hb d_M_submit_113 rfl (lv_at hl 0 rfl) ?_
          refine mx_get G h X4.1 rfl 15 (by decide) (tb_in in_M) (tb_c k_327) rfl rfl d_M_submit_114 ?_
          refine lv_aload_n hx hb d_M_submit_117 rfl (lv_at hl 0 rfl) ?_
          refine mx_get G h X4.1 rfl 16 (by decide) (tb_in in_M) (tb_c k_328) rfl rfl d_M_submit_118 ?_
          refine lv_iload hx hb d_M_submit_121 (lv_at hl 5 rfl) ?_
          refine ax_si G h (X4.2.1 15 (by decide)) (ln + 1) rfl (by omega) (by decide) d_M_submit_123 (fun H locs h => ?_)
          have h : mw_H n0 D cl s (mw_up w_26 (q 15) (.inl (cA 0, 520, .inl (upd (F 15) (ln + 1) v)))) H locs := h
          obtain ⟨w_28, ew_28⟩ : ∃ xx : mw, mw_up w_26 (q 15) (.inl (cA 0, 520, .inl (upd (F 15) (ln + 1) v))) = xx := ⟨_, rfl⟩
          rw [ew_28] at h
          have f_29 : w_28 (q 15) = some (.inl (cA 0, 520, .inl (upd (F 15) (ln + 1) v))) := by rw [← ew_28]; exact mw_self
          have X5 : MX cA w_28 ρ q lim un sn pw bd (ln + 1) cp tn tr (va_up (va_up (va_up (va_up (va_up F 11 (upd (F 11) (ln + 1) qu)) 12 (upd (F 12) (ln + 1) kd)) 13 (upd (F 13) (ln + 1) a)) 14 (upd (F 14) (ln + 1) n)) 15 (upd (F 15) (ln + 1) v)) R := by rw [← ew_28]; exact X4.putI 15 (by decide) _
          have hfr5 : FR w w_28 (P7 ρ) := hfr4.tr (by rw [← ew_28]; exact FQ (X.2.2.2.2.2.2.1 15 (by decide)))
          refine lv_aload_n hx hb d_M_submit_124 rfl (lv_at hl 0 rfl) ?_
          refine mx_get G h X5.1 rfl 16 (by decide) (tb_in in_M) (tb_c k_328) rfl rfl d_M_submit_125 ?_
          have e9 : submitS (fl, us, sn, pw, pq, cq, ln, tn, tr) qu kd a n v = (nI (ln + 1), (fl, us, sn, pw, va_up pq j (pq j ++ [(nI (ln + 1), kd, a, n, v)]), cq, ln + 1, tn, tr)) := by simp only [submitS]; rw [if_pos ⟨hi3, hk0, hk5⟩, if_pos hok, hqc, if_neg (by omega)]
          have hQ9 := hQN.sub hj hlt (vC_of (x := nI (ln + 1)) (v := v) hk0 hk5 hok)
          rw [← hqj] at hQ9
          have hG9 : LG (sbF F (ln + 1) qu kd a n v) un sn fl us := hG.cong (fun i hi => by rcases (show i = 0 ∨ i = 1 ∨ i = 2 ∨ i = 3 ∨ i = 4 ∨ i = 5 ∨ i = 6 by omega) with rfl | rfl | rfl | rfl | rfl | rfl | rfl <;> simp [sbF, va_up])
          exact mx_reti G h hrt hlocks d_M_submit_128 (by rw [e9]; exact ⟨rfl, ⟨un, cp, bd, _, R, ⟨X5, hG9⟩, by omega, Nat.succ_le_succ hct, by omega, hbd, hQ9⟩, hfr5⟩)
        · refine lv_bipush (v := -2) hx hb d_M_submit_59 (by decide) ?_
          have hge : (pq j).length = 4 := (nI_eq (by omega) (by decide)).mp c_16
          have e9 : submitS (fl, us, sn, pw, pq, cq, ln, tn, tr) qu kd a n v = (-2, (fl, us, sn, pw, pq, cq, ln, tn, tr)) := by simp only [submitS]; rw [if_pos ⟨hi3, hk0, hk5⟩, if_pos hok, hqc, if_pos (by omega)]
          exact mx_reti G h hrt hlocks d_M_submit_61 (by rw [e9]; exact ⟨rfl, ⟨un, cp, bd, F, R, V, by omega, Nat.le_succ_of_le hct, by omega, hbd, hQN⟩, FR.rf⟩)
      refine lv_iload_n hx hb d_M_submit_19 rfl (lv_at hl 2 rfl) ?_
      refine lv_iconst (v := 3) hx hb d_M_submit_20 (by decide) ?_
      refine lv_icmp_eq (tgt := 50) hx hb d_M_submit_21 (by decide) (fun c_30 => ?_) (fun c_30 => ?_)
      · exact main (Or.inl c_30) H locs h
      · refine lv_iload hx hb d_M_submit_24 (lv_at hl 4 rfl) ?_
        refine lv_iconst (v := 1) hx hb d_M_submit_26 (by decide) ?_
        refine lv_icmp_lt (tgt := 48) hx hb d_M_submit_27 (by decide) (fun c_31 => ?_) (fun c_31 => ?_)
        · refine lv_iconst (v := (-1)) hx hb d_M_submit_48 (by decide) ?_
          have e9 : submitS (fl, us, sn, pw, pq, cq, ln, tn, tr) qu kd a n v = (-1, (fl, us, sn, pw, pq, cq, ln, tn, tr)) := by simp only [submitS]; rw [if_pos ⟨hi3, hk0, hk5⟩, if_neg (fun z => z.elim c_30 (fun y => absurd y.1 (Int32.not_le.mpr c_31)))]
          exact mx_reti G h hrt hlocks d_M_submit_49 (by rw [e9]; exact ⟨rfl, ⟨un, cp, bd, F, R, V, by omega, Nat.le_succ_of_le hct, by omega, hbd, hQN⟩, FR.rf⟩)
        · refine lv_iload hx hb d_M_submit_30 (lv_at hl 4 rfl) ?_
          refine lv_iconst (v := 4) hx hb d_M_submit_32 (by decide) ?_
          refine lv_icmp_gt (tgt := 48) hx hb d_M_submit_33 (by decide) (fun c_32 => ?_) (fun c_32 => ?_)
          · refine lv_iconst (v := (-1)) hx hb d_M_submit_48 (by decide) ?_
            have e9 : submitS (fl, us, sn, pw, pq, cq, ln, tn, tr) qu kd a n v = (-1, (fl, us, sn, pw, pq, cq, ln, tn, tr)) := by simp only [submitS]; rw [if_pos ⟨hi3, hk0, hk5⟩, if_neg (fun z => z.elim c_30 (fun y => absurd y.2.1 (Int32.not_le.mpr c_32)))]
            exact mx_reti G h hrt hlocks d_M_submit_49 (by rw [e9]; exact ⟨rfl, ⟨un, cp, bd, F, R, V, by omega, Nat.le_succ_of_le hct, by omega, hbd, hQN⟩, FR.rf⟩)
          · have hn1 : 1 ≤ n := Int32.not_lt.mp c_31
            have hn4 : n ≤ 4 := Int32.not_lt.mp c_32
            refine lv_iload_n hx hb d_M_submit_36 rfl (lv_at hl 3 rfl) ?_
            refine lv_bipush (v := 25) hx hb d_M_submit_37 (by decide) ?_
            refine lv_iload hx hb d_M_submit_39 (lv_at hl 4 rfl) ?_
            refine lv_isub hx hb d_M_submit_41 ?_
            refine mx_ci (cS (As := [.int a, .int (25 - n)]) (rest := []) G h (m_M_in (x := a) (n := 25 - n)) k_387 k_388 k_7 k_389 rfl hd_M_in rfl rfl ⟨Nat.le_of_ble_eq_true rfl, Nat.le_of_ble_eq_true rfl⟩ rfl hl.1 rfl (Nat.le_of_ble_eq_true rfl) d_M_submit_42 ⟨Nat.le_of_ble_eq_true rfl, Nat.le_of_ble_eq_true rfl⟩) h (fun r_34 w_33 H locs h hcp1 => ?_)
            obtain ⟨er_35, ew_36⟩ := hcp1
            subst er_35
            rw [ew_36] at h
            refine lv_if_ne (tgt := 50) hx hb d_M_submit_45 (by decide) (fun c_37 => ?_) (fun c_37 => ?_)
            · exact main (Or.inr ⟨hn1, hn4, (bI_n c_37).1, (lt25 hn1 hn4).mp (bI_n c_37).2⟩) H locs h
            · refine lv_iconst (v := (-1)) hx hb d_M_submit_48 (by decide) ?_
              have e9 : submitS (fl, us, sn, pw, pq, cq, ln, tn, tr) qu kd a n v = (-1, (fl, us, sn, pw, pq, cq, ln, tn, tr)) := by simp only [submitS]; rw [if_pos ⟨hi3, hk0, hk5⟩, if_neg (fun z => z.elim c_30 (fun y => bI_0 c_37 ⟨y.2.2.1, (lt25 hn1 hn4).mpr y.2.2.2⟩))]
              exact mx_reti G h hrt hlocks d_M_submit_49 (by rw [e9]; exact ⟨rfl, ⟨un, cp, bd, F, R, V, by omega, Nat.le_succ_of_le hct, by omega, hbd, hQN⟩, FR.rf⟩)
    · refine lv_iconst (v := (-1)) hx hb d_M_submit_17 (by decide) ?_
      have e9 : submitS (fl, us, sn, pw, pq, cq, ln, tn, tr) qu kd a n v = (-1, (fl, us, sn, pw, pq, cq, ln, tn, tr)) := by simp only [submitS]; rw [if_neg (fun z => bI_0 c_10 ⟨z.2.1, lt6.mpr z.2.2⟩)]
      exact mx_reti G h hrt hlocks d_M_submit_18 (by rw [e9]; exact ⟨rfl, ⟨un, cp, bd, F, R, V, by omega, Nat.le_succ_of_le hct, by omega, hbd, hQN⟩, FR.rf⟩)
set_option maxHeartbeats 4000000 in
set_option maxRecDepth 100000 in
theorem m_M_step {l : Launch} {D : va_G} {cA : Nat → ClassId} {n0 : Nat} {w : mw} {ρ q : Nat → Nat} {lim t : Nat} {fl : Nat → Int64} {us : List uU} {sn pw : Nat} {pq : Nat → List pC} {cq : Nat → List (Int32 × Int64)} {ln : Nat} {tn : Int32} {tr : Int64} (Y : MR cA w ρ q lim t (fl, us, sn, pw, pq, cq, ln, tn, tr)) (ht : t + 1 ≤ 512) (hlim : lim ≤ 6) (h6 : us.length ≤ 6) {qu x : Int32} :
    Mi l D cA n0 y_M_step c_M_step (rmd 5) [.ref (q 0), .int qu, .int x] w (fun r w' => r = (stepS lim (fl, us, sn, pw, pq, cq, ln, tn, tr) qu x).1 ∧ MR cA w' ρ q lim (t + 1) (stepS lim (fl, us, sn, pw, pq, cq, ln, tn, tr) qu x).2 ∧ FR w w' (P7 ρ)) := by
  refine mw_met (cc := b_M_step) (maxL := 4) (ret := (some .int)) (by decide) rfl (Nat.le_of_ble_eq_true rfl) ?_
  intro p e s m below meth c ls G hrt hlocks hname h hl
  have G : mw_G p m c b_M_step 4 s _ (c_M_step :: TB) R_M D cl (tys cA) n0 := G
  have hx := G.1.1
  have hb := G.1.2.1
  have hl : lv_has ls 4 [(0, .ref (q 0)), (1, .int qu), (2, .int x)] := hl
  obtain ⟨un, cp, bd, F, R, V, hut, hct, hpt, hbd, hQN⟩ := id Y
  have V : MC cA w ρ q lim un ln cp tn tr F R (fl, us, sn, pw, bd) := V
  have hct : ln ≤ t := hct
  have hQN : QN F R ln cp pq cq := hQN
  obtain ⟨X, hG⟩ := id V
  have X : MX cA w ρ q lim un sn pw bd ln cp tn tr F R := X
  have hG : LG F un sn fl us := hG
  obtain ⟨hQp, hQc, hQl, hQv⟩ := id hQN
  have hun : un ≤ 512 := by omega
  have hcm : ln ≤ 512 := by omega
  have hcp : cp ≤ 512 := by omega
  refine lv_iload_n hx hb d_M_step_0 rfl (lv_at hl 1 rfl) ?_
  refine lv_iconst (v := 3) hx hb d_M_step_1 (by decide) ?_
  refine mx_ci (cS (As := [.int qu, .int 3]) (rest := []) G h (m_M_in (x := qu) (n := 3)) k_387 k_388 k_7 k_389 rfl hd_M_in rfl rfl ⟨Nat.le_of_ble_eq_true rfl, Nat.le_of_ble_eq_true rfl⟩ rfl hl.1 rfl (Nat.le_of_ble_eq_true rfl) d_M_step_2 ⟨Nat.le_of_ble_eq_true rfl, Nat.le_of_ble_eq_true rfl⟩) h (fun r_2 w_1 H locs h hcp1 => ?_)
  obtain ⟨er_3, ew_4⟩ := hcp1
  subst er_3
  rw [ew_4] at h
  refine lv_if_eq (tgt := 25) hx hb d_M_step_5 (by decide) (fun c_5 => ?_) (fun c_5 => ?_)
  · refine lv_iconst (v := (-1)) hx hb d_M_step_25 (by decide) ?_
    have e8 : refS pq cq qu x = -1 := by rw [refS, if_neg (fun z => bI_0 c_5 z.1)]
    have e9 : stepS lim (fl, us, sn, pw, pq, cq, ln, tn, tr) qu x = (-1, (fl, us, sn, pw, pq, cq, ln, tn, tr)) := by simp only [stepS]; rw [e8, if_neg (by decide)]
    exact mx_reti G h hrt hlocks d_M_step_26 (by rw [e9]; exact ⟨rfl, ⟨un, cp, bd, F, R, V, by omega, Nat.le_succ_of_le hct, by omega, hbd, hQN⟩, FR.rf⟩)
  · have hi3 := bI_n c_5
    obtain ⟨j, hj, hqj⟩ := ixQ 3 rfl (by decide) hi3.1 hi3.2
    have hqc : qu.toNatClampNeg = j := by rw [hqj]; exact nI_c (by omega)
    have hplen : (pendN F ln qu).length = (pq j).length := by rw [hqj, hQp j hj, List.length_map]
    have hclen : (doneN F cp qu).length = (cq j).length := by rw [hqj, hQc j hj, List.length_map]
    have hp4 := (hQl j hj).1
    have hc4 := (hQl j hj).2
    refine lv_iload_n hx hb d_M_step_8 rfl (lv_at hl 2 rfl) ?_
    refine lv_iconst (v := 4) hx hb d_M_step_9 (by decide) ?_
    refine mx_ci (cS (As := [.int x, .int 4]) (rest := []) G h (m_M_in (x := x) (n := 4)) k_387 k_388 k_7 k_389 rfl hd_M_in rfl rfl ⟨Nat.le_of_ble_eq_true rfl, Nat.le_of_ble_eq_true rfl⟩ rfl hl.1 rfl (Nat.le_of_ble_eq_true rfl) d_M_step_10 ⟨Nat.le_of_ble_eq_true rfl, Nat.le_of_ble_eq_true rfl⟩) h (fun r_7 w_6 H locs h hcp1 => ?_)
    obtain ⟨er_8, ew_9⟩ := hcp1
    subst er_8
    rw [ew_9] at h
    refine lv_if_eq (tgt := 25) hx hb d_M_step_13 (by decide) (fun c_10 => ?_) (fun c_10 => ?_)
    · refine lv_iconst (v := (-1)) hx hb d_M_step_25 (by decide) ?_
      have e8 : refS pq cq qu x = -1 := by rw [refS, if_neg (fun z => bI_0 c_10 ⟨z.2.1, Int32.lt_of_lt_of_le z.2.2 (by rw [hqc]; exact nI_le (b := 4) hp4 (by decide))⟩)]
      have e9 : stepS lim (fl, us, sn, pw, pq, cq, ln, tn, tr) qu x = (-1, (fl, us, sn, pw, pq, cq, ln, tn, tr)) := by simp only [stepS]; rw [e8, if_neg (by decide)]
      exact mx_reti G h hrt hlocks d_M_step_26 (by rw [e9]; exact ⟨rfl, ⟨un, cp, bd, F, R, V, by omega, Nat.le_succ_of_le hct, by omega, hbd, hQN⟩, FR.rf⟩)
    · obtain ⟨i, hi4, hxi⟩ := ixQ 4 rfl (by decide) (bI_n c_10).1 (bI_n c_10).2
      have hxc : x.toNatClampNeg = i := by rw [hxi]; exact nI_c (by omega)
      refine lv_aload_n hx hb d_M_step_16 rfl (lv_at hl 0 rfl) ?_
      refine lv_iload_n hx hb d_M_step_17 rfl (lv_at hl 1 rfl) ?_
      refine lv_iload_n hx hb d_M_step_18 rfl (lv_at hl 2 rfl) ?_
      refine mx_ci (cV (As := [.int qu, .int x]) (rest := []) G h (m_M_picked X hun hcm hcp (x := qu) (y := x) hxi (by omega)) k_398 k_400 ks_14 k_7 k_401 hd_M_picked rfl rfl ⟨Nat.le_of_ble_eq_true rfl, Nat.le_of_ble_eq_true rfl⟩ X.1 rfl rfl hl.1 rfl (Nat.le_of_ble_eq_true rfl) d_M_step_19 ⟨Nat.le_of_ble_eq_true rfl, Nat.le_of_ble_eq_true rfl⟩) h (fun r_12 w_11 H locs h hcp1 => ?_)
      obtain ⟨er_13, ew_14⟩ := hcp1
      subst er_13
      rw [ew_14] at h
      cases hpk : (pendN F ln qu)[i]? with
      | none =>
        have hil : (pq j).length ≤ i := by rw [← hplen]; exact List.getElem?_eq_none_iff.mp hpk
        refine lv_if_ne (tgt := 27) hx hb d_M_step_22 (by decide) (fun c_15 => ?_) (fun c_15 => ?_)
        · exact absurd rfl c_15
        · refine lv_iconst (v := (-1)) hx hb d_M_step_25 (by decide) ?_
          have e8 : refS pq cq qu x = -1 := by rw [refS, if_neg (fun z => absurd z.2.2 (by rw [hqc, hxi, nI_ltI (by omega) (by omega)]; omega))]
          have e9 : stepS lim (fl, us, sn, pw, pq, cq, ln, tn, tr) qu x = (-1, (fl, us, sn, pw, pq, cq, ln, tn, tr)) := by simp only [stepS]; rw [e8, if_neg (by decide)]
          exact mx_reti G h hrt hlocks d_M_step_26 (by rw [e9]; exact ⟨rfl, ⟨un, cp, bd, F, R, V, by omega, Nat.le_succ_of_le hct, by omega, hbd, hQN⟩, FR.rf⟩)
      | some ci =>
        have hcm2 := pendN_mem.mp (List.mem_of_getElem? hpk)
        have hil : i < (pq j).length := by rw [← hplen]; exact lt_of_get hpk
        have hcond : (0 ≤ qu ∧ qu < 3) ∧ 0 ≤ x ∧ x < nI (pq qu.toNatClampNeg).length := ⟨hi3, (bI_n c_10).1, by rw [hqc, hxi]; exact nI_lt hil (by omega)⟩
        refine lv_if_ne (tgt := 27) hx hb d_M_step_22 (by decide) (fun c_16 => ?_) (fun c_16 => ?_)
        · refine lv_aload_n hx hb d_M_step_27 rfl (lv_at hl 0 rfl) ?_
          refine lv_iload_n hx hb d_M_step_28 rfl (lv_at hl 1 rfl) ?_
          refine mx_ci (cV (As := [.int qu]) (rest := []) G h (m_M_done X hun hcm hcp (x := qu)) k_402 k_404 ks_15 k_7 k_405 hd_M_done rfl rfl ⟨Nat.le_of_ble_eq_true rfl, Nat.le_of_ble_eq_true rfl⟩ X.1 rfl rfl hl.1 rfl (Nat.le_of_ble_eq_true rfl) d_M_step_29 ⟨Nat.le_of_ble_eq_true rfl, Nat.le_of_ble_eq_true rfl⟩) h (fun r_18 w_17 H locs h hcp1 => ?_)
          obtain ⟨er_19, ew_20⟩ := hcp1
          subst er_19
          rw [ew_20] at h
          have et_21 : nI (doneN F cp qu).length = nI (cq j).length := by rw [hclen]
          rw [et_21]
          refine lv_iconst (v := 4) hx hb d_M_step_32 (by decide) ?_
          refine lv_icmp_ne (tgt := 39) hx hb d_M_step_33 (by decide) (fun c_22 => ?_) (fun c_22 => ?_)
          · have hlt : (cq j).length < 4 := by
              rcases Nat.lt_or_ge (cq j).length 4 with z | z
              · exact z
              · exact absurd (by rw [show (cq j).length = 4 by omega]; rfl) c_22
            have e8 : refS pq cq qu x = 0 := by rw [refS, if_pos hcond, hqc, if_neg (by omega)]
            refine lv_aload_n hx hb d_M_step_39 rfl (lv_at hl 0 rfl) ?_
            refine lv_iload_n hx hb d_M_step_40 rfl (lv_at hl 1 rfl) ?_
            refine lv_iload_n hx hb d_M_step_41 rfl (lv_at hl 2 rfl) ?_
            refine mx_ci (cV (As := [.int qu, .int x]) (rest := []) G h (m_M_picked X hun hcm hcp (x := qu) (y := x) hxi (by omega)) k_398 k_400 ks_14 k_7 k_401 hd_M_picked rfl rfl ⟨Nat.le_of_ble_eq_true rfl, Nat.le_of_ble_eq_true rfl⟩ X.1 rfl rfl hl.1 rfl (Nat.le_of_ble_eq_true rfl) d_M_step_42 ⟨Nat.le_of_ble_eq_true rfl, Nat.le_of_ble_eq_true rfl⟩) h (fun r_24 w_23 H locs h hcp1 => ?_)
            obtain ⟨er_25, ew_26⟩ := hcp1
            subst er_25
            rw [ew_26] at h
            rw [hpk]
            refine lv_istore_n (lv' := [(3, .int (nI ci)), (0, .ref (q 0)), (1, .int qu), (2, .int x)]) hx hb d_M_step_45 rfl hl (by decide) rfl (fun ls hl => ?_)
            refine lv_aload_n hx hb d_M_step_46 rfl (lv_at hl 1 rfl) ?_
            refine lv_bipush (v := 100) hx hb d_M_step_47 (by decide) ?_
            have et_27 : 100 = nI 100 := rfl
            rw [et_27]
            refine mx_put G h X.1 rfl 10 (by decide) (tb_in in_M) t_M t_M_ok n_M (tb_c k_322) rfl rfl rfl rfl rfl (Nat.le_of_ble_eq_true rfl) d_M_step_49 (fun H locs h => ?_)
            have h : mw_H n0 D cl s (mw_up w (q 0) (.inr (5, [.int (nI lim), .ref (q 1), .ref (q 2), .ref (q 3), .ref (q 4), .ref (q 5), .ref (q 6), .int (nI un), .int (nI sn), .int (nI pw), .int (nI 100), .ref (q 11), .ref (q 12), .ref (q 13), .ref (q 14), .ref (q 15), .int (nI ln), .ref (q 17), .ref (q 18), .ref (q 19), .int (nI cp), .int tn, .long tr]))) H locs := h
            obtain ⟨w_28, ew_28⟩ : ∃ xx : mw, mw_up w (q 0) (.inr (5, [.int (nI lim), .ref (q 1), .ref (q 2), .ref (q 3), .ref (q 4), .ref (q 5), .ref (q 6), .int (nI un), .int (nI sn), .int (nI pw), .int (nI 100), .ref (q 11), .ref (q 12), .ref (q 13), .ref (q 14), .ref (q 15), .int (nI ln), .ref (q 17), .ref (q 18), .ref (q 19), .int (nI cp), .int tn, .long tr])) = xx := ⟨_, rfl⟩
            rw [ew_28] at h
            have f_29 : w_28 (q 0) = some (.inr (5, [.int (nI lim), .ref (q 1), .ref (q 2), .ref (q 3), .ref (q 4), .ref (q 5), .ref (q 6), .int (nI un), .int (nI sn), .int (nI pw), .int (nI 100), .ref (q 11), .ref (q 12), .ref (q 13), .ref (q 14), .ref (q 15), .int (nI ln), .ref (q 17), .ref (q 18), .ref (q 19), .int (nI cp), .int tn, .long tr])) := by rw [← ew_28]; exact mw_self
            have X0 : MX cA w_28 ρ q lim un sn pw 100 ln cp tn tr F R := by rw [← ew_28]; exact X.put0 un sn pw 100 ln cp tn tr
            have hfr0 : FR w w_28 (P7 ρ) := by rw [← ew_28]; exact FQ X.2.2.2.2.2.1
            have V0 : MC cA w_28 ρ q lim un ln cp tn tr F R (fl, us, sn, pw, 100) := ⟨X0, hG⟩
            obtain ⟨⟨kd, hkd, hkk⟩, hVd⟩ := hQv ci hcm2.1.1 hcm2.1.2
            have hkk : F 12 ci = nI kd := hkk
            have hVd : kd ≠ 3 → vU (uof (cmdN F ci)) := fun z => hVd.resolve_left (fun y => z (by have y2 := hkk.symm.trans y; exact (nI_eq (b := 3) (by omega) (by decide)).mp y2))
            refine lv_aload_n hx hb d_M_step_52 rfl (lv_at hl 1 rfl) ?_
            refine mx_get G h X0.1 rfl 19 (by decide) (tb_in in_M) (tb_c k_331) rfl rfl d_M_step_53 ?_
            refine lv_aload_n hx hb d_M_step_56 rfl (lv_at hl 1 rfl) ?_
            refine mx_get G h X0.1 rfl 20 (by decide) (tb_in in_M) (tb_c k_332) rfl rfl d_M_step_57 ?_
            refine lv_aload_n hx hb d_M_step_60 rfl (lv_at hl 1 rfl) ?_
            refine lv_iload_n hx hb d_M_step_61 rfl (lv_at hl 0 rfl) ?_
            refine mx_cl (cV (As := [.int (nI ci)]) (rest := [.int (nI cp), .ref (q 19)]) G h (m_M_work V0 hcm hcp (by decide) (by omega) hlim (ci := ci) (by omega) hkk hkd hVd rfl) k_406 k_408 ks_16 k_7 k_409 hd_M_work rfl rfl ⟨Nat.le_of_ble_eq_true rfl, Nat.le_of_ble_eq_true rfl⟩ X0.1 rfl rfl hl.1 rfl (Nat.le_of_ble_eq_true rfl) d_M_step_62 ⟨Nat.le_of_ble_eq_true rfl, Nat.le_of_ble_eq_true rfl⟩) h (fun r_31 w_30 H locs h hcp1 => ?_)
            obtain ⟨er, F1, un1, hu1, V1, hsf, hf1⟩ := hcp1
            obtain ⟨he1, he2⟩ := carA_en (L := lim) (kd := kd) (u := uof (cmdN F ci)) (fl := fl) (us := us) (sn := sn) (pw := pw) (p1 := 100) (p2 := 28) (fun z => (hVd (by rw [z]; decide)).2.2.2.1) (fun u hu => by rw [hG.1] at hu; obtain ⟨v9, hv9, rfl⟩ := List.mem_map.mp hu; exact hG.2.2.1 v9 (liveN_mem.mp hv9).1) h6 (by decide) (by decide)
            obtain ⟨X1, hG1⟩ := id V1
            have hbd1 : (carA lim kd (uof (cmdN F ci)) (fl, us, sn, pw, 100)).2.2.2.2.2 < 1000 := Nat.lt_of_le_of_lt carA_pl (show 100 < 1000 by decide)
            refine ax_sl G h X1.2.2.2.1 cp rfl (by omega) (by decide) d_M_step_65 (fun H locs h => ?_)
            have h : mw_H n0 D cl s (mw_up w_30 (q 19) (.inl (cA 1, 520, .inr (.inl (vp_updL R cp r_31))))) H locs := h
            obtain ⟨w_32, ew_32⟩ : ∃ xx : mw, mw_up w_30 (q 19) (.inl (cA 1, 520, .inr (.inl (vp_updL R cp r_31)))) = xx := ⟨_, rfl⟩
            rw [ew_32] at h
            have f_33 : w_32 (q 19) = some (.inl (cA 1, 520, .inr (.inl (vp_updL R cp r_31)))) := by rw [← ew_32]; exact mw_self
            have X2 : MX cA w_32 ρ q lim un1 (carA lim kd (uof (cmdN F ci)) (fl, us, sn, pw, 100)).2.2.2.1 (carA lim kd (uof (cmdN F ci)) (fl, us, sn, pw, 100)).2.2.2.2.1 (carA lim kd (uof (cmdN F ci)) (fl, us, sn, pw, 100)).2.2.2.2.2 ln cp tn tr F1 (vp_updL R cp r_31) := by rw [← ew_32]; exact X1.putL _
            have hfr2 : FR w w_32 (P7 ρ) := (hfr0.tr hf1).tr (by rw [← ew_32]; exact FQ X.2.2.2.2.2.2.2)
            refine lv_aload_n hx hb d_M_step_66 rfl (lv_at hl 1 rfl) ?_
            refine mx_get G h X2.1 rfl 17 (by decide) (tb_in in_M) (tb_c k_329) rfl rfl d_M_step_67 ?_
            refine lv_aload_n hx hb d_M_step_70 rfl (lv_at hl 1 rfl) ?_
            refine mx_get G h X2.1 rfl 20 (by decide) (tb_in in_M) (tb_c k_332) rfl rfl d_M_step_71 ?_
            refine lv_iload_n hx hb d_M_step_74 rfl (lv_at hl 2 rfl) ?_
            refine ax_si G h (X2.2.1 17 (by decide)) cp rfl (by omega) (by decide) d_M_step_75 (fun H locs h => ?_)
            have h : mw_H n0 D cl s (mw_up w_32 (q 17) (.inl (cA 0, 520, .inl (upd (F1 17) cp qu)))) H locs := h
            obtain ⟨w_34, ew_34⟩ : ∃ xx : mw, mw_up w_32 (q 17) (.inl (cA 0, 520, .inl (upd (F1 17) cp qu))) = xx := ⟨_, rfl⟩
            rw [ew_34] at h
            have f_35 : w_34 (q 17) = some (.inl (cA 0, 520, .inl (upd (F1 17) cp qu))) := by rw [← ew_34]; exact mw_self
            have X3 : MX cA w_34 ρ q lim un1 (carA lim kd (uof (cmdN F ci)) (fl, us, sn, pw, 100)).2.2.2.1 (carA lim kd (uof (cmdN F ci)) (fl, us, sn, pw, 100)).2.2.2.2.1 (carA lim kd (uof (cmdN F ci)) (fl, us, sn, pw, 100)).2.2.2.2.2 ln cp tn tr (va_up F1 17 (upd (F1 17) cp qu)) (vp_updL R cp r_31) := by rw [← ew_34]; exact X2.putI 17 (by decide) _
            have hfr3 : FR w w_34 (P7 ρ) := hfr2.tr (by rw [← ew_34]; exact FQ (X.2.2.2.2.2.2.1 17 (by decide)))
            refine lv_aload_n hx hb d_M_step_76 rfl (lv_at hl 1 rfl) ?_
            refine mx_get G h X3.1 rfl 18 (by decide) (tb_in in_M) (tb_c k_330) rfl rfl d_M_step_77 ?_
            refine lv_aload_n hx hb d_M_step_80 rfl (lv_at hl 1 rfl) ?_
            refine mx_get G h X3.1 rfl 20 (by decide) (tb_in in_M) (tb_c k_332) rfl rfl d_M_step_81 ?_
            refine lv_iload_n hx hb d_M_step_84 rfl (lv_at hl 0 rfl) ?_
            refine ax_si G h (X3.2.1 18 (by decide)) cp rfl (by omega) (by decide) d_M_step_85 (fun H locs h => ?_)
            have h : mw_H n0 D cl s (mw_up w_34 (q 18) (.inl (cA 0, 520, .inl (upd (F1 18) cp (nI ci))))) H locs := h
            obtain ⟨w_36, ew_36⟩ : ∃ xx : mw, mw_up w_34 (q 18) (.inl (cA 0, 520, .inl (upd (F1 18) cp (nI ci)))) = xx := ⟨_, rfl⟩
            rw [ew_36] at h
            have f_37 : w_36 (q 18) = some (.inl (cA 0, 520, .inl (upd (F1 18) cp (nI ci)))) := by rw [← ew_36]; exact mw_self
            have X4 : MX cA w_36 ρ q lim un1 (carA lim kd (uof (cmdN F ci)) (fl, us, sn, pw, 100)).2.2.2.1 (carA lim kd (uof (cmdN F ci)) (fl, us, sn, pw, 100)).2.2.2.2.1 (carA lim kd (uof (cmdN F ci)) (fl, us, sn, pw, 100)).2.2.2.2.2 ln cp tn tr (va_up (va_up F1 17 (upd (F1 17) cp qu)) 18 (upd (F1 18) cp (nI ci))) (vp_updL R cp r_31) := by rw [← ew_36]; exact X3.putI 18 (by decide) _
            have hfr4 : FR w w_36 (P7 ρ) := hfr3.tr (by rw [← ew_36]; exact FQ (X.2.2.2.2.2.2.1 18 (by decide)))
            refine lv_aload_n hx hb d_M_step_86 rfl (lv_at hl 1 rfl) ?_
            refine lv_dup hx hb d_M_step_87 rfl ?_
            refine mx_get G h X4.1 rfl 20 (by decide) (tb_in in_M) (tb_c k_332) rfl rfl d_M_step_88 ?_
            refine lv_iconst (v := 1) hx hb d_M_step_91 (by decide) ?_
            refine lv_iadd hx hb d_M_step_92 ?_
            have et_38 : (nI cp) + 1 = nI (cp + 1) := nI_1 cp
            rw [et_38]
            refine mx_put G h X4.1 rfl 20 (by decide) (tb_in in_M) t_M t_M_ok n_M (tb_c k_332) rfl rfl rfl rfl rfl (Nat.le_of_ble_eq_true rfl) d_M_step_93 (fun H locs h => ?_)
            have h : mw_H n0 D cl s (mw_up w_36 (q 0) (.inr (5, [.int (nI lim), .ref (q 1), .ref (q 2), .ref (q 3), .ref (q 4), .ref (q 5), .ref (q 6), .int (nI un1), .int (nI (carA lim kd (uof (cmdN F ci)) (fl, us, sn, pw, 100)).2.2.2.1), .int (nI (carA lim kd (uof (cmdN F ci)) (fl, us, sn, pw, 100)).2.2.2.2.1), .int (nI (carA lim kd (uof (cmdN F ci)) (fl, us, sn, pw, 100)).2.2.2.2.2), .ref (q 11), .ref (q 12), .ref (q 13), .ref (q 14), .ref (q 15), .int (nI ln), .ref (q 17), .ref (q 18), .ref (q 19), .int (nI (cp + 1)), .int tn, .long tr]))) H locs := h
            obtain ⟨w_39, ew_39⟩ : ∃ xx : mw, mw_up w_36 (q 0) (.inr (5, [.int (nI lim), .ref (q 1), .ref (q 2), .ref (q 3), .ref (q 4), .ref (q 5), .ref (q 6), .int (nI un1), .int (nI (carA lim kd (uof (cmdN F ci)) (fl, us, sn, pw, 100)).2.2.2.1), .int (nI (carA lim kd (uof (cmdN F ci)) (fl, us, sn, pw, 100)).2.2.2.2.1), .int (nI (carA lim kd (uof (cmdN F ci)) (fl, us, sn, pw, 100)).2.2.2.2.2), .ref (q 11), .ref (q 12), .ref (q 13), .ref (q 14), .ref (q 15), .int (nI ln), .ref (q 17), .ref (q 18), .ref (q 19), .int (nI (cp + 1)), .int tn, .long tr])) = xx := ⟨_, rfl⟩
            rw [ew_39] at h
            have f_40 : w_39 (q 0) = some (.inr (5, [.int (nI lim), .ref (q 1), .ref (q 2), .ref (q 3), .ref (q 4), .ref (q 5), .ref (q 6), .int (nI un1), .int (nI (carA lim kd (uof (cmdN F ci)) (fl, us, sn, pw, 100)).2.2.2.1), .int (nI (carA lim kd (uof (cmdN F ci)) (fl, us, sn, pw, 100)).2.2.2.2.1), .int (nI (carA lim kd (uof (cmdN F ci)) (fl, us, sn, pw, 100)).2.2.2.2.2), .ref (q 11), .ref (q 12), .ref (q 13), .ref (q 14), .ref (q 15), .int (nI ln), .ref (q 17), .ref (q 18), .ref (q 19), .int (nI (cp + 1)), .int tn, .long tr])) := by rw [← ew_39]; exact mw_self
            have X5 : MX cA w_39 ρ q lim un1 (carA lim kd (uof (cmdN F ci)) (fl, us, sn, pw, 100)).2.2.2.1 (carA lim kd (uof (cmdN F ci)) (fl, us, sn, pw, 100)).2.2.2.2.1 (carA lim kd (uof (cmdN F ci)) (fl, us, sn, pw, 100)).2.2.2.2.2 ln (cp + 1) tn tr (va_up (va_up F1 17 (upd (F1 17) cp qu)) 18 (upd (F1 18) cp (nI ci))) (vp_updL R cp r_31) := by rw [← ew_39]; exact X4.put0 un1 (carA lim kd (uof (cmdN F ci)) (fl, us, sn, pw, 100)).2.2.2.1 (carA lim kd (uof (cmdN F ci)) (fl, us, sn, pw, 100)).2.2.2.2.1 (carA lim kd (uof (cmdN F ci)) (fl, us, sn, pw, 100)).2.2.2.2.2 ln (cp + 1) tn tr
            have hfr5 : FR w w_39 (P7 ρ) := hfr4.tr (by rw [← ew_39]; exact FQ X.2.2.2.2.2.1)
            refine lv_aload_n hx hb d_M_step_96 rfl (lv_at hl 1 rfl) ?_
            refine mx_get G h X5.1 rfl 11 (by decide) (tb_in in_M) (tb_c k_323) rfl rfl d_M_step_97 ?_
            refine lv_iload_n hx hb d_M_step_100 rfl (lv_at hl 0 rfl) ?_
            refine lv_iconst (v := (-1)) hx hb d_M_step_101 (by decide) ?_
            refine ax_si G h (X5.2.1 11 (by decide)) ci rfl (by omega) (by decide) d_M_step_102 (fun H locs h => ?_)
            have h : mw_H n0 D cl s (mw_up w_39 (q 11) (.inl (cA 0, 520, .inl (upd (F1 11) ci (-1))))) H locs := h
            obtain ⟨w_41, ew_41⟩ : ∃ xx : mw, mw_up w_39 (q 11) (.inl (cA 0, 520, .inl (upd (F1 11) ci (-1)))) = xx := ⟨_, rfl⟩
            rw [ew_41] at h
            have f_42 : w_41 (q 11) = some (.inl (cA 0, 520, .inl (upd (F1 11) ci (-1)))) := by rw [← ew_41]; exact mw_self
            have X6 : MX cA w_41 ρ q lim un1 (carA lim kd (uof (cmdN F ci)) (fl, us, sn, pw, 100)).2.2.2.1 (carA lim kd (uof (cmdN F ci)) (fl, us, sn, pw, 100)).2.2.2.2.1 (carA lim kd (uof (cmdN F ci)) (fl, us, sn, pw, 100)).2.2.2.2.2 ln (cp + 1) tn tr (dnF F1 cp ci qu) (vp_updL R cp r_31) := by rw [← ew_41]; exact X5.putI 11 (by decide) _
            have hfr6 : FR w w_41 (P7 ρ) := hfr5.tr (by rw [← ew_41]; exact FQ (X.2.2.2.2.2.2.1 11 (by decide)))
            refine lv_iload_n hx hb d_M_step_103 rfl (lv_at hl 0 rfl) ?_
            have hpk1 : (pendN F1 ln (nI j))[i]? = some ci := by rw [pendN_congr (F' := F1) (F := F) (fun c _ _ => by rw [hsf 11 (by decide)]), ← hqj]; exact hpk
            have hQ9 := (hQN.sf hsf).step hj hpk1 hlt r_31
            rw [← hqj] at hQ9
            have hG9 : LG (dnF F1 cp ci qu) un1 (carA lim kd (uof (cmdN F ci)) (fl, us, sn, pw, 100)).2.2.2.1 (carA lim kd (uof (cmdN F ci)) (fl, us, sn, pw, 100)).2.1 (carA lim kd (uof (cmdN F ci)) (fl, us, sn, pw, 100)).2.2.1 := hG1.cong (fun i hi => by rcases (show i = 0 ∨ i = 1 ∨ i = 2 ∨ i = 3 ∨ i = 4 ∨ i = 5 ∨ i = 6 by omega) with rfl | rfl | rfl | rfl | rfl | rfl | rfl <;> simp [dnF, va_up])
            have hd9 : (pq j)[i]? = some (cmdN F ci) := by rw [hQp j hj, List.getElem?_map, ← hqj, hpk]; rfl
            have hkc : (cmdN F ci).2.1.toNatClampNeg = kd := by show (F 12 ci).toNatClampNeg = kd; rw [hkk]; exact nI_c (by omega)
            have e9 : stepS lim (fl, us, sn, pw, pq, cq, ln, tn, tr) qu x = (nI ci, ((carA lim kd (uof (cmdN F ci)) (fl, us, sn, pw, 28)).2.1, (carA lim kd (uof (cmdN F ci)) (fl, us, sn, pw, 28)).2.2.1, (carA lim kd (uof (cmdN F ci)) (fl, us, sn, pw, 28)).2.2.2.1, (carA lim kd (uof (cmdN F ci)) (fl, us, sn, pw, 28)).2.2.2.2.1, va_up pq j ((pq j).eraseIdx i), va_up cq j (cq j ++ [(nI ci, (carA lim kd (uof (cmdN F ci)) (fl, us, sn, pw, 28)).1)]), ln, tn, tr)) := by simp only [stepS]; rw [if_pos e8, hqc, hxc, hd9]; simp only [hkc]; rfl
            simp only [drp, Prod.mk.injEq] at he2
            obtain ⟨g1, g2, g3, g4⟩ := he2
            rw [er, he1] at hQ9 X6
            exact mx_reti G h hrt hlocks d_M_step_104 (by rw [e9, ← g1, ← g2, ← g3, ← g4]; exact ⟨rfl, ⟨un1, cp + 1, _, _, _, ⟨X6, hG9⟩, by omega, Nat.le_succ_of_le hct, by omega, hbd1, hQ9⟩, hfr6⟩)
          · refine lv_bipush (v := -3) hx hb d_M_step_36 (by decide) ?_
            have hge : (cq j).length = 4 := (nI_eq (by omega) (by decide)).mp c_22
            have e8 : refS pq cq qu x = -3 := by rw [refS, if_pos hcond, hqc, if_pos (by omega)]
            have e9 : stepS lim (fl, us, sn, pw, pq, cq, ln, tn, tr) qu x = (-3, (fl, us, sn, pw, pq, cq, ln, tn, tr)) := by simp only [stepS]; rw [e8, if_neg (by decide)]
            exact mx_reti G h hrt hlocks d_M_step_38 (by rw [e9]; exact ⟨rfl, ⟨un, cp, bd, F, R, V, by omega, Nat.le_succ_of_le hct, by omega, hbd, hQN⟩, FR.rf⟩)
        · exact absurd c_16 (nI_ne0 (by omega) (by omega))
set_option maxHeartbeats 4000000 in
set_option maxRecDepth 100000 in
theorem m_M_take {l : Launch} {D : va_G} {cA : Nat → ClassId} {n0 : Nat} {w : mw} {ρ q : Nat → Nat} {lim t : Nat} {fl : Nat → Int64} {us : List uU} {sn pw : Nat} {pq : Nat → List pC} {cq : Nat → List (Int32 × Int64)} {ln : Nat} {tn : Int32} {tr : Int64} (Y : MR cA w ρ q lim t (fl, us, sn, pw, pq, cq, ln, tn, tr)) (ht : t + 1 ≤ 512) {qu : Int32} :
    Mi l D cA n0 y_M_take c_M_take (rmd 1) [.ref (q 0), .int qu] w (fun r w' => r = (takeS (fl, us, sn, pw, pq, cq, ln, tn, tr) qu).1 ∧ MR cA w' ρ q lim (t + 1) (takeS (fl, us, sn, pw, pq, cq, ln, tn, tr) qu).2 ∧ FR w w' (P7 ρ)) := by
  refine mw_met (cc := b_M_take) (maxL := 3) (ret := (some .int)) (by decide) rfl (Nat.le_of_ble_eq_true rfl) ?_
  intro p e s m below meth c ls G hrt hlocks hname h hl
  have G : mw_G p m c b_M_take 3 s _ (c_M_take :: TB) R_M D cl (tys cA) n0 := G
  have hx := G.1.1
  have hb := G.1.2.1
  have hl : lv_has ls 3 [(0, .ref (q 0)), (1, .int qu)] := hl
  obtain ⟨un, cp, bd, F, R, V, hut, hct, hpt, hbd, hQN⟩ := id Y
  have V : MC cA w ρ q lim un ln cp tn tr F R (fl, us, sn, pw, bd) := V
  have hct : ln ≤ t := hct
  have hQN : QN F R ln cp pq cq := hQN
  obtain ⟨X, hG⟩ := id V
  have X : MX cA w ρ q lim un sn pw bd ln cp tn tr F R := X
  have hG : LG F un sn fl us := hG
  obtain ⟨hQp, hQc, hQl, hQv⟩ := id hQN
  have hun : un ≤ 512 := by omega
  have hcm : ln ≤ 512 := by omega
  have hcp : cp ≤ 512 := by omega
  refine lv_iload_n hx hb d_M_take_0 rfl (lv_at hl 1 rfl) ?_
  refine lv_iconst (v := 3) hx hb d_M_take_1 (by decide) ?_
  refine mx_ci (cS (As := [.int qu, .int 3]) (rest := []) G h (m_M_in (x := qu) (n := 3)) k_387 k_388 k_7 k_389 rfl hd_M_in rfl rfl ⟨Nat.le_of_ble_eq_true rfl, Nat.le_of_ble_eq_true rfl⟩ rfl hl.1 rfl (Nat.le_of_ble_eq_true rfl) d_M_take_2 ⟨Nat.le_of_ble_eq_true rfl, Nat.le_of_ble_eq_true rfl⟩) h (fun r_2 w_1 H locs h hcp1 => ?_)
  obtain ⟨er_3, ew_4⟩ := hcp1
  subst er_3
  rw [ew_4] at h
  refine lv_if_ne (tgt := 10) hx hb d_M_take_5 (by decide) (fun c_5 => ?_) (fun c_5 => ?_)
  · have hi3 := bI_n c_5
    obtain ⟨j, hj, hqj⟩ := ixQ 3 rfl (by decide) hi3.1 hi3.2
    have hqc : qu.toNatClampNeg = j := by rw [hqj]; exact nI_c (by omega)
    have hplen : (pendN F ln qu).length = (pq j).length := by rw [hqj, hQp j hj, List.length_map]
    have hclen : (doneN F cp qu).length = (cq j).length := by rw [hqj, hQc j hj, List.length_map]
    have hp4 := (hQl j hj).1
    have hc4 := (hQl j hj).2
    refine lv_iconst (v := 0) hx hb d_M_take_10 (by decide) ?_
    refine lv_istore_n (lv' := [(2, .int 0), (0, .ref (q 0)), (1, .int qu)]) hx hb d_M_take_11 rfl hl (by decide) rfl (fun ls hl => ?_)
    have loop : ∀ (t9 k : Nat), k + t9 = cp → doneN F k qu = [] → ∀ (H : Heap) (locs : List Loc) (ls : Array Slot), mw_H n0 D cl s w H locs → lv_has ls 3 [(2, .int (nI k)), (0, .ref (q 0)), (1, .int qu)] → W p l e (rmd 1) s m ([.ref (q 0), .int qu] : List Value).toArray below meth c H locs 0 0 (MQ below (mw_Qi n0 D cl (fun r w' => r = (takeS (fl, us, sn, pw, pq, cq, ln, tn, tr) qu).1 ∧ MR cA w' ρ q lim (t + 1) (takeS (fl, us, sn, pw, pq, cq, ln, tn, tr) qu).2 ∧ FR w w' (P7 ρ))) ([.ref (q 0), .int qu] : List Value).toArray s 0 0 (mw_A n0)) (F0 m 12 ls []) := by
      intro t9
      induction t9 with
      | zero =>
        intro k hk hdn H locs ls h hl
        have hk : k = cp := hk
        refine lv_iload_n hx hb d_M_take_12 rfl (lv_at hl 0 rfl) ?_
        refine lv_aload_n hx hb d_M_take_13 rfl (lv_at hl 1 rfl) ?_
        refine mx_get G h X.1 rfl 20 (by decide) (tb_in in_M) (tb_c k_332) rfl rfl d_M_take_14 ?_
        refine lv_icmp_ge (tgt := 68) hx hb d_M_take_17 (by decide) (fun c_6 => ?_) (fun c_6 => ?_)
        · refine lv_iconst (v := (-1)) hx hb d_M_take_68 (by decide) ?_
          have hcs : cq j = [] := by rw [hQc j hj, ← hqj, ← hk, hdn]; rfl
          have e9 : takeS (fl, us, sn, pw, pq, cq, ln, tn, tr) qu = (-1, (fl, us, sn, pw, pq, cq, ln, tn, tr)) := by simp only [takeS]; rw [if_pos hi3, hqc, hcs]
          exact mx_reti G h hrt hlocks d_M_take_69 (by rw [e9]; exact ⟨rfl, ⟨un, cp, bd, F, R, V, by omega, Nat.le_succ_of_le hct, by omega, hbd, hQN⟩, FR.rf⟩)
        · exact absurd (by rw [hk]; exact Int32.le_refl _) c_6
      | succ t9 ih =>
        intro k hk hdn H locs ls h hl
        refine lv_iload_n hx hb d_M_take_12 rfl (lv_at hl 0 rfl) ?_
        refine lv_aload_n hx hb d_M_take_13 rfl (lv_at hl 1 rfl) ?_
        refine mx_get G h X.1 rfl 20 (by decide) (tb_in in_M) (tb_c k_332) rfl rfl d_M_take_14 ?_
        refine lv_icmp_ge (tgt := 68) hx hb d_M_take_17 (by decide) (fun c_7 => ?_) (fun c_7 => ?_)
        · exact absurd ((nI_leI (by omega) (by omega)).mp c_7) (by omega)
        · refine lv_aload_n hx hb d_M_take_20 rfl (lv_at hl 1 rfl) ?_
          refine mx_get G h X.1 rfl 17 (by decide) (tb_in in_M) (tb_c k_329) rfl rfl d_M_take_21 ?_
          refine lv_iload_n hx hb d_M_take_24 rfl (lv_at hl 0 rfl) ?_
          refine ax_i G h (X.2.1 17 (by decide)) k rfl (by omega) (by decide) d_M_take_25 ?_
          refine lv_iload_n hx hb d_M_take_26 rfl (lv_at hl 2 rfl) ?_
          refine lv_icmp_ne (tgt := 62) hx hb d_M_take_27 (by decide) (fun c_8 => ?_) (fun c_8 => ?_)
          · refine lv_iinc (v := (nI k) + 1) (lv' := [(2, .int ((nI k) + 1)), (0, .ref (q 0)), (1, .int qu)]) hx hb d_M_take_62 hl (k := 0) rfl rfl (by decide) rfl (fun ls hl => ?_)
            refine lv_goto (tgt := 12) hx hb d_M_take_65 (by decide) ?_
            rw [nI_1] at hl
            exact ih (k + 1) (by omega) (by rw [doneN_s, if_neg c_8]; exact hdn) H locs ls h (lv_sub hl [0, 1, 2] rfl)
          · obtain ⟨rr, hrr⟩ := doneN_pre F (k + 1) qu t9
            have hdl : doneN F cp (nI j) = k :: rr := by rw [← hqj, show cp = k + 1 + t9 by omega, hrr, doneN_s, if_pos c_8, hdn]; rfl
            have hcs : cq j = (F 18 k, R k) :: rr.map (fun i => (F 18 i, R i)) := by rw [hQc j hj, hdl]; rfl
            refine lv_aload_n hx hb d_M_take_30 rfl (lv_at hl 1 rfl) ?_
            refine mx_get G h X.1 rfl 17 (by decide) (tb_in in_M) (tb_c k_329) rfl rfl d_M_take_31 ?_
            refine lv_iload_n hx hb d_M_take_34 rfl (lv_at hl 0 rfl) ?_
            refine lv_iconst (v := (-1)) hx hb d_M_take_35 (by decide) ?_
            refine ax_si G h (X.2.1 17 (by decide)) k rfl (by omega) (by decide) d_M_take_36 (fun H locs h => ?_)
            have h : mw_H n0 D cl s (mw_up w (q 17) (.inl (cA 0, 520, .inl (upd (F 17) k (-1))))) H locs := h
            obtain ⟨w_9, ew_9⟩ : ∃ xx : mw, mw_up w (q 17) (.inl (cA 0, 520, .inl (upd (F 17) k (-1)))) = xx := ⟨_, rfl⟩
            rw [ew_9] at h
            have f_10 : w_9 (q 17) = some (.inl (cA 0, 520, .inl (upd (F 17) k (-1)))) := by rw [← ew_9]; exact mw_self
            have X1 : MX cA w_9 ρ q lim un sn pw bd ln cp tn tr (va_up F 17 (upd (F 17) k (-1))) R := by rw [← ew_9]; exact X.putI 17 (by decide) _
            have hfr1 : FR w w_9 (P7 ρ) := by rw [← ew_9]; exact FQ (X.2.2.2.2.2.2.1 17 (by decide))
            refine lv_aload_n hx hb d_M_take_37 rfl (lv_at hl 1 rfl) ?_
            refine lv_aload_n hx hb d_M_take_38 rfl (lv_at hl 1 rfl) ?_
            refine mx_get G h X1.1 rfl 18 (by decide) (tb_in in_M) (tb_c k_330) rfl rfl d_M_take_39 ?_
            refine lv_iload_n hx hb d_M_take_42 rfl (lv_at hl 0 rfl) ?_
            refine ax_i G h (X1.2.1 18 (by decide)) k rfl (by omega) (by decide) d_M_take_43 ?_
            refine mx_put G h X1.1 rfl 21 (by decide) (tb_in in_M) t_M t_M_ok n_M (tb_c k_333) rfl rfl rfl rfl rfl (Nat.le_of_ble_eq_true rfl) d_M_take_44 (fun H locs h => ?_)
            have h : mw_H n0 D cl s (mw_up w_9 (q 0) (.inr (5, [.int (nI lim), .ref (q 1), .ref (q 2), .ref (q 3), .ref (q 4), .ref (q 5), .ref (q 6), .int (nI un), .int (nI sn), .int (nI pw), .int (nI bd), .ref (q 11), .ref (q 12), .ref (q 13), .ref (q 14), .ref (q 15), .int (nI ln), .ref (q 17), .ref (q 18), .ref (q 19), .int (nI cp), .int ((F 18) k), .long tr]))) H locs := h
            obtain ⟨w_11, ew_11⟩ : ∃ xx : mw, mw_up w_9 (q 0) (.inr (5, [.int (nI lim), .ref (q 1), .ref (q 2), .ref (q 3), .ref (q 4), .ref (q 5), .ref (q 6), .int (nI un), .int (nI sn), .int (nI pw), .int (nI bd), .ref (q 11), .ref (q 12), .ref (q 13), .ref (q 14), .ref (q 15), .int (nI ln), .ref (q 17), .ref (q 18), .ref (q 19), .int (nI cp), .int ((F 18) k), .long tr])) = xx := ⟨_, rfl⟩
            rw [ew_11] at h
            have f_12 : w_11 (q 0) = some (.inr (5, [.int (nI lim), .ref (q 1), .ref (q 2), .ref (q 3), .ref (q 4), .ref (q 5), .ref (q 6), .int (nI un), .int (nI sn), .int (nI pw), .int (nI bd), .ref (q 11), .ref (q 12), .ref (q 13), .ref (q 14), .ref (q 15), .int (nI ln), .ref (q 17), .ref (q 18), .ref (q 19), .int (nI cp), .int ((F 18) k), .long tr])) := by rw [← ew_11]; exact mw_self
            have X2 : MX cA w_11 ρ q lim un sn pw bd ln cp (F 18 k) tr (va_up F 17 (upd (F 17) k (-1))) R := by rw [← ew_11]; exact X1.put0 un sn pw bd ln cp (F 18 k) tr
            have hfr2 : FR w w_11 (P7 ρ) := hfr1.tr (by rw [← ew_11]; exact FQ X.2.2.2.2.2.1)
            refine lv_aload_n hx hb d_M_take_47 rfl (lv_at hl 1 rfl) ?_
            refine lv_aload_n hx hb d_M_take_48 rfl (lv_at hl 1 rfl) ?_
            refine mx_get G h X2.1 rfl 19 (by decide) (tb_in in_M) (tb_c k_331) rfl rfl d_M_take_49 ?_
            refine lv_iload_n hx hb d_M_take_52 rfl (lv_at hl 0 rfl) ?_
            refine ax_l G h X2.2.2.2.1 k rfl (by omega) (by decide) d_M_take_53 ?_
            refine mx_put G h X2.1 rfl 22 (by decide) (tb_in in_M) t_M t_M_ok n_M (tb_c k_334) rfl rfl rfl rfl rfl (Nat.le_of_ble_eq_true rfl) d_M_take_54 (fun H locs h => ?_)
            have h : mw_H n0 D cl s (mw_up w_11 (q 0) (.inr (5, [.int (nI lim), .ref (q 1), .ref (q 2), .ref (q 3), .ref (q 4), .ref (q 5), .ref (q 6), .int (nI un), .int (nI sn), .int (nI pw), .int (nI bd), .ref (q 11), .ref (q 12), .ref (q 13), .ref (q 14), .ref (q 15), .int (nI ln), .ref (q 17), .ref (q 18), .ref (q 19), .int (nI cp), .int (F 18 k), .long (R k)]))) H locs := h
            obtain ⟨w_13, ew_13⟩ : ∃ xx : mw, mw_up w_11 (q 0) (.inr (5, [.int (nI lim), .ref (q 1), .ref (q 2), .ref (q 3), .ref (q 4), .ref (q 5), .ref (q 6), .int (nI un), .int (nI sn), .int (nI pw), .int (nI bd), .ref (q 11), .ref (q 12), .ref (q 13), .ref (q 14), .ref (q 15), .int (nI ln), .ref (q 17), .ref (q 18), .ref (q 19), .int (nI cp), .int (F 18 k), .long (R k)])) = xx := ⟨_, rfl⟩
            rw [ew_13] at h
            have f_14 : w_13 (q 0) = some (.inr (5, [.int (nI lim), .ref (q 1), .ref (q 2), .ref (q 3), .ref (q 4), .ref (q 5), .ref (q 6), .int (nI un), .int (nI sn), .int (nI pw), .int (nI bd), .ref (q 11), .ref (q 12), .ref (q 13), .ref (q 14), .ref (q 15), .int (nI ln), .ref (q 17), .ref (q 18), .ref (q 19), .int (nI cp), .int (F 18 k), .long (R k)])) := by rw [← ew_13]; exact mw_self
            have X3 : MX cA w_13 ρ q lim un sn pw bd ln cp (F 18 k) (R k) (va_up F 17 (upd (F 17) k (-1))) R := by rw [← ew_13]; exact X2.put0 un sn pw bd ln cp (F 18 k) (R k)
            have hfr3 : FR w w_13 (P7 ρ) := hfr2.tr (by rw [← ew_13]; exact FQ X.2.2.2.2.2.1)
            refine lv_aload_n hx hb d_M_take_57 rfl (lv_at hl 1 rfl) ?_
            refine mx_get G h X3.1 rfl 21 (by decide) (tb_in in_M) (tb_c k_333) rfl rfl d_M_take_58 ?_
            have hG9 : LG (va_up F 17 (upd (F 17) k (-1))) un sn fl us := hG.cong (fun i hi => by rcases (show i = 0 ∨ i = 1 ∨ i = 2 ∨ i = 3 ∨ i = 4 ∨ i = 5 ∨ i = 6 by omega) with rfl | rfl | rfl | rfl | rfl | rfl | rfl <;> simp [va_up])
            have e9 : takeS (fl, us, sn, pw, pq, cq, ln, tn, tr) qu = (F 18 k, (fl, us, sn, pw, pq, va_up cq j (rr.map (fun i => (F 18 i, R i))), ln, F 18 k, R k)) := by simp only [takeS]; rw [if_pos hi3, hqc, hcs]
            exact mx_reti G h hrt hlocks d_M_take_61 (by rw [e9]; exact ⟨rfl, ⟨un, cp, bd, _, R, ⟨X3, hG9⟩, by omega, Nat.le_succ_of_le hct, by omega, hbd, hQN.take hj hdl⟩, hfr3⟩)
    exact loop cp 0 (by omega) rfl _ _ ls h (lv_sub hl [0, 1, 2] rfl)
  · refine lv_iconst (v := (-1)) hx hb d_M_take_8 (by decide) ?_
    have e9 : takeS (fl, us, sn, pw, pq, cq, ln, tn, tr) qu = (-1, (fl, us, sn, pw, pq, cq, ln, tn, tr)) := by simp only [takeS]; rw [if_neg (bI_0 c_5)]
    exact mx_reti G h hrt hlocks d_M_take_9 (by rw [e9]; exact ⟨rfl, ⟨un, cp, bd, F, R, V, by omega, Nat.le_succ_of_le hct, by omega, hbd, hQN⟩, FR.rf⟩)
end
section
def fil (x : Int32) (f : Nat → Int32) (lo hi : Nat) : Nat → Int32 := fun i => if lo ≤ i ∧ i < hi then x else f i
theorem fil_0 {x : Int32} {f : Nat → Int32} {lo : Nat} : fil x f lo lo = f := by
  funext i
  simp only [fil]
  rw [if_neg (by omega)]
theorem fil_s {x : Int32} {f : Nat → Int32} {lo k : Nat} (h : lo ≤ k) : upd (fil x f lo k) k x = fil x f lo (k + 1) := by
  funext i
  simp only [upd, fil]
  by_cases e : i = k
  · subst e; rw [if_pos rfl, if_pos (by omega)]
  · rw [if_neg e]
    by_cases c : lo ≤ i ∧ i < k
    · rw [if_pos c, if_pos (by omega)]
    · rw [if_neg c, if_neg (by omega)]
theorem va_id {α : Type} {f : Nat → α} {k : Nat} {x : α} (h : f k = x) : va_up f k x = f := by
  funext i
  by_cases e : i = k
  · subst e; simp [va_up, h]
  · simp [va_up, e]
theorem va_uu {α : Type} (f : Nat → α) (k : Nat) (v w : α) : va_up (va_up f k v) k w = va_up f k w := by
  funext i
  by_cases e : i = k <;> simp [va_up, e]
theorem QN.clr {F F' : Nat → Nat → Int32} {R : Nat → Int64} {cm cp : Nat} {pq : Nat → List pC} {cq : Nat → List (Int32 × Int64)} (h : QN F R cm cp pq cq) (h11 : ∀ c, 1 ≤ c → c ≤ cm → F' 11 c = -1) (h17 : ∀ i, i < cp → F' 17 i = -1) (hc : ∀ c, cmdN F' c = cmdN F c) : QN F' R cm cp (fun _ => []) (fun _ => []) := by
  obtain ⟨h1, h2, h3, h4⟩ := h
  refine ⟨fun j hj => ?_, fun j hj => ?_, fun j hj => ⟨Nat.zero_le _, Nat.zero_le _⟩, fun c a b => by rw [hc]; exact h4 c a b⟩
  · have : pendN F' cm (nI j) = [] := by
      rw [List.eq_nil_iff_forall_not_mem]
      intro c hc
      have := pendN_mem.mp hc
      rw [h11 c this.1.1 this.1.2] at this
      exact m1ne j hj this.2
    rw [this]; rfl
  · have : doneN F' cp (nI j) = [] := by
      rw [List.eq_nil_iff_forall_not_mem]
      intro i hi
      have := doneN_mem.mp hi
      rw [h17 i this.1] at this
      exact m1ne j hj this.2
    rw [this]; rfl
theorem LG.clr {F : Nat → Nat → Int32} {un sn : Nat} {fl : Nat → Int64} {us : List uU} (h : LG F un sn fl us) : LG (va_up F 6 (fil 0 (F 6) 0 un)) un sn fl [] := by
  obtain ⟨h1, h2, h3, h4, h5, h6, h7⟩ := h
  have e6 : ∀ v, va_up F 6 (fil 0 (F 6) 0 un) 6 v = 0 := by
    intro v
    simp only [va_up, if_true, fil]
    by_cases c : 0 ≤ v ∧ v < un
    · rw [if_pos c]
    · rw [if_neg c]; exact h5 v (by omega)
  have eu : ∀ v, uN (va_up F 6 (fil 0 (F 6) 0 un)) v = uN F v := fun v => by simp [uN, va_up]
  have e5 : va_up F 6 (fil 0 (F 6) 0 un) 5 = F 5 := by simp [va_up]
  have hl : liveN (va_up F 6 (fil 0 (F 6) 0 un)) un = [] := by
    rw [List.eq_nil_iff_forall_not_mem]
    intro u hu
    exact (liveN_mem.mp hu).2 (e6 u)
  refine ⟨by rw [hl]; rfl, fun a ha => ?_, fun v hv => by rw [eu]; exact h3 v hv, fun v hv => by rw [e5]; exact h4 v hv, fun v _ => e6 v, by rw [hl]; simp; omega, h7⟩
  rw [h2 a ha, inFl, inFl, bestN_congr (F' := va_up F 6 (fil 0 (F 6) 0 un)) (F := F) (fun v _ => ⟨by rw [e5], eu v⟩)]
  cases bestN F (nI a) un with
  | none => rfl
  | some b => show wrd (uN F b) (nI a) = wrd (uN (va_up F 6 (fil 0 (F 6) 0 un)) b) (nI a); rw [eu]
theorem MR.mono {cA : Nat → ClassId} {w : mw} {ρ q : Nat → Nat} {lim t t' : Nat} {g : gS} (h : MR cA w ρ q lim t g) (ht : t ≤ t') : MR cA w ρ q lim t' g := by
  obtain ⟨un, cp, bd, F, R, V, a, b, c, d⟩ := h
  exact ⟨un, cp, bd, F, R, V, Nat.le_trans a ht, Nat.le_trans b ht, Nat.le_trans c ht, d⟩
theorem pdur_1 {L : Nat} {fl : Nat → Int64} {us : List uU} {sn pw : Nat} {pq : Nat → List pC} {cq : Nat → List (Int32 × Int64)} {ln : Nat} {tn : Int32} {tr : Int64} {q x y : Int32} (h : refS pq cq q x = -1) : pdurS L (fl, us, sn, pw, pq, cq, ln, tn, tr) q x y = (-1, (fl, us, sn, pw, pq, cq, ln, tn, tr)) := by
  simp only [pdurS]
  rw [h]
  split
  · rw [if_neg (by decide)]
  · rfl
theorem unit_x {g : gS} {y x : Int32} (h0 : ¬ x = 0) (h1 : ¬ x = 1) (h2 : ¬ x = 2) : unitS g y x = -1 := by
  rw [unitS]
  split
  · split <;> first | rfl | (rw [if_neg h0, if_neg h1, if_neg h2])
  · rfl
theorem d_M_result_0 : decode b_M_result 0 = .ok (.aload_n 0, 1) := by decide +kernel
theorem d_M_result_1 : decode b_M_result 1 = .ok (.getfield 56, 3) := by decide +kernel
theorem d_M_result_4 : decode b_M_result 4 = .ok (.lreturn, 1) := by decide +kernel
theorem d_M_reset_0 : decode b_M_reset 0 = .ok (.iconst 0, 1) := by decide +kernel
theorem d_M_reset_1 : decode b_M_reset 1 = .ok (.istore_n 1, 1) := by decide +kernel
theorem d_M_reset_2 : decode b_M_reset 2 = .ok (.iconst 0, 1) := by decide +kernel
theorem d_M_reset_3 : decode b_M_reset 3 = .ok (.istore_n 2, 1) := by decide +kernel
theorem d_M_reset_4 : decode b_M_reset 4 = .ok (.iload_n 2, 1) := by decide +kernel
theorem d_M_reset_5 : decode b_M_reset 5 = .ok (.iconst 3, 1) := by decide +kernel
theorem d_M_reset_6 : decode b_M_reset 6 = .ok (.if_icmp .ge 17, 3) := by decide +kernel
theorem d_M_reset_9 : decode b_M_reset 9 = .ok (.iload_n 1, 1) := by decide +kernel
theorem d_M_reset_10 : decode b_M_reset 10 = .ok (.aload_n 0, 1) := by decide +kernel
theorem d_M_reset_11 : decode b_M_reset 11 = .ok (.iload_n 2, 1) := by decide +kernel
theorem d_M_reset_12 : decode b_M_reset 12 = .ok (.invokevirtual 125, 3) := by decide +kernel
theorem d_M_reset_15 : decode b_M_reset 15 = .ok (.iadd, 1) := by decide +kernel
theorem d_M_reset_16 : decode b_M_reset 16 = .ok (.istore_n 1, 1) := by decide +kernel
theorem d_M_reset_17 : decode b_M_reset 17 = .ok (.iinc 2 1, 3) := by decide +kernel
theorem d_M_reset_20 : decode b_M_reset 20 = .ok (.goto (-16), 3) := by decide +kernel
theorem d_M_reset_23 : decode b_M_reset 23 = .ok (.iconst 1, 1) := by decide +kernel
theorem d_M_reset_24 : decode b_M_reset 24 = .ok (.istore_n 2, 1) := by decide +kernel
theorem d_M_reset_25 : decode b_M_reset 25 = .ok (.iload_n 2, 1) := by decide +kernel
theorem d_M_reset_26 : decode b_M_reset 26 = .ok (.aload_n 0, 1) := by decide +kernel
theorem d_M_reset_27 : decode b_M_reset 27 = .ok (.getfield 116, 3) := by decide +kernel
theorem d_M_reset_30 : decode b_M_reset 30 = .ok (.if_icmp .gt 16, 3) := by decide +kernel
theorem d_M_reset_33 : decode b_M_reset 33 = .ok (.aload_n 0, 1) := by decide +kernel
theorem d_M_reset_34 : decode b_M_reset 34 = .ok (.getfield 29, 3) := by decide +kernel
theorem d_M_reset_37 : decode b_M_reset 37 = .ok (.iload_n 2, 1) := by decide +kernel
theorem d_M_reset_38 : decode b_M_reset 38 = .ok (.iconst (-1), 1) := by decide +kernel
theorem d_M_reset_39 : decode b_M_reset 39 = .ok (.iastore, 1) := by decide +kernel
theorem d_M_reset_40 : decode b_M_reset 40 = .ok (.iinc 2 1, 3) := by decide +kernel
theorem d_M_reset_43 : decode b_M_reset 43 = .ok (.goto (-18), 3) := by decide +kernel
theorem d_M_reset_46 : decode b_M_reset 46 = .ok (.iconst 0, 1) := by decide +kernel
theorem d_M_reset_47 : decode b_M_reset 47 = .ok (.istore_n 2, 1) := by decide +kernel
theorem d_M_reset_48 : decode b_M_reset 48 = .ok (.iload_n 2, 1) := by decide +kernel
theorem d_M_reset_49 : decode b_M_reset 49 = .ok (.aload_n 0, 1) := by decide +kernel
theorem d_M_reset_50 : decode b_M_reset 50 = .ok (.getfield 119, 3) := by decide +kernel
theorem d_M_reset_53 : decode b_M_reset 53 = .ok (.if_icmp .ge 16, 3) := by decide +kernel
theorem d_M_reset_56 : decode b_M_reset 56 = .ok (.aload_n 0, 1) := by decide +kernel
theorem d_M_reset_57 : decode b_M_reset 57 = .ok (.getfield 44, 3) := by decide +kernel
theorem d_M_reset_60 : decode b_M_reset 60 = .ok (.iload_n 2, 1) := by decide +kernel
theorem d_M_reset_61 : decode b_M_reset 61 = .ok (.iconst (-1), 1) := by decide +kernel
theorem d_M_reset_62 : decode b_M_reset 62 = .ok (.iastore, 1) := by decide +kernel
theorem d_M_reset_63 : decode b_M_reset 63 = .ok (.iinc 2 1, 3) := by decide +kernel
theorem d_M_reset_66 : decode b_M_reset 66 = .ok (.goto (-18), 3) := by decide +kernel
theorem d_M_reset_69 : decode b_M_reset 69 = .ok (.iload_n 1, 1) := by decide +kernel
theorem d_M_reset_70 : decode b_M_reset 70 = .ok (.ireturn, 1) := by decide +kernel
theorem d_M_power_0 : decode b_M_power 0 = .ok (.aload_n 0, 1) := by decide +kernel
theorem d_M_power_1 : decode b_M_power 1 = .ok (.invokevirtual 92, 3) := by decide +kernel
theorem d_M_power_4 : decode b_M_power 4 = .ok (.istore_n 1, 1) := by decide +kernel
theorem d_M_power_5 : decode b_M_power 5 = .ok (.iconst 0, 1) := by decide +kernel
theorem d_M_power_6 : decode b_M_power 6 = .ok (.istore_n 2, 1) := by decide +kernel
theorem d_M_power_7 : decode b_M_power 7 = .ok (.iload_n 2, 1) := by decide +kernel
theorem d_M_power_8 : decode b_M_power 8 = .ok (.aload_n 0, 1) := by decide +kernel
theorem d_M_power_9 : decode b_M_power 9 = .ok (.getfield 64, 3) := by decide +kernel
theorem d_M_power_12 : decode b_M_power 12 = .ok (.if_icmp .ge 16, 3) := by decide +kernel
theorem d_M_power_15 : decode b_M_power 15 = .ok (.aload_n 0, 1) := by decide +kernel
theorem d_M_power_16 : decode b_M_power 16 = .ok (.getfield 26, 3) := by decide +kernel
theorem d_M_power_19 : decode b_M_power 19 = .ok (.iload_n 2, 1) := by decide +kernel
theorem d_M_power_20 : decode b_M_power 20 = .ok (.iconst 0, 1) := by decide +kernel
theorem d_M_power_21 : decode b_M_power 21 = .ok (.bastore, 1) := by decide +kernel
theorem d_M_power_22 : decode b_M_power 22 = .ok (.iinc 2 1, 3) := by decide +kernel
theorem d_M_power_25 : decode b_M_power 25 = .ok (.goto (-18), 3) := by decide +kernel
theorem d_M_power_28 : decode b_M_power 28 = .ok (.aload_n 0, 1) := by decide +kernel
theorem d_M_power_29 : decode b_M_power 29 = .ok (.invokevirtual 141, 3) := by decide +kernel
theorem d_M_power_32 : decode b_M_power 32 = .ok (.istore_n 2, 1) := by decide +kernel
theorem d_M_power_33 : decode b_M_power 33 = .ok (.iload_n 1, 1) := by decide +kernel
theorem d_M_power_34 : decode b_M_power 34 = .ok (.ireturn, 1) := by decide +kernel
theorem d_M_powerDuring_0 : decode b_M_powerDuring 0 = .ok (.iload_n 1, 1) := by decide +kernel
theorem d_M_powerDuring_1 : decode b_M_powerDuring 1 = .ok (.iconst 3, 1) := by decide +kernel
theorem d_M_powerDuring_2 : decode b_M_powerDuring 2 = .ok (.invokestatic 122, 3) := by decide +kernel
theorem d_M_powerDuring_5 : decode b_M_powerDuring 5 = .ok (.ifCond .eq 29, 3) := by decide +kernel
theorem d_M_powerDuring_8 : decode b_M_powerDuring 8 = .ok (.iload_n 2, 1) := by decide +kernel
theorem d_M_powerDuring_9 : decode b_M_powerDuring 9 = .ok (.iconst 4, 1) := by decide +kernel
theorem d_M_powerDuring_10 : decode b_M_powerDuring 10 = .ok (.invokestatic 122, 3) := by decide +kernel
theorem d_M_powerDuring_13 : decode b_M_powerDuring 13 = .ok (.ifCond .eq 21, 3) := by decide +kernel
theorem d_M_powerDuring_16 : decode b_M_powerDuring 16 = .ok (.iload_n 3, 1) := by decide +kernel
theorem d_M_powerDuring_17 : decode b_M_powerDuring 17 = .ok (.bipush 31, 2) := by decide +kernel
theorem d_M_powerDuring_19 : decode b_M_powerDuring 19 = .ok (.invokestatic 122, 3) := by decide +kernel
theorem d_M_powerDuring_22 : decode b_M_powerDuring 22 = .ok (.ifCond .eq 12, 3) := by decide +kernel
theorem d_M_powerDuring_25 : decode b_M_powerDuring 25 = .ok (.aload_n 0, 1) := by decide +kernel
theorem d_M_powerDuring_26 : decode b_M_powerDuring 26 = .ok (.iload_n 1, 1) := by decide +kernel
theorem d_M_powerDuring_27 : decode b_M_powerDuring 27 = .ok (.iload_n 2, 1) := by decide +kernel
theorem d_M_powerDuring_28 : decode b_M_powerDuring 28 = .ok (.invokevirtual 128, 3) := by decide +kernel
theorem d_M_powerDuring_31 : decode b_M_powerDuring 31 = .ok (.ifCond .ne 5, 3) := by decide +kernel
theorem d_M_powerDuring_34 : decode b_M_powerDuring 34 = .ok (.iconst (-1), 1) := by decide +kernel
theorem d_M_powerDuring_35 : decode b_M_powerDuring 35 = .ok (.ireturn, 1) := by decide +kernel
theorem d_M_powerDuring_36 : decode b_M_powerDuring 36 = .ok (.aload_n 0, 1) := by decide +kernel
theorem d_M_powerDuring_37 : decode b_M_powerDuring 37 = .ok (.iload_n 1, 1) := by decide +kernel
theorem d_M_powerDuring_38 : decode b_M_powerDuring 38 = .ok (.invokevirtual 132, 3) := by decide +kernel
theorem d_M_powerDuring_41 : decode b_M_powerDuring 41 = .ok (.iconst 4, 1) := by decide +kernel
theorem d_M_powerDuring_42 : decode b_M_powerDuring 42 = .ok (.if_icmp .ne 6, 3) := by decide +kernel
theorem d_M_powerDuring_45 : decode b_M_powerDuring 45 = .ok (.bipush (-3), 2) := by decide +kernel
theorem d_M_powerDuring_47 : decode b_M_powerDuring 47 = .ok (.ireturn, 1) := by decide +kernel
theorem d_M_powerDuring_48 : decode b_M_powerDuring 48 = .ok (.aload_n 0, 1) := by decide +kernel
theorem d_M_powerDuring_49 : decode b_M_powerDuring 49 = .ok (.getfield 82, 3) := by decide +kernel
theorem d_M_powerDuring_52 : decode b_M_powerDuring 52 = .ok (.istore 4, 2) := by decide +kernel
theorem d_M_powerDuring_54 : decode b_M_powerDuring 54 = .ok (.aload_n 0, 1) := by decide +kernel
theorem d_M_powerDuring_55 : decode b_M_powerDuring 55 = .ok (.iload_n 3, 1) := by decide +kernel
theorem d_M_powerDuring_56 : decode b_M_powerDuring 56 = .ok (.putfield 79, 3) := by decide +kernel
theorem d_M_powerDuring_59 : decode b_M_powerDuring 59 = .ok (.aload_n 0, 1) := by decide +kernel
theorem d_M_powerDuring_60 : decode b_M_powerDuring 60 = .ok (.aload_n 0, 1) := by decide +kernel
theorem d_M_powerDuring_61 : decode b_M_powerDuring 61 = .ok (.iload_n 1, 1) := by decide +kernel
theorem d_M_powerDuring_62 : decode b_M_powerDuring 62 = .ok (.iload_n 2, 1) := by decide +kernel
theorem d_M_powerDuring_63 : decode b_M_powerDuring 63 = .ok (.invokevirtual 128, 3) := by decide +kernel
theorem d_M_powerDuring_66 : decode b_M_powerDuring 66 = .ok (.invokevirtual 135, 3) := by decide +kernel
theorem d_M_powerDuring_69 : decode b_M_powerDuring 69 = .ok (.lstore 5, 2) := by decide +kernel
theorem d_M_powerDuring_71 : decode b_M_powerDuring 71 = .ok (.aload_n 0, 1) := by decide +kernel
theorem d_M_powerDuring_72 : decode b_M_powerDuring 72 = .ok (.invokevirtual 144, 3) := by decide +kernel
theorem d_M_powerDuring_75 : decode b_M_powerDuring 75 = .ok (.istore 7, 2) := by decide +kernel
theorem d_M_powerDuring_77 : decode b_M_powerDuring 77 = .ok (.aload_n 0, 1) := by decide +kernel
theorem d_M_powerDuring_78 : decode b_M_powerDuring 78 = .ok (.getfield 82, 3) := by decide +kernel
theorem d_M_powerDuring_81 : decode b_M_powerDuring 81 = .ok (.iload 4, 2) := by decide +kernel
theorem d_M_powerDuring_83 : decode b_M_powerDuring 83 = .ok (.isub, 1) := by decide +kernel
theorem d_M_powerDuring_84 : decode b_M_powerDuring 84 = .ok (.ireturn, 1) := by decide +kernel
theorem d_M_word_0 : decode b_M_word 0 = .ok (.iload_n 1, 1) := by decide +kernel
theorem d_M_word_1 : decode b_M_word 1 = .ok (.bipush 24, 2) := by decide +kernel
theorem d_M_word_3 : decode b_M_word 3 = .ok (.invokestatic 122, 3) := by decide +kernel
theorem d_M_word_6 : decode b_M_word 6 = .ok (.ifCond .eq 11, 3) := by decide +kernel
theorem d_M_word_9 : decode b_M_word 9 = .ok (.aload_n 0, 1) := by decide +kernel
theorem d_M_word_10 : decode b_M_word 10 = .ok (.iload_n 1, 1) := by decide +kernel
theorem d_M_word_11 : decode b_M_word 11 = .ok (.invokevirtual 100, 3) := by decide +kernel
theorem d_M_word_14 : decode b_M_word 14 = .ok (.goto 6, 3) := by decide +kernel
theorem d_M_word_17 : decode b_M_word 17 = .ok (.ldc2_w 54, 3) := by decide +kernel
theorem d_M_word_20 : decode b_M_word 20 = .ok (.lreturn, 1) := by decide +kernel
theorem d_M_flash_0 : decode b_M_flash 0 = .ok (.iload_n 1, 1) := by decide +kernel
theorem d_M_flash_1 : decode b_M_flash 1 = .ok (.bipush 24, 2) := by decide +kernel
theorem d_M_flash_3 : decode b_M_flash 3 = .ok (.invokestatic 122, 3) := by decide +kernel
theorem d_M_flash_6 : decode b_M_flash 6 = .ok (.ifCond .eq 11, 3) := by decide +kernel
theorem d_M_flash_9 : decode b_M_flash 9 = .ok (.aload_n 0, 1) := by decide +kernel
theorem d_M_flash_10 : decode b_M_flash 10 = .ok (.iload_n 1, 1) := by decide +kernel
theorem d_M_flash_11 : decode b_M_flash 11 = .ok (.invokevirtual 75, 3) := by decide +kernel
theorem d_M_flash_14 : decode b_M_flash 14 = .ok (.goto 6, 3) := by decide +kernel
theorem d_M_flash_17 : decode b_M_flash 17 = .ok (.ldc2_w 54, 3) := by decide +kernel
theorem d_M_flash_20 : decode b_M_flash 20 = .ok (.lreturn, 1) := by decide +kernel
theorem d_M_queue_0 : decode b_M_queue 0 = .ok (.iload_n 1, 1) := by decide +kernel
theorem d_M_queue_1 : decode b_M_queue 1 = .ok (.iconst 3, 1) := by decide +kernel
theorem d_M_queue_2 : decode b_M_queue 2 = .ok (.invokestatic 122, 3) := by decide +kernel
theorem d_M_queue_5 : decode b_M_queue 5 = .ok (.ifCond .eq 12, 3) := by decide +kernel
theorem d_M_queue_8 : decode b_M_queue 8 = .ok (.iload_n 2, 1) := by decide +kernel
theorem d_M_queue_9 : decode b_M_queue 9 = .ok (.bipush 6, 2) := by decide +kernel
theorem d_M_queue_11 : decode b_M_queue 11 = .ok (.invokestatic 122, 3) := by decide +kernel
theorem d_M_queue_14 : decode b_M_queue 14 = .ok (.ifCond .ne 5, 3) := by decide +kernel
theorem d_M_queue_17 : decode b_M_queue 17 = .ok (.iconst (-1), 1) := by decide +kernel
theorem d_M_queue_18 : decode b_M_queue 18 = .ok (.ireturn, 1) := by decide +kernel
theorem d_M_queue_19 : decode b_M_queue 19 = .ok (.iload_n 2, 1) := by decide +kernel
theorem d_M_queue_20 : decode b_M_queue 20 = .ok (.ifCond .ne 9, 3) := by decide +kernel
theorem d_M_queue_23 : decode b_M_queue 23 = .ok (.aload_n 0, 1) := by decide +kernel
theorem d_M_queue_24 : decode b_M_queue 24 = .ok (.iload_n 1, 1) := by decide +kernel
theorem d_M_queue_25 : decode b_M_queue 25 = .ok (.invokevirtual 125, 3) := by decide +kernel
theorem d_M_queue_28 : decode b_M_queue 28 = .ok (.ireturn, 1) := by decide +kernel
theorem d_M_queue_29 : decode b_M_queue 29 = .ok (.iload_n 2, 1) := by decide +kernel
theorem d_M_queue_30 : decode b_M_queue 30 = .ok (.iconst 1, 1) := by decide +kernel
theorem d_M_queue_31 : decode b_M_queue 31 = .ok (.if_icmp .ne 9, 3) := by decide +kernel
theorem d_M_queue_34 : decode b_M_queue 34 = .ok (.aload_n 0, 1) := by decide +kernel
theorem d_M_queue_35 : decode b_M_queue 35 = .ok (.iload_n 1, 1) := by decide +kernel
theorem d_M_queue_36 : decode b_M_queue 36 = .ok (.invokevirtual 132, 3) := by decide +kernel
theorem d_M_queue_39 : decode b_M_queue 39 = .ok (.ireturn, 1) := by decide +kernel
theorem d_M_queue_40 : decode b_M_queue 40 = .ok (.aload_n 0, 1) := by decide +kernel
theorem d_M_queue_41 : decode b_M_queue 41 = .ok (.iload_n 1, 1) := by decide +kernel
theorem d_M_queue_42 : decode b_M_queue 42 = .ok (.iload_n 2, 1) := by decide +kernel
theorem d_M_queue_43 : decode b_M_queue 43 = .ok (.iconst 2, 1) := by decide +kernel
theorem d_M_queue_44 : decode b_M_queue 44 = .ok (.isub, 1) := by decide +kernel
theorem d_M_queue_45 : decode b_M_queue 45 = .ok (.invokevirtual 128, 3) := by decide +kernel
theorem d_M_queue_48 : decode b_M_queue 48 = .ok (.istore_n 3, 1) := by decide +kernel
theorem d_M_queue_49 : decode b_M_queue 49 = .ok (.iload_n 3, 1) := by decide +kernel
theorem d_M_queue_50 : decode b_M_queue 50 = .ok (.ifCond .ne 7, 3) := by decide +kernel
theorem d_M_queue_53 : decode b_M_queue 53 = .ok (.iconst (-1), 1) := by decide +kernel
theorem d_M_queue_54 : decode b_M_queue 54 = .ok (.goto 4, 3) := by decide +kernel
theorem d_M_queue_57 : decode b_M_queue 57 = .ok (.iload_n 3, 1) := by decide +kernel
theorem d_M_queue_58 : decode b_M_queue 58 = .ok (.ireturn, 1) := by decide +kernel
theorem d_M_unit_0 : decode b_M_unit 0 = .ok (.iload_n 1, 1) := by decide +kernel
theorem d_M_unit_1 : decode b_M_unit 1 = .ok (.bipush 6, 2) := by decide +kernel
theorem d_M_unit_3 : decode b_M_unit 3 = .ok (.invokestatic 122, 3) := by decide +kernel
theorem d_M_unit_6 : decode b_M_unit 6 = .ok (.ifCond .eq 19, 3) := by decide +kernel
theorem d_M_unit_9 : decode b_M_unit 9 = .ok (.iload_n 2, 1) := by decide +kernel
theorem d_M_unit_10 : decode b_M_unit 10 = .ok (.iconst 3, 1) := by decide +kernel
theorem d_M_unit_11 : decode b_M_unit 11 = .ok (.invokestatic 122, 3) := by decide +kernel
theorem d_M_unit_14 : decode b_M_unit 14 = .ok (.ifCond .eq 11, 3) := by decide +kernel
theorem d_M_unit_17 : decode b_M_unit 17 = .ok (.iload_n 1, 1) := by decide +kernel
theorem d_M_unit_18 : decode b_M_unit 18 = .ok (.aload_n 0, 1) := by decide +kernel
theorem d_M_unit_19 : decode b_M_unit 19 = .ok (.invokevirtual 92, 3) := by decide +kernel
theorem d_M_unit_22 : decode b_M_unit 22 = .ok (.if_icmp .lt 5, 3) := by decide +kernel
theorem d_M_unit_25 : decode b_M_unit 25 = .ok (.iconst (-1), 1) := by decide +kernel
theorem d_M_unit_26 : decode b_M_unit 26 = .ok (.ireturn, 1) := by decide +kernel
theorem d_M_unit_27 : decode b_M_unit 27 = .ok (.iconst 0, 1) := by decide +kernel
theorem d_M_unit_28 : decode b_M_unit 28 = .ok (.istore_n 3, 1) := by decide +kernel
theorem d_M_unit_29 : decode b_M_unit 29 = .ok (.iconst 0, 1) := by decide +kernel
theorem d_M_unit_30 : decode b_M_unit 30 = .ok (.istore 4, 2) := by decide +kernel
theorem d_M_unit_32 : decode b_M_unit 32 = .ok (.iload 4, 2) := by decide +kernel
theorem d_M_unit_34 : decode b_M_unit 34 = .ok (.aload_n 0, 1) := by decide +kernel
theorem d_M_unit_35 : decode b_M_unit 35 = .ok (.getfield 64, 3) := by decide +kernel
theorem d_M_unit_38 : decode b_M_unit 38 = .ok (.if_icmp .ge 72, 3) := by decide +kernel
theorem d_M_unit_41 : decode b_M_unit 41 = .ok (.aload_n 0, 1) := by decide +kernel
theorem d_M_unit_42 : decode b_M_unit 42 = .ok (.getfield 26, 3) := by decide +kernel
theorem d_M_unit_45 : decode b_M_unit 45 = .ok (.iload 4, 2) := by decide +kernel
theorem d_M_unit_47 : decode b_M_unit 47 = .ok (.baload, 1) := by decide +kernel
theorem d_M_unit_48 : decode b_M_unit 48 = .ok (.ifCond .eq 56, 3) := by decide +kernel
theorem d_M_unit_51 : decode b_M_unit 51 = .ok (.iload_n 3, 1) := by decide +kernel
theorem d_M_unit_52 : decode b_M_unit 52 = .ok (.iload_n 1, 1) := by decide +kernel
theorem d_M_unit_53 : decode b_M_unit 53 = .ok (.if_icmp .ne 48, 3) := by decide +kernel
theorem d_M_unit_56 : decode b_M_unit 56 = .ok (.iload_n 2, 1) := by decide +kernel
theorem d_M_unit_57 : decode b_M_unit 57 = .ok (.ifCond .ne 13, 3) := by decide +kernel
theorem d_M_unit_60 : decode b_M_unit 60 = .ok (.aload_n 0, 1) := by decide +kernel
theorem d_M_unit_61 : decode b_M_unit 61 = .ok (.getfield 7, 3) := by decide +kernel
theorem d_M_unit_64 : decode b_M_unit 64 = .ok (.iload 4, 2) := by decide +kernel
theorem d_M_unit_66 : decode b_M_unit 66 = .ok (.iaload, 1) := by decide +kernel
theorem d_M_unit_67 : decode b_M_unit 67 = .ok (.goto 33, 3) := by decide +kernel
theorem d_M_unit_70 : decode b_M_unit 70 = .ok (.iload_n 2, 1) := by decide +kernel
theorem d_M_unit_71 : decode b_M_unit 71 = .ok (.iconst 1, 1) := by decide +kernel
theorem d_M_unit_72 : decode b_M_unit 72 = .ok (.if_icmp .ne 13, 3) := by decide +kernel
theorem d_M_unit_75 : decode b_M_unit 75 = .ok (.aload_n 0, 1) := by decide +kernel
theorem d_M_unit_76 : decode b_M_unit 76 = .ok (.getfield 13, 3) := by decide +kernel
theorem d_M_unit_79 : decode b_M_unit 79 = .ok (.iload 4, 2) := by decide +kernel
theorem d_M_unit_81 : decode b_M_unit 81 = .ok (.iaload, 1) := by decide +kernel
theorem d_M_unit_82 : decode b_M_unit 82 = .ok (.goto 18, 3) := by decide +kernel
theorem d_M_unit_85 : decode b_M_unit 85 = .ok (.aload_n 0, 1) := by decide +kernel
theorem d_M_unit_86 : decode b_M_unit 86 = .ok (.getfield 19, 3) := by decide +kernel
theorem d_M_unit_89 : decode b_M_unit 89 = .ok (.iload 4, 2) := by decide +kernel
theorem d_M_unit_91 : decode b_M_unit 91 = .ok (.baload, 1) := by decide +kernel
theorem d_M_unit_92 : decode b_M_unit 92 = .ok (.ifCond .eq 7, 3) := by decide +kernel
theorem d_M_unit_95 : decode b_M_unit 95 = .ok (.iconst 1, 1) := by decide +kernel
theorem d_M_unit_96 : decode b_M_unit 96 = .ok (.goto 4, 3) := by decide +kernel
theorem d_M_unit_99 : decode b_M_unit 99 = .ok (.iconst 0, 1) := by decide +kernel
theorem d_M_unit_100 : decode b_M_unit 100 = .ok (.ireturn, 1) := by decide +kernel
theorem d_M_unit_101 : decode b_M_unit 101 = .ok (.iinc 3 1, 3) := by decide +kernel
theorem d_M_unit_104 : decode b_M_unit 104 = .ok (.iinc 4 1, 3) := by decide +kernel
theorem d_M_unit_107 : decode b_M_unit 107 = .ok (.goto (-75), 3) := by decide +kernel
theorem d_M_unit_110 : decode b_M_unit 110 = .ok (.iconst (-1), 1) := by decide +kernel
theorem d_M_unit_111 : decode b_M_unit 111 = .ok (.ireturn, 1) := by decide +kernel
theorem d_M_count_0 : decode b_M_count 0 = .ok (.iload_n 1, 1) := by decide +kernel
theorem d_M_count_1 : decode b_M_count 1 = .ok (.ifCond .ne 8, 3) := by decide +kernel
theorem d_M_count_4 : decode b_M_count 4 = .ok (.aload_n 0, 1) := by decide +kernel
theorem d_M_count_5 : decode b_M_count 5 = .ok (.invokevirtual 92, 3) := by decide +kernel
theorem d_M_count_8 : decode b_M_count 8 = .ok (.ireturn, 1) := by decide +kernel
theorem d_M_count_9 : decode b_M_count 9 = .ok (.iload_n 1, 1) := by decide +kernel
theorem d_M_count_10 : decode b_M_count 10 = .ok (.iconst 1, 1) := by decide +kernel
theorem d_M_count_11 : decode b_M_count 11 = .ok (.if_icmp .ne 8, 3) := by decide +kernel
theorem d_M_count_14 : decode b_M_count 14 = .ok (.aload_n 0, 1) := by decide +kernel
theorem d_M_count_15 : decode b_M_count 15 = .ok (.getfield 116, 3) := by decide +kernel
theorem d_M_count_18 : decode b_M_count 18 = .ok (.ireturn, 1) := by decide +kernel
theorem d_M_count_19 : decode b_M_count 19 = .ok (.iload_n 1, 1) := by decide +kernel
theorem d_M_count_20 : decode b_M_count 20 = .ok (.iconst 2, 1) := by decide +kernel
theorem d_M_count_21 : decode b_M_count 21 = .ok (.if_icmp .ne 8, 3) := by decide +kernel
theorem d_M_count_24 : decode b_M_count 24 = .ok (.aload_n 0, 1) := by decide +kernel
theorem d_M_count_25 : decode b_M_count 25 = .ok (.getfield 85, 3) := by decide +kernel
theorem d_M_count_28 : decode b_M_count 28 = .ok (.ireturn, 1) := by decide +kernel
theorem d_M_count_29 : decode b_M_count 29 = .ok (.iload_n 1, 1) := by decide +kernel
theorem d_M_count_30 : decode b_M_count 30 = .ok (.iconst 3, 1) := by decide +kernel
theorem d_M_count_31 : decode b_M_count 31 = .ok (.if_icmp .ne 8, 3) := by decide +kernel
theorem d_M_count_34 : decode b_M_count 34 = .ok (.aload_n 0, 1) := by decide +kernel
theorem d_M_count_35 : decode b_M_count 35 = .ok (.getfield 82, 3) := by decide +kernel
theorem d_M_count_38 : decode b_M_count 38 = .ok (.ireturn, 1) := by decide +kernel
theorem d_M_count_39 : decode b_M_count 39 = .ok (.iload_n 1, 1) := by decide +kernel
theorem d_M_count_40 : decode b_M_count 40 = .ok (.iconst 4, 1) := by decide +kernel
theorem d_M_count_41 : decode b_M_count 41 = .ok (.if_icmp .ne 10, 3) := by decide +kernel
theorem d_M_count_44 : decode b_M_count 44 = .ok (.aload_n 0, 1) := by decide +kernel
theorem d_M_count_45 : decode b_M_count 45 = .ok (.getfield 138, 3) := by decide +kernel
theorem d_M_count_48 : decode b_M_count 48 = .ok (.goto 4, 3) := by decide +kernel
theorem d_M_count_51 : decode b_M_count 51 = .ok (.iconst (-1), 1) := by decide +kernel
theorem d_M_count_52 : decode b_M_count 52 = .ok (.ireturn, 1) := by decide +kernel
set_option maxHeartbeats 4000000 in
set_option maxRecDepth 100000 in
theorem m_M_result {l : Launch} {D : va_G} {cA : Nat → ClassId} {n0 : Nat} {w : mw} {ρ q : Nat → Nat} {lim t : Nat} {fl : Nat → Int64} {us : List uU} {sn pw : Nat} {pq : Nat → List pC} {cq : Nat → List (Int32 × Int64)} {ln : Nat} {tn : Int32} {tr : Int64} (Y : MR cA w ρ q lim t (fl, us, sn, pw, pq, cq, ln, tn, tr)) (ht : t ≤ 512) :
    Ml l D cA n0 y_M_result c_M_result (rmd 0) [.ref (q 0)] w (fun r w' => r = tr ∧ w' = w) := by
  refine mw_met (cc := b_M_result) (maxL := 1) (ret := (some .long)) (by decide) rfl (Nat.le_of_ble_eq_true rfl) ?_
  intro p e s m below meth c ls G hrt hlocks hname h hl
  have G : mw_G p m c b_M_result 1 s _ (c_M_result :: TB) R_M D cl (tys cA) n0 := G
  have hx := G.1.1
  have hb := G.1.2.1
  have hl : lv_has ls 1 [(0, .ref (q 0))] := hl
  obtain ⟨un, cp, bd, F, R, V, hut, hct, hpt, hbd, hQN⟩ := id Y
  have V : MC cA w ρ q lim un ln cp tn tr F R (fl, us, sn, pw, bd) := V
  have hct : ln ≤ t := hct
  have hQN : QN F R ln cp pq cq := hQN
  obtain ⟨X, hG⟩ := id V
  have X : MX cA w ρ q lim un sn pw bd ln cp tn tr F R := X
  have hG : LG F un sn fl us := hG
  obtain ⟨hQp, hQc, hQl, hQv⟩ := id hQN
  have hun : un ≤ 512 := by omega
  have hcm : ln ≤ 512 := by omega
  have hcp : cp ≤ 512 := by omega
  refine lv_aload_n hx hb d_M_result_0 rfl (lv_at hl 0 rfl) ?_
  refine mx_get G h X.1 rfl 22 (by decide) (tb_in in_M) (tb_c k_334) rfl rfl d_M_result_1 ?_
  exact mx_retl G h hrt hlocks d_M_result_4 (⟨rfl, rfl⟩)
set_option maxHeartbeats 4000000 in
set_option maxRecDepth 100000 in
theorem m_M_reset {l : Launch} {D : va_G} {cA : Nat → ClassId} {n0 : Nat} {w : mw} {ρ q : Nat → Nat} {lim t : Nat} {fl : Nat → Int64} {us : List uU} {sn pw : Nat} {pq : Nat → List pC} {cq : Nat → List (Int32 × Int64)} {ln : Nat} {tn : Int32} {tr : Int64} (Y : MR cA w ρ q lim t (fl, us, sn, pw, pq, cq, ln, tn, tr)) (ht : t ≤ 512) :
    Mi l D cA n0 y_M_reset c_M_reset (rmd 1) [.ref (q 0)] w (fun r w' => r = (resetS (fl, us, sn, pw, pq, cq, ln, tn, tr)).1 ∧ MR cA w' ρ q lim t (resetS (fl, us, sn, pw, pq, cq, ln, tn, tr)).2 ∧ FR w w' (P7 ρ)) := by
  refine mw_met (cc := b_M_reset) (maxL := 3) (ret := (some .int)) (by decide) rfl (Nat.le_of_ble_eq_true rfl) ?_
  intro p e s m below meth c ls G hrt hlocks hname h hl
  have G : mw_G p m c b_M_reset 3 s _ (c_M_reset :: TB) R_M D cl (tys cA) n0 := G
  have hx := G.1.1
  have hb := G.1.2.1
  have hl : lv_has ls 3 [(0, .ref (q 0))] := hl
  obtain ⟨un, cp, bd, F, R, V, hut, hct, hpt, hbd, hQN⟩ := id Y
  have V : MC cA w ρ q lim un ln cp tn tr F R (fl, us, sn, pw, bd) := V
  have hct : ln ≤ t := hct
  have hQN : QN F R ln cp pq cq := hQN
  obtain ⟨X, hG⟩ := id V
  have X : MX cA w ρ q lim un sn pw bd ln cp tn tr F R := X
  have hG : LG F un sn fl us := hG
  obtain ⟨hQp, hQc, hQl, hQv⟩ := id hQN
  have hun : un ≤ 512 := by omega
  have hcm : ln ≤ 512 := by omega
  have hcp : cp ≤ 512 := by omega
  have hl0 : (pendN F ln (nI 0)).length = (pq 0).length := by rw [hQp 0 (by decide), List.length_map]
  have hl1 : (pendN F ln (nI 1)).length = (pq 1).length := by rw [hQp 1 (by decide), List.length_map]
  have hl2 : (pendN F ln (nI 2)).length = (pq 2).length := by rw [hQp 2 (by decide), List.length_map]
  refine lv_iconst (v := 0) hx hb d_M_reset_0 (by decide) ?_
  refine lv_istore_n (lv' := [(1, .int 0), (0, .ref (q 0))]) hx hb d_M_reset_1 rfl hl (by decide) rfl (fun ls hl => ?_)
  refine lv_iconst (v := 0) hx hb d_M_reset_2 (by decide) ?_
  refine lv_istore_n (lv' := [(2, .int 0), (1, .int 0), (0, .ref (q 0))]) hx hb d_M_reset_3 rfl hl (by decide) rfl (fun ls hl => ?_)
  refine lv_iload_n hx hb d_M_reset_4 rfl (lv_at hl 0 rfl) ?_
  refine lv_iconst (v := 3) hx hb d_M_reset_5 (by decide) ?_
  refine lv_icmp_ge (tgt := 23) hx hb d_M_reset_6 (by decide) (fun c_1 => absurd c_1 (by decide)) (fun c_1 => ?_)
  refine lv_iload_n hx hb d_M_reset_9 rfl (lv_at hl 1 rfl) ?_
  refine lv_aload_n hx hb d_M_reset_10 rfl (lv_at hl 2 rfl) ?_
  refine lv_iload_n hx hb d_M_reset_11 rfl (lv_at hl 0 rfl) ?_
  refine mx_ci (cV (As := [.int 0]) (rest := [.int 0]) G h (m_M_pending X hun hcm hcp (x := 0)) k_390 k_392 ks_13 k_7 k_393 hd_M_pending rfl rfl ⟨Nat.le_of_ble_eq_true rfl, Nat.le_of_ble_eq_true rfl⟩ X.1 rfl rfl hl.1 rfl (Nat.le_of_ble_eq_true rfl) d_M_reset_12 ⟨Nat.le_of_ble_eq_true rfl, Nat.le_of_ble_eq_true rfl⟩) h (fun r_3 w_2 H locs h hcp1 => ?_)
  obtain ⟨er_4, ew_5⟩ := hcp1
  subst er_4
  rw [ew_5] at h
  have et_6 : nI (pendN F ln 0).length = nI (pq 0).length := by rw [show (0 : Int32) = nI 0 from by decide, hl0]
  rw [et_6]
  refine lv_iadd hx hb d_M_reset_15 ?_
  refine lv_istore_n (lv' := [(1, .int (0 + (nI (pq 0).length))), (2, .int 0), (0, .ref (q 0))]) hx hb d_M_reset_16 rfl hl (by decide) rfl (fun ls hl => ?_)
  refine lv_iinc (v := 0 + 1) (lv' := [(2, .int (0 + 1)), (1, .int (0 + (nI (pq 0).length))), (0, .ref (q 0))]) hx hb d_M_reset_17 hl (k := 1) rfl rfl (by decide) rfl (fun ls hl => ?_)
  refine lv_goto (tgt := 4) hx hb d_M_reset_20 (by decide) ?_
  refine lv_iload_n hx hb d_M_reset_4 rfl (lv_at hl 0 rfl) ?_
  refine lv_iconst (v := 3) hx hb d_M_reset_5 (by decide) ?_
  refine lv_icmp_ge (tgt := 23) hx hb d_M_reset_6 (by decide) (fun c_7 => absurd c_7 (by decide)) (fun c_7 => ?_)
  refine lv_iload_n hx hb d_M_reset_9 rfl (lv_at hl 1 rfl) ?_
  refine lv_aload_n hx hb d_M_reset_10 rfl (lv_at hl 2 rfl) ?_
  refine lv_iload_n hx hb d_M_reset_11 rfl (lv_at hl 0 rfl) ?_
  refine mx_ci (cV (As := [.int (0 + 1)]) (rest := [.int (0 + (nI (pq 0).length))]) G h (m_M_pending X hun hcm hcp (x := 0 + 1)) k_390 k_392 ks_13 k_7 k_393 hd_M_pending rfl rfl ⟨Nat.le_of_ble_eq_true rfl, Nat.le_of_ble_eq_true rfl⟩ X.1 rfl rfl hl.1 rfl (Nat.le_of_ble_eq_true rfl) d_M_reset_12 ⟨Nat.le_of_ble_eq_true rfl, Nat.le_of_ble_eq_true rfl⟩) h (fun r_9 w_8 H locs h hcp1 => ?_)
  obtain ⟨er_10, ew_11⟩ := hcp1
  subst er_10
  rw [ew_11] at h
  have et_12 : nI (pendN F ln (0 + 1)).length = nI (pq 1).length := by rw [show (0 + 1 : Int32) = nI 1 from by decide, hl1]
  rw [et_12]
  refine lv_iadd hx hb d_M_reset_15 ?_
  refine lv_istore_n (lv' := [(1, .int ((0 + (nI (pq 0).length)) + (nI (pq 1).length))), (2, .int (0 + 1)), (0, .ref (q 0))]) hx hb d_M_reset_16 rfl hl (by decide) rfl (fun ls hl => ?_)
  refine lv_iinc (v := (0 + 1) + 1) (lv' := [(2, .int ((0 + 1) + 1)), (1, .int ((0 + (nI (pq 0).length)) + (nI (pq 1).length))), (0, .ref (q 0))]) hx hb d_M_reset_17 hl (k := 1) rfl rfl (by decide) rfl (fun ls hl => ?_)
  refine lv_goto (tgt := 4) hx hb d_M_reset_20 (by decide) ?_
  refine lv_iload_n hx hb d_M_reset_4 rfl (lv_at hl 0 rfl) ?_
  refine lv_iconst (v := 3) hx hb d_M_reset_5 (by decide) ?_
  refine lv_icmp_ge (tgt := 23) hx hb d_M_reset_6 (by decide) (fun c_13 => absurd c_13 (by decide)) (fun c_13 => ?_)
  refine lv_iload_n hx hb d_M_reset_9 rfl (lv_at hl 1 rfl) ?_
  refine lv_aload_n hx hb d_M_reset_10 rfl (lv_at hl 2 rfl) ?_
  refine lv_iload_n hx hb d_M_reset_11 rfl (lv_at hl 0 rfl) ?_
  refine mx_ci (cV (As := [.int ((0 + 1) + 1)]) (rest := [.int ((0 + (nI (pq 0).length)) + (nI (pq 1).length))]) G h (m_M_pending X hun hcm hcp (x := (0 + 1) + 1)) k_390 k_392 ks_13 k_7 k_393 hd_M_pending rfl rfl ⟨Nat.le_of_ble_eq_true rfl, Nat.le_of_ble_eq_true rfl⟩ X.1 rfl rfl hl.1 rfl (Nat.le_of_ble_eq_true rfl) d_M_reset_12 ⟨Nat.le_of_ble_eq_true rfl, Nat.le_of_ble_eq_true rfl⟩) h (fun r_15 w_14 H locs h hcp1 => ?_)
  obtain ⟨er_16, ew_17⟩ := hcp1
  subst er_16
  rw [ew_17] at h
  have et_18 : nI (pendN F ln ((0 + 1) + 1)).length = nI (pq 2).length := by rw [show ((0 + 1) + 1 : Int32) = nI 2 from by decide, hl2]
  rw [et_18]
  refine lv_iadd hx hb d_M_reset_15 ?_
  refine lv_istore_n (lv' := [(1, .int (((0 + (nI (pq 0).length)) + (nI (pq 1).length)) + (nI (pq 2).length))), (2, .int ((0 + 1) + 1)), (0, .ref (q 0))]) hx hb d_M_reset_16 rfl hl (by decide) rfl (fun ls hl => ?_)
  refine lv_iinc (v := ((0 + 1) + 1) + 1) (lv' := [(2, .int (((0 + 1) + 1) + 1)), (1, .int (((0 + (nI (pq 0).length)) + (nI (pq 1).length)) + (nI (pq 2).length))), (0, .ref (q 0))]) hx hb d_M_reset_17 hl (k := 1) rfl rfl (by decide) rfl (fun ls hl => ?_)
  refine lv_goto (tgt := 4) hx hb d_M_reset_20 (by decide) ?_
  refine lv_iload_n hx hb d_M_reset_4 rfl (lv_at hl 0 rfl) ?_
  refine lv_iconst (v := 3) hx hb d_M_reset_5 (by decide) ?_
  refine lv_icmp_ge (tgt := 23) hx hb d_M_reset_6 (by decide) (fun c_19 => ?_) (fun c_19 => absurd (by decide) c_19)
  refine lv_iconst (v := 1) hx hb d_M_reset_23 (by decide) ?_
  refine lv_istore_n (lv' := [(2, .int 1), (1, .int (((0 + (nI (pq 0).length)) + (nI (pq 1).length)) + (nI (pq 2).length))), (0, .ref (q 0))]) hx hb d_M_reset_24 rfl hl (by decide) rfl (fun ls hl => ?_)
  have et_20 : ((0 + (nI (pq 0).length)) + (nI (pq 1).length)) + (nI (pq 2).length) = nI ((pq 0).length + (pq 1).length + (pq 2).length) := by rw [← nI_add, ← nI_add]; simp
  rw [et_20] at hl
  have loop3 : ∀ (t9 k : Nat), k + t9 = cp → ∀ (v : mw), MX cA v ρ q lim un sn pw bd ln cp tn tr (va_up (va_up F 11 (fil (-1) (F 11) 1 (ln + 1))) 17 (fil (-1) (F 17) 0 k)) R → FR w v (P7 ρ) → ∀ (H : Heap) (locs : List Loc) (ls : Array Slot), mw_H n0 D cl s v H locs → lv_has ls 3 [(2, .int (nI k)), (1, .int (nI ((pq 0).length + (pq 1).length + (pq 2).length))), (0, .ref (q 0))] → W p l e (rmd 1) s m ([.ref (q 0)] : List Value).toArray below meth c H locs 0 0 (MQ below (mw_Qi n0 D cl (fun r w' => r = (resetS (fl, us, sn, pw, pq, cq, ln, tn, tr)).1 ∧ MR cA w' ρ q lim t (resetS (fl, us, sn, pw, pq, cq, ln, tn, tr)).2 ∧ FR w w' (P7 ρ))) ([.ref (q 0)] : List Value).toArray s 0 0 (mw_A n0)) (F0 m 48 ls []) := by
    intro t9
    induction t9 with
    | zero =>
      intro k hk v V1 hfr H locs ls h hl
      have hk : k = cp := hk
      refine lv_iload_n hx hb d_M_reset_48 rfl (lv_at hl 0 rfl) ?_
      refine lv_aload_n hx hb d_M_reset_49 rfl (lv_at hl 2 rfl) ?_
      refine mx_get G h V1.1 rfl 20 (by decide) (tb_in in_M) (tb_c k_332) rfl rfl d_M_reset_50 ?_
      refine lv_icmp_ge (tgt := 69) hx hb d_M_reset_53 (by decide) (fun c_21 => ?_) (fun c_21 => ?_)
      · refine lv_iload_n hx hb d_M_reset_69 rfl (lv_at hl 1 rfl) ?_
        have hQ9 : QN (va_up (va_up F 11 (fil (-1) (F 11) 1 (ln + 1))) 17 (fil (-1) (F 17) 0 k)) R ln cp (fun _ => []) (fun _ => []) := hQN.clr (fun c h1 h2 => by simp only [va_up]; simp [fil]; omega) (fun i hi => by simp only [va_up]; simp [fil]; omega) (fun c => by simp [cmdN, va_up])
        have hG9 : LG (va_up (va_up F 11 (fil (-1) (F 11) 1 (ln + 1))) 17 (fil (-1) (F 17) 0 k)) un sn fl us := hG.cong (fun i hi => by rcases (show i = 0 ∨ i = 1 ∨ i = 2 ∨ i = 3 ∨ i = 4 ∨ i = 5 ∨ i = 6 by omega) with rfl | rfl | rfl | rfl | rfl | rfl | rfl <;> simp [va_up])
        exact mx_reti G h hrt hlocks d_M_reset_70 (⟨rfl, ⟨un, cp, bd, _, R, ⟨V1, hG9⟩, hut, hct, hpt, hbd, hQ9⟩, hfr⟩)
      · exact absurd (by rw [hk]; exact Int32.le_refl _) c_21
    | succ t9 ih =>
      intro k hk v V1 hfr H locs ls h hl
      refine lv_iload_n hx hb d_M_reset_48 rfl (lv_at hl 0 rfl) ?_
      refine lv_aload_n hx hb d_M_reset_49 rfl (lv_at hl 2 rfl) ?_
      refine mx_get G h V1.1 rfl 20 (by decide) (tb_in in_M) (tb_c k_332) rfl rfl d_M_reset_50 ?_
      refine lv_icmp_ge (tgt := 69) hx hb d_M_reset_53 (by decide) (fun c_22 => ?_) (fun c_22 => ?_)
      · exact absurd ((nI_leI (by omega) (by omega)).mp c_22) (by omega)
      · refine lv_aload_n hx hb d_M_reset_56 rfl (lv_at hl 2 rfl) ?_
        refine mx_get G h V1.1 rfl 17 (by decide) (tb_in in_M) (tb_c k_329) rfl rfl d_M_reset_57 ?_
        refine lv_iload_n hx hb d_M_reset_60 rfl (lv_at hl 0 rfl) ?_
        refine lv_iconst (v := (-1)) hx hb d_M_reset_61 (by decide) ?_
        refine ax_si G h (V1.2.1 17 (by decide)) k rfl (by omega) (by decide) d_M_reset_62 (fun H locs h => ?_)
        have h : mw_H n0 D cl s (mw_up v (q 17) (.inl (cA 0, 520, .inl (upd (fil (-1) (F 17) 0 k) k (-1))))) H locs := h
        obtain ⟨w_23, ew_23⟩ : ∃ xx : mw, mw_up v (q 17) (.inl (cA 0, 520, .inl (upd (fil (-1) (F 17) 0 k) k (-1)))) = xx := ⟨_, rfl⟩
        rw [ew_23] at h
        have f_24 : w_23 (q 17) = some (.inl (cA 0, 520, .inl (upd (fil (-1) (F 17) 0 k) k (-1)))) := by rw [← ew_23]; exact mw_self
        have V2 : MX cA w_23 ρ q lim un sn pw bd ln cp tn tr (va_up (va_up F 11 (fil (-1) (F 11) 1 (ln + 1))) 17 (fil (-1) (F 17) 0 (k + 1))) R := by
          have z := V1.putI 17 (by decide) (upd (fil (-1) (F 17) 0 k) k (-1))
          rw [ew_23, va_uu, fil_s (Nat.zero_le _)] at z
          exact z
        have hfr2 : FR w w_23 (P7 ρ) := hfr.tr (by rw [← ew_23]; exact FQ (X.2.2.2.2.2.2.1 17 (by decide)))
        refine lv_iinc (v := (nI k) + 1) (lv' := [(2, .int ((nI k) + 1)), (1, .int (nI ((pq 0).length + (pq 1).length + (pq 2).length))), (0, .ref (q 0))]) hx hb d_M_reset_63 hl (k := 0) rfl rfl (by decide) rfl (fun ls hl => ?_)
        refine lv_goto (tgt := 48) hx hb d_M_reset_66 (by decide) ?_
        rw [nI_1] at hl
        exact ih (k + 1) (by omega) _ V2 hfr2 H locs ls h (lv_sub hl [0, 1, 2] rfl)
  have loop2 : ∀ (t9 k : Nat), k + t9 = ln → ∀ (v : mw), MX cA v ρ q lim un sn pw bd ln cp tn tr (va_up F 11 (fil (-1) (F 11) 1 (k + 1))) R → FR w v (P7 ρ) → ∀ (H : Heap) (locs : List Loc) (ls : Array Slot), mw_H n0 D cl s v H locs → lv_has ls 3 [(2, .int (nI (k + 1))), (1, .int (nI ((pq 0).length + (pq 1).length + (pq 2).length))), (0, .ref (q 0))] → W p l e (rmd 1) s m ([.ref (q 0)] : List Value).toArray below meth c H locs 0 0 (MQ below (mw_Qi n0 D cl (fun r w' => r = (resetS (fl, us, sn, pw, pq, cq, ln, tn, tr)).1 ∧ MR cA w' ρ q lim t (resetS (fl, us, sn, pw, pq, cq, ln, tn, tr)).2 ∧ FR w w' (P7 ρ))) ([.ref (q 0)] : List Value).toArray s 0 0 (mw_A n0)) (F0 m 25 ls []) := by
    intro t9
    induction t9 with
    | zero =>
      intro k hk v V1 hfr H locs ls h hl
      have hk : k = ln := hk
      refine lv_iload_n hx hb d_M_reset_25 rfl (lv_at hl 0 rfl) ?_
      refine lv_aload_n hx hb d_M_reset_26 rfl (lv_at hl 2 rfl) ?_
      refine mx_get G h V1.1 rfl 16 (by decide) (tb_in in_M) (tb_c k_328) rfl rfl d_M_reset_27 ?_
      refine lv_icmp_gt (tgt := 46) hx hb d_M_reset_30 (by decide) (fun c_25 => ?_) (fun c_25 => ?_)
      · refine lv_iconst (v := 0) hx hb d_M_reset_46 (by decide) ?_
        refine lv_istore_n (lv' := [(2, .int 0), (1, .int (nI ((pq 0).length + (pq 1).length + (pq 2).length))), (0, .ref (q 0))]) hx hb d_M_reset_47 rfl hl (by decide) rfl (fun ls hl => ?_)
        subst hk
        exact loop3 cp 0 (by omega) v (by rw [fil_0, va_id (by simp [va_up])]; exact V1) hfr H locs ls h (lv_sub hl [0, 1, 2] rfl)
      · exact absurd ((nI_ltI (by omega) (by omega)).mpr (by omega)) c_25
    | succ t9 ih =>
      intro k hk v V1 hfr H locs ls h hl
      refine lv_iload_n hx hb d_M_reset_25 rfl (lv_at hl 0 rfl) ?_
      refine lv_aload_n hx hb d_M_reset_26 rfl (lv_at hl 2 rfl) ?_
      refine mx_get G h V1.1 rfl 16 (by decide) (tb_in in_M) (tb_c k_328) rfl rfl d_M_reset_27 ?_
      refine lv_icmp_gt (tgt := 46) hx hb d_M_reset_30 (by decide) (fun c_26 => ?_) (fun c_26 => ?_)
      · exact absurd ((nI_ltI (by omega) (by omega)).mp c_26) (by omega)
      · refine lv_aload_n hx hb d_M_reset_33 rfl (lv_at hl 2 rfl) ?_
        refine mx_get G h V1.1 rfl 11 (by decide) (tb_in in_M) (tb_c k_323) rfl rfl d_M_reset_34 ?_
        refine lv_iload_n hx hb d_M_reset_37 rfl (lv_at hl 0 rfl) ?_
        refine lv_iconst (v := (-1)) hx hb d_M_reset_38 (by decide) ?_
        refine ax_si G h (V1.2.1 11 (by decide)) (k + 1) rfl (by omega) (by decide) d_M_reset_39 (fun H locs h => ?_)
        have h : mw_H n0 D cl s (mw_up v (q 11) (.inl (cA 0, 520, .inl (upd (fil (-1) (F 11) 1 (k + 1)) (k + 1) (-1))))) H locs := h
        obtain ⟨w_27, ew_27⟩ : ∃ xx : mw, mw_up v (q 11) (.inl (cA 0, 520, .inl (upd (fil (-1) (F 11) 1 (k + 1)) (k + 1) (-1)))) = xx := ⟨_, rfl⟩
        rw [ew_27] at h
        have f_28 : w_27 (q 11) = some (.inl (cA 0, 520, .inl (upd (fil (-1) (F 11) 1 (k + 1)) (k + 1) (-1)))) := by rw [← ew_27]; exact mw_self
        have V2 : MX cA w_27 ρ q lim un sn pw bd ln cp tn tr (va_up F 11 (fil (-1) (F 11) 1 (k + 1 + 1))) R := by
          have z := V1.putI 11 (by decide) (upd (fil (-1) (F 11) 1 (k + 1)) (k + 1) (-1))
          rw [ew_27, va_uu, fil_s (by omega)] at z
          exact z
        have hfr2 : FR w w_27 (P7 ρ) := hfr.tr (by rw [← ew_27]; exact FQ (X.2.2.2.2.2.2.1 11 (by decide)))
        refine lv_iinc (v := (nI (k + 1)) + 1) (lv' := [(2, .int ((nI (k + 1)) + 1)), (1, .int (nI ((pq 0).length + (pq 1).length + (pq 2).length))), (0, .ref (q 0))]) hx hb d_M_reset_40 hl (k := 0) rfl rfl (by decide) rfl (fun ls hl => ?_)
        refine lv_goto (tgt := 25) hx hb d_M_reset_43 (by decide) ?_
        rw [nI_1] at hl
        exact ih (k + 1) (by omega) _ V2 hfr2 H locs ls h (lv_sub hl [0, 1, 2] rfl)
  exact loop2 ln 0 (by omega) w (by rw [fil_0, va_id rfl]; exact X) FR.rf H locs ls h (lv_sub hl [0, 1, 2] rfl)
set_option maxHeartbeats 4000000 in
set_option maxRecDepth 100000 in
theorem m_M_power {l : Launch} {D : va_G} {cA : Nat → ClassId} {n0 : Nat} {w : mw} {ρ q : Nat → Nat} {lim t : Nat} {fl : Nat → Int64} {us : List uU} {sn pw : Nat} {pq : Nat → List pC} {cq : Nat → List (Int32 × Int64)} {ln : Nat} {tn : Int32} {tr : Int64} (Y : MR cA w ρ q lim t (fl, us, sn, pw, pq, cq, ln, tn, tr)) (ht : t ≤ 512) :
    Mi l D cA n0 y_M_power c_M_power (rmd 2) [.ref (q 0)] w (fun r w' => r = (powerS (fl, us, sn, pw, pq, cq, ln, tn, tr)).1 ∧ MR cA w' ρ q lim t (powerS (fl, us, sn, pw, pq, cq, ln, tn, tr)).2 ∧ FR w w' (P7 ρ)) := by
  refine mw_met (cc := b_M_power) (maxL := 3) (ret := (some .int)) (by decide) rfl (Nat.le_of_ble_eq_true rfl) ?_
  intro p e s m below meth c ls G hrt hlocks hname h hl
  have G : mw_G p m c b_M_power 3 s _ (c_M_power :: TB) R_M D cl (tys cA) n0 := G
  have hx := G.1.1
  have hb := G.1.2.1
  have hl : lv_has ls 3 [(0, .ref (q 0))] := hl
  obtain ⟨un, cp, bd, F, R, V, hut, hct, hpt, hbd, hQN⟩ := id Y
  have V : MC cA w ρ q lim un ln cp tn tr F R (fl, us, sn, pw, bd) := V
  have hct : ln ≤ t := hct
  have hQN : QN F R ln cp pq cq := hQN
  obtain ⟨X, hG⟩ := id V
  have X : MX cA w ρ q lim un sn pw bd ln cp tn tr F R := X
  have hG : LG F un sn fl us := hG
  obtain ⟨hQp, hQc, hQl, hQv⟩ := id hQN
  have hun : un ≤ 512 := by omega
  have hcm : ln ≤ 512 := by omega
  have hcp : cp ≤ 512 := by omega
  have hlen : (liveN F un).length = us.length := by rw [hG.1, List.length_map]
  refine lv_aload_n hx hb d_M_power_0 rfl (lv_at hl 0 rfl) ?_
  refine mx_ci (cV (As := []) (rest := []) G h (m_M_inCache X hun hcm hcp) k_434 k_436 ks_23 k_7 k_437 hd_M_inCache rfl rfl ⟨Nat.le_of_ble_eq_true rfl, Nat.le_of_ble_eq_true rfl⟩ X.1 rfl rfl hl.1 rfl (Nat.le_of_ble_eq_true rfl) d_M_power_1 ⟨Nat.le_of_ble_eq_true rfl, Nat.le_of_ble_eq_true rfl⟩) h (fun r_2 w_1 H locs h hcp1 => ?_)
  obtain ⟨er_3, ew_4⟩ := hcp1
  subst er_3
  rw [ew_4] at h
  have et_5 : nI (liveN F un).length = nI us.length := by rw [hlen]
  rw [et_5]
  refine lv_istore_n (lv' := [(1, .int (nI us.length)), (0, .ref (q 0))]) hx hb d_M_power_4 rfl hl (by decide) rfl (fun ls hl => ?_)
  refine lv_iconst (v := 0) hx hb d_M_power_5 (by decide) ?_
  refine lv_istore_n (lv' := [(2, .int 0), (1, .int (nI us.length)), (0, .ref (q 0))]) hx hb d_M_power_6 rfl hl (by decide) rfl (fun ls hl => ?_)
  have loop : ∀ (t9 k : Nat), k + t9 = un → ∀ (v : mw), MX cA v ρ q lim un sn pw bd ln cp tn tr (va_up F 6 (fil 0 (F 6) 0 k)) R → FR w v (P7 ρ) → ∀ (H : Heap) (locs : List Loc) (ls : Array Slot), mw_H n0 D cl s v H locs → lv_has ls 3 [(2, .int (nI k)), (1, .int (nI us.length)), (0, .ref (q 0))] → W p l e (rmd 2) s m ([.ref (q 0)] : List Value).toArray below meth c H locs 0 0 (MQ below (mw_Qi n0 D cl (fun r w' => r = (powerS (fl, us, sn, pw, pq, cq, ln, tn, tr)).1 ∧ MR cA w' ρ q lim t (powerS (fl, us, sn, pw, pq, cq, ln, tn, tr)).2 ∧ FR w w' (P7 ρ))) ([.ref (q 0)] : List Value).toArray s 0 0 (mw_A n0)) (F0 m 7 ls []) := by
    intro t9
    induction t9 with
    | zero =>
      intro k hk v V1 hfr H locs ls h hl
      have hk : k = un := hk
      refine lv_iload_n hx hb d_M_power_7 rfl (lv_at hl 0 rfl) ?_
      refine lv_aload_n hx hb d_M_power_8 rfl (lv_at hl 2 rfl) ?_
      refine mx_get G h V1.1 rfl 7 (by decide) (tb_in in_M) (tb_c k_319) rfl rfl d_M_power_9 ?_
      refine lv_icmp_ge (tgt := 28) hx hb d_M_power_12 (by decide) (fun c_6 => ?_) (fun c_6 => ?_)
      · subst hk
        have Y1 : MR cA v ρ q lim t (fl, [], sn, pw, pq, cq, ln, tn, tr) := ⟨k, cp, bd, _, R, ⟨V1, hG.clr⟩, hut, hct, hpt, hbd, hQN.sf SF.rf.up6⟩
        refine lv_aload_n hx hb d_M_power_28 rfl (lv_at hl 2 rfl) ?_
        refine mx_ci (cV (As := []) (rest := []) G h (m_M_reset Y1 ht) k_470 k_463 k_464 k_7 k_465 hd_M_reset rfl rfl ⟨Nat.le_of_ble_eq_true rfl, Nat.le_of_ble_eq_true rfl⟩ V1.1 rfl rfl hl.1 rfl (Nat.le_of_ble_eq_true rfl) d_M_power_29 ⟨Nat.le_of_ble_eq_true rfl, Nat.le_of_ble_eq_true rfl⟩) h (fun r_8 w_7 H locs h hcp1 => ?_)
        obtain ⟨er, Y2, hf2⟩ := hcp1
        refine lv_istore_n (lv' := [(2, .int r_8), (1, .int (nI us.length)), (0, .ref (q 0))]) hx hb d_M_power_32 rfl hl (by decide) rfl (fun ls hl => ?_)
        refine lv_iload_n hx hb d_M_power_33 rfl (lv_at hl 1 rfl) ?_
        exact mx_reti G h hrt hlocks d_M_power_34 (⟨rfl, Y2, hfr.tr hf2⟩)
      · exact absurd (by rw [hk]; exact Int32.le_refl _) c_6
    | succ t9 ih =>
      intro k hk v V1 hfr H locs ls h hl
      refine lv_iload_n hx hb d_M_power_7 rfl (lv_at hl 0 rfl) ?_
      refine lv_aload_n hx hb d_M_power_8 rfl (lv_at hl 2 rfl) ?_
      refine mx_get G h V1.1 rfl 7 (by decide) (tb_in in_M) (tb_c k_319) rfl rfl d_M_power_9 ?_
      refine lv_icmp_ge (tgt := 28) hx hb d_M_power_12 (by decide) (fun c_9 => ?_) (fun c_9 => ?_)
      · exact absurd ((nI_leI (by omega) (by omega)).mp c_9) (by omega)
      · refine lv_aload_n hx hb d_M_power_15 rfl (lv_at hl 2 rfl) ?_
        refine mx_get G h V1.1 rfl 6 (by decide) (tb_in in_M) (tb_c k_318) rfl rfl d_M_power_16 ?_
        refine lv_iload_n hx hb d_M_power_19 rfl (lv_at hl 0 rfl) ?_
        refine lv_iconst (v := 0) hx hb d_M_power_20 (by decide) ?_
        refine ax_sz G h (V1.2.2.1 6 (by decide)) k rfl (by omega) (by decide) (by decide) d_M_power_21 (fun H locs h => ?_)
        have h : mw_H n0 D cl s (mw_up v (q 6) (.inl (cA 2, 520, .inl (upd (fil 0 (F 6) 0 k) k 0)))) H locs := h
        obtain ⟨w_10, ew_10⟩ : ∃ xx : mw, mw_up v (q 6) (.inl (cA 2, 520, .inl (upd (fil 0 (F 6) 0 k) k 0))) = xx := ⟨_, rfl⟩
        rw [ew_10] at h
        have f_11 : w_10 (q 6) = some (.inl (cA 2, 520, .inl (upd (fil 0 (F 6) 0 k) k 0))) := by rw [← ew_10]; exact mw_self
        have V2 : MX cA w_10 ρ q lim un sn pw bd ln cp tn tr (va_up F 6 (fil 0 (F 6) 0 (k + 1))) R := by
          have z := V1.putZ 6 (by decide) (upd (fil 0 (F 6) 0 k) k 0)
          rw [ew_10, va_uu, fil_s (Nat.zero_le _)] at z
          exact z
        have hfr2 : FR w w_10 (P7 ρ) := hfr.tr (by rw [← ew_10]; exact FQ (X.2.2.2.2.2.2.1 6 (by decide)))
        refine lv_iinc (v := (nI k) + 1) (lv' := [(2, .int ((nI k) + 1)), (1, .int (nI us.length)), (0, .ref (q 0))]) hx hb d_M_power_22 hl (k := 0) rfl rfl (by decide) rfl (fun ls hl => ?_)
        refine lv_goto (tgt := 7) hx hb d_M_power_25 (by decide) ?_
        rw [nI_1] at hl
        exact ih (k + 1) (by omega) _ V2 hfr2 H locs ls h (lv_sub hl [0, 1, 2] rfl)
  exact loop un 0 (by omega) w (by rw [fil_0, va_id rfl]; exact X) FR.rf H locs ls h (lv_sub hl [0, 1, 2] rfl)
set_option maxHeartbeats 4000000 in
set_option maxRecDepth 100000 in
theorem m_M_powerDuring {l : Launch} {D : va_G} {cA : Nat → ClassId} {n0 : Nat} {w : mw} {ρ q : Nat → Nat} {lim t : Nat} {fl : Nat → Int64} {us : List uU} {sn pw : Nat} {pq : Nat → List pC} {cq : Nat → List (Int32 × Int64)} {ln : Nat} {tn : Int32} {tr : Int64} (Y : MR cA w ρ q lim t (fl, us, sn, pw, pq, cq, ln, tn, tr)) (ht : t + 1 ≤ 512) (hlim : lim ≤ 6) {qu x y : Int32} :
    Mi l D cA n0 y_M_powerDuring c_M_powerDuring (rmd 5) [.ref (q 0), .int qu, .int x, .int y] w (fun r w' => r = (pdurS lim (fl, us, sn, pw, pq, cq, ln, tn, tr) qu x y).1 ∧ MR cA w' ρ q lim (t + 1) (pdurS lim (fl, us, sn, pw, pq, cq, ln, tn, tr) qu x y).2 ∧ FR w w' (P7 ρ)) := by
  refine mw_met (cc := b_M_powerDuring) (maxL := 8) (ret := (some .int)) (by decide) rfl (Nat.le_of_ble_eq_true rfl) ?_
  intro p e s m below meth c ls G hrt hlocks hname h hl
  have G : mw_G p m c b_M_powerDuring 8 s _ (c_M_powerDuring :: TB) R_M D cl (tys cA) n0 := G
  have hx := G.1.1
  have hb := G.1.2.1
  have hl : lv_has ls 8 [(0, .ref (q 0)), (1, .int qu), (2, .int x), (3, .int y)] := hl
  obtain ⟨un, cp, bd, F, R, V, hut, hct, hpt, hbd, hQN⟩ := id Y
  have V : MC cA w ρ q lim un ln cp tn tr F R (fl, us, sn, pw, bd) := V
  have hct : ln ≤ t := hct
  have hQN : QN F R ln cp pq cq := hQN
  obtain ⟨X, hG⟩ := id V
  have X : MX cA w ρ q lim un sn pw bd ln cp tn tr F R := X
  have hG : LG F un sn fl us := hG
  obtain ⟨hQp, hQc, hQl, hQv⟩ := id hQN
  have hun : un ≤ 512 := by omega
  have hcm : ln ≤ 512 := by omega
  have hcp : cp ≤ 512 := by omega
  refine lv_iload_n hx hb d_M_powerDuring_0 rfl (lv_at hl 1 rfl) ?_
  refine lv_iconst (v := 3) hx hb d_M_powerDuring_1 (by decide) ?_
  refine mx_ci (cS (As := [.int qu, .int 3]) (rest := []) G h (m_M_in (x := qu) (n := 3)) k_387 k_388 k_7 k_389 rfl hd_M_in rfl rfl ⟨Nat.le_of_ble_eq_true rfl, Nat.le_of_ble_eq_true rfl⟩ rfl hl.1 rfl (Nat.le_of_ble_eq_true rfl) d_M_powerDuring_2 ⟨Nat.le_of_ble_eq_true rfl, Nat.le_of_ble_eq_true rfl⟩) h (fun r_2 w_1 H locs h hcp1 => ?_)
  obtain ⟨er_3, ew_4⟩ := hcp1
  subst er_3
  rw [ew_4] at h
  refine lv_if_eq (tgt := 34) hx hb d_M_powerDuring_5 (by decide) (fun c_5 => ?_) (fun c_5 => ?_)
  · refine lv_iconst (v := (-1)) hx hb d_M_powerDuring_34 (by decide) ?_
    have e8 : refS pq cq qu x = -1 := by rw [refS, if_neg (fun z => bI_0 c_5 z.1)]
    have e9 : pdurS lim (fl, us, sn, pw, pq, cq, ln, tn, tr) qu x y = (-1, (fl, us, sn, pw, pq, cq, ln, tn, tr)) := pdur_1 e8
    exact mx_reti G h hrt hlocks d_M_powerDuring_35 (by rw [e9]; exact ⟨rfl, ⟨un, cp, bd, F, R, V, by omega, Nat.le_succ_of_le hct, by omega, hbd, hQN⟩, FR.rf⟩)
  · have hi3 := bI_n c_5
    obtain ⟨j, hj, hqj⟩ := ixQ 3 rfl (by decide) hi3.1 hi3.2
    have hqc : qu.toNatClampNeg = j := by rw [hqj]; exact nI_c (by omega)
    have hplen : (pendN F ln qu).length = (pq j).length := by rw [hqj, hQp j hj, List.length_map]
    have hclen : (doneN F cp qu).length = (cq j).length := by rw [hqj, hQc j hj, List.length_map]
    have hp4 := (hQl j hj).1
    have hc4 := (hQl j hj).2
    refine lv_iload_n hx hb d_M_powerDuring_8 rfl (lv_at hl 2 rfl) ?_
    refine lv_iconst (v := 4) hx hb d_M_powerDuring_9 (by decide) ?_
    refine mx_ci (cS (As := [.int x, .int 4]) (rest := []) G h (m_M_in (x := x) (n := 4)) k_387 k_388 k_7 k_389 rfl hd_M_in rfl rfl ⟨Nat.le_of_ble_eq_true rfl, Nat.le_of_ble_eq_true rfl⟩ rfl hl.1 rfl (Nat.le_of_ble_eq_true rfl) d_M_powerDuring_10 ⟨Nat.le_of_ble_eq_true rfl, Nat.le_of_ble_eq_true rfl⟩) h (fun r_7 w_6 H locs h hcp1 => ?_)
    obtain ⟨er_8, ew_9⟩ := hcp1
    subst er_8
    rw [ew_9] at h
    refine lv_if_eq (tgt := 34) hx hb d_M_powerDuring_13 (by decide) (fun c_10 => ?_) (fun c_10 => ?_)
    · refine lv_iconst (v := (-1)) hx hb d_M_powerDuring_34 (by decide) ?_
      have e8 : refS pq cq qu x = -1 := by rw [refS, if_neg (fun z => bI_0 c_10 ⟨z.2.1, Int32.lt_of_lt_of_le z.2.2 (by rw [hqc]; exact nI_le (b := 4) hp4 (by decide))⟩)]
      have e9 : pdurS lim (fl, us, sn, pw, pq, cq, ln, tn, tr) qu x y = (-1, (fl, us, sn, pw, pq, cq, ln, tn, tr)) := pdur_1 e8
      exact mx_reti G h hrt hlocks d_M_powerDuring_35 (by rw [e9]; exact ⟨rfl, ⟨un, cp, bd, F, R, V, by omega, Nat.le_succ_of_le hct, by omega, hbd, hQN⟩, FR.rf⟩)
    · obtain ⟨i, hi4, hxi⟩ := ixQ 4 rfl (by decide) (bI_n c_10).1 (bI_n c_10).2
      have hxc : x.toNatClampNeg = i := by rw [hxi]; exact nI_c (by omega)
      refine lv_iload_n hx hb d_M_powerDuring_16 rfl (lv_at hl 3 rfl) ?_
      refine lv_bipush (v := 31) hx hb d_M_powerDuring_17 (by decide) ?_
      refine mx_ci (cS (As := [.int y, .int 31]) (rest := []) G h (m_M_in (x := y) (n := 31)) k_387 k_388 k_7 k_389 rfl hd_M_in rfl rfl ⟨Nat.le_of_ble_eq_true rfl, Nat.le_of_ble_eq_true rfl⟩ rfl hl.1 rfl (Nat.le_of_ble_eq_true rfl) d_M_powerDuring_19 ⟨Nat.le_of_ble_eq_true rfl, Nat.le_of_ble_eq_true rfl⟩) h (fun r_12 w_11 H locs h hcp1 => ?_)
      obtain ⟨er_13, ew_14⟩ := hcp1
      subst er_13
      rw [ew_14] at h
      refine lv_if_eq (tgt := 34) hx hb d_M_powerDuring_22 (by decide) (fun c_15 => ?_) (fun c_15 => ?_)
      · refine lv_iconst (v := (-1)) hx hb d_M_powerDuring_34 (by decide) ?_
        have e9 : pdurS lim (fl, us, sn, pw, pq, cq, ln, tn, tr) qu x y = (-1, (fl, us, sn, pw, pq, cq, ln, tn, tr)) := by simp only [pdurS]; rw [if_neg (fun z => bI_0 c_15 ⟨z.1, lt31.mpr z.2⟩)]
        exact mx_reti G h hrt hlocks d_M_powerDuring_35 (by rw [e9]; exact ⟨rfl, ⟨un, cp, bd, F, R, V, by omega, Nat.le_succ_of_le hct, by omega, hbd, hQN⟩, FR.rf⟩)
      · have hy0 : 0 ≤ y ∧ y ≤ 30 := ⟨(bI_n c_15).1, lt31.mp (bI_n c_15).2⟩
        obtain ⟨pgs, hpgs, hyp⟩ := ixL 30 rfl (by decide) hy0.1 hy0.2
        have hyc : y.toNatClampNeg = pgs := by rw [hyp]; exact nI_c (by omega)
        refine lv_aload_n hx hb d_M_powerDuring_25 rfl (lv_at hl 0 rfl) ?_
        refine lv_iload_n hx hb d_M_powerDuring_26 rfl (lv_at hl 1 rfl) ?_
        refine lv_iload_n hx hb d_M_powerDuring_27 rfl (lv_at hl 2 rfl) ?_
        refine mx_ci (cV (As := [.int qu, .int x]) (rest := []) G h (m_M_picked X hun hcm hcp (x := qu) (y := x) hxi (by omega)) k_398 k_400 ks_14 k_7 k_401 hd_M_picked rfl rfl ⟨Nat.le_of_ble_eq_true rfl, Nat.le_of_ble_eq_true rfl⟩ X.1 rfl rfl hl.1 rfl (Nat.le_of_ble_eq_true rfl) d_M_powerDuring_28 ⟨Nat.le_of_ble_eq_true rfl, Nat.le_of_ble_eq_true rfl⟩) h (fun r_17 w_16 H locs h hcp1 => ?_)
        obtain ⟨er_18, ew_19⟩ := hcp1
        subst er_18
        rw [ew_19] at h
        cases hpk : (pendN F ln qu)[i]? with
        | none =>
          have hil : (pq j).length ≤ i := by rw [← hplen]; exact List.getElem?_eq_none_iff.mp hpk
          refine lv_if_ne (tgt := 36) hx hb d_M_powerDuring_31 (by decide) (fun c_20 => ?_) (fun c_20 => ?_)
          · exact absurd rfl c_20
          · refine lv_iconst (v := (-1)) hx hb d_M_powerDuring_34 (by decide) ?_
            have e8 : refS pq cq qu x = -1 := by rw [refS, if_neg (fun z => absurd z.2.2 (by rw [hqc, hxi, nI_ltI (by omega) (by omega)]; omega))]
            have e9 : pdurS lim (fl, us, sn, pw, pq, cq, ln, tn, tr) qu x y = (-1, (fl, us, sn, pw, pq, cq, ln, tn, tr)) := pdur_1 e8
            exact mx_reti G h hrt hlocks d_M_powerDuring_35 (by rw [e9]; exact ⟨rfl, ⟨un, cp, bd, F, R, V, by omega, Nat.le_succ_of_le hct, by omega, hbd, hQN⟩, FR.rf⟩)
        | some ci =>
          have hcm2 := pendN_mem.mp (List.mem_of_getElem? hpk)
          have hil : i < (pq j).length := by rw [← hplen]; exact lt_of_get hpk
          have hcond : (0 ≤ qu ∧ qu < 3) ∧ 0 ≤ x ∧ x < nI (pq qu.toNatClampNeg).length := ⟨hi3, (bI_n c_10).1, by rw [hqc, hxi]; exact nI_lt hil (by omega)⟩
          refine lv_if_ne (tgt := 36) hx hb d_M_powerDuring_31 (by decide) (fun c_21 => ?_) (fun c_21 => ?_)
          · refine lv_aload_n hx hb d_M_powerDuring_36 rfl (lv_at hl 0 rfl) ?_
            refine lv_iload_n hx hb d_M_powerDuring_37 rfl (lv_at hl 1 rfl) ?_
            refine mx_ci (cV (As := [.int qu]) (rest := []) G h (m_M_done X hun hcm hcp (x := qu)) k_402 k_404 ks_15 k_7 k_405 hd_M_done rfl rfl ⟨Nat.le_of_ble_eq_true rfl, Nat.le_of_ble_eq_true rfl⟩ X.1 rfl rfl hl.1 rfl (Nat.le_of_ble_eq_true rfl) d_M_powerDuring_38 ⟨Nat.le_of_ble_eq_true rfl, Nat.le_of_ble_eq_true rfl⟩) h (fun r_23 w_22 H locs h hcp1 => ?_)
            obtain ⟨er_24, ew_25⟩ := hcp1
            subst er_24
            rw [ew_25] at h
            have et_26 : nI (doneN F cp qu).length = nI (cq j).length := by rw [hclen]
            rw [et_26]
            refine lv_iconst (v := 4) hx hb d_M_powerDuring_41 (by decide) ?_
            refine lv_icmp_ne (tgt := 48) hx hb d_M_powerDuring_42 (by decide) (fun c_27 => ?_) (fun c_27 => ?_)
            · have hlt : (cq j).length < 4 := by
                rcases Nat.lt_or_ge (cq j).length 4 with z | z
                · exact z
                · exact absurd (by rw [show (cq j).length = 4 by omega]; rfl) c_27
              have e8 : refS pq cq qu x = 0 := by rw [refS, if_pos hcond, hqc, if_neg (by omega)]
              refine lv_aload_n hx hb d_M_powerDuring_48 rfl (lv_at hl 0 rfl) ?_
              refine mx_get G h X.1 rfl 9 (by decide) (tb_in in_M) (tb_c k_321) rfl rfl d_M_powerDuring_49 ?_
              refine lv_istore (lv' := [(4, .int (nI pw)), (0, .ref (q 0)), (1, .int qu), (2, .int x), (3, .int y)]) hx hb d_M_powerDuring_52 hl (by decide) rfl (fun ls hl => ?_)
              refine lv_aload_n hx hb d_M_powerDuring_54 rfl (lv_at hl 1 rfl) ?_
              refine lv_iload_n hx hb d_M_powerDuring_55 rfl (lv_at hl 4 rfl) ?_
              refine mx_put G h X.1 rfl 10 (by decide) (tb_in in_M) t_M t_M_ok n_M (tb_c k_322) rfl rfl rfl rfl rfl (Nat.le_of_ble_eq_true rfl) d_M_powerDuring_56 (fun H locs h => ?_)
              have h : mw_H n0 D cl s (mw_up w (q 0) (.inr (5, [.int (nI lim), .ref (q 1), .ref (q 2), .ref (q 3), .ref (q 4), .ref (q 5), .ref (q 6), .int (nI un), .int (nI sn), .int (nI pw), .int y, .ref (q 11), .ref (q 12), .ref (q 13), .ref (q 14), .ref (q 15), .int (nI ln), .ref (q 17), .ref (q 18), .ref (q 19), .int (nI cp), .int tn, .long tr]))) H locs := h
              obtain ⟨w_28, ew_28⟩ : ∃ xx : mw, mw_up w (q 0) (.inr (5, [.int (nI lim), .ref (q 1), .ref (q 2), .ref (q 3), .ref (q 4), .ref (q 5), .ref (q 6), .int (nI un), .int (nI sn), .int (nI pw), .int y, .ref (q 11), .ref (q 12), .ref (q 13), .ref (q 14), .ref (q 15), .int (nI ln), .ref (q 17), .ref (q 18), .ref (q 19), .int (nI cp), .int tn, .long tr])) = xx := ⟨_, rfl⟩
              rw [ew_28] at h
              have f_29 : w_28 (q 0) = some (.inr (5, [.int (nI lim), .ref (q 1), .ref (q 2), .ref (q 3), .ref (q 4), .ref (q 5), .ref (q 6), .int (nI un), .int (nI sn), .int (nI pw), .int y, .ref (q 11), .ref (q 12), .ref (q 13), .ref (q 14), .ref (q 15), .int (nI ln), .ref (q 17), .ref (q 18), .ref (q 19), .int (nI cp), .int tn, .long tr])) := by rw [← ew_28]; exact mw_self
              have X0 : MX cA w_28 ρ q lim un sn pw pgs ln cp tn tr F R := by subst hyp; rw [← ew_28]; exact X.put0 un sn pw pgs ln cp tn tr
              have hfr0 : FR w w_28 (P7 ρ) := by rw [← ew_28]; exact FQ X.2.2.2.2.2.1
              have V0 : MC cA w_28 ρ q lim un ln cp tn tr F R (fl, us, sn, pw, pgs) := ⟨X0, hG⟩
              obtain ⟨⟨kd, hkd, hkk⟩, hVd⟩ := hQv ci hcm2.1.1 hcm2.1.2
              have hkk : F 12 ci = nI kd := hkk
              have hVd : kd ≠ 3 → vU (uof (cmdN F ci)) := fun z => hVd.resolve_left (fun y => z (by have y2 := hkk.symm.trans y; exact (nI_eq (b := 3) (by omega) (by decide)).mp y2))
              refine lv_aload_n hx hb d_M_powerDuring_59 rfl (lv_at hl 1 rfl) ?_
              refine lv_aload_n hx hb d_M_powerDuring_60 rfl (lv_at hl 1 rfl) ?_
              refine lv_iload_n hx hb d_M_powerDuring_61 rfl (lv_at hl 2 rfl) ?_
              refine lv_iload_n hx hb d_M_powerDuring_62 rfl (lv_at hl 3 rfl) ?_
              refine mx_ci (cV (As := [.int qu, .int x]) (rest := [.ref (q 0)]) G h (m_M_picked X0 hun hcm hcp (x := qu) (y := x) hxi (by omega)) k_398 k_400 ks_14 k_7 k_401 hd_M_picked rfl rfl ⟨Nat.le_of_ble_eq_true rfl, Nat.le_of_ble_eq_true rfl⟩ X0.1 rfl rfl hl.1 rfl (Nat.le_of_ble_eq_true rfl) d_M_powerDuring_63 ⟨Nat.le_of_ble_eq_true rfl, Nat.le_of_ble_eq_true rfl⟩) h (fun r_31 w_30 H locs h hcp1 => ?_)
              obtain ⟨er_32, ew_33⟩ := hcp1
              subst er_32
              rw [ew_33] at h
              rw [hpk]
              refine mx_cl (cV (As := [.int (nI ci)]) (rest := []) G h (m_M_work V0 hcm hcp (by omega) (by omega) hlim (ci := ci) (by omega) hkk hkd hVd rfl) k_406 k_408 ks_16 k_7 k_409 hd_M_work rfl rfl ⟨Nat.le_of_ble_eq_true rfl, Nat.le_of_ble_eq_true rfl⟩ X0.1 rfl rfl hl.1 rfl (Nat.le_of_ble_eq_true rfl) d_M_powerDuring_66 ⟨Nat.le_of_ble_eq_true rfl, Nat.le_of_ble_eq_true rfl⟩) h (fun r_35 w_34 H locs h hcp1 => ?_)
              obtain ⟨er, F1, un1, hu1, V1, hsf, hf1⟩ := hcp1
              have hcns : (carA lim kd (uof (cmdN F ci)) (fl, us, sn, pw, pgs)).2.2.2.2.1 + (carA lim kd (uof (cmdN F ci)) (fl, us, sn, pw, pgs)).2.2.2.2.2 = pw + pgs := carA_cons
              have hpl9 : (carA lim kd (uof (cmdN F ci)) (fl, us, sn, pw, pgs)).2.2.2.2.2 ≤ pgs := carA_pl
              have Y1 : MR cA w_34 ρ q lim (t + 1) ((carA lim kd (uof (cmdN F ci)) (fl, us, sn, pw, pgs)).2.1, (carA lim kd (uof (cmdN F ci)) (fl, us, sn, pw, pgs)).2.2.1, (carA lim kd (uof (cmdN F ci)) (fl, us, sn, pw, pgs)).2.2.2.1, (carA lim kd (uof (cmdN F ci)) (fl, us, sn, pw, pgs)).2.2.2.2.1, pq, cq, ln, tn, tr) := ⟨un1, cp, _, F1, R, V1, by omega, Nat.le_succ_of_le hct, by omega, (by show (carA lim kd (uof (cmdN F ci)) (fl, us, sn, pw, pgs)).2.2.2.2.2 < 1000; omega), hQN.sf hsf⟩
              refine lv_lstore (lv' := [(5, .long r_35), (4, .int (nI pw)), (0, .ref (q 0)), (1, .int qu), (2, .int x), (3, .int y)]) hx hb d_M_powerDuring_69 hl (by decide) rfl (fun ls hl => ?_)
              refine lv_aload_n hx hb d_M_powerDuring_71 rfl (lv_at hl 2 rfl) ?_
              refine mx_ci (cV (As := []) (rest := []) G h (m_M_power Y1 ht) k_475 k_467 k_468 k_7 k_469 hd_M_power rfl rfl ⟨Nat.le_of_ble_eq_true rfl, Nat.le_of_ble_eq_true rfl⟩ V1.1.1 rfl rfl hl.1 rfl (Nat.le_of_ble_eq_true rfl) d_M_powerDuring_72 ⟨Nat.le_of_ble_eq_true rfl, Nat.le_of_ble_eq_true rfl⟩) h (fun r_37 w_36 H locs h hcp1 => ?_)
              obtain ⟨-, Y2, hf2⟩ := hcp1
              obtain ⟨un2, cp2, bd2, F2, R2, V2, hrest⟩ := id Y2
              refine lv_istore (lv' := [(7, .int r_37), (5, .long r_35), (4, .int (nI pw)), (0, .ref (q 0)), (1, .int qu), (2, .int x), (3, .int y)]) hx hb d_M_powerDuring_75 hl (by decide) rfl (fun ls hl => ?_)
              refine lv_aload_n hx hb d_M_powerDuring_77 rfl (lv_at hl 3 rfl) ?_
              refine mx_get G h V2.1.1 rfl 9 (by decide) (tb_in in_M) (tb_c k_321) rfl rfl d_M_powerDuring_78 ?_
              refine lv_iload hx hb d_M_powerDuring_81 (lv_at hl 2 rfl) ?_
              refine lv_isub hx hb d_M_powerDuring_83 ?_
              have hd9 : (pq j)[i]? = some (cmdN F ci) := by rw [hQp j hj, List.getElem?_map, ← hqj, hpk]; rfl
              have hkc : (cmdN F ci).2.1.toNatClampNeg = kd := by show (F 12 ci).toNatClampNeg = kd; rw [hkk]; exact nI_c (by omega)
              have e9 : pdurS lim (fl, us, sn, pw, pq, cq, ln, tn, tr) qu x y = (y - nI (carA lim kd (uof (cmdN F ci)) (fl, us, sn, pw, pgs)).2.2.2.2.2, ((carA lim kd (uof (cmdN F ci)) (fl, us, sn, pw, pgs)).2.1, [], (carA lim kd (uof (cmdN F ci)) (fl, us, sn, pw, pgs)).2.2.2.1, (carA lim kd (uof (cmdN F ci)) (fl, us, sn, pw, pgs)).2.2.2.2.1, (fun _ => []), (fun _ => []), ln, tn, tr)) := by simp only [pdurS]; rw [if_pos hy0, if_pos e8, hqc, hxc, hyc, hd9]; simp only [hkc]
              exact mx_reti G h hrt hlocks d_M_powerDuring_84 (by rw [e9]; exact ⟨by show nI (carA lim kd (uof (cmdN F ci)) (fl, us, sn, pw, pgs)).2.2.2.2.1 - nI pw = y - nI (carA lim kd (uof (cmdN F ci)) (fl, us, sn, pw, pgs)).2.2.2.2.2; rw [hyp, pk_sub hpl9, pk_sub (by omega)]; congr 1; omega, ⟨un2, cp2, bd2, F2, R2, V2, hrest⟩, (hfr0.tr hf1).tr hf2⟩)
            · refine lv_bipush (v := -3) hx hb d_M_powerDuring_45 (by decide) ?_
              have hge : (cq j).length = 4 := (nI_eq (by omega) (by decide)).mp c_27
              have e8 : refS pq cq qu x = -3 := by rw [refS, if_pos hcond, hqc, if_pos (by omega)]
              have e9 : pdurS lim (fl, us, sn, pw, pq, cq, ln, tn, tr) qu x y = (-3, (fl, us, sn, pw, pq, cq, ln, tn, tr)) := by simp only [pdurS]; rw [if_pos hy0, e8, if_neg (by decide)]
              exact mx_reti G h hrt hlocks d_M_powerDuring_47 (by rw [e9]; exact ⟨rfl, ⟨un, cp, bd, F, R, V, by omega, Nat.le_succ_of_le hct, by omega, hbd, hQN⟩, FR.rf⟩)
          · exact absurd c_21 (nI_ne0 (by omega) (by omega))
set_option maxHeartbeats 4000000 in
set_option maxRecDepth 100000 in
theorem m_M_word {l : Launch} {D : va_G} {cA : Nat → ClassId} {n0 : Nat} {w : mw} {ρ q : Nat → Nat} {lim t : Nat} {fl : Nat → Int64} {us : List uU} {sn pw : Nat} {pq : Nat → List pC} {cq : Nat → List (Int32 × Int64)} {ln : Nat} {tn : Int32} {tr : Int64} (Y : MR cA w ρ q lim t (fl, us, sn, pw, pq, cq, ln, tn, tr)) (ht : t ≤ 512) {x : Int32} :
    Ml l D cA n0 y_M_word c_M_word (rmd 3) [.ref (q 0), .int x] w (fun r w' => r = wordS (fl, us, sn, pw, pq, cq, ln, tn, tr) x ∧ w' = w) := by
  refine mw_met (cc := b_M_word) (maxL := 2) (ret := (some .long)) (by decide) rfl (Nat.le_of_ble_eq_true rfl) ?_
  intro p e s m below meth c ls G hrt hlocks hname h hl
  have G : mw_G p m c b_M_word 2 s _ (c_M_word :: TB) R_M D cl (tys cA) n0 := G
  have hx := G.1.1
  have hb := G.1.2.1
  have hl : lv_has ls 2 [(0, .ref (q 0)), (1, .int x)] := hl
  obtain ⟨un, cp, bd, F, R, V, hut, hct, hpt, hbd, hQN⟩ := id Y
  have V : MC cA w ρ q lim un ln cp tn tr F R (fl, us, sn, pw, bd) := V
  have hct : ln ≤ t := hct
  have hQN : QN F R ln cp pq cq := hQN
  obtain ⟨X, hG⟩ := id V
  have X : MX cA w ρ q lim un sn pw bd ln cp tn tr F R := X
  have hG : LG F un sn fl us := hG
  obtain ⟨hQp, hQc, hQl, hQv⟩ := id hQN
  have hun : un ≤ 512 := by omega
  have hcm : ln ≤ 512 := by omega
  have hcp : cp ≤ 512 := by omega
  refine lv_iload_n hx hb d_M_word_0 rfl (lv_at hl 1 rfl) ?_
  refine lv_bipush (v := 24) hx hb d_M_word_1 (by decide) ?_
  refine mx_ci (cS (As := [.int x, .int 24]) (rest := []) G h (m_M_in (x := x) (n := 24)) k_387 k_388 k_7 k_389 rfl hd_M_in rfl rfl ⟨Nat.le_of_ble_eq_true rfl, Nat.le_of_ble_eq_true rfl⟩ rfl hl.1 rfl (Nat.le_of_ble_eq_true rfl) d_M_word_3 ⟨Nat.le_of_ble_eq_true rfl, Nat.le_of_ble_eq_true rfl⟩) h (fun r_2 w_1 H locs h hcp1 => ?_)
  obtain ⟨er_3, ew_4⟩ := hcp1
  subst er_3
  rw [ew_4] at h
  refine lv_if_eq (tgt := 17) hx hb d_M_word_6 (by decide) (fun c_5 => ?_) (fun c_5 => ?_)
  · refine lv_ldc2 (v := NN) hx hb G.1.2.2.2.1 (G.1.2.2.2.2 _ (tb_c k_311)) d_M_word_17 ?_
    exact mx_retl G h hrt hlocks d_M_word_20 (⟨by rw [wordS, if_neg (bI_0 c_5)], rfl⟩)
  · have hi3 := bI_n c_5
    obtain ⟨j, hj, hxj⟩ := ixQ 24 rfl (by decide) hi3.1 hi3.2
    have hxc : x.toNatClampNeg = j := by rw [hxj]; exact nI_c (by omega)
    refine lv_aload_n hx hb d_M_word_9 rfl (lv_at hl 0 rfl) ?_
    refine lv_iload_n hx hb d_M_word_10 rfl (lv_at hl 1 rfl) ?_
    refine mx_cl (cV (As := [.int x]) (rest := []) G h (m_M_holds X hun hcm hcp (x := x)) k_414 k_416 ks_18 k_7 k_417 hd_M_holds rfl rfl ⟨Nat.le_of_ble_eq_true rfl, Nat.le_of_ble_eq_true rfl⟩ X.1 rfl rfl hl.1 rfl (Nat.le_of_ble_eq_true rfl) d_M_word_11 ⟨Nat.le_of_ble_eq_true rfl, Nat.le_of_ble_eq_true rfl⟩) h (fun r_7 w_6 H locs h hcp1 => ?_)
    obtain ⟨er_8, ew_9⟩ := hcp1
    subst er_8
    rw [ew_9] at h
    refine lv_goto (tgt := 20) hx hb d_M_word_14 (by decide) ?_
    exact mx_retl G h hrt hlocks d_M_word_20 (⟨by rw [wordS, if_pos hi3, hxc, hxj]; exact hG.hldE hj, rfl⟩)
set_option maxHeartbeats 4000000 in
set_option maxRecDepth 100000 in
theorem m_M_flash {l : Launch} {D : va_G} {cA : Nat → ClassId} {n0 : Nat} {w : mw} {ρ q : Nat → Nat} {lim t : Nat} {fl : Nat → Int64} {us : List uU} {sn pw : Nat} {pq : Nat → List pC} {cq : Nat → List (Int32 × Int64)} {ln : Nat} {tn : Int32} {tr : Int64} (Y : MR cA w ρ q lim t (fl, us, sn, pw, pq, cq, ln, tn, tr)) (ht : t ≤ 512) {x : Int32} :
    Ml l D cA n0 y_M_flash c_M_flash (rmd 3) [.ref (q 0), .int x] w (fun r w' => r = flashS (fl, us, sn, pw, pq, cq, ln, tn, tr) x ∧ w' = w) := by
  refine mw_met (cc := b_M_flash) (maxL := 2) (ret := (some .long)) (by decide) rfl (Nat.le_of_ble_eq_true rfl) ?_
  intro p e s m below meth c ls G hrt hlocks hname h hl
  have G : mw_G p m c b_M_flash 2 s _ (c_M_flash :: TB) R_M D cl (tys cA) n0 := G
  have hx := G.1.1
  have hb := G.1.2.1
  have hl : lv_has ls 2 [(0, .ref (q 0)), (1, .int x)] := hl
  obtain ⟨un, cp, bd, F, R, V, hut, hct, hpt, hbd, hQN⟩ := id Y
  have V : MC cA w ρ q lim un ln cp tn tr F R (fl, us, sn, pw, bd) := V
  have hct : ln ≤ t := hct
  have hQN : QN F R ln cp pq cq := hQN
  obtain ⟨X, hG⟩ := id V
  have X : MX cA w ρ q lim un sn pw bd ln cp tn tr F R := X
  have hG : LG F un sn fl us := hG
  obtain ⟨hQp, hQc, hQl, hQv⟩ := id hQN
  have hun : un ≤ 512 := by omega
  have hcm : ln ≤ 512 := by omega
  have hcp : cp ≤ 512 := by omega
  refine lv_iload_n hx hb d_M_flash_0 rfl (lv_at hl 1 rfl) ?_
  refine lv_bipush (v := 24) hx hb d_M_flash_1 (by decide) ?_
  refine mx_ci (cS (As := [.int x, .int 24]) (rest := []) G h (m_M_in (x := x) (n := 24)) k_387 k_388 k_7 k_389 rfl hd_M_in rfl rfl ⟨Nat.le_of_ble_eq_true rfl, Nat.le_of_ble_eq_true rfl⟩ rfl hl.1 rfl (Nat.le_of_ble_eq_true rfl) d_M_flash_3 ⟨Nat.le_of_ble_eq_true rfl, Nat.le_of_ble_eq_true rfl⟩) h (fun r_2 w_1 H locs h hcp1 => ?_)
  obtain ⟨er_3, ew_4⟩ := hcp1
  subst er_3
  rw [ew_4] at h
  refine lv_if_eq (tgt := 17) hx hb d_M_flash_6 (by decide) (fun c_5 => ?_) (fun c_5 => ?_)
  · refine lv_ldc2 (v := NN) hx hb G.1.2.2.2.1 (G.1.2.2.2.2 _ (tb_c k_311)) d_M_flash_17 ?_
    exact mx_retl G h hrt hlocks d_M_flash_20 (⟨by rw [flashS, if_neg (bI_0 c_5)], rfl⟩)
  · have hi3 := bI_n c_5
    obtain ⟨j, hj, hxj⟩ := ixQ 24 rfl (by decide) hi3.1 hi3.2
    have hxc : x.toNatClampNeg = j := by rw [hxj]; exact nI_c (by omega)
    refine lv_aload_n hx hb d_M_flash_9 rfl (lv_at hl 0 rfl) ?_
    refine lv_iload_n hx hb d_M_flash_10 rfl (lv_at hl 1 rfl) ?_
    refine mx_cl (cV (As := [.int x]) (rest := []) G h (m_M_inFlash X hun hcm hcp (x := x)) k_426 k_428 ks_21 k_7 k_429 hd_M_inFlash rfl rfl ⟨Nat.le_of_ble_eq_true rfl, Nat.le_of_ble_eq_true rfl⟩ X.1 rfl rfl hl.1 rfl (Nat.le_of_ble_eq_true rfl) d_M_flash_11 ⟨Nat.le_of_ble_eq_true rfl, Nat.le_of_ble_eq_true rfl⟩) h (fun r_7 w_6 H locs h hcp1 => ?_)
    obtain ⟨er_8, ew_9⟩ := hcp1
    subst er_8
    rw [ew_9] at h
    refine lv_goto (tgt := 20) hx hb d_M_flash_14 (by decide) ?_
    exact mx_retl G h hrt hlocks d_M_flash_20 (⟨by rw [flashS, if_pos hi3, hxc, hxj]; exact (hG.2.1 j hj).symm, rfl⟩)
set_option maxHeartbeats 4000000 in
set_option maxRecDepth 100000 in
theorem m_M_queue {l : Launch} {D : va_G} {cA : Nat → ClassId} {n0 : Nat} {w : mw} {ρ q : Nat → Nat} {lim t : Nat} {fl : Nat → Int64} {us : List uU} {sn pw : Nat} {pq : Nat → List pC} {cq : Nat → List (Int32 × Int64)} {ln : Nat} {tn : Int32} {tr : Int64} (Y : MR cA w ρ q lim t (fl, us, sn, pw, pq, cq, ln, tn, tr)) (ht : t ≤ 512) {qu x : Int32} :
    Mi l D cA n0 y_M_queue c_M_queue (rmd 1) [.ref (q 0), .int qu, .int x] w (fun r w' => r = queueS (fl, us, sn, pw, pq, cq, ln, tn, tr) qu x ∧ w' = w) := by
  refine mw_met (cc := b_M_queue) (maxL := 4) (ret := (some .int)) (by decide) rfl (Nat.le_of_ble_eq_true rfl) ?_
  intro p e s m below meth c ls G hrt hlocks hname h hl
  have G : mw_G p m c b_M_queue 4 s _ (c_M_queue :: TB) R_M D cl (tys cA) n0 := G
  have hx := G.1.1
  have hb := G.1.2.1
  have hl : lv_has ls 4 [(0, .ref (q 0)), (1, .int qu), (2, .int x)] := hl
  obtain ⟨un, cp, bd, F, R, V, hut, hct, hpt, hbd, hQN⟩ := id Y
  have V : MC cA w ρ q lim un ln cp tn tr F R (fl, us, sn, pw, bd) := V
  have hct : ln ≤ t := hct
  have hQN : QN F R ln cp pq cq := hQN
  obtain ⟨X, hG⟩ := id V
  have X : MX cA w ρ q lim un sn pw bd ln cp tn tr F R := X
  have hG : LG F un sn fl us := hG
  obtain ⟨hQp, hQc, hQl, hQv⟩ := id hQN
  have hun : un ≤ 512 := by omega
  have hcm : ln ≤ 512 := by omega
  have hcp : cp ≤ 512 := by omega
  refine lv_iload_n hx hb d_M_queue_0 rfl (lv_at hl 1 rfl) ?_
  refine lv_iconst (v := 3) hx hb d_M_queue_1 (by decide) ?_
  refine mx_ci (cS (As := [.int qu, .int 3]) (rest := []) G h (m_M_in (x := qu) (n := 3)) k_387 k_388 k_7 k_389 rfl hd_M_in rfl rfl ⟨Nat.le_of_ble_eq_true rfl, Nat.le_of_ble_eq_true rfl⟩ rfl hl.1 rfl (Nat.le_of_ble_eq_true rfl) d_M_queue_2 ⟨Nat.le_of_ble_eq_true rfl, Nat.le_of_ble_eq_true rfl⟩) h (fun r_2 w_1 H locs h hcp1 => ?_)
  obtain ⟨er_3, ew_4⟩ := hcp1
  subst er_3
  rw [ew_4] at h
  refine lv_if_eq (tgt := 17) hx hb d_M_queue_5 (by decide) (fun c_5 => ?_) (fun c_5 => ?_)
  · refine lv_iconst (v := (-1)) hx hb d_M_queue_17 (by decide) ?_
    exact mx_reti G h hrt hlocks d_M_queue_18 (⟨by rw [queueS, if_neg (bI_0 c_5)], rfl⟩)
  · have hi3 := bI_n c_5
    obtain ⟨j, hj, hqj⟩ := ixQ 3 rfl (by decide) hi3.1 hi3.2
    have hqc : qu.toNatClampNeg = j := by rw [hqj]; exact nI_c (by omega)
    have hplen : (pendN F ln qu).length = (pq j).length := by rw [hqj, hQp j hj, List.length_map]
    have hclen : (doneN F cp qu).length = (cq j).length := by rw [hqj, hQc j hj, List.length_map]
    have hp4 := (hQl j hj).1
    have hc4 := (hQl j hj).2
    refine lv_iload_n hx hb d_M_queue_8 rfl (lv_at hl 2 rfl) ?_
    refine lv_bipush (v := 6) hx hb d_M_queue_9 (by decide) ?_
    refine mx_ci (cS (As := [.int x, .int 6]) (rest := []) G h (m_M_in (x := x) (n := 6)) k_387 k_388 k_7 k_389 rfl hd_M_in rfl rfl ⟨Nat.le_of_ble_eq_true rfl, Nat.le_of_ble_eq_true rfl⟩ rfl hl.1 rfl (Nat.le_of_ble_eq_true rfl) d_M_queue_11 ⟨Nat.le_of_ble_eq_true rfl, Nat.le_of_ble_eq_true rfl⟩) h (fun r_7 w_6 H locs h hcp1 => ?_)
    obtain ⟨er_8, ew_9⟩ := hcp1
    subst er_8
    rw [ew_9] at h
    refine lv_if_ne (tgt := 19) hx hb d_M_queue_14 (by decide) (fun c_10 => ?_) (fun c_10 => ?_)
    · refine lv_iload_n hx hb d_M_queue_19 rfl (lv_at hl 2 rfl) ?_
      refine lv_if_ne (tgt := 29) hx hb d_M_queue_20 (by decide) (fun c_11 => ?_) (fun c_11 => ?_)
      · refine lv_iload_n hx hb d_M_queue_29 rfl (lv_at hl 2 rfl) ?_
        refine lv_iconst (v := 1) hx hb d_M_queue_30 (by decide) ?_
        refine lv_icmp_ne (tgt := 40) hx hb d_M_queue_31 (by decide) (fun c_12 => ?_) (fun c_12 => ?_)
        · obtain ⟨i, hi6, hxi⟩ := ixQ 6 rfl (by decide) (bI_n c_10).1 (bI_n c_10).2
          have hi2 : 2 ≤ i := by
            rcases (show i = 0 ∨ i = 1 ∨ 2 ≤ i by omega) with z | z | z
            · exact absurd (by rw [hxi, z]; rfl) c_11
            · exact absurd (by rw [hxi, z]; rfl) c_12
            · exact z
          have hx2 : x - 2 = nI (i - 2) := by rw [hxi]; exact pk_sub (b := 2) hi2
          have h25 : 2 ≤ x ∧ x ≤ 5 := ⟨by rw [hxi]; exact nI_le (a := 2) hi2 (by omega), by rw [hxi]; exact nI_le (b := 5) (by omega) (by decide)⟩
          refine lv_aload_n hx hb d_M_queue_40 rfl (lv_at hl 0 rfl) ?_
          refine lv_iload_n hx hb d_M_queue_41 rfl (lv_at hl 1 rfl) ?_
          refine lv_iload_n hx hb d_M_queue_42 rfl (lv_at hl 2 rfl) ?_
          refine lv_iconst (v := 2) hx hb d_M_queue_43 (by decide) ?_
          refine lv_isub hx hb d_M_queue_44 ?_
          refine mx_ci (cV (As := [.int qu, .int (x - 2)]) (rest := []) G h (m_M_picked X hun hcm hcp (x := qu) (y := x - 2) hx2 (by omega)) k_398 k_400 ks_14 k_7 k_401 hd_M_picked rfl rfl ⟨Nat.le_of_ble_eq_true rfl, Nat.le_of_ble_eq_true rfl⟩ X.1 rfl rfl hl.1 rfl (Nat.le_of_ble_eq_true rfl) d_M_queue_45 ⟨Nat.le_of_ble_eq_true rfl, Nat.le_of_ble_eq_true rfl⟩) h (fun r_14 w_13 H locs h hcp1 => ?_)
          obtain ⟨er_15, ew_16⟩ := hcp1
          subst er_15
          rw [ew_16] at h
          have hmp : (pq j)[i - 2]? = ((pendN F ln qu)[i - 2]?).map (cmdN F) := by rw [hQp j hj, List.getElem?_map, hqj]
          cases hpk : (pendN F ln qu)[i - 2]? with
          | none =>
            refine W.eq (g2 := F0 m 48 ls [.int 0]) rfl ?_
            refine lv_istore_n (lv' := [(3, .int 0), (0, .ref (q 0)), (1, .int qu), (2, .int x)]) hx hb d_M_queue_48 rfl hl (by decide) rfl (fun ls hl => ?_)
            refine lv_iload_n hx hb d_M_queue_49 rfl (lv_at hl 0 rfl) ?_
            refine lv_if_ne (tgt := 57) hx hb d_M_queue_50 (by decide) (fun c_17 => ?_) (fun c_17 => ?_)
            · exact absurd rfl c_17
            · refine lv_iconst (v := (-1)) hx hb d_M_queue_53 (by decide) ?_
              refine lv_goto (tgt := 58) hx hb d_M_queue_54 (by decide) ?_
              exact mx_reti G h hrt hlocks d_M_queue_58 (⟨by rw [queueS, if_pos hi3, if_neg c_11, if_neg c_12, if_pos h25, hqc, hx2, nI_c (by omega)]; show _ = match (pq j)[i - 2]? with | some c => c.1 | none => -1; rw [hmp, hpk]; rfl, rfl⟩)
          | some ci =>
            refine W.eq (g2 := F0 m 48 ls [.int (nI ci)]) rfl ?_
            have hcm2 := pendN_mem.mp (List.mem_of_getElem? hpk)
            refine lv_istore_n (lv' := [(3, .int (nI ci)), (0, .ref (q 0)), (1, .int qu), (2, .int x)]) hx hb d_M_queue_48 rfl hl (by decide) rfl (fun ls hl => ?_)
            refine lv_iload_n hx hb d_M_queue_49 rfl (lv_at hl 0 rfl) ?_
            refine lv_if_ne (tgt := 57) hx hb d_M_queue_50 (by decide) (fun c_18 => ?_) (fun c_18 => ?_)
            · refine lv_iload_n hx hb d_M_queue_57 rfl (lv_at hl 0 rfl) ?_
              exact mx_reti G h hrt hlocks d_M_queue_58 (⟨by rw [queueS, if_pos hi3, if_neg c_11, if_neg c_12, if_pos h25, hqc, hx2, nI_c (by omega)]; show _ = match (pq j)[i - 2]? with | some c => c.1 | none => -1; rw [hmp, hpk]; rfl, rfl⟩)
            · exact absurd c_18 (nI_ne0 (by omega) (by omega))
        · refine lv_aload_n hx hb d_M_queue_34 rfl (lv_at hl 0 rfl) ?_
          refine lv_iload_n hx hb d_M_queue_35 rfl (lv_at hl 1 rfl) ?_
          refine mx_ci (cV (As := [.int qu]) (rest := []) G h (m_M_done X hun hcm hcp (x := qu)) k_402 k_404 ks_15 k_7 k_405 hd_M_done rfl rfl ⟨Nat.le_of_ble_eq_true rfl, Nat.le_of_ble_eq_true rfl⟩ X.1 rfl rfl hl.1 rfl (Nat.le_of_ble_eq_true rfl) d_M_queue_36 ⟨Nat.le_of_ble_eq_true rfl, Nat.le_of_ble_eq_true rfl⟩) h (fun r_20 w_19 H locs h hcp1 => ?_)
          obtain ⟨er_21, ew_22⟩ := hcp1
          subst er_21
          rw [ew_22] at h
          exact mx_reti G h hrt hlocks d_M_queue_39 (⟨by rw [queueS, if_pos hi3, if_neg c_11, if_pos c_12, hqc, hclen], rfl⟩)
      · refine lv_aload_n hx hb d_M_queue_23 rfl (lv_at hl 0 rfl) ?_
        refine lv_iload_n hx hb d_M_queue_24 rfl (lv_at hl 1 rfl) ?_
        refine mx_ci (cV (As := [.int qu]) (rest := []) G h (m_M_pending X hun hcm hcp (x := qu)) k_390 k_392 ks_13 k_7 k_393 hd_M_pending rfl rfl ⟨Nat.le_of_ble_eq_true rfl, Nat.le_of_ble_eq_true rfl⟩ X.1 rfl rfl hl.1 rfl (Nat.le_of_ble_eq_true rfl) d_M_queue_25 ⟨Nat.le_of_ble_eq_true rfl, Nat.le_of_ble_eq_true rfl⟩) h (fun r_24 w_23 H locs h hcp1 => ?_)
        obtain ⟨er_25, ew_26⟩ := hcp1
        subst er_25
        rw [ew_26] at h
        exact mx_reti G h hrt hlocks d_M_queue_28 (⟨by rw [queueS, if_pos hi3, if_pos c_11, hqc, hplen], rfl⟩)
    · refine lv_iconst (v := (-1)) hx hb d_M_queue_17 (by decide) ?_
      exact mx_reti G h hrt hlocks d_M_queue_18 (⟨by rw [queueS, if_pos hi3, if_neg (fun z => bI_0 c_10 (by rw [z]; decide)), if_neg (fun z => bI_0 c_10 (by rw [z]; decide)), if_neg (fun z => bI_0 c_10 ⟨Int32.le_trans (by decide) z.1, lt6.mpr z.2⟩)], rfl⟩)
set_option maxHeartbeats 4000000 in
set_option maxRecDepth 100000 in
theorem m_M_count {l : Launch} {D : va_G} {cA : Nat → ClassId} {n0 : Nat} {w : mw} {ρ q : Nat → Nat} {lim t : Nat} {fl : Nat → Int64} {us : List uU} {sn pw : Nat} {pq : Nat → List pC} {cq : Nat → List (Int32 × Int64)} {ln : Nat} {tn : Int32} {tr : Int64} (Y : MR cA w ρ q lim t (fl, us, sn, pw, pq, cq, ln, tn, tr)) (ht : t ≤ 512) {x : Int32} :
    Mi l D cA n0 y_M_count c_M_count (rmd 1) [.ref (q 0), .int x] w (fun r w' => r = countS (fl, us, sn, pw, pq, cq, ln, tn, tr) x ∧ w' = w) := by
  refine mw_met (cc := b_M_count) (maxL := 2) (ret := (some .int)) (by decide) rfl (Nat.le_of_ble_eq_true rfl) ?_
  intro p e s m below meth c ls G hrt hlocks hname h hl
  have G : mw_G p m c b_M_count 2 s _ (c_M_count :: TB) R_M D cl (tys cA) n0 := G
  have hx := G.1.1
  have hb := G.1.2.1
  have hl : lv_has ls 2 [(0, .ref (q 0)), (1, .int x)] := hl
  obtain ⟨un, cp, bd, F, R, V, hut, hct, hpt, hbd, hQN⟩ := id Y
  have V : MC cA w ρ q lim un ln cp tn tr F R (fl, us, sn, pw, bd) := V
  have hct : ln ≤ t := hct
  have hQN : QN F R ln cp pq cq := hQN
  obtain ⟨X, hG⟩ := id V
  have X : MX cA w ρ q lim un sn pw bd ln cp tn tr F R := X
  have hG : LG F un sn fl us := hG
  obtain ⟨hQp, hQc, hQl, hQv⟩ := id hQN
  have hun : un ≤ 512 := by omega
  have hcm : ln ≤ 512 := by omega
  have hcp : cp ≤ 512 := by omega
  have hlen : (liveN F un).length = us.length := by rw [hG.1, List.length_map]
  refine lv_iload_n hx hb d_M_count_0 rfl (lv_at hl 1 rfl) ?_
  refine lv_if_ne (tgt := 9) hx hb d_M_count_1 (by decide) (fun c_1 => ?_) (fun c_1 => ?_)
  · refine lv_iload_n hx hb d_M_count_9 rfl (lv_at hl 1 rfl) ?_
    refine lv_iconst (v := 1) hx hb d_M_count_10 (by decide) ?_
    refine lv_icmp_ne (tgt := 19) hx hb d_M_count_11 (by decide) (fun c_2 => ?_) (fun c_2 => ?_)
    · refine lv_iload_n hx hb d_M_count_19 rfl (lv_at hl 1 rfl) ?_
      refine lv_iconst (v := 2) hx hb d_M_count_20 (by decide) ?_
      refine lv_icmp_ne (tgt := 29) hx hb d_M_count_21 (by decide) (fun c_3 => ?_) (fun c_3 => ?_)
      · refine lv_iload_n hx hb d_M_count_29 rfl (lv_at hl 1 rfl) ?_
        refine lv_iconst (v := 3) hx hb d_M_count_30 (by decide) ?_
        refine lv_icmp_ne (tgt := 39) hx hb d_M_count_31 (by decide) (fun c_4 => ?_) (fun c_4 => ?_)
        · refine lv_iload_n hx hb d_M_count_39 rfl (lv_at hl 1 rfl) ?_
          refine lv_iconst (v := 4) hx hb d_M_count_40 (by decide) ?_
          refine lv_icmp_ne (tgt := 51) hx hb d_M_count_41 (by decide) (fun c_5 => ?_) (fun c_5 => ?_)
          · refine lv_iconst (v := (-1)) hx hb d_M_count_51 (by decide) ?_
            exact mx_reti G h hrt hlocks d_M_count_52 (⟨by rw [countS, if_neg c_1, if_neg c_2, if_neg c_3, if_neg c_4, if_neg c_5], rfl⟩)
          · refine lv_aload_n hx hb d_M_count_44 rfl (lv_at hl 0 rfl) ?_
            refine mx_get G h X.1 rfl 21 (by decide) (tb_in in_M) (tb_c k_333) rfl rfl d_M_count_45 ?_
            refine lv_goto (tgt := 52) hx hb d_M_count_48 (by decide) ?_
            exact mx_reti G h hrt hlocks d_M_count_52 (⟨by rw [countS, if_neg c_1, if_neg c_2, if_neg c_3, if_neg c_4, if_pos c_5], rfl⟩)
        · refine lv_aload_n hx hb d_M_count_34 rfl (lv_at hl 0 rfl) ?_
          refine mx_get G h X.1 rfl 9 (by decide) (tb_in in_M) (tb_c k_321) rfl rfl d_M_count_35 ?_
          exact mx_reti G h hrt hlocks d_M_count_38 (⟨by rw [countS, if_neg c_1, if_neg c_2, if_neg c_3, if_pos c_4], rfl⟩)
      · refine lv_aload_n hx hb d_M_count_24 rfl (lv_at hl 0 rfl) ?_
        refine mx_get G h X.1 rfl 8 (by decide) (tb_in in_M) (tb_c k_320) rfl rfl d_M_count_25 ?_
        exact mx_reti G h hrt hlocks d_M_count_28 (⟨by rw [countS, if_neg c_1, if_neg c_2, if_pos c_3], rfl⟩)
    · refine lv_aload_n hx hb d_M_count_14 rfl (lv_at hl 0 rfl) ?_
      refine mx_get G h X.1 rfl 16 (by decide) (tb_in in_M) (tb_c k_328) rfl rfl d_M_count_15 ?_
      exact mx_reti G h hrt hlocks d_M_count_18 (⟨by rw [countS, if_neg c_1, if_pos c_2], rfl⟩)
  · refine lv_aload_n hx hb d_M_count_4 rfl (lv_at hl 0 rfl) ?_
    refine mx_ci (cV (As := []) (rest := []) G h (m_M_inCache X hun hcm hcp) k_434 k_436 ks_23 k_7 k_437 hd_M_inCache rfl rfl ⟨Nat.le_of_ble_eq_true rfl, Nat.le_of_ble_eq_true rfl⟩ X.1 rfl rfl hl.1 rfl (Nat.le_of_ble_eq_true rfl) d_M_count_5 ⟨Nat.le_of_ble_eq_true rfl, Nat.le_of_ble_eq_true rfl⟩) h (fun r_7 w_6 H locs h hcp1 => ?_)
    obtain ⟨er_8, ew_9⟩ := hcp1
    subst er_8
    rw [ew_9] at h
    exact mx_reti G h hrt hlocks d_M_count_8 (⟨by rw [countS, if_pos c_1, hlen], rfl⟩)
set_option maxHeartbeats 4000000 in
set_option maxRecDepth 100000 in
theorem m_M_unit {l : Launch} {D : va_G} {cA : Nat → ClassId} {n0 : Nat} {w : mw} {ρ q : Nat → Nat} {lim t : Nat} {fl : Nat → Int64} {us : List uU} {sn pw : Nat} {pq : Nat → List pC} {cq : Nat → List (Int32 × Int64)} {ln : Nat} {tn : Int32} {tr : Int64} (Y : MR cA w ρ q lim t (fl, us, sn, pw, pq, cq, ln, tn, tr)) (ht : t ≤ 512) (h6 : us.length ≤ 6) {y x : Int32} :
    Mi l D cA n0 y_M_unit c_M_unit (rmd 1) [.ref (q 0), .int y, .int x] w (fun r w' => r = unitS (fl, us, sn, pw, pq, cq, ln, tn, tr) y x ∧ w' = w) := by
  refine mw_met (cc := b_M_unit) (maxL := 5) (ret := (some .int)) (by decide) rfl (Nat.le_of_ble_eq_true rfl) ?_
  intro p e s m below meth c ls G hrt hlocks hname h hl
  have G : mw_G p m c b_M_unit 5 s _ (c_M_unit :: TB) R_M D cl (tys cA) n0 := G
  have hx := G.1.1
  have hb := G.1.2.1
  have hl : lv_has ls 5 [(0, .ref (q 0)), (1, .int y), (2, .int x)] := hl
  obtain ⟨un, cp, bd, F, R, V, hut, hct, hpt, hbd, hQN⟩ := id Y
  have V : MC cA w ρ q lim un ln cp tn tr F R (fl, us, sn, pw, bd) := V
  have hct : ln ≤ t := hct
  have hQN : QN F R ln cp pq cq := hQN
  obtain ⟨X, hG⟩ := id V
  have X : MX cA w ρ q lim un sn pw bd ln cp tn tr F R := X
  have hG : LG F un sn fl us := hG
  obtain ⟨hQp, hQc, hQl, hQv⟩ := id hQN
  have hun : un ≤ 512 := by omega
  have hcm : ln ≤ 512 := by omega
  have hcp : cp ≤ 512 := by omega
  have hlen : (liveN F un).length = us.length := by rw [hG.1, List.length_map]
  refine lv_iload_n hx hb d_M_unit_0 rfl (lv_at hl 1 rfl) ?_
  refine lv_bipush (v := 6) hx hb d_M_unit_1 (by decide) ?_
  refine mx_ci (cS (As := [.int y, .int 6]) (rest := []) G h (m_M_in (x := y) (n := 6)) k_387 k_388 k_7 k_389 rfl hd_M_in rfl rfl ⟨Nat.le_of_ble_eq_true rfl, Nat.le_of_ble_eq_true rfl⟩ rfl hl.1 rfl (Nat.le_of_ble_eq_true rfl) d_M_unit_3 ⟨Nat.le_of_ble_eq_true rfl, Nat.le_of_ble_eq_true rfl⟩) h (fun r_2 w_1 H locs h hcp1 => ?_)
  obtain ⟨er_3, ew_4⟩ := hcp1
  subst er_3
  rw [ew_4] at h
  refine lv_if_eq (tgt := 25) hx hb d_M_unit_6 (by decide) (fun c_5 => ?_) (fun c_5 => ?_)
  · refine lv_iconst (v := (-1)) hx hb d_M_unit_25 (by decide) ?_
    exact mx_reti G h hrt hlocks d_M_unit_26 (⟨by rw [unitS, if_neg (fun z => bI_0 c_5 ⟨z.1, Int32.lt_of_lt_of_le z.2 (nI_le (b := 6) h6 (by decide))⟩)], rfl⟩)
  · obtain ⟨i, hi6, hyi⟩ := ixQ 6 rfl (by decide) (bI_n c_5).1 (bI_n c_5).2
    have hyc : y.toNatClampNeg = i := by rw [hyi]; exact nI_c (by omega)
    refine lv_iload_n hx hb d_M_unit_9 rfl (lv_at hl 2 rfl) ?_
    refine lv_iconst (v := 3) hx hb d_M_unit_10 (by decide) ?_
    refine mx_ci (cS (As := [.int x, .int 3]) (rest := []) G h (m_M_in (x := x) (n := 3)) k_387 k_388 k_7 k_389 rfl hd_M_in rfl rfl ⟨Nat.le_of_ble_eq_true rfl, Nat.le_of_ble_eq_true rfl⟩ rfl hl.1 rfl (Nat.le_of_ble_eq_true rfl) d_M_unit_11 ⟨Nat.le_of_ble_eq_true rfl, Nat.le_of_ble_eq_true rfl⟩) h (fun r_7 w_6 H locs h hcp1 => ?_)
    obtain ⟨er_8, ew_9⟩ := hcp1
    subst er_8
    rw [ew_9] at h
    refine lv_if_eq (tgt := 25) hx hb d_M_unit_14 (by decide) (fun c_10 => ?_) (fun c_10 => ?_)
    · refine lv_iconst (v := (-1)) hx hb d_M_unit_25 (by decide) ?_
      have hx0 : ¬ x = 0 := fun z => bI_0 c_10 (by rw [z]; decide)
      have hx1 : ¬ x = 1 := fun z => bI_0 c_10 (by rw [z]; decide)
      have hx2 : ¬ x = 2 := fun z => bI_0 c_10 (by rw [z]; decide)
      exact mx_reti G h hrt hlocks d_M_unit_26 (⟨(unit_x hx0 hx1 hx2).symm, rfl⟩)
    · refine lv_iload_n hx hb d_M_unit_17 rfl (lv_at hl 1 rfl) ?_
      refine lv_aload_n hx hb d_M_unit_18 rfl (lv_at hl 0 rfl) ?_
      refine mx_ci (cV (As := []) (rest := [.int y]) G h (m_M_inCache X hun hcm hcp) k_434 k_436 ks_23 k_7 k_437 hd_M_inCache rfl rfl ⟨Nat.le_of_ble_eq_true rfl, Nat.le_of_ble_eq_true rfl⟩ X.1 rfl rfl hl.1 rfl (Nat.le_of_ble_eq_true rfl) d_M_unit_19 ⟨Nat.le_of_ble_eq_true rfl, Nat.le_of_ble_eq_true rfl⟩) h (fun r_12 w_11 H locs h hcp1 => ?_)
      obtain ⟨er_13, ew_14⟩ := hcp1
      subst er_13
      rw [ew_14] at h
      have et_15 : nI (liveN F un).length = nI us.length := by rw [hlen]
      rw [et_15]
      refine lv_icmp_lt (tgt := 27) hx hb d_M_unit_22 (by decide) (fun c_16 => ?_) (fun c_16 => ?_)
      · have hi3 : 0 ≤ y ∧ y < nI us.length := ⟨(bI_n c_5).1, c_16⟩
        have hil : i < us.length := (nI_ltI (by omega) (by omega)).mp (by rw [← hyi]; exact c_16)
        refine lv_iconst (v := 0) hx hb d_M_unit_27 (by decide) ?_
        refine lv_istore_n (lv' := [(3, .int 0), (0, .ref (q 0)), (1, .int y), (2, .int x)]) hx hb d_M_unit_28 rfl hl (by decide) rfl (fun ls hl => ?_)
        refine lv_iconst (v := 0) hx hb d_M_unit_29 (by decide) ?_
        refine lv_istore (lv' := [(4, .int 0), (3, .int 0), (0, .ref (q 0)), (1, .int y), (2, .int x)]) hx hb d_M_unit_30 hl (by decide) rfl (fun ls hl => ?_)
        have loop : ∀ (t9 k : Nat), k + t9 = un → (liveN F k).length ≤ i → ∀ (H : Heap) (locs : List Loc) (ls : Array Slot), mw_H n0 D cl s w H locs → lv_has ls 5 [(4, .int (nI k)), (3, .int (nI (liveN F k).length)), (0, .ref (q 0)), (1, .int y), (2, .int x)] → W p l e (rmd 1) s m ([.ref (q 0), .int y, .int x] : List Value).toArray below meth c H locs 0 0 (MQ below (mw_Qi n0 D cl (fun r w' => r = unitS (fl, us, sn, pw, pq, cq, ln, tn, tr) y x ∧ w' = w)) ([.ref (q 0), .int y, .int x] : List Value).toArray s 0 0 (mw_A n0)) (F0 m 32 ls []) := by
          intro t9
          induction t9 with
          | zero =>
            intro k hk hle H locs ls h hl
            have hk : k = un := hk
            exact absurd hle (by rw [hk, hlen]; omega)
          | succ t9 ih =>
            intro k hk hle H locs ls h hl
            have hkl := liveN_le F k
            refine lv_iload hx hb d_M_unit_32 (lv_at hl 0 rfl) ?_
            refine lv_aload_n hx hb d_M_unit_34 rfl (lv_at hl 2 rfl) ?_
            refine mx_get G h X.1 rfl 7 (by decide) (tb_in in_M) (tb_c k_319) rfl rfl d_M_unit_35 ?_
            refine lv_icmp_ge (tgt := 110) hx hb d_M_unit_38 (by decide) (fun c_17 => ?_) (fun c_17 => ?_)
            · exact absurd ((nI_leI (by omega) (by omega)).mp c_17) (by omega)
            · refine lv_aload_n hx hb d_M_unit_41 rfl (lv_at hl 2 rfl) ?_
              refine mx_get G h X.1 rfl 6 (by decide) (tb_in in_M) (tb_c k_318) rfl rfl d_M_unit_42 ?_
              refine lv_iload hx hb d_M_unit_45 (lv_at hl 0 rfl) ?_
              refine ax_z G h (X.2.2.1 6 (by decide)) k rfl (by omega) (by decide) d_M_unit_47 ?_
              refine lv_if_eq (tgt := 104) hx hb d_M_unit_48 (by decide) (fun c_18 => ?_) (fun c_18 => ?_)
              · refine lv_iinc (v := (nI k) + 1) (lv' := [(4, .int ((nI k) + 1)), (3, .int (nI (liveN F k).length)), (0, .ref (q 0)), (1, .int y), (2, .int x)]) hx hb d_M_unit_104 hl (k := 0) rfl rfl (by decide) rfl (fun ls hl => ?_)
                refine lv_goto (tgt := 32) hx hb d_M_unit_107 (by decide) ?_
                simp only [nI_1] at hl
                refine ih (k + 1) (by omega) (by rw [liveN_s, if_pos c_18]; exact hle) H locs ls h ?_
                rw [liveN_s, if_pos c_18]
                exact lv_sub hl [0, 1, 2, 3, 4] rfl
              · have q1 : (liveN F (k + 1)).length = (liveN F k).length + 1 := by rw [liveN_s, if_neg c_18]; simp
                refine lv_iload_n hx hb d_M_unit_51 rfl (lv_at hl 1 rfl) ?_
                refine lv_iload_n hx hb d_M_unit_52 rfl (lv_at hl 3 rfl) ?_
                refine lv_icmp_ne (tgt := 101) hx hb d_M_unit_53 (by decide) (fun c_19 => ?_) (fun c_19 => ?_)
                · refine lv_iinc (v := (nI (liveN F k).length) + 1) (lv' := [(3, .int ((nI (liveN F k).length) + 1)), (4, .int (nI k)), (0, .ref (q 0)), (1, .int y), (2, .int x)]) hx hb d_M_unit_101 hl (k := 1) rfl rfl (by decide) rfl (fun ls hl => ?_)
                  refine lv_iinc (v := (nI k) + 1) (lv' := [(4, .int ((nI k) + 1)), (3, .int ((nI (liveN F k).length) + 1)), (0, .ref (q 0)), (1, .int y), (2, .int x)]) hx hb d_M_unit_104 hl (k := 1) rfl rfl (by decide) rfl (fun ls hl => ?_)
                  refine lv_goto (tgt := 32) hx hb d_M_unit_107 (by decide) ?_
                  simp only [nI_1] at hl
                  have hne : (liveN F k).length ≠ i := fun z => c_19 (by rw [hyi, z])
                  refine ih (k + 1) (by omega) (by omega) H locs ls h ?_
                  rw [q1]
                  exact lv_sub hl [0, 1, 2, 3, 4] rfl
                · have hli : (liveN F k).length = i := (nI_eq (by omega) (by omega)).mp (by rw [c_19, hyi])
                  obtain ⟨rr, hrr⟩ := liveN_pre F (k + 1) t9
                  have hg : us[i]? = some (uN F k) := by
                    rw [hG.1, List.getElem?_map, show un = k + 1 + t9 by omega, hrr, liveN_s, if_neg c_18, ← hli]
                    simp
                  have hVk := hG.2.2.1 k (by omega)
                  refine lv_iload_n hx hb d_M_unit_56 rfl (lv_at hl 4 rfl) ?_
                  refine lv_if_ne (tgt := 70) hx hb d_M_unit_57 (by decide) (fun c_20 => ?_) (fun c_20 => ?_)
                  · refine lv_iload_n hx hb d_M_unit_70 rfl (lv_at hl 4 rfl) ?_
                    refine lv_iconst (v := 1) hx hb d_M_unit_71 (by decide) ?_
                    refine lv_icmp_ne (tgt := 85) hx hb d_M_unit_72 (by decide) (fun c_21 => ?_) (fun c_21 => ?_)
                    · have hx2 : x = 2 := by
                        obtain ⟨ix, hix, hxx⟩ := ixQ 3 rfl (by decide) (bI_n c_10).1 (bI_n c_10).2
                        rcases (show ix = 0 ∨ ix = 1 ∨ ix = 2 by omega) with z | z | z
                        · exact absurd (by rw [hxx, z]; rfl) c_20
                        · exact absurd (by rw [hxx, z]; rfl) c_21
                        · rw [hxx, z]; rfl
                      refine lv_aload_n hx hb d_M_unit_85 rfl (lv_at hl 2 rfl) ?_
                      refine mx_get G h X.1 rfl 4 (by decide) (tb_in in_M) (tb_c k_316) rfl rfl d_M_unit_86 ?_
                      refine lv_iload hx hb d_M_unit_89 (lv_at hl 0 rfl) ?_
                      refine ax_z G h (X.2.2.1 4 (by decide)) k rfl (by omega) (by decide) d_M_unit_91 ?_
                      refine lv_if_eq (tgt := 99) hx hb d_M_unit_92 (by decide) (fun c_22 => ?_) (fun c_22 => ?_)
                      · refine lv_iconst (v := 0) hx hb d_M_unit_99 (by decide) ?_
                        exact mx_reti G h hrt hlocks d_M_unit_100 (⟨by rw [unitS, if_pos hi3, hyc]; show _ = match us[i]? with | some v => if x = 0 then v.1 else if x = 1 then v.2.1 else if x = 2 then v.2.2.2 else -1 | none => -1; rw [hg]; show _ = if x = 0 then F 1 k else if x = 1 then F 2 k else if x = 2 then F 4 k else -1; rw [if_neg c_20, if_neg c_21, if_pos hx2, c_22], rfl⟩)
                      · refine lv_iconst (v := 1) hx hb d_M_unit_95 (by decide) ?_
                        refine lv_goto (tgt := 100) hx hb d_M_unit_96 (by decide) ?_
                        exact mx_reti G h hrt hlocks d_M_unit_100 (⟨by rw [unitS, if_pos hi3, hyc]; show _ = match us[i]? with | some v => if x = 0 then v.1 else if x = 1 then v.2.1 else if x = 2 then v.2.2.2 else -1 | none => -1; rw [hg]; show _ = if x = 0 then F 1 k else if x = 1 then F 2 k else if x = 2 then F 4 k else -1; rw [if_neg c_20, if_neg c_21, if_pos hx2, show F 4 k = 1 from hVk.2.2.2.2.2.resolve_left c_22], rfl⟩)
                    · refine lv_aload_n hx hb d_M_unit_75 rfl (lv_at hl 2 rfl) ?_
                      refine mx_get G h X.1 rfl 2 (by decide) (tb_in in_M) (tb_c k_314) rfl rfl d_M_unit_76 ?_
                      refine lv_iload hx hb d_M_unit_79 (lv_at hl 0 rfl) ?_
                      refine ax_i G h (X.2.1 2 (by decide)) k rfl (by omega) (by decide) d_M_unit_81 ?_
                      refine lv_goto (tgt := 100) hx hb d_M_unit_82 (by decide) ?_
                      exact mx_reti G h hrt hlocks d_M_unit_100 (⟨by rw [unitS, if_pos hi3, hyc]; show _ = match us[i]? with | some v => if x = 0 then v.1 else if x = 1 then v.2.1 else if x = 2 then v.2.2.2 else -1 | none => -1; rw [hg]; show _ = if x = 0 then F 1 k else if x = 1 then F 2 k else if x = 2 then F 4 k else -1; rw [if_neg c_20, if_pos c_21], rfl⟩)
                  · refine lv_aload_n hx hb d_M_unit_60 rfl (lv_at hl 2 rfl) ?_
                    refine mx_get G h X.1 rfl 1 (by decide) (tb_in in_M) (tb_c k_313) rfl rfl d_M_unit_61 ?_
                    refine lv_iload hx hb d_M_unit_64 (lv_at hl 0 rfl) ?_
                    refine ax_i G h (X.2.1 1 (by decide)) k rfl (by omega) (by decide) d_M_unit_66 ?_
                    refine lv_goto (tgt := 100) hx hb d_M_unit_67 (by decide) ?_
                    exact mx_reti G h hrt hlocks d_M_unit_100 (⟨by rw [unitS, if_pos hi3, hyc]; show _ = match us[i]? with | some v => if x = 0 then v.1 else if x = 1 then v.2.1 else if x = 2 then v.2.2.2 else -1 | none => -1; rw [hg]; show _ = if x = 0 then F 1 k else if x = 1 then F 2 k else if x = 2 then F 4 k else -1; rw [if_pos c_20], rfl⟩)
        exact loop un 0 (by omega) (Nat.zero_le _) H locs ls h (lv_sub hl [0, 1, 2, 3, 4] rfl)
      · refine lv_iconst (v := (-1)) hx hb d_M_unit_25 (by decide) ?_
        exact mx_reti G h hrt hlocks d_M_unit_26 (⟨by rw [unitS, if_neg (fun z => c_16 z.2)], rfl⟩)
end
section
theorem mw_fresh {w : mw} {a b : Nat} {e : va_E} (ha : w a = some e) (hb : w b = none) : a ≠ b := by
  intro z
  subst z
  rw [ha] at hb
  cases hb
abbrev SS (a hu : Nat) (g : Nat → Nat) (n : Nat) : Nat → Prop := fun x => x = a ∨ x = hu ∨ ∃ k, k < n ∧ x = g k
abbrev SQ (a hp hn hr : Nat) (g gu : Nat → Nat) : Nat → Prop := fun x => x = a ∨ x = hp ∨ x = hn ∨ x = hr ∨ ∃ k, k < 4 ∧ (x = g k ∨ x = gu k)
abbrev S4 (a hp : Nat) (g gu : Nat → Nat) (n : Nat) : Nat → Prop := fun x => x = a ∨ x = hp ∨ ∃ k, k < n ∧ (x = g k ∨ x = gu k)
theorem d_U_init_0 : decode b_U_init 0 = .ok (.aload_n 0, 1) := by decide +kernel
theorem d_U_init_1 : decode b_U_init 1 = .ok (.invokespecial 3, 3) := by decide +kernel
theorem d_U_init_4 : decode b_U_init 4 = .ok (.return_, 1) := by decide +kernel
theorem d_K_init_0 : decode b_K_init 0 = .ok (.aload_n 0, 1) := by decide +kernel
theorem d_K_init_1 : decode b_K_init 1 = .ok (.invokespecial 1, 3) := by decide +kernel
theorem d_K_init_4 : decode b_K_init 4 = .ok (.aload_n 0, 1) := by decide +kernel
theorem d_K_init_5 : decode b_K_init 5 = .ok (.new 7, 3) := by decide +kernel
theorem d_K_init_8 : decode b_K_init 8 = .ok (.dup, 1) := by decide +kernel
theorem d_K_init_9 : decode b_K_init 9 = .ok (.invokespecial 9, 3) := by decide +kernel
theorem d_K_init_12 : decode b_K_init 12 = .ok (.putfield 10, 3) := by decide +kernel
theorem d_K_init_15 : decode b_K_init 15 = .ok (.return_, 1) := by decide +kernel
theorem d_C_init_0 : decode b_C_init 0 = .ok (.aload_n 0, 1) := by decide +kernel
theorem d_C_init_1 : decode b_C_init 1 = .ok (.invokespecial 1, 3) := by decide +kernel
theorem d_C_init_4 : decode b_C_init 4 = .ok (.aload_n 0, 1) := by decide +kernel
theorem d_C_init_5 : decode b_C_init 5 = .ok (.iload_n 1, 1) := by decide +kernel
theorem d_C_init_6 : decode b_C_init 6 = .ok (.anewarray 7, 3) := by decide +kernel
theorem d_C_init_9 : decode b_C_init 9 = .ok (.putfield 9, 3) := by decide +kernel
theorem d_C_init_12 : decode b_C_init 12 = .ok (.iconst 0, 1) := by decide +kernel
theorem d_C_init_13 : decode b_C_init 13 = .ok (.istore_n 2, 1) := by decide +kernel
theorem d_C_init_14 : decode b_C_init 14 = .ok (.iload_n 2, 1) := by decide +kernel
theorem d_C_init_15 : decode b_C_init 15 = .ok (.iload_n 1, 1) := by decide +kernel
theorem d_C_init_16 : decode b_C_init 16 = .ok (.if_icmp .ge 22, 3) := by decide +kernel
theorem d_C_init_19 : decode b_C_init 19 = .ok (.aload_n 0, 1) := by decide +kernel
theorem d_C_init_20 : decode b_C_init 20 = .ok (.getfield 9, 3) := by decide +kernel
theorem d_C_init_23 : decode b_C_init 23 = .ok (.iload_n 2, 1) := by decide +kernel
theorem d_C_init_24 : decode b_C_init 24 = .ok (.new 7, 3) := by decide +kernel
theorem d_C_init_27 : decode b_C_init 27 = .ok (.dup, 1) := by decide +kernel
theorem d_C_init_28 : decode b_C_init 28 = .ok (.invokespecial 15, 3) := by decide +kernel
theorem d_C_init_31 : decode b_C_init 31 = .ok (.aastore, 1) := by decide +kernel
theorem d_C_init_32 : decode b_C_init 32 = .ok (.iinc 2 1, 3) := by decide +kernel
theorem d_C_init_35 : decode b_C_init 35 = .ok (.goto (-21), 3) := by decide +kernel
theorem d_C_init_38 : decode b_C_init 38 = .ok (.return_, 1) := by decide +kernel
theorem d_Q_init_0 : decode b_Q_init 0 = .ok (.aload_n 0, 1) := by decide +kernel
theorem d_Q_init_1 : decode b_Q_init 1 = .ok (.invokespecial 3, 3) := by decide +kernel
theorem d_Q_init_4 : decode b_Q_init 4 = .ok (.aload_n 0, 1) := by decide +kernel
theorem d_Q_init_5 : decode b_Q_init 5 = .ok (.iconst 4, 1) := by decide +kernel
theorem d_Q_init_6 : decode b_Q_init 6 = .ok (.anewarray 9, 3) := by decide +kernel
theorem d_Q_init_9 : decode b_Q_init 9 = .ok (.putfield 11, 3) := by decide +kernel
theorem d_Q_init_12 : decode b_Q_init 12 = .ok (.iconst 0, 1) := by decide +kernel
theorem d_Q_init_13 : decode b_Q_init 13 = .ok (.istore_n 1, 1) := by decide +kernel
theorem d_Q_init_14 : decode b_Q_init 14 = .ok (.iload_n 1, 1) := by decide +kernel
theorem d_Q_init_15 : decode b_Q_init 15 = .ok (.iconst 4, 1) := by decide +kernel
theorem d_Q_init_16 : decode b_Q_init 16 = .ok (.if_icmp .ge 22, 3) := by decide +kernel
theorem d_Q_init_19 : decode b_Q_init 19 = .ok (.aload_n 0, 1) := by decide +kernel
theorem d_Q_init_20 : decode b_Q_init 20 = .ok (.getfield 11, 3) := by decide +kernel
theorem d_Q_init_23 : decode b_Q_init 23 = .ok (.iload_n 1, 1) := by decide +kernel
theorem d_Q_init_24 : decode b_Q_init 24 = .ok (.new 9, 3) := by decide +kernel
theorem d_Q_init_27 : decode b_Q_init 27 = .ok (.dup, 1) := by decide +kernel
theorem d_Q_init_28 : decode b_Q_init 28 = .ok (.invokespecial 17, 3) := by decide +kernel
theorem d_Q_init_31 : decode b_Q_init 31 = .ok (.aastore, 1) := by decide +kernel
theorem d_Q_init_32 : decode b_Q_init 32 = .ok (.iinc 1 1, 3) := by decide +kernel
theorem d_Q_init_35 : decode b_Q_init 35 = .ok (.goto (-21), 3) := by decide +kernel
theorem d_Q_init_38 : decode b_Q_init 38 = .ok (.aload_n 0, 1) := by decide +kernel
theorem d_Q_init_39 : decode b_Q_init 39 = .ok (.iconst 4, 1) := by decide +kernel
theorem d_Q_init_40 : decode b_Q_init 40 = .ok (.newarray .int, 2) := by decide +kernel
theorem d_Q_init_42 : decode b_Q_init 42 = .ok (.putfield 18, 3) := by decide +kernel
theorem d_Q_init_45 : decode b_Q_init 45 = .ok (.aload_n 0, 1) := by decide +kernel
theorem d_Q_init_46 : decode b_Q_init 46 = .ok (.iconst 4, 1) := by decide +kernel
theorem d_Q_init_47 : decode b_Q_init 47 = .ok (.newarray .long, 2) := by decide +kernel
theorem d_Q_init_49 : decode b_Q_init 49 = .ok (.putfield 22, 3) := by decide +kernel
theorem d_Q_init_52 : decode b_Q_init 52 = .ok (.return_, 1) := by decide +kernel
set_option maxHeartbeats 4000000 in
set_option maxRecDepth 100000 in
theorem m_U_init {l : Launch} {D : va_G} {cA : Nat → ClassId} {n0 : Nat} {w : mw} {a : Nat} :
    Mv l D cA n0 y_U_init c_U_init (rmd 1) [.ref a] w (fun w' => w' = w) := by
  refine mw_met (cc := b_U_init) (maxL := 1) (ret := (none)) (by decide) rfl (Nat.le_of_ble_eq_true rfl) ?_
  intro p e s m below meth c ls G hrt hlocks hname h hl
  have G : mw_G p m c b_U_init 1 s _ (c_U_init :: TB) R_U D cl (tys cA) n0 := G
  have hx := G.1.1
  have hb := G.1.2.1
  have hl : lv_has ls 1 [(0, .ref a)] := hl
  refine lv_aload_n hx hb d_U_init_0 rfl (lv_at hl 0 rfl) ?_
  refine W.objInit hx hb G.1.2.2.2.1 (G.1.2.2.2.2 _ (tb_c k_35)) (G.1.2.2.2.2 _ (tb_c k_14)) (G.1.2.2.2.2 _ (tb_c k_15)) rfl (by rw [G.1.2.2.1]; exact hl.1) rfl d_U_init_1 (Nat.le_of_ble_eq_true rfl) (Nat.le_of_ble_eq_true rfl) ?_
  refine W.eq (g2 := F0 m 4 ls []) rfl ?_
  exact mx_retv G h hrt hlocks d_U_init_4 rfl
set_option maxHeartbeats 4000000 in
set_option maxRecDepth 100000 in
theorem m_K_init {l : Launch} {D : va_G} {cA : Nat → ClassId} {n0 : Nat} {w : mw} {a : Nat} (ha : w a = some (.inr (2, [.null, .int 0, .int 0]))) :
    Mc l D cA n0 y_K_init c_K_init 2 1 4 [.ref a] w (fun w' => ∃ u, w u = none ∧ w' = mw_up (mw_up w u (ucell (0, 0, 0, 0))) a (kcell u 0 0)) := by
  refine mw_met (cc := b_K_init) (maxL := 1) (ret := (none)) (by decide) rfl (Nat.le_of_ble_eq_true rfl) ?_
  intro p e s m below meth c ls G hrt hlocks hname h hl
  have G : mw_G p m c b_K_init 1 s _ (c_K_init :: TB) R_K D cl (tys cA) n0 := G
  have hx := G.1.1
  have hb := G.1.2.1
  have hl : lv_has ls 1 [(0, .ref a)] := hl
  refine lv_aload_n hx hb d_K_init_0 rfl (lv_at hl 0 rfl) ?_
  refine W.objInit hx hb G.1.2.2.2.1 (G.1.2.2.2.2 _ (tb_c k_79)) (G.1.2.2.2.2 _ (tb_c k_14)) (G.1.2.2.2.2 _ (tb_c k_15)) rfl (by rw [G.1.2.2.1]; exact hl.1) rfl d_K_init_1 (Nat.le_of_ble_eq_true rfl) (Nat.le_of_ble_eq_true rfl) ?_
  refine W.eq (g2 := F0 m 4 ls []) rfl ?_
  refine lv_aload_n hx hb d_K_init_4 rfl (lv_at hl 0 rfl) ?_
  refine mx_new (ci := 4) (fs := [.int 0, .int 0, .int 0, .int 0]) G h rfl (tb_in in_U) t_U t_U_ok (tb_c k_80) (tb_c k_31) (tb_c k_4) (fun j9 hj9 => by rcases (show j9 = 0 ∨ j9 = 1 ∨ j9 = 2 ∨ j9 = 3 by omega) with rfl | rfl | rfl | rfl <;> rfl) (by show _ ≤ 1; omega) (by show _ ≤ 4; omega) d_K_init_5 (fun u H hun h => ?_)
  have h : mw_H n0 D cl s (mw_up w u (.inr (4, [.int 0, .int 0, .int 0, .int 0]))) H _ := h
  obtain ⟨w_1, ew_1⟩ : ∃ xx : mw, mw_up w u (.inr (4, [.int 0, .int 0, .int 0, .int 0])) = xx := ⟨_, rfl⟩
  rw [ew_1] at h
  have f_2 : w_1 a = some (.inr (2, [.null, .int 0, .int 0])) := by rw [← ew_1, mw_ne (mw_fresh ha hun)]; exact ha
  have f_3 : w_1 u = some (.inr (4, [.int 0, .int 0, .int 0, .int 0])) := by rw [← ew_1]; exact mw_self
  refine lv_dup hx hb d_K_init_8 rfl ?_
  refine mx_cv (cIN (As := []) (rest := [.ref u, .ref a]) (host := "QueueDrive") G h (m_U_init (a := u)) (by decide) k_33 k_4 k_34 rfl hd_U_init rfl rfl ⟨Nat.le_of_ble_eq_true rfl, Nat.le_of_ble_eq_true rfl⟩ rfl hl.1 rfl (Nat.le_of_ble_eq_true rfl) d_K_init_9 ⟨by show _ ≤ 1; omega, by show _ ≤ 4; omega⟩) h (fun w_4 H locs h hcp => ?_)
  rw [hcp] at h
  refine mx_putF G h hname f_2 rfl 0 (by decide) (tb_in in_K) t_K t_K_ok n_K (tb_c k_82) rfl rfl rfl rfl rfl rfl (Nat.le_of_ble_eq_true rfl) d_K_init_12 (fun H locs h => ?_)
  have h : mw_H n0 D cl s (mw_up w_1 a (.inr (2, [.ref u, .int 0, .int 0]))) H _ := h
  obtain ⟨w_5, ew_5⟩ : ∃ xx : mw, mw_up w_1 a (.inr (2, [.ref u, .int 0, .int 0])) = xx := ⟨_, rfl⟩
  rw [ew_5] at h
  have f_6 : w_5 u = some (.inr (4, [.int 0, .int 0, .int 0, .int 0])) := by rw [← ew_5, mw_ne (mw_apart f_3 f_2 (by simp))]; exact f_3
  have f_7 : w_5 a = some (.inr (2, [.ref u, .int 0, .int 0])) := by rw [← ew_5]; exact mw_self
  refine W.widen (k := 1) (n := 4) (by omega) (by omega) ?_
  exact mx_retv G h hrt hlocks d_K_init_15 (⟨u, hun, by rw [← ew_5, ← ew_1]⟩)
set_option maxHeartbeats 4000000 in
set_option maxRecDepth 100000 in
theorem m_C_init {l : Launch} {D : va_G} {cA : Nat → ClassId} {n0 : Nat} {w : mw} {a L : Nat} (ha : w a = some (.inr (1, [.null, .int 0]))) (hL1 : 1 ≤ L) (hL : L ≤ 6) {x : Int32} (hxL : x = nI L) :
    Mc l D cA n0 y_C_init c_C_init 2 7 30 [.ref a, .int x] w (fun w' => ∃ hu f g, CAx cA w' (SS a hu g L) a hu L [] f g ∧ FR w w' (SS a hu g L) ∧ w hu = none ∧ ∀ k, k < L → w (g k) = none) := by
  refine mw_met (cc := b_C_init) (maxL := 3) (ret := (none)) (by decide) rfl (Nat.le_of_ble_eq_true rfl) ?_
  intro p e s m below meth c ls G hrt hlocks hname h hl
  have G : mw_G p m c b_C_init 3 s _ (c_C_init :: TB) R_C D cl (tys cA) n0 := G
  have hx := G.1.1
  have hb := G.1.2.1
  have hl : lv_has ls 3 [(0, .ref a), (1, .int x)] := hl
  subst hxL
  refine lv_aload_n hx hb d_C_init_0 rfl (lv_at hl 0 rfl) ?_
  refine W.objInit hx hb G.1.2.2.2.1 (G.1.2.2.2.2 _ (tb_c k_28)) (G.1.2.2.2.2 _ (tb_c k_14)) (G.1.2.2.2.2 _ (tb_c k_15)) rfl (by rw [G.1.2.2.1]; exact hl.1) rfl d_C_init_1 (Nat.le_of_ble_eq_true rfl) (Nat.le_of_ble_eq_true rfl) ?_
  refine W.eq (g2 := F0 m 4 ls []) rfl ?_
  refine lv_aload_n hx hb d_C_init_4 rfl (lv_at hl 0 rfl) ?_
  refine lv_iload_n hx hb d_C_init_5 rfl (lv_at hl 1 rfl) ?_
  refine mx_newq G h (tb_c k_29) (by decide) 3 rfl (N' := L) (nI_pos (by omega)) (nI_clamp (by omega)) (by omega) (by show _ ≤ 7; omega) (by show _ ≤ 30; omega) d_C_init_6 (fun hu H huf h => ?_)
  have h : mw_H n0 D cl s (mw_up w hu (refs cA 3 L (fun _ => none))) H _ := h
  obtain ⟨w_1, ew_1⟩ : ∃ xx : mw, mw_up w hu (refs cA 3 L (fun _ => none)) = xx := ⟨_, rfl⟩
  rw [ew_1] at h
  have f_2 : w_1 a = some (.inr (1, [.null, .int 0])) := by rw [← ew_1, mw_ne (mw_fresh ha huf)]; exact ha
  have f_3 : w_1 hu = some (refs cA 3 L (fun _ => none)) := by rw [← ew_1]; exact mw_self
  refine mx_putF G h hname f_2 rfl 0 (by decide) (tb_in in_C) t_C t_C_ok n_C (tb_c k_57) rfl rfl rfl rfl rfl rfl (Nat.le_of_ble_eq_true rfl) d_C_init_9 (fun H locs h => ?_)
  have h : mw_H n0 D cl s (mw_up w_1 a (.inr (1, [.ref hu, .int 0]))) H _ := h
  obtain ⟨w_4, ew_4⟩ : ∃ xx : mw, mw_up w_1 a (.inr (1, [.ref hu, .int 0])) = xx := ⟨_, rfl⟩
  rw [ew_4] at h
  have f_5 : w_4 hu = some (refs cA 3 L (fun _ => none)) := by rw [← ew_4, mw_ne (mw_apart f_3 f_2 (by simp))]; exact f_3
  have f_6 : w_4 a = some (.inr (1, [.ref hu, .int 0])) := by rw [← ew_4]; exact mw_self
  refine lv_iconst (v := 0) hx hb d_C_init_12 (by decide) ?_
  refine lv_istore_n (lv' := [(2, .int 0), (0, .ref a), (1, .int (nI L))]) hx hb d_C_init_13 rfl hl (by decide) rfl (fun ls hl => ?_)
  have loop : ∀ (t i : Nat), i + t = L → ∀ (f : Nat → Option Nat) (g : Nat → Nat) (v : mw), v a = some (ccell hu 0) → v hu = some (refs cA 3 L f) → (∀ k, k < i → f k = some (g k) ∧ v (g k) = some (ucell (0, 0, 0, 0)) ∧ w (g k) = none) → (∀ k k2, k < i → k2 < i → g k = g k2 → k = k2) → FR w v (SS a hu g i) → ∀ (H : Heap) (locs : List Loc) (ls : Array Slot), mw_H n0 D cl s v H locs → lv_has ls 3 [(2, .int (nI i)), (0, .ref a), (1, .int (nI L))] → W p l e { frames := 2, cells := 7, slots := 30, locals := 40 * 2 } s m ([.ref a, .int (nI L)] : List Value).toArray below meth c H locs (1 + i) (L + 4 * i) (MQ below (mw_Qv n0 D cl (fun w' => ∃ hu f g, CAx cA w' (SS a hu g L) a hu L [] f g ∧ FR w w' (SS a hu g L) ∧ w hu = none ∧ ∀ k, k < L → w (g k) = none)) ([.ref a, .int (nI L)] : List Value).toArray s 7 30 (mw_A n0)) (F0 m 14 ls []) := by
    intro t
    induction t with
    | zero =>
      intro i hi f g v va vu vg vi vf H locs ls h hl
      have hi : i = L := hi
      rw [hi] at vf vg vi
      refine lv_iload_n hx hb d_C_init_14 rfl (lv_at hl 0 rfl) ?_
      refine lv_iload_n hx hb d_C_init_15 rfl (lv_at hl 2 rfl) ?_
      refine lv_icmp_ge (tgt := 38) hx hb d_C_init_16 (by decide) (fun c_7 => ?_) (fun c_7 => ?_)
      · refine W.widen (k := 7) (n := 30) (by omega) (by omega) ?_
        exact mx_retv G h hrt hlocks d_C_init_38 (⟨hu, f, g, ⟨va, vu, Nat.zero_le _, hL, fun k hk => ⟨(vg k hk).1, Or.inr (Or.inr ⟨k, hk, rfl⟩), _, (vg k hk).2.1⟩, fun k u hk => by simp at hk, vi, Or.inl rfl, Or.inr (Or.inl rfl)⟩, vf, huf, fun k hk => (vg k hk).2.2⟩)
      · exact absurd (by rw [hi]; exact Int32.le_refl _) c_7
    | succ t ih =>
      intro i hi f g v va vu vg vi vf H locs ls h hl
      refine lv_iload_n hx hb d_C_init_14 rfl (lv_at hl 0 rfl) ?_
      refine lv_iload_n hx hb d_C_init_15 rfl (lv_at hl 2 rfl) ?_
      refine lv_icmp_ge (tgt := 38) hx hb d_C_init_16 (by decide) (fun c_8 => ?_) (fun c_8 => ?_)
      · exact absurd ((nI_leI (by omega) (by omega)).mp c_8) (by omega)
      · refine lv_aload_n hx hb d_C_init_19 rfl (lv_at hl 1 rfl) ?_
        refine mx_get G h va rfl 0 (by decide) (tb_in in_C) (tb_c k_57) rfl rfl d_C_init_20 ?_
        refine lv_iload_n hx hb d_C_init_23 rfl (lv_at hl 0 rfl) ?_
        refine mx_new (ci := 4) (fs := [.int 0, .int 0, .int 0, .int 0]) G h rfl (tb_in in_U) t_U t_U_ok (tb_c k_29) (tb_c k_31) (tb_c k_4) (fun j9 hj9 => by rcases (show j9 = 0 ∨ j9 = 1 ∨ j9 = 2 ∨ j9 = 3 by omega) with rfl | rfl | rfl | rfl <;> rfl) (by show _ ≤ 7; omega) (by show _ ≤ 30; omega) d_C_init_24 (fun z H hzf h => ?_)
        have h : mw_H n0 D cl s (mw_up v z (.inr (4, [.int 0, .int 0, .int 0, .int 0]))) H _ := h
        obtain ⟨w_9, ew_9⟩ : ∃ xx : mw, mw_up v z (.inr (4, [.int 0, .int 0, .int 0, .int 0])) = xx := ⟨_, rfl⟩
        rw [ew_9] at h
        have f_10 : w_9 a = some (ccell hu 0) := by rw [← ew_9, mw_ne (mw_fresh va hzf)]; exact va
        have f_11 : w_9 hu = some (refs cA 3 L f) := by rw [← ew_9, mw_ne (mw_fresh vu hzf)]; exact vu
        have f_12 : w_9 z = some (.inr (4, [.int 0, .int 0, .int 0, .int 0])) := by rw [← ew_9]; exact mw_self
        refine lv_dup hx hb d_C_init_27 rfl ?_
        refine mx_cv (cIN (As := []) (rest := [.ref z, .int (nI i), .ref hu]) (host := "QueueDrive") G h (m_U_init (a := z)) (by decide) k_33 k_4 k_34 rfl hd_U_init rfl rfl ⟨Nat.le_of_ble_eq_true rfl, Nat.le_of_ble_eq_true rfl⟩ rfl hl.1 rfl (Nat.le_of_ble_eq_true rfl) d_C_init_28 ⟨by show _ ≤ 7; omega, by show _ ≤ 30; omega⟩) h (fun w_13 H locs h hcp => ?_)
        rw [hcp] at h
        refine ax_sa G h 3 4 f_11 rfl f_12 rfl i rfl (by omega) (by omega) d_C_init_31 (fun H locs h => ?_)
        have h : mw_H n0 D cl s (mw_up w_9 hu (.inl (cA 3, L, .inr (.inr (.inr (.inr (va_up f i (some z)))))))) H _ := h
        obtain ⟨w_14, ew_14⟩ : ∃ xx : mw, mw_up w_9 hu (.inl (cA 3, L, .inr (.inr (.inr (.inr (va_up f i (some z))))))) = xx := ⟨_, rfl⟩
        rw [ew_14] at h
        have f_15 : w_14 a = some (ccell hu 0) := by rw [← ew_14, mw_ne (mw_apart f_10 f_11 (by simp))]; exact f_10
        have f_16 : w_14 z = some (.inr (4, [.int 0, .int 0, .int 0, .int 0])) := by rw [← ew_14, mw_ne (mw_apart f_12 f_11 (by simp))]; exact f_12
        have f_17 : w_14 hu = some (.inl (cA 3, L, .inr (.inr (.inr (.inr (va_up f i (some z))))))) := by rw [← ew_14]; exact mw_self
        refine lv_iinc (v := (nI i) + 1) (lv' := [(2, .int ((nI i) + 1)), (0, .ref a), (1, .int (nI L))]) hx hb d_C_init_32 hl (k := 0) rfl rfl (by decide) rfl (fun ls hl => ?_)
        refine lv_goto (tgt := 14) hx hb d_C_init_35 (by decide) ?_
        rw [nI_1] at hl
        have hzw : w z = none := by
          rw [← vf z (fun y => y.elim (fun y => mw_fresh va hzf y.symm) (fun y => y.elim (fun y => mw_fresh vu hzf y.symm) (fun ⟨k, hk, y⟩ => mw_fresh (vg k hk).2.1 hzf y.symm)))]
          exact hzf
        have hgo : ∀ k, k < i → va_up g i z k = g k := fun k hk => by simp only [va_up]; rw [if_neg (by omega)]
        have hgn : va_up g i z i = z := by simp [va_up]
        have hst : ∀ k, k < i → w_14 (g k) = some (ucell (0, 0, 0, 0)) := fun k hk => by rw [← ew_14, mw_ne (mw_apart (vg k hk).2.1 vu (by simp)) , ← ew_9, mw_ne (mw_fresh (vg k hk).2.1 hzf)]; exact (vg k hk).2.1
        refine W.widen (k := 1 + (i + 1)) (n := L + 4 * (i + 1)) (by omega) (by omega) ?_
        refine ih (i + 1) (by omega) (va_up f i (some z)) (va_up g i z) _ f_15 f_17 (fun k hk => ?_) (fun k k2 hk hk2 hkk => ?_) (fun y hy => ?_) H locs ls h (lv_sub hl [0, 1, 2] rfl)
        · by_cases e9 : k = i
          · subst e9; rw [hgn]; exact ⟨by simp [va_up], f_16, hzw⟩
          · rw [hgo k (by omega)]; exact ⟨by simp only [va_up]; rw [if_neg e9]; exact (vg k (by omega)).1, hst k (by omega), (vg k (by omega)).2.2⟩
        · by_cases e9 : k = i
          · by_cases e8 : k2 = i
            · omega
            · rw [e9, hgn, hgo k2 (by omega)] at hkk; exact absurd hkk.symm (mw_fresh (vg k2 (by omega)).2.1 hzf)
          · by_cases e8 : k2 = i
            · rw [e8, hgn, hgo k (by omega)] at hkk; exact absurd hkk (mw_fresh (vg k (by omega)).2.1 hzf)
            · rw [hgo k (by omega), hgo k2 (by omega)] at hkk; exact vi k k2 (by omega) (by omega) hkk
        · have hy1 : y ≠ hu := fun q9 => hy (Or.inr (Or.inl q9))
          have hy2 : y ≠ z := fun q9 => hy (Or.inr (Or.inr ⟨i, by omega, by rw [hgn]; exact q9⟩))
          rw [← ew_14, mw_ne hy1, ← ew_9, mw_ne hy2]
          exact vf y (fun q9 => hy (q9.elim Or.inl (fun q9 => q9.elim (fun q9 => Or.inr (Or.inl q9)) (fun ⟨k, hk, q8⟩ => Or.inr (Or.inr ⟨k, by omega, by rw [hgo k hk]; exact q8⟩)))))
  refine W.widen (k := 1 + 0) (n := L + 4 * 0) (by omega) (by omega) ?_
  exact loop L 0 (by omega) (fun _ => none) (fun _ => 0) _ f_6 f_5 (fun k hk => absurd hk (Nat.not_lt_zero _)) (fun k k2 hk => absurd hk (Nat.not_lt_zero _)) (fun y hy => by rw [← ew_4, mw_ne (fun q9 => hy (Or.inl q9)), ← ew_1, mw_ne (fun q9 => hy (Or.inr (Or.inl q9)))]) H locs ls h (lv_sub hl [0, 1, 2] rfl)
set_option maxHeartbeats 4000000 in
set_option maxRecDepth 100000 in
theorem m_Q_init {l : Launch} {D : va_G} {cA : Nat → ClassId} {n0 : Nat} {w : mw} {a : Nat} (ha : w a = some (.inr (3, [.null, .null, .null, .int 0, .int 0]))) :
    Mc l D cA n0 y_Q_init c_Q_init 3 11 40 [.ref a] w (fun w' => ∃ hp hn hr f g gu fn fr, QAx cA w' (SQ a hp hn hr g gu) a hp hn hr [] [] f g gu fn fr ∧ FR w w' (SQ a hp hn hr g gu) ∧ (∀ x, (SQ a hp hn hr g gu) x → x = a ∨ w x = none) ∧ ∀ x, (SQ a hp hn hr g gu) x → w' x ≠ none) := by
  refine mw_met (cc := b_Q_init) (maxL := 2) (ret := (none)) (by decide) rfl (Nat.le_of_ble_eq_true rfl) ?_
  intro p e s m below meth c ls G hrt hlocks hname h hl
  have G : mw_G p m c b_Q_init 2 s _ (c_Q_init :: TB) R_Q D cl (tys cA) n0 := G
  have hx := G.1.1
  have hb := G.1.2.1
  have hl : lv_has ls 2 [(0, .ref a)] := hl
  refine lv_aload_n hx hb d_Q_init_0 rfl (lv_at hl 0 rfl) ?_
  refine W.objInit hx hb G.1.2.2.2.1 (G.1.2.2.2.2 _ (tb_c k_72)) (G.1.2.2.2.2 _ (tb_c k_14)) (G.1.2.2.2.2 _ (tb_c k_15)) rfl (by rw [G.1.2.2.1]; exact hl.1) rfl d_Q_init_1 (Nat.le_of_ble_eq_true rfl) (Nat.le_of_ble_eq_true rfl) ?_
  refine W.eq (g2 := F0 m 4 ls []) rfl ?_
  refine lv_aload_n hx hb d_Q_init_4 rfl (lv_at hl 0 rfl) ?_
  refine lv_iconst (v := 4) hx hb d_Q_init_5 (by decide) ?_
  refine mx_newq G h (tb_c k_73) (by decide) 4 rfl (N' := 4) (by decide) (by decide) (by decide) (by show _ ≤ 11; omega) (by show _ ≤ 40; omega) d_Q_init_6 (fun hp H hpf h => ?_)
  have h : mw_H n0 D cl s (mw_up w hp (refs cA 4 4 (fun _ => none))) H _ := h
  obtain ⟨w_1, ew_1⟩ : ∃ xx : mw, mw_up w hp (refs cA 4 4 (fun _ => none)) = xx := ⟨_, rfl⟩
  rw [ew_1] at h
  have f_2 : w_1 a = some (.inr (3, [.null, .null, .null, .int 0, .int 0])) := by rw [← ew_1, mw_ne (mw_fresh ha hpf)]; exact ha
  have f_3 : w_1 hp = some (refs cA 4 4 (fun _ => none)) := by rw [← ew_1]; exact mw_self
  refine mx_putF G h hname f_2 rfl 0 (by decide) (tb_in in_Q) t_Q t_Q_ok n_Q (tb_c k_95) rfl rfl rfl rfl rfl rfl (Nat.le_of_ble_eq_true rfl) d_Q_init_9 (fun H locs h => ?_)
  have h : mw_H n0 D cl s (mw_up w_1 a (.inr (3, [.ref hp, .null, .null, .int 0, .int 0]))) H _ := h
  obtain ⟨w_4, ew_4⟩ : ∃ xx : mw, mw_up w_1 a (.inr (3, [.ref hp, .null, .null, .int 0, .int 0])) = xx := ⟨_, rfl⟩
  rw [ew_4] at h
  have f_5 : w_4 hp = some (refs cA 4 4 (fun _ => none)) := by rw [← ew_4, mw_ne (mw_apart f_3 f_2 (by simp))]; exact f_3
  have f_6 : w_4 a = some (.inr (3, [.ref hp, .null, .null, .int 0, .int 0])) := by rw [← ew_4]; exact mw_self
  refine lv_iconst (v := 0) hx hb d_Q_init_12 (by decide) ?_
  refine lv_istore_n (lv' := [(1, .int 0), (0, .ref a)]) hx hb d_Q_init_13 rfl hl (by decide) rfl (fun ls hl => ?_)
  have loop : ∀ (t i : Nat), i + t = 4 → ∀ (f : Nat → Option Nat) (g gu : Nat → Nat) (v : mw), v a = some (.inr (3, [.ref hp, .null, .null, .int 0, .int 0])) → v hp = some (refs cA 4 4 f) → (∀ k, k < i → f k = some (g k) ∧ v (g k) = some (kcell (gu k) 0 0) ∧ v (gu k) = some (ucell (0, 0, 0, 0)) ∧ w (g k) = none ∧ w (gu k) = none) → (∀ k k2, k < i → k2 < i → g k = g k2 → k = k2) → (∀ k k2, k < i → k2 < i → gu k = gu k2 → k = k2) → FR w v (S4 a hp g gu i) → ∀ (H : Heap) (locs : List Loc) (ls : Array Slot), mw_H n0 D cl s v H locs → lv_has ls 2 [(1, .int (nI i)), (0, .ref a)] → W p l e { frames := 3, cells := 11, slots := 40, locals := 40 * 3 } s m ([.ref a] : List Value).toArray below meth c H locs (1 + 2 * i) (4 + 7 * i) (MQ below (mw_Qv n0 D cl (fun w' => ∃ hp hn hr f g gu fn fr, QAx cA w' (SQ a hp hn hr g gu) a hp hn hr [] [] f g gu fn fr ∧ FR w w' (SQ a hp hn hr g gu) ∧ (∀ x, (SQ a hp hn hr g gu) x → x = a ∨ w x = none) ∧ ∀ x, (SQ a hp hn hr g gu) x → w' x ≠ none)) ([.ref a] : List Value).toArray s 11 40 (mw_A n0)) (F0 m 14 ls []) := by
    intro t
    induction t with
    | zero =>
      intro i hi f g gu v va vp vg vi vj vf H locs ls h hl
      have hi : i = 4 := hi
      rw [hi] at vf vg vi vj
      refine lv_iload_n hx hb d_Q_init_14 rfl (lv_at hl 0 rfl) ?_
      refine lv_iconst (v := 4) hx hb d_Q_init_15 (by decide) ?_
      refine lv_icmp_ge (tgt := 38) hx hb d_Q_init_16 (by decide) (fun c_7 => ?_) (fun c_7 => ?_)
      · refine lv_aload_n hx hb d_Q_init_38 rfl (lv_at hl 1 rfl) ?_
        refine lv_iconst (v := 4) hx hb d_Q_init_39 (by decide) ?_
        refine mx_newa (atype := .int) (ty := .int) (a0 := (4, .inl (fun _ => 0))) G h (tb_c k_116) rfl 0 rfl (fun _ => rfl) (by decide) (N' := 4) (by decide) (by decide) (by show _ ≤ 11; omega) (by show _ ≤ 40; omega) d_Q_init_40 (fun hn H hnf h => ?_)
        have h : mw_H n0 D cl s (mw_up v hn (.inl (cA 0, 4, .inl (fun _ => 0)))) H _ := h
        obtain ⟨w_8, ew_8⟩ : ∃ xx : mw, mw_up v hn (.inl (cA 0, 4, .inl (fun _ => 0))) = xx := ⟨_, rfl⟩
        rw [ew_8] at h
        have f_9 : w_8 a = some (.inr (3, [.ref hp, .null, .null, .int 0, .int 0])) := by rw [← ew_8, mw_ne (mw_fresh va hnf)]; exact va
        have f_10 : w_8 hn = some (.inl (cA 0, 4, .inl (fun _ => 0))) := by rw [← ew_8]; exact mw_self
        refine mx_putF G h hname f_9 rfl 1 (by decide) (tb_in in_Q) t_Q t_Q_ok n_Q (tb_c k_97) rfl rfl rfl rfl rfl rfl (Nat.le_of_ble_eq_true rfl) d_Q_init_42 (fun H locs h => ?_)
        have h : mw_H n0 D cl s (mw_up w_8 a (.inr (3, [.ref hp, .ref hn, .null, .int 0, .int 0]))) H _ := h
        obtain ⟨w_11, ew_11⟩ : ∃ xx : mw, mw_up w_8 a (.inr (3, [.ref hp, .ref hn, .null, .int 0, .int 0])) = xx := ⟨_, rfl⟩
        rw [ew_11] at h
        have f_12 : w_11 hn = some (.inl (cA 0, 4, .inl (fun _ => 0))) := by rw [← ew_11, mw_ne (mw_apart f_10 f_9 (by simp))]; exact f_10
        have f_13 : w_11 a = some (.inr (3, [.ref hp, .ref hn, .null, .int 0, .int 0])) := by rw [← ew_11]; exact mw_self
        refine lv_aload_n hx hb d_Q_init_45 rfl (lv_at hl 1 rfl) ?_
        refine lv_iconst (v := 4) hx hb d_Q_init_46 (by decide) ?_
        refine mx_newa (atype := .long) (ty := .long) (a0 := (4, .inr (.inl (fun _ => 0)))) G h (tb_c k_56) rfl 1 rfl (fun _ => rfl) (by decide) (N' := 4) (by decide) (by decide) (by show _ ≤ 11; omega) (by show _ ≤ 40; omega) d_Q_init_47 (fun hr H hrf h => ?_)
        have h : mw_H n0 D cl s (mw_up w_11 hr (.inl (cA 1, 4, .inr (.inl (fun _ => 0))))) H _ := h
        obtain ⟨w_14, ew_14⟩ : ∃ xx : mw, mw_up w_11 hr (.inl (cA 1, 4, .inr (.inl (fun _ => 0)))) = xx := ⟨_, rfl⟩
        rw [ew_14] at h
        have f_15 : w_14 hn = some (.inl (cA 0, 4, .inl (fun _ => 0))) := by rw [← ew_14, mw_ne (mw_fresh f_12 hrf)]; exact f_12
        have f_16 : w_14 a = some (.inr (3, [.ref hp, .ref hn, .null, .int 0, .int 0])) := by rw [← ew_14, mw_ne (mw_fresh f_13 hrf)]; exact f_13
        have f_17 : w_14 hr = some (.inl (cA 1, 4, .inr (.inl (fun _ => 0)))) := by rw [← ew_14]; exact mw_self
        refine mx_putF G h hname f_16 rfl 2 (by decide) (tb_in in_Q) t_Q t_Q_ok n_Q (tb_c k_99) rfl rfl rfl rfl rfl rfl (Nat.le_of_ble_eq_true rfl) d_Q_init_49 (fun H locs h => ?_)
        have h : mw_H n0 D cl s (mw_up w_14 a (.inr (3, [.ref hp, .ref hn, .ref hr, .int 0, .int 0]))) H _ := h
        obtain ⟨w_18, ew_18⟩ : ∃ xx : mw, mw_up w_14 a (.inr (3, [.ref hp, .ref hn, .ref hr, .int 0, .int 0])) = xx := ⟨_, rfl⟩
        rw [ew_18] at h
        have f_19 : w_18 hn = some (.inl (cA 0, 4, .inl (fun _ => 0))) := by rw [← ew_18, mw_ne (mw_apart f_15 f_16 (by simp))]; exact f_15
        have f_20 : w_18 hr = some (.inl (cA 1, 4, .inr (.inl (fun _ => 0)))) := by rw [← ew_18, mw_ne (mw_apart f_17 f_16 (by simp))]; exact f_17
        have f_21 : w_18 a = some (.inr (3, [.ref hp, .ref hn, .ref hr, .int 0, .int 0])) := by rw [← ew_18]; exact mw_self
        have old : ∀ (y : Nat) (e9 : va_E), v y = some e9 → y ≠ a → w_18 y = some e9 := fun y e9 hy hya => by
          have n1 : y ≠ hn := mw_fresh hy hnf
          have n2 : y ≠ hr := by
            intro z9
            rw [z9] at hy hya n1
            rw [← ew_11, mw_ne hya, ← ew_8, mw_ne n1] at hrf
            rw [hy] at hrf; cases hrf
          rw [← ew_18, mw_ne hya, ← ew_14, mw_ne n2, ← ew_11, mw_ne hya, ← ew_8, mw_ne n1]; exact hy
        have hwo : ∀ y, v y = none → y ≠ a → y ≠ hp → w y = none := fun y hy h1 h2 => by
          rw [← vf y (fun z => z.elim h1 (fun z => z.elim h2 (fun ⟨k, hk, z⟩ => z.elim (fun z => by rw [z, (vg k hk).2.1] at hy; cases hy) (fun z => by rw [z, (vg k hk).2.2.1] at hy; cases hy))))]; exact hy
        have hna : hn ≠ a := fun z => by rw [z, va] at hnf; cases hnf
        have hnp : hn ≠ hp := fun z => by rw [z, vp] at hnf; cases hnf
        have hrv : v hr = none := by
          have n1 : hr ≠ a := fun z => by rw [z, f_13] at hrf; cases hrf
          have n2 : hr ≠ hn := fun z => by rw [z, ← ew_11, mw_ne hna, ← ew_8, mw_self] at hrf; cases hrf
          rw [← ew_11, mw_ne n1, ← ew_8, mw_ne n2] at hrf; exact hrf
        have hra : hr ≠ a := fun z => by rw [z, va] at hrv; cases hrv
        have hrp : hr ≠ hp := fun z => by rw [z, vp] at hrv; cases hrv
        have hap : hp ≠ a := mw_apart vp va (by simp)
        refine W.widen (k := 11) (n := 40) (by omega) (by omega) ?_
        have hQX : QAx cA w_18 (SQ a hp hn hr g gu) a hp hn hr [] [] f g gu (fun _ => 0) (fun _ => 0) := ⟨f_21, old hp _ vp hap, f_19, f_20, Nat.zero_le _, Nat.zero_le _, fun k hk => ⟨(vg k hk).1, Or.inr (Or.inr (Or.inr (Or.inr ⟨k, hk, Or.inl rfl⟩))), Or.inr (Or.inr (Or.inr (Or.inr ⟨k, hk, Or.inr rfl⟩))), 0, 0, _, old _ _ (vg k hk).2.1 (mw_apart (vg k hk).2.1 va (by simp)), old _ _ (vg k hk).2.2.1 (mw_apart (vg k hk).2.2.1 va (by simp))⟩, fun k z hk => by simp at hk, fun k z hk => by simp at hk, vi, vj, Or.inl rfl, Or.inr (Or.inl rfl), Or.inr (Or.inr (Or.inl rfl)), Or.inr (Or.inr (Or.inr (Or.inl rfl)))⟩
        have hFR : FR w w_18 (SQ a hp hn hr g gu) := fun y hy => by
          have m1 : y ≠ a := fun z => hy (Or.inl z)
          have m2 : y ≠ hn := fun z => hy (Or.inr (Or.inr (Or.inl z)))
          have m3 : y ≠ hr := fun z => hy (Or.inr (Or.inr (Or.inr (Or.inl z))))
          rw [← ew_18, mw_ne m1, ← ew_14, mw_ne m3, ← ew_11, mw_ne m1, ← ew_8, mw_ne m2]
          exact vf y (fun z => hy (z.elim Or.inl (fun z => z.elim (fun z => Or.inr (Or.inl z)) (fun z => Or.inr (Or.inr (Or.inr (Or.inr z)))))))
        have hfresh : ∀ y, (SQ a hp hn hr g gu) y → y = a ∨ w y = none := by
          rintro y (z | z | z | z | ⟨k, hk, z | z⟩)
          · exact Or.inl z
          · exact Or.inr (by rw [z]; exact hpf)
          · exact Or.inr (by rw [z]; exact hwo hn hnf hna hnp)
          · exact Or.inr (by rw [z]; exact hwo hr hrv hra hrp)
          · exact Or.inr (by rw [z]; exact (vg k hk).2.2.2.1)
          · exact Or.inr (by rw [z]; exact (vg k hk).2.2.2.2)
        have hlive : ∀ y, (SQ a hp hn hr g gu) y → w_18 y ≠ none := by
          rintro y (z | z | z | z | ⟨k, hk, z | z⟩) <;> rw [z]
          · rw [f_21]; simp
          · rw [old hp _ vp hap]; simp
          · rw [f_19]; simp
          · rw [f_20]; simp
          · rw [old _ _ (vg k hk).2.1 (mw_apart (vg k hk).2.1 va (by simp))]; simp
          · rw [old _ _ (vg k hk).2.2.1 (mw_apart (vg k hk).2.2.1 va (by simp))]; simp
        exact mx_retv G h hrt hlocks d_Q_init_52 (⟨hp, hn, hr, f, g, gu, _, _, hQX, hFR, hfresh, hlive⟩)
      · exact absurd (by rw [hi]; decide) c_7
    | succ t ih =>
      intro i hi f g gu v va vp vg vi vj vf H locs ls h hl
      refine lv_iload_n hx hb d_Q_init_14 rfl (lv_at hl 0 rfl) ?_
      refine lv_iconst (v := 4) hx hb d_Q_init_15 (by decide) ?_
      refine lv_icmp_ge (tgt := 38) hx hb d_Q_init_16 (by decide) (fun c_22 => ?_) (fun c_22 => ?_)
      · exact absurd ((nI_leI (b := i) (a := 4) (by omega) (by omega)).mp c_22) (by omega)
      · refine lv_aload_n hx hb d_Q_init_19 rfl (lv_at hl 1 rfl) ?_
        refine mx_get G h va rfl 0 (by decide) (tb_in in_Q) (tb_c k_95) rfl rfl d_Q_init_20 ?_
        refine lv_iload_n hx hb d_Q_init_23 rfl (lv_at hl 0 rfl) ?_
        refine mx_new (ci := 2) (fs := [.null, .int 0, .int 0]) G h rfl (tb_in in_K) t_K t_K_ok (tb_c k_73) (tb_c k_75) (tb_c k_6) (fun j9 hj9 => by rcases (show j9 = 0 ∨ j9 = 1 ∨ j9 = 2 by omega) with rfl | rfl | rfl <;> rfl) (by show _ ≤ 11; omega) (by show _ ≤ 40; omega) d_Q_init_24 (fun z H hzf h => ?_)
        have h : mw_H n0 D cl s (mw_up v z (.inr (2, [.null, .int 0, .int 0]))) H _ := h
        obtain ⟨w_23, ew_23⟩ : ∃ xx : mw, mw_up v z (.inr (2, [.null, .int 0, .int 0])) = xx := ⟨_, rfl⟩
        rw [ew_23] at h
        have f_24 : w_23 a = some (.inr (3, [.ref hp, .null, .null, .int 0, .int 0])) := by rw [← ew_23, mw_ne (mw_fresh va hzf)]; exact va
        have f_25 : w_23 hp = some (refs cA 4 4 f) := by rw [← ew_23, mw_ne (mw_fresh vp hzf)]; exact vp
        have f_26 : w_23 z = some (.inr (2, [.null, .int 0, .int 0])) := by rw [← ew_23]; exact mw_self
        refine lv_dup hx hb d_Q_init_27 rfl ?_
        refine mx_cv (cIN (As := []) (rest := [.ref z, .int (nI i), .ref hp]) (host := "QueueDrive") G h (m_K_init f_26) (by decide) k_77 k_6 k_78 rfl hd_K_init rfl rfl ⟨Nat.le_of_ble_eq_true rfl, Nat.le_of_ble_eq_true rfl⟩ rfl hl.1 rfl (Nat.le_of_ble_eq_true rfl) d_Q_init_28 ⟨by show _ ≤ 11; omega, by show _ ≤ 40; omega⟩) h (fun w_27 H locs h hcp => ?_)
        obtain ⟨u, huf, ew⟩ := hcp
        have huz : u ≠ z := fun y9 => by rw [y9, f_26] at huf; cases huf
        have hua : u ≠ a := fun y9 => by rw [y9, f_24] at huf; cases huf
        have hup : u ≠ hp := fun y9 => by rw [y9, f_25] at huf; cases huf
        have hza : a ≠ z := mw_fresh va hzf
        have hzp : hp ≠ z := mw_fresh vp hzf
        have huv : v u = none := by rw [← ew_23, mw_ne huz] at huf; exact huf
        have oa : w_27 a = some (.inr (3, [.ref hp, .null, .null, .int 0, .int 0])) := by rw [ew, mw_ne hza, mw_ne hua.symm]; exact f_24
        have op : w_27 hp = some (refs cA 4 4 f) := by rw [ew, mw_ne hzp, mw_ne hup.symm]; exact f_25
        have oz : w_27 z = some (kcell u 0 0) := by rw [ew]; exact mw_self
        have ou : w_27 u = some (ucell (0, 0, 0, 0)) := by rw [ew, mw_ne huz]; exact mw_self
        refine ax_sa G h 4 2 op rfl oz rfl i rfl (by omega) (by decide) d_Q_init_31 (fun H locs h => ?_)
        have h : mw_H n0 D cl s (mw_up w_27 hp (.inl (cA 4, 4, .inr (.inr (.inr (.inr (va_up f i (some z)))))))) H _ := h
        obtain ⟨w_28, ew_28⟩ : ∃ xx : mw, mw_up w_27 hp (.inl (cA 4, 4, .inr (.inr (.inr (.inr (va_up f i (some z))))))) = xx := ⟨_, rfl⟩
        rw [ew_28] at h
        have f_29 : w_28 a = some (.inr (3, [.ref hp, .null, .null, .int 0, .int 0])) := by rw [← ew_28, mw_ne (mw_apart oa op (by simp))]; exact oa
        have f_30 : w_28 z = some (kcell u 0 0) := by rw [← ew_28, mw_ne (mw_apart oz op (by simp))]; exact oz
        have f_31 : w_28 u = some (ucell (0, 0, 0, 0)) := by rw [← ew_28, mw_ne (mw_apart ou op (by simp))]; exact ou
        have f_32 : w_28 hp = some (.inl (cA 4, 4, .inr (.inr (.inr (.inr (va_up f i (some z))))))) := by rw [← ew_28]; exact mw_self
        refine lv_iinc (v := (nI i) + 1) (lv' := [(1, .int ((nI i) + 1)), (0, .ref a)]) hx hb d_Q_init_32 hl (k := 0) rfl rfl (by decide) rfl (fun ls hl => ?_)
        refine lv_goto (tgt := 14) hx hb d_Q_init_35 (by decide) ?_
        rw [nI_1] at hl
        have hwo : ∀ y, v y = none → w y = none := fun y hy => by
          rw [← vf y (fun z => z.elim (fun z => by rw [z, va] at hy; cases hy) (fun z => z.elim (fun z => by rw [z, vp] at hy; cases hy) (fun ⟨k, hk, z⟩ => z.elim (fun z => by rw [z, (vg k hk).2.1] at hy; cases hy) (fun z => by rw [z, (vg k hk).2.2.1] at hy; cases hy))))]; exact hy
        have hgo : ∀ {x : Nat} (g : Nat → Nat) (k : Nat), k < i → va_up g i x k = g k := fun g k hk => by simp only [va_up]; rw [if_neg (by omega)]
        have hgn : ∀ {x : Nat} (g : Nat → Nat), va_up g i x i = x := fun g => by simp [va_up]
        have old : ∀ (y : Nat) (e9 : va_E), v y = some e9 → y ≠ hp → w_28 y = some e9 := fun y e9 hy hya => by
          rw [← ew_28, mw_ne hya, ew, mw_ne (mw_fresh hy hzf), mw_ne (mw_fresh hy huv), ← ew_23, mw_ne (mw_fresh hy hzf)]; exact hy
        refine W.widen (k := 1 + 2 * (i + 1)) (n := 4 + 7 * (i + 1)) (by omega) (by omega) ?_
        refine ih (i + 1) (by omega) (va_up f i (some z)) (va_up g i z) (va_up gu i u) _ f_29 f_32 (fun k hk => ?_) (fun k k2 hk hk2 hkk => ?_) (fun k k2 hk hk2 hkk => ?_) (fun y hy => ?_) H locs ls h (lv_sub hl [0, 1] rfl)
        · by_cases e9 : k = i
          · subst e9; rw [hgn g, hgn gu]; exact ⟨by simp [va_up], f_30, f_31, hwo z hzf, hwo u huv⟩
          · have hk9 := vg k (by omega)
            rw [hgo g k (by omega), hgo gu k (by omega)]; exact ⟨by simp only [va_up]; rw [if_neg e9]; exact hk9.1, old _ _ hk9.2.1 (mw_apart hk9.2.1 vp (by simp)), old _ _ hk9.2.2.1 (mw_apart hk9.2.2.1 vp (by simp)), hk9.2.2.2.1, hk9.2.2.2.2⟩
        · by_cases e9 : k = i
          · by_cases e8 : k2 = i
            · omega
            · rw [e9, hgn g, hgo g k2 (by omega)] at hkk; exact absurd hkk.symm (mw_fresh (vg k2 (by omega)).2.1 hzf)
          · by_cases e8 : k2 = i
            · rw [e8, hgn g, hgo g k (by omega)] at hkk; exact absurd hkk (mw_fresh (vg k (by omega)).2.1 hzf)
            · rw [hgo g k (by omega), hgo g k2 (by omega)] at hkk; exact vi k k2 (by omega) (by omega) hkk
        · by_cases e9 : k = i
          · by_cases e8 : k2 = i
            · omega
            · rw [e9, hgn gu, hgo gu k2 (by omega)] at hkk; exact absurd hkk.symm (mw_fresh (vg k2 (by omega)).2.2.1 huv)
          · by_cases e8 : k2 = i
            · rw [e8, hgn gu, hgo gu k (by omega)] at hkk; exact absurd hkk (mw_fresh (vg k (by omega)).2.2.1 huv)
            · rw [hgo gu k (by omega), hgo gu k2 (by omega)] at hkk; exact vj k k2 (by omega) (by omega) hkk
        · have hy1 : y ≠ hp := fun q9 => hy (Or.inr (Or.inl q9))
          have hy2 : y ≠ z := fun q9 => hy (Or.inr (Or.inr ⟨i, by omega, Or.inl (by rw [hgn g]; exact q9)⟩))
          have hy3 : y ≠ u := fun q9 => hy (Or.inr (Or.inr ⟨i, by omega, Or.inr (by rw [hgn gu]; exact q9)⟩))
          rw [← ew_28, mw_ne hy1, ew, mw_ne hy2, mw_ne hy3, ← ew_23, mw_ne hy2]
          exact vf y (fun q9 => hy (q9.elim Or.inl (fun q9 => q9.elim (fun q9 => Or.inr (Or.inl q9)) (fun ⟨k, hk, q8⟩ => Or.inr (Or.inr ⟨k, by omega, q8.elim (fun q7 => Or.inl (by rw [hgo g k hk]; exact q7)) (fun q7 => Or.inr (by rw [hgo gu k hk]; exact q7))⟩)))))
  refine W.widen (k := 1 + 2 * 0) (n := 4 + 7 * 0) (by omega) (by omega) ?_
  exact loop 4 0 (by omega) (fun _ => none) (fun _ => 0) (fun _ => 0) _ f_6 f_5 (fun k hk => absurd hk (Nat.not_lt_zero _)) (fun k k2 hk => absurd hk (Nat.not_lt_zero _)) (fun k k2 hk => absurd hk (Nat.not_lt_zero _)) (fun y hy => by rw [← ew_4, mw_ne (fun q9 => hy (Or.inl q9)), ← ew_1, mw_ne (fun q9 => hy (Or.inr (Or.inl q9)))]) H locs ls h (lv_sub hl [0, 1] rfl)
end
