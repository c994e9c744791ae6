section
-- ===== PART A: goes FIRST, ahead of the names: the tables' words, and 'selects' of the private methods out of them =====
/-- a private method of a class that the tables say can be made, by its rows of tables_1 -/
def lw_okq (q : MethodName × Nat) : Prop := (q.1.cls ≠ "java/lang/invoke/MethodHandle" ∧ q.1.cls ≠ "java/lang/invoke/VarHandle") ∧ Cond.instantiable q.1.cls q.2 ∈ tables_1 ∧ Cond.privateMethod q.1 ∈ tables_1 ∧ Cond.instanceMethod q.1 ∈ tables_1
theorem lw_p0 : lw_okq (⟨"QuorumRegister", "begin", "(IZI)I"⟩, 4) := ⟨⟨by decide +kernel, by decide +kernel⟩, List.mem_of_getElem? (i := 10) (by decide +kernel), List.mem_of_getElem? (i := 111) (by decide +kernel), List.mem_of_getElem? (i := 112) (by decide +kernel)⟩
theorem lw_p1 : lw_okq (⟨"QuorumRegister", "isCrowded", "()Z"⟩, 4) := ⟨⟨by decide +kernel, by decide +kernel⟩, List.mem_of_getElem? (i := 10) (by decide +kernel), List.mem_of_getElem? (i := 118) (by decide +kernel), List.mem_of_getElem? (i := 119) (by decide +kernel)⟩
theorem lw_p2 : lw_okq (⟨"QuorumRegister", "sendToAll", "(IIII)V"⟩, 4) := ⟨⟨by decide +kernel, by decide +kernel⟩, List.mem_of_getElem? (i := 10) (by decide +kernel), List.mem_of_getElem? (i := 126) (by decide +kernel), List.mem_of_getElem? (i := 127) (by decide +kernel)⟩
theorem lw_p3 : lw_okq (⟨"QuorumRegister", "send", "(IIIIII)V"⟩, 4) := ⟨⟨by decide +kernel, by decide +kernel⟩, List.mem_of_getElem? (i := 10) (by decide +kernel), List.mem_of_getElem? (i := 130) (by decide +kernel), List.mem_of_getElem? (i := 131) (by decide +kernel)⟩
theorem lw_p4 : lw_okq (⟨"QuorumRegister", "takeAsk", "(III)V"⟩, 4) := ⟨⟨by decide +kernel, by decide +kernel⟩, List.mem_of_getElem? (i := 10) (by decide +kernel), List.mem_of_getElem? (i := 174) (by decide +kernel), List.mem_of_getElem? (i := 175) (by decide +kernel)⟩
theorem lw_p5 : lw_okq (⟨"QuorumRegister", "takeTell", "(IIIII)V"⟩, 4) := ⟨⟨by decide +kernel, by decide +kernel⟩, List.mem_of_getElem? (i := 10) (by decide +kernel), List.mem_of_getElem? (i := 178) (by decide +kernel), List.mem_of_getElem? (i := 179) (by decide +kernel)⟩
theorem lw_p6 : lw_okq (⟨"QuorumRegister", "store", "(I)V"⟩, 4) := ⟨⟨by decide +kernel, by decide +kernel⟩, List.mem_of_getElem? (i := 10) (by decide +kernel), List.mem_of_getElem? (i := 200) (by decide +kernel), List.mem_of_getElem? (i := 201) (by decide +kernel)⟩
theorem lw_p7 : lw_okq (⟨"QuorumRegister", "takeStore", "(IIIII)V"⟩, 4) := ⟨⟨by decide +kernel, by decide +kernel⟩, List.mem_of_getElem? (i := 10) (by decide +kernel), List.mem_of_getElem? (i := 205) (by decide +kernel), List.mem_of_getElem? (i := 206) (by decide +kernel)⟩
theorem lw_p8 : lw_okq (⟨"QuorumRegister", "takeStored", "(III)V"⟩, 4) := ⟨⟨by decide +kernel, by decide +kernel⟩, List.mem_of_getElem? (i := 10) (by decide +kernel), List.mem_of_getElem? (i := 209) (by decide +kernel), List.mem_of_getElem? (i := 210) (by decide +kernel)⟩
theorem lw_p9 : lw_okq (⟨"QuorumRegister", "finish", "(I)V"⟩, 4) := ⟨⟨by decide +kernel, by decide +kernel⟩, List.mem_of_getElem? (i := 10) (by decide +kernel), List.mem_of_getElem? (i := 213) (by decide +kernel), List.mem_of_getElem? (i := 214) (by decide +kernel)⟩
theorem lw_p10 : lw_okq (⟨"QuorumRegister", "countFailed", "()I"⟩, 4) := ⟨⟨by decide +kernel, by decide +kernel⟩, List.mem_of_getElem? (i := 10) (by decide +kernel), List.mem_of_getElem? (i := 237) (by decide +kernel), List.mem_of_getElem? (i := 238) (by decide +kernel)⟩
theorem lw_p11 : lw_okq (⟨"QuorumRegisterModel", "begin", "(IZI)I"⟩, 16) := ⟨⟨by decide +kernel, by decide +kernel⟩, List.mem_of_getElem? (i := 277) (by decide +kernel), List.mem_of_getElem? (i := 337) (by decide +kernel), List.mem_of_getElem? (i := 338) (by decide +kernel)⟩
theorem lw_p12 : lw_okq (⟨"QuorumRegisterModel", "sendAll", "(IIII)V"⟩, 16) := ⟨⟨by decide +kernel, by decide +kernel⟩, List.mem_of_getElem? (i := 277) (by decide +kernel), List.mem_of_getElem? (i := 344) (by decide +kernel), List.mem_of_getElem? (i := 345) (by decide +kernel)⟩
theorem lw_p13 : lw_okq (⟨"QuorumRegisterModel", "send", "(IIIIII)V"⟩, 16) := ⟨⟨by decide +kernel, by decide +kernel⟩, List.mem_of_getElem? (i := 277) (by decide +kernel), List.mem_of_getElem? (i := 348) (by decide +kernel), List.mem_of_getElem? (i := 349) (by decide +kernel)⟩
theorem lw_p14 : lw_okq (⟨"QuorumRegisterModel", "drop", "(I)V"⟩, 16) := ⟨⟨by decide +kernel, by decide +kernel⟩, List.mem_of_getElem? (i := 277) (by decide +kernel), List.mem_of_getElem? (i := 364) (by decide +kernel), List.mem_of_getElem? (i := 365) (by decide +kernel)⟩
def lw_privs_1 : List (MethodName × Nat) := [(⟨"QuorumRegister", "begin", "(IZI)I"⟩, 4), (⟨"QuorumRegister", "isCrowded", "()Z"⟩, 4), (⟨"QuorumRegister", "sendToAll", "(IIII)V"⟩, 4), (⟨"QuorumRegister", "send", "(IIIIII)V"⟩, 4), (⟨"QuorumRegister", "takeAsk", "(III)V"⟩, 4), (⟨"QuorumRegister", "takeTell", "(IIIII)V"⟩, 4), (⟨"QuorumRegister", "store", "(I)V"⟩, 4), (⟨"QuorumRegister", "takeStore", "(IIIII)V"⟩, 4), (⟨"QuorumRegister", "takeStored", "(III)V"⟩, 4), (⟨"QuorumRegister", "finish", "(I)V"⟩, 4), (⟨"QuorumRegister", "countFailed", "()I"⟩, 4), (⟨"QuorumRegisterModel", "begin", "(IZI)I"⟩, 16), (⟨"QuorumRegisterModel", "sendAll", "(IIII)V"⟩, 16), (⟨"QuorumRegisterModel", "send", "(IIIIII)V"⟩, 16), (⟨"QuorumRegisterModel", "drop", "(I)V"⟩, 16)]
theorem lw_r1 : ∀ q ∈ lw_privs_1, lw_okq q := List.forall_mem_cons.mpr ⟨lw_p0, List.forall_mem_cons.mpr ⟨lw_p1, List.forall_mem_cons.mpr ⟨lw_p2, List.forall_mem_cons.mpr ⟨lw_p3, List.forall_mem_cons.mpr ⟨lw_p4, List.forall_mem_cons.mpr ⟨lw_p5, List.forall_mem_cons.mpr ⟨lw_p6, List.forall_mem_cons.mpr ⟨lw_p7, List.forall_mem_cons.mpr ⟨lw_p8, List.forall_mem_cons.mpr ⟨lw_p9, List.forall_mem_cons.mpr ⟨lw_p10, List.forall_mem_cons.mpr ⟨lw_p11, List.forall_mem_cons.mpr ⟨lw_p12, List.forall_mem_cons.mpr ⟨lw_p13, List.forall_mem_cons.mpr ⟨lw_p14, fun _ h => absurd h List.not_mem_nil⟩⟩⟩⟩⟩⟩⟩⟩⟩⟩⟩⟩⟩⟩⟩
def lw_privs : List (MethodName × Nat) := lw_privs_1
def lw_tbl : List Cond := k2_sels lw_privs ++ tables_1
theorem lw_privs_ok : ∀ q ∈ lw_privs, lw_okq q := lw_r1
/-! ===== BEGIN words of one list among another's, by their places ===== -/
theorem goodIn_r {big : List Cond} (ws : List Cond) (ps : List Nat) (hp : ws = ps.filterMap (fun i => big[i]?)) (h : ws.all goodWord = true) : GoodIn big ws := by
  intro w hw
  have h1 := List.all_eq_true.mp h w hw
  rw [hp] at hw
  obtain ⟨i, -, hi⟩ := List.mem_filterMap.mp hw
  have hm : w ∈ big := by first | exact List.mem_of_getElem? hi | exact List.getElem?_mem hi
  exact ⟨hm, good_of_word h1⟩
theorem goodIn_app {big a b : List Cond} (ha : GoodIn big a) (hb : GoodIn big b) : GoodIn big (a ++ b) := fun w h => (List.mem_append.mp h).elim (ha w) (hb w)
theorem goodIn_ca {big a b : List Cond} {c : Cond} (ha : GoodIn big (c :: a)) (hb : GoodIn big b) : GoodIn big (c :: (a ++ b)) := fun w h => (List.mem_cons.mp h).elim (fun e => ha w (List.mem_cons.mpr (Or.inl e))) (fun h => (List.mem_append.mp h).elim (fun h => ha w (List.mem_cons.mpr (Or.inr h))) (hb w))
theorem goodIn_sub {big ws : List Cond} (hm : ∀ w ∈ ws, w ∈ big) (h : ws.all goodWord = true) : GoodIn big ws := fun w hw => ⟨hm w hw, good_of_word (List.all_eq_true.mp h w hw)⟩
/-! ===== END ===== -/

/-! ===== BEGIN printed: names, fields, word lists, decode rows ===== -/
def RX0 : String := "QuorumRegister$Client"
def TX0 : u_T := fun k => match k with
  | 0 => ("QuorumRegister$Client", "phase", "I", false)
  | 1 => ("QuorumRegister$Client", "serial", "I", false)
  | 2 => ("QuorumRegister$Client", "writes", "Z", false)
  | 3 => ("QuorumRegister$Client", "toWrite", "I", false)
  | 4 => ("QuorumRegister$Client", "answers", "I", false)
  | 5 => ("QuorumRegister$Client", "tag", "I", false)
  | 6 => ("QuorumRegister$Client", "value", "I", false)
  | _ => ("QuorumRegister$Client", "lastNumber", "I", false)
def tyX0 : Nat → FieldType := fun k => match k with
  | 0 => .int
  | 1 => .int
  | 2 => .boolean
  | 3 => .int
  | 4 => .int
  | 5 => .int
  | 6 => .int
  | _ => .int
abbrev wsX00 : List Cond := u_ws RX0 TX0 8
theorem nmX0 : ∀ a, a < 8 → ∀ b, b < 8 → a ≠ b → (TX0 a).2.1 ≠ (TX0 b).2.1 := by decide +kernel
theorem tyX0_ok : ∀ k, k < 8 → parseFieldDescriptor (TX0 k).2.2.1 = some (tyX0 k) := by decide +kernel
abbrev cX0_init : ByteArray := prog_2_method_1_code
def yX0_init : MethodName := ⟨RX0, "<init>", "()V"⟩
abbrev cX0_enter : ByteArray := prog_2_method_2_code
def yX0_enter : MethodName := ⟨RX0, "enter", "(I)V"⟩
abbrev cX0_awaits : ByteArray := prog_2_method_3_code
def yX0_awaits : MethodName := ⟨RX0, "awaits", "(III)Z"⟩
abbrev cX0_hear : ByteArray := prog_2_method_4_code
def yX0_hear : MethodName := ⟨RX0, "hear", "(I)V"⟩
abbrev cX0_hasQuorum : ByteArray := prog_2_method_5_code
def yX0_hasQuorum : MethodName := ⟨RX0, "hasQuorum", "()Z"⟩
def RX1 : String := "QuorumRegister$Replica"
def TX1 : u_T := fun k => match k with
  | 0 => ("QuorumRegister$Replica", "tag", "I", false)
  | 1 => ("QuorumRegister$Replica", "value", "I", false)
  | _ => ("QuorumRegister$Replica", "failed", "Z", false)
def tyX1 : Nat → FieldType := fun k => match k with
  | 0 => .int
  | 1 => .int
  | _ => .boolean
abbrev wsX10 : List Cond := u_ws RX1 TX1 3
theorem nmX1 : ∀ a, a < 3 → ∀ b, b < 3 → a ≠ b → (TX1 a).2.1 ≠ (TX1 b).2.1 := by decide +kernel
theorem tyX1_ok : ∀ k, k < 3 → parseFieldDescriptor (TX1 k).2.2.1 = some (tyX1 k) := by decide +kernel
abbrev cX1_init : ByteArray := prog_3_method_1_code
def yX1_init : MethodName := ⟨RX1, "<init>", "()V"⟩
def RX2 : String := "QuorumRegister$Rows"
def TX2 : u_T := fun k => match k with
  | 0 => ("QuorumRegister$Rows", "width", "I", true)
  | 1 => ("QuorumRegister$Rows", "most", "I", true)
  | 2 => ("QuorumRegister$Rows", "cells", "[I", true)
  | _ => ("QuorumRegister$Rows", "count", "I", false)
def tyX2 : Nat → FieldType := fun k => match k with
  | 0 => .int
  | 1 => .int
  | 2 => .array .int
  | _ => .int
abbrev wsX20 : List Cond := u_ws RX2 TX2 4
theorem nmX2 : ∀ a, a < 4 → ∀ b, b < 4 → a ≠ b → (TX2 a).2.1 ≠ (TX2 b).2.1 := by decide +kernel
theorem tyX2_ok : ∀ k, k < 4 → parseFieldDescriptor (TX2 k).2.2.1 = some (tyX2 k) := by decide +kernel
abbrev cX2_init : ByteArray := prog_4_method_1_code
def yX2_init : MethodName := ⟨RX2, "<init>", "(II)V"⟩
abbrev cX2_has : ByteArray := prog_4_method_2_code
def yX2_has : MethodName := ⟨RX2, "has", "(I)Z"⟩
abbrev cX2_hasColumn : ByteArray := prog_4_method_3_code
def yX2_hasColumn : MethodName := ⟨RX2, "hasColumn", "(I)Z"⟩
abbrev cX2_cell : ByteArray := prog_4_method_4_code
def yX2_cell : MethodName := ⟨RX2, "cell", "(II)I"⟩
abbrev cX2_add : ByteArray := prog_4_method_5_code
def yX2_add : MethodName := ⟨RX2, "add", "()I"⟩
abbrev cX2_set : ByteArray := prog_4_method_6_code
def yX2_set : MethodName := ⟨RX2, "set", "(III)V"⟩
abbrev cX2_addCopy : ByteArray := prog_4_method_7_code
def yX2_addCopy : MethodName := ⟨RX2, "addCopy", "(I)V"⟩
abbrev cX2_remove : ByteArray := prog_4_method_8_code
def yX2_remove : MethodName := ⟨RX2, "remove", "(I)V"⟩
def RX3 : String := "QuorumRegister"
def TX3 : u_T := fun k => match k with
  | 0 => ("QuorumRegister", "replicas", "[LQuorumRegister$Replica;", true)
  | 1 => ("QuorumRegister", "clients", "[LQuorumRegister$Client;", true)
  | 2 => ("QuorumRegister", "pool", "LQuorumRegister$Rows;", true)
  | _ => ("QuorumRegister", "done", "LQuorumRegister$Rows;", true)
def tyX3 : Nat → FieldType := fun k => match k with
  | 0 => .array (.object "QuorumRegister$Replica")
  | 1 => .array (.object "QuorumRegister$Client")
  | 2 => .object "QuorumRegister$Rows"
  | _ => .object "QuorumRegister$Rows"
abbrev wsX30 : List Cond := u_ws RX3 TX3 4
theorem nmX3 : ∀ a, a < 4 → ∀ b, b < 4 → a ≠ b → (TX3 a).2.1 ≠ (TX3 b).2.1 := by decide +kernel
theorem tyX3_ok : ∀ k, k < 4 → parseFieldDescriptor (TX3 k).2.2.1 = some (tyX3 k) := by decide +kernel
abbrev cX3_init : ByteArray := prog_1_method_1_code
def yX3_init : MethodName := ⟨RX3, "<init>", "()V"⟩
abbrev cX3_write : ByteArray := prog_1_method_2_code
def yX3_write : MethodName := ⟨RX3, "write", "(II)I"⟩
abbrev cX3_read : ByteArray := prog_1_method_3_code
def yX3_read : MethodName := ⟨RX3, "read", "(I)I"⟩
abbrev cX3_leave : ByteArray := prog_1_method_4_code
def yX3_leave : MethodName := ⟨RX3, "leave", "(I)Z"⟩
abbrev cX3_deliver : ByteArray := prog_1_method_5_code
def yX3_deliver : MethodName := ⟨RX3, "deliver", "(I)I"⟩
abbrev cX3_lose : ByteArray := prog_1_method_6_code
def yX3_lose : MethodName := ⟨RX3, "lose", "(I)Z"⟩
abbrev cX3_repeat : ByteArray := prog_1_method_7_code
def yX3_repeat : MethodName := ⟨RX3, "repeat", "(I)Z"⟩
abbrev cX3_fail : ByteArray := prog_1_method_8_code
def yX3_fail : MethodName := ⟨RX3, "fail", "(I)Z"⟩
abbrev cX3_messages : ByteArray := prog_1_method_9_code
def yX3_messages : MethodName := ⟨RX3, "messages", "()I"⟩
abbrev cX3_message : ByteArray := prog_1_method_10_code
def yX3_message : MethodName := ⟨RX3, "message", "(II)I"⟩
abbrev cX3_tag : ByteArray := prog_1_method_11_code
def yX3_tag : MethodName := ⟨RX3, "tag", "(I)I"⟩
abbrev cX3_value : ByteArray := prog_1_method_12_code
def yX3_value : MethodName := ⟨RX3, "value", "(I)I"⟩
abbrev cX3_failed : ByteArray := prog_1_method_13_code
def yX3_failed : MethodName := ⟨RX3, "failed", "(I)Z"⟩
abbrev cX3_phase : ByteArray := prog_1_method_14_code
def yX3_phase : MethodName := ⟨RX3, "phase", "(I)I"⟩
abbrev cX3_answered : ByteArray := prog_1_method_15_code
def yX3_answered : MethodName := ⟨RX3, "answered", "(I)I"⟩
abbrev cX3_finished : ByteArray := prog_1_method_16_code
def yX3_finished : MethodName := ⟨RX3, "finished", "()I"⟩
abbrev cX3_operation : ByteArray := prog_1_method_17_code
def yX3_operation : MethodName := ⟨RX3, "operation", "(II)I"⟩
abbrev cX3_isClient : ByteArray := prog_1_method_18_code
def yX3_isClient : MethodName := ⟨RX3, "isClient", "(I)Z"⟩
abbrev cX3_isReplica : ByteArray := prog_1_method_19_code
def yX3_isReplica : MethodName := ⟨RX3, "isReplica", "(I)Z"⟩
abbrev cX3_isCrowded : ByteArray := prog_1_method_20_code
def yX3_isCrowded : MethodName := ⟨RX3, "isCrowded", "()Z"⟩
abbrev cX3_countFailed : ByteArray := prog_1_method_21_code
def yX3_countFailed : MethodName := ⟨RX3, "countFailed", "()I"⟩
abbrev cX3_begin : ByteArray := prog_1_method_22_code
def yX3_begin : MethodName := ⟨RX3, "begin", "(IZI)I"⟩
abbrev cX3_takeAsk : ByteArray := prog_1_method_23_code
def yX3_takeAsk : MethodName := ⟨RX3, "takeAsk", "(III)V"⟩
abbrev cX3_takeStore : ByteArray := prog_1_method_24_code
def yX3_takeStore : MethodName := ⟨RX3, "takeStore", "(IIIII)V"⟩
abbrev cX3_takeTell : ByteArray := prog_1_method_25_code
def yX3_takeTell : MethodName := ⟨RX3, "takeTell", "(IIIII)V"⟩
abbrev cX3_store : ByteArray := prog_1_method_26_code
def yX3_store : MethodName := ⟨RX3, "store", "(I)V"⟩
abbrev cX3_takeStored : ByteArray := prog_1_method_27_code
def yX3_takeStored : MethodName := ⟨RX3, "takeStored", "(III)V"⟩
abbrev cX3_finish : ByteArray := prog_1_method_28_code
def yX3_finish : MethodName := ⟨RX3, "finish", "(I)V"⟩
abbrev cX3_sendToAll : ByteArray := prog_1_method_29_code
def yX3_sendToAll : MethodName := ⟨RX3, "sendToAll", "(IIII)V"⟩
abbrev cX3_send : ByteArray := prog_1_method_30_code
def yX3_send : MethodName := ⟨RX3, "send", "(IIIIII)V"⟩
def RX4 : String := "QuorumRegisterModel"
def TX4 : u_T := fun k => match k with
  | 0 => ("QuorumRegisterModel", "tag", "[I", true)
  | 1 => ("QuorumRegisterModel", "value", "[I", true)
  | 2 => ("QuorumRegisterModel", "failed", "[Z", true)
  | 3 => ("QuorumRegisterModel", "failures", "I", false)
  | 4 => ("QuorumRegisterModel", "phase", "[I", true)
  | 5 => ("QuorumRegisterModel", "serial", "[I", true)
  | 6 => ("QuorumRegisterModel", "writes", "[Z", true)
  | 7 => ("QuorumRegisterModel", "wanted", "[I", true)
  | 8 => ("QuorumRegisterModel", "answers", "[I", true)
  | 9 => ("QuorumRegisterModel", "seenTag", "[I", true)
  | 10 => ("QuorumRegisterModel", "seenValue", "[I", true)
  | 11 => ("QuorumRegisterModel", "made", "[I", true)
  | 12 => ("QuorumRegisterModel", "pool", "[I", true)
  | 13 => ("QuorumRegisterModel", "count", "I", false)
  | 14 => ("QuorumRegisterModel", "done", "[I", true)
  | _ => ("QuorumRegisterModel", "finished", "I", false)
def tyX4 : Nat → FieldType := fun k => match k with
  | 0 => .array .int
  | 1 => .array .int
  | 2 => .array .boolean
  | 3 => .int
  | 4 => .array .int
  | 5 => .array .int
  | 6 => .array .boolean
  | 7 => .array .int
  | 8 => .array .int
  | 9 => .array .int
  | 10 => .array .int
  | 11 => .array .int
  | 12 => .array .int
  | 13 => .int
  | 14 => .array .int
  | _ => .int
abbrev wsX40 : List Cond := u_ws RX4 TX4 16
theorem nmX4 : ∀ a, a < 16 → ∀ b, b < 16 → a ≠ b → (TX4 a).2.1 ≠ (TX4 b).2.1 := by decide +kernel
theorem tyX4_ok : ∀ k, k < 16 → parseFieldDescriptor (TX4 k).2.2.1 = some (tyX4 k) := by decide +kernel
abbrev cX4_init : ByteArray := prog_6_method_1_code
def yX4_init : MethodName := ⟨RX4, "<init>", "()V"⟩
abbrev cX4_within : ByteArray := prog_6_method_2_code
def yX4_within : MethodName := ⟨RX4, "within", "(III)Z"⟩
abbrev cX4_send : ByteArray := prog_6_method_3_code
def yX4_send : MethodName := ⟨RX4, "send", "(IIIIII)V"⟩
abbrev cX4_sendAll : ByteArray := prog_6_method_4_code
def yX4_sendAll : MethodName := ⟨RX4, "sendAll", "(IIII)V"⟩
abbrev cX4_begin : ByteArray := prog_6_method_5_code
def yX4_begin : MethodName := ⟨RX4, "begin", "(IZI)I"⟩
abbrev cX4_write : ByteArray := prog_6_method_6_code
def yX4_write : MethodName := ⟨RX4, "write", "(II)I"⟩
abbrev cX4_read : ByteArray := prog_6_method_7_code
def yX4_read : MethodName := ⟨RX4, "read", "(I)I"⟩
abbrev cX4_leave : ByteArray := prog_6_method_8_code
def yX4_leave : MethodName := ⟨RX4, "leave", "(I)Z"⟩
abbrev cX4_drop : ByteArray := prog_6_method_9_code
def yX4_drop : MethodName := ⟨RX4, "drop", "(I)V"⟩
abbrev cX4_bits : ByteArray := prog_6_method_10_code
def yX4_bits : MethodName := ⟨RX4, "bits", "(I)I"⟩
abbrev cX4_deliver : ByteArray := prog_6_method_11_code
def yX4_deliver : MethodName := ⟨RX4, "deliver", "(I)I"⟩
abbrev cX4_lose : ByteArray := prog_6_method_12_code
def yX4_lose : MethodName := ⟨RX4, "lose", "(I)Z"⟩
abbrev cX4_repeat : ByteArray := prog_6_method_13_code
def yX4_repeat : MethodName := ⟨RX4, "repeat", "(I)Z"⟩
abbrev cX4_fail : ByteArray := prog_6_method_14_code
def yX4_fail : MethodName := ⟨RX4, "fail", "(I)Z"⟩
abbrev cX4_messages : ByteArray := prog_6_method_15_code
def yX4_messages : MethodName := ⟨RX4, "messages", "()I"⟩
abbrev cX4_message : ByteArray := prog_6_method_16_code
def yX4_message : MethodName := ⟨RX4, "message", "(II)I"⟩
abbrev cX4_tag : ByteArray := prog_6_method_17_code
def yX4_tag : MethodName := ⟨RX4, "tag", "(I)I"⟩
abbrev cX4_value : ByteArray := prog_6_method_18_code
def yX4_value : MethodName := ⟨RX4, "value", "(I)I"⟩
abbrev cX4_failed : ByteArray := prog_6_method_19_code
def yX4_failed : MethodName := ⟨RX4, "failed", "(I)Z"⟩
abbrev cX4_phase : ByteArray := prog_6_method_20_code
def yX4_phase : MethodName := ⟨RX4, "phase", "(I)I"⟩
abbrev cX4_answered : ByteArray := prog_6_method_21_code
def yX4_answered : MethodName := ⟨RX4, "answered", "(I)I"⟩
abbrev cX4_finished : ByteArray := prog_6_method_22_code
def yX4_finished : MethodName := ⟨RX4, "finished", "()I"⟩
abbrev cX4_operation : ByteArray := prog_6_method_23_code
def yX4_operation : MethodName := ⟨RX4, "operation", "(II)I"⟩
def RJ6 : String := "java/lang/Integer"
def TJ6 : u_T := fun k => match k with
  | _ => ("", "", "", false)
def tyJ6 : Nat → FieldType := fun k => match k with
  | _ => .int
abbrev wsJ60 : List Cond := u_ws RJ6 TJ6 0
theorem nmJ6 : ∀ a, a < 0 → ∀ b, b < 0 → a ≠ b → (TJ6 a).2.1 ≠ (TJ6 b).2.1 := by decide +kernel
theorem tyJ6_ok : ∀ k, k < 0 → parseFieldDescriptor (TJ6 k).2.2.1 = some (tyJ6 k) := by decide +kernel
abbrev cJ6_bitCount_0f7a4 : ByteArray := prog_7_method_49_code
def yJ6_bitCount_0f7a4 : MethodName := ⟨RJ6, "bitCount", "(I)I"⟩
def RJ9 : String := "java/lang/Math"
def TJ9 : u_T := fun k => match k with
  | _ => ("", "", "", false)
def tyJ9 : Nat → FieldType := fun k => match k with
  | _ => .int
abbrev wsJ90 : List Cond := u_ws RJ9 TJ9 0
theorem nmJ9 : ∀ a, a < 0 → ∀ b, b < 0 → a ≠ b → (TJ9 a).2.1 ≠ (TJ9 b).2.1 := by decide +kernel
theorem tyJ9_ok : ∀ k, k < 0 → parseFieldDescriptor (TJ9 k).2.2.1 = some (tyJ9 k) := by decide +kernel
abbrev cJ9_max_7cf53 : ByteArray := prog_8_method_65_code
def yJ9_max_7cf53 : MethodName := ⟨RJ9, "max", "(II)I"⟩
def RJ10 : String := "java/lang/System"
def TJ10 : u_T := fun k => match k with
  | _ => ("", "", "", false)
def tyJ10 : Nat → FieldType := fun k => match k with
  | _ => .int
abbrev wsJ100 : List Cond := u_ws RJ10 TJ10 0
theorem nmJ10 : ∀ a, a < 0 → ∀ b, b < 0 → a ≠ b → (TJ10 a).2.1 ≠ (TJ10 b).2.1 := by decide +kernel
theorem tyJ10_ok : ∀ k, k < 0 → parseFieldDescriptor (TJ10 k).2.2.1 = some (tyJ10 k) := by decide +kernel
def RL : String := "QuorumRegisterLaw"
abbrev cL_law : ByteArray := code
def yL_law : MethodName := ⟨RL, "law", "([I)Z"⟩
def wsX0_init : List Cond := .code yX0_init cX0_init 1 none :: ([.methodLink RX0 3 objectInit, .instanceMethod objectInit, .code objectInit ⟨#[0xb1]⟩ 1 none])
def wsX0_enter : List Cond := .code yX0_enter cX0_enter 2 none :: ([.fieldLink RX0 9 "QuorumRegister$Client" "phase" "I", .fieldLink RX0 15 "QuorumRegister$Client" "answers" "I"] ++ wsX00)
def wsX0_awaits : List Cond := .code yX0_awaits cX0_awaits 4 (some .boolean) :: ([.fieldLink RX0 18 "QuorumRegister$Client" "serial" "I", .fieldLink RX0 9 "QuorumRegister$Client" "phase" "I", .fieldLink RX0 15 "QuorumRegister$Client" "answers" "I"] ++ wsX00)
def wsX0_hear : List Cond := .code yX0_hear cX0_hear 2 none :: ([.fieldLink RX0 15 "QuorumRegister$Client" "answers" "I"] ++ wsX00)
def wsJ6_bitCount_0f7a4 : List Cond := .code yJ6_bitCount_0f7a4 cJ6_bitCount_0f7a4 1 (some .int) :: ([.constant RJ6 265 (1431655765), .constant RJ6 266 (858993459), .constant RJ6 267 (252645135)])
def wsX0_hasQuorum : List Cond := .code yX0_hasQuorum cX0_hasQuorum 1 (some .boolean) :: ([.fieldLink RX0 15 "QuorumRegister$Client" "answers" "I", .methodLink RX0 21 yJ6_bitCount_0f7a4, .static yJ6_bitCount_0f7a4, .initialized RJ6, .code yJ6_bitCount_0f7a4 cJ6_bitCount_0f7a4 1 (some .int), .constant RJ6 265 (1431655765), .constant RJ6 266 (858993459), .constant RJ6 267 (252645135)] ++ wsX00)
def wsX1_init : List Cond := .code yX1_init cX1_init 1 none :: ([.methodLink RX1 1 objectInit, .instanceMethod objectInit, .code objectInit ⟨#[0xb1]⟩ 1 none])
def wsX2_init : List Cond := .code yX2_init cX2_init 3 none :: ([.methodLink RX2 1 objectInit, .instanceMethod objectInit, .code objectInit ⟨#[0xb1]⟩ 1 none, .methodLink RX2 7 Lib.Math.max.name, .static Lib.Math.max.name, .initialized "java/lang/Math", .code Lib.Math.max.name Lib.Math.max.code 2 (some .int), .fieldLink RX2 13 "QuorumRegister$Rows" "width" "I", .fieldLink RX2 19 "QuorumRegister$Rows" "most" "I", .arrayClass .int, .fieldLink RX2 22 "QuorumRegister$Rows" "cells" "[I"] ++ wsX20)
def wsX2_has : List Cond := .code yX2_has cX2_has 2 (some .boolean) :: ([.fieldLink RX2 26 "QuorumRegister$Rows" "count" "I"] ++ wsX20)
def wsX2_hasColumn : List Cond := .code yX2_hasColumn cX2_hasColumn 2 (some .boolean) :: ([.fieldLink RX2 13 "QuorumRegister$Rows" "width" "I"] ++ wsX20)
def wsX2_cell : List Cond := .code yX2_cell cX2_cell 3 (some .int) :: ([.fieldLink RX2 22 "QuorumRegister$Rows" "cells" "[I", .fieldLink RX2 13 "QuorumRegister$Rows" "width" "I", .methodLink RX2 29 yX2_has, .instanceMethod yX2_has, .selects RX2 yX2_has yX2_has, .initialized RX2, .code yX2_has cX2_has 2 (some .boolean), .fieldLink RX2 26 "QuorumRegister$Rows" "count" "I", .methodLink RX2 33 yX2_hasColumn, .instanceMethod yX2_hasColumn, .selects RX2 yX2_hasColumn yX2_hasColumn, .code yX2_hasColumn cX2_hasColumn 2 (some .boolean)] ++ wsX20)
def wsX2_add : List Cond := .code yX2_add cX2_add 1 (some .int) :: ([.fieldLink RX2 26 "QuorumRegister$Rows" "count" "I", .fieldLink RX2 19 "QuorumRegister$Rows" "most" "I"] ++ wsX20)
def wsX2_set : List Cond := .code yX2_set cX2_set 4 none :: ([.fieldLink RX2 22 "QuorumRegister$Rows" "cells" "[I", .fieldLink RX2 13 "QuorumRegister$Rows" "width" "I", .methodLink RX2 29 yX2_has, .instanceMethod yX2_has, .selects RX2 yX2_has yX2_has, .initialized RX2, .code yX2_has cX2_has 2 (some .boolean), .fieldLink RX2 26 "QuorumRegister$Rows" "count" "I", .methodLink RX2 33 yX2_hasColumn, .instanceMethod yX2_hasColumn, .selects RX2 yX2_hasColumn yX2_hasColumn, .code yX2_hasColumn cX2_hasColumn 2 (some .boolean)] ++ wsX20)
def wsX2_addCopy : List Cond := .code yX2_addCopy cX2_addCopy 3 none :: ([.fieldLink RX2 22 "QuorumRegister$Rows" "cells" "[I", .fieldLink RX2 13 "QuorumRegister$Rows" "width" "I", .methodLink RX2 40 arraycopyName, .native arraycopyName, .static arraycopyName, .initialized "java/lang/System", .methodLink RX2 29 yX2_has, .instanceMethod yX2_has, .selects RX2 yX2_has yX2_has, .initialized RX2, .code yX2_has cX2_has 2 (some .boolean), .fieldLink RX2 26 "QuorumRegister$Rows" "count" "I", .methodLink RX2 36 yX2_add, .instanceMethod yX2_add, .selects RX2 yX2_add yX2_add, .code yX2_add cX2_add 1 (some .int), .fieldLink RX2 19 "QuorumRegister$Rows" "most" "I"] ++ wsX20)
def wsX2_remove : List Cond := .code yX2_remove cX2_remove 3 none :: ([.fieldLink RX2 13 "QuorumRegister$Rows" "width" "I", .fieldLink RX2 22 "QuorumRegister$Rows" "cells" "[I", .fieldLink RX2 26 "QuorumRegister$Rows" "count" "I", .methodLink RX2 40 arraycopyName, .native arraycopyName, .static arraycopyName, .initialized "java/lang/System", .methodLink RX2 29 yX2_has, .instanceMethod yX2_has, .selects RX2 yX2_has yX2_has, .initialized RX2, .code yX2_has cX2_has 2 (some .boolean)] ++ wsX20)
def wsX3_init_r1 : List Cond := [Cond.methodLink RX3 3 objectInit, Cond.instanceMethod objectInit, Cond.code objectInit ⟨#[0xb1]⟩ 1 none, Cond.classLink RX3 9 RX1, Cond.fieldLink RX3 11 "QuorumRegister" "replicas" "[LQuorumRegister$Replica;", Cond.instantiable RX1 3, Cond.initialized RX1, Cond.classLink RX3 16 RX0, Cond.fieldLink RX3 18 "QuorumRegister" "clients" "[LQuorumRegister$Client;", Cond.instantiable RX0 8, Cond.initialized RX0, Cond.classLink RX3 23 RX2, Cond.instantiable RX2 4, Cond.initialized RX2, Cond.fieldLink RX3 28 "QuorumRegister" "pool" "LQuorumRegister$Rows;", Cond.fieldLink RX3 32 "QuorumRegister" "done" "LQuorumRegister$Rows;", Cond.instanceMethod yX1_init, Cond.code yX1_init cX1_init 1 none, Cond.methodLink RX1 1 objectInit, Cond.instanceMethod yX0_init, Cond.code yX0_init cX0_init 1 none, Cond.methodLink RX0 3 objectInit, Cond.methodLink RX3 25 yX2_init, Cond.instanceMethod yX2_init]
def wsX3_init_r2 : List Cond := [Cond.code yX2_init cX2_init 3 none, Cond.methodLink RX2 1 objectInit, Cond.methodLink RX2 7 Lib.Math.max.name, Cond.static Lib.Math.max.name, Cond.initialized "java/lang/Math", Cond.code Lib.Math.max.name Lib.Math.max.code 2 (some .int), Cond.fieldLink RX2 13 "QuorumRegister$Rows" "width" "I", Cond.fieldLink RX2 19 "QuorumRegister$Rows" "most" "I", Cond.arrayClass .int, Cond.fieldLink RX2 22 "QuorumRegister$Rows" "cells" "[I"]
def wsX3_init : List Cond := .code yX3_init cX3_init 2 none :: ((wsX3_init_r1 ++ wsX3_init_r2) ++ wsX30 ++ wsX10 ++ wsX00 ++ wsX20)
def wsX3_isClient : List Cond := .code yX3_isClient cX3_isClient 1 (some .boolean) :: ([])
def wsX3_isCrowded : List Cond := .code yX3_isCrowded cX3_isCrowded 1 (some .boolean) :: ([.fieldLink RX3 28 "QuorumRegister" "pool" "LQuorumRegister$Rows;", .fieldLink RX3 61 "QuorumRegister$Rows" "count" "I"] ++ wsX30 ++ wsX20)
def wsX3_send : List Cond := .code yX3_send cX3_send 8 none :: ([.fieldLink RX3 28 "QuorumRegister" "pool" "LQuorumRegister$Rows;", .methodLink RX3 148 yX2_add, .instanceMethod yX2_add, .selects RX2 yX2_add yX2_add, .initialized RX2, .code yX2_add cX2_add 1 (some .int), .fieldLink RX2 26 "QuorumRegister$Rows" "count" "I", .fieldLink RX2 19 "QuorumRegister$Rows" "most" "I", .methodLink RX3 151 yX2_set, .instanceMethod yX2_set, .selects RX2 yX2_set yX2_set, .code yX2_set cX2_set 4 none, .fieldLink RX2 22 "QuorumRegister$Rows" "cells" "[I", .fieldLink RX2 13 "QuorumRegister$Rows" "width" "I", .methodLink RX2 29 yX2_has, .instanceMethod yX2_has, .selects RX2 yX2_has yX2_has, .code yX2_has cX2_has 2 (some .boolean), .methodLink RX2 33 yX2_hasColumn, .instanceMethod yX2_hasColumn, .selects RX2 yX2_hasColumn yX2_hasColumn, .code yX2_hasColumn cX2_hasColumn 2 (some .boolean)] ++ wsX30 ++ wsX20)
def wsX3_sendToAll_r1 : List Cond := [Cond.fieldLink RX3 18 "QuorumRegister" "clients" "[LQuorumRegister$Client;", Cond.fieldLink RX3 105 "QuorumRegister$Client" "serial" "I", Cond.methodLink RX3 120 yX3_send, Cond.instanceMethod yX3_send, Cond.selects RX3 yX3_send yX3_send, Cond.initialized RX3, Cond.code yX3_send cX3_send 8 none, Cond.fieldLink RX3 28 "QuorumRegister" "pool" "LQuorumRegister$Rows;", Cond.methodLink RX3 148 yX2_add, Cond.instanceMethod yX2_add, Cond.selects RX2 yX2_add yX2_add, Cond.initialized RX2, Cond.code yX2_add cX2_add 1 (some .int), Cond.fieldLink RX2 26 "QuorumRegister$Rows" "count" "I", Cond.fieldLink RX2 19 "QuorumRegister$Rows" "most" "I", Cond.methodLink RX3 151 yX2_set, Cond.instanceMethod yX2_set, Cond.selects RX2 yX2_set yX2_set, Cond.code yX2_set cX2_set 4 none, Cond.fieldLink RX2 22 "QuorumRegister$Rows" "cells" "[I", Cond.fieldLink RX2 13 "QuorumRegister$Rows" "width" "I", Cond.methodLink RX2 29 yX2_has, Cond.instanceMethod yX2_has, Cond.selects RX2 yX2_has yX2_has]
def wsX3_sendToAll_r2 : List Cond := [Cond.code yX2_has cX2_has 2 (some .boolean), Cond.methodLink RX2 33 yX2_hasColumn, Cond.instanceMethod yX2_hasColumn, Cond.selects RX2 yX2_hasColumn yX2_hasColumn, Cond.code yX2_hasColumn cX2_hasColumn 2 (some .boolean)]
def wsX3_sendToAll : List Cond := .code yX3_sendToAll cX3_sendToAll 6 none :: ((wsX3_sendToAll_r1 ++ wsX3_sendToAll_r2) ++ wsX30 ++ wsX00 ++ wsX20)
def wsX3_begin_r1 : List Cond := [Cond.fieldLink RX3 18 "QuorumRegister" "clients" "[LQuorumRegister$Client;", Cond.fieldLink RX3 43 "QuorumRegister$Client" "phase" "I", Cond.fieldLink RX3 105 "QuorumRegister$Client" "serial" "I", Cond.fieldLink RX3 108 "QuorumRegister$Client" "writes" "Z", Cond.fieldLink RX3 111 "QuorumRegister$Client" "toWrite" "I", Cond.fieldLink RX3 114 "QuorumRegister$Client" "tag" "I", Cond.fieldLink RX3 115 "QuorumRegister$Client" "value" "I", Cond.methodLink RX3 39 yX3_isClient, Cond.static yX3_isClient, Cond.initialized RX3, Cond.code yX3_isClient cX3_isClient 1 (some .boolean), Cond.methodLink RX3 78 yX3_isCrowded, Cond.instanceMethod yX3_isCrowded, Cond.selects RX3 yX3_isCrowded yX3_isCrowded, Cond.code yX3_isCrowded cX3_isCrowded 1 (some .boolean), Cond.fieldLink RX3 28 "QuorumRegister" "pool" "LQuorumRegister$Rows;", Cond.fieldLink RX3 61 "QuorumRegister$Rows" "count" "I", Cond.methodLink RX3 47 yX0_enter, Cond.instanceMethod yX0_enter, Cond.selects RX0 yX0_enter yX0_enter, Cond.initialized RX0, Cond.code yX0_enter cX0_enter 2 none, Cond.fieldLink RX0 9 "QuorumRegister$Client" "phase" "I", Cond.fieldLink RX0 15 "QuorumRegister$Client" "answers" "I"]
def wsX3_begin_r2 : List Cond := [Cond.methodLink RX3 116 yX3_sendToAll, Cond.instanceMethod yX3_sendToAll, Cond.selects RX3 yX3_sendToAll yX3_sendToAll, Cond.code yX3_sendToAll cX3_sendToAll 6 none, Cond.methodLink RX3 120 yX3_send, Cond.instanceMethod yX3_send, Cond.selects RX3 yX3_send yX3_send, Cond.code yX3_send cX3_send 8 none, Cond.methodLink RX3 148 yX2_add, Cond.instanceMethod yX2_add, Cond.selects RX2 yX2_add yX2_add, Cond.initialized RX2, Cond.code yX2_add cX2_add 1 (some .int), Cond.fieldLink RX2 26 "QuorumRegister$Rows" "count" "I", Cond.fieldLink RX2 19 "QuorumRegister$Rows" "most" "I", Cond.methodLink RX3 151 yX2_set, Cond.instanceMethod yX2_set, Cond.selects RX2 yX2_set yX2_set, Cond.code yX2_set cX2_set 4 none, Cond.fieldLink RX2 22 "QuorumRegister$Rows" "cells" "[I", Cond.fieldLink RX2 13 "QuorumRegister$Rows" "width" "I", Cond.methodLink RX2 29 yX2_has, Cond.instanceMethod yX2_has, Cond.selects RX2 yX2_has yX2_has]
def wsX3_begin_r3 : List Cond := [Cond.code yX2_has cX2_has 2 (some .boolean), Cond.methodLink RX2 33 yX2_hasColumn, Cond.instanceMethod yX2_hasColumn, Cond.selects RX2 yX2_hasColumn yX2_hasColumn, Cond.code yX2_hasColumn cX2_hasColumn 2 (some .boolean)]
def wsX3_begin : List Cond := .code yX3_begin cX3_begin 5 (some .int) :: ((wsX3_begin_r1 ++ (wsX3_begin_r2 ++ wsX3_begin_r3)) ++ wsX30 ++ wsX00 ++ wsX20)
def wsX3_write_r1 : List Cond := [Cond.methodLink RX3 35 yX3_begin, Cond.instanceMethod yX3_begin, Cond.selects RX3 yX3_begin yX3_begin, Cond.initialized RX3, Cond.code yX3_begin cX3_begin 5 (some .int), Cond.fieldLink RX3 18 "QuorumRegister" "clients" "[LQuorumRegister$Client;", Cond.fieldLink RX3 43 "QuorumRegister$Client" "phase" "I", Cond.fieldLink RX3 105 "QuorumRegister$Client" "serial" "I", Cond.fieldLink RX3 108 "QuorumRegister$Client" "writes" "Z", Cond.fieldLink RX3 111 "QuorumRegister$Client" "toWrite" "I", Cond.fieldLink RX3 114 "QuorumRegister$Client" "tag" "I", Cond.fieldLink RX3 115 "QuorumRegister$Client" "value" "I", Cond.methodLink RX3 39 yX3_isClient, Cond.static yX3_isClient, Cond.code yX3_isClient cX3_isClient 1 (some .boolean), Cond.methodLink RX3 78 yX3_isCrowded, Cond.instanceMethod yX3_isCrowded, Cond.selects RX3 yX3_isCrowded yX3_isCrowded, Cond.code yX3_isCrowded cX3_isCrowded 1 (some .boolean), Cond.fieldLink RX3 28 "QuorumRegister" "pool" "LQuorumRegister$Rows;", Cond.fieldLink RX3 61 "QuorumRegister$Rows" "count" "I", Cond.methodLink RX3 47 yX0_enter, Cond.instanceMethod yX0_enter, Cond.selects RX0 yX0_enter yX0_enter]
def wsX3_write_r2 : List Cond := [Cond.initialized RX0, Cond.code yX0_enter cX0_enter 2 none, Cond.fieldLink RX0 9 "QuorumRegister$Client" "phase" "I", Cond.fieldLink RX0 15 "QuorumRegister$Client" "answers" "I", Cond.methodLink RX3 116 yX3_sendToAll, Cond.instanceMethod yX3_sendToAll, Cond.selects RX3 yX3_sendToAll yX3_sendToAll, Cond.code yX3_sendToAll cX3_sendToAll 6 none, Cond.methodLink RX3 120 yX3_send, Cond.instanceMethod yX3_send, Cond.selects RX3 yX3_send yX3_send, Cond.code yX3_send cX3_send 8 none, Cond.methodLink RX3 148 yX2_add, Cond.instanceMethod yX2_add, Cond.selects RX2 yX2_add yX2_add, Cond.initialized RX2, Cond.code yX2_add cX2_add 1 (some .int), Cond.fieldLink RX2 26 "QuorumRegister$Rows" "count" "I", Cond.fieldLink RX2 19 "QuorumRegister$Rows" "most" "I", Cond.methodLink RX3 151 yX2_set, Cond.instanceMethod yX2_set, Cond.selects RX2 yX2_set yX2_set, Cond.code yX2_set cX2_set 4 none, Cond.fieldLink RX2 22 "QuorumRegister$Rows" "cells" "[I"]
def wsX3_write_r3 : List Cond := [Cond.fieldLink RX2 13 "QuorumRegister$Rows" "width" "I", Cond.methodLink RX2 29 yX2_has, Cond.instanceMethod yX2_has, Cond.selects RX2 yX2_has yX2_has, Cond.code yX2_has cX2_has 2 (some .boolean), Cond.methodLink RX2 33 yX2_hasColumn, Cond.instanceMethod yX2_hasColumn, Cond.selects RX2 yX2_hasColumn yX2_hasColumn, Cond.code yX2_hasColumn cX2_hasColumn 2 (some .boolean)]
def wsX3_write : List Cond := .code yX3_write cX3_write 3 (some .int) :: ((wsX3_write_r1 ++ (wsX3_write_r2 ++ wsX3_write_r3)) ++ wsX30 ++ wsX00 ++ wsX20)
def wsX3_read_r1 : List Cond := [Cond.methodLink RX3 35 yX3_begin, Cond.instanceMethod yX3_begin, Cond.selects RX3 yX3_begin yX3_begin, Cond.initialized RX3, Cond.code yX3_begin cX3_begin 5 (some .int), Cond.fieldLink RX3 18 "QuorumRegister" "clients" "[LQuorumRegister$Client;", Cond.fieldLink RX3 43 "QuorumRegister$Client" "phase" "I", Cond.fieldLink RX3 105 "QuorumRegister$Client" "serial" "I", Cond.fieldLink RX3 108 "QuorumRegister$Client" "writes" "Z", Cond.fieldLink RX3 111 "QuorumRegister$Client" "toWrite" "I", Cond.fieldLink RX3 114 "QuorumRegister$Client" "tag" "I", Cond.fieldLink RX3 115 "QuorumRegister$Client" "value" "I", Cond.methodLink RX3 39 yX3_isClient, Cond.static yX3_isClient, Cond.code yX3_isClient cX3_isClient 1 (some .boolean), Cond.methodLink RX3 78 yX3_isCrowded, Cond.instanceMethod yX3_isCrowded, Cond.selects RX3 yX3_isCrowded yX3_isCrowded, Cond.code yX3_isCrowded cX3_isCrowded 1 (some .boolean), Cond.fieldLink RX3 28 "QuorumRegister" "pool" "LQuorumRegister$Rows;", Cond.fieldLink RX3 61 "QuorumRegister$Rows" "count" "I", Cond.methodLink RX3 47 yX0_enter, Cond.instanceMethod yX0_enter, Cond.selects RX0 yX0_enter yX0_enter]
def wsX3_read_r2 : List Cond := [Cond.initialized RX0, Cond.code yX0_enter cX0_enter 2 none, Cond.fieldLink RX0 9 "QuorumRegister$Client" "phase" "I", Cond.fieldLink RX0 15 "QuorumRegister$Client" "answers" "I", Cond.methodLink RX3 116 yX3_sendToAll, Cond.instanceMethod yX3_sendToAll, Cond.selects RX3 yX3_sendToAll yX3_sendToAll, Cond.code yX3_sendToAll cX3_sendToAll 6 none, Cond.methodLink RX3 120 yX3_send, Cond.instanceMethod yX3_send, Cond.selects RX3 yX3_send yX3_send, Cond.code yX3_send cX3_send 8 none, Cond.methodLink RX3 148 yX2_add, Cond.instanceMethod yX2_add, Cond.selects RX2 yX2_add yX2_add, Cond.initialized RX2, Cond.code yX2_add cX2_add 1 (some .int), Cond.fieldLink RX2 26 "QuorumRegister$Rows" "count" "I", Cond.fieldLink RX2 19 "QuorumRegister$Rows" "most" "I", Cond.methodLink RX3 151 yX2_set, Cond.instanceMethod yX2_set, Cond.selects RX2 yX2_set yX2_set, Cond.code yX2_set cX2_set 4 none, Cond.fieldLink RX2 22 "QuorumRegister$Rows" "cells" "[I"]
def wsX3_read_r3 : List Cond := [Cond.fieldLink RX2 13 "QuorumRegister$Rows" "width" "I", Cond.methodLink RX2 29 yX2_has, Cond.instanceMethod yX2_has, Cond.selects RX2 yX2_has yX2_has, Cond.code yX2_has cX2_has 2 (some .boolean), Cond.methodLink RX2 33 yX2_hasColumn, Cond.instanceMethod yX2_hasColumn, Cond.selects RX2 yX2_hasColumn yX2_hasColumn, Cond.code yX2_hasColumn cX2_hasColumn 2 (some .boolean)]
def wsX3_read : List Cond := .code yX3_read cX3_read 2 (some .int) :: ((wsX3_read_r1 ++ (wsX3_read_r2 ++ wsX3_read_r3)) ++ wsX30 ++ wsX00 ++ wsX20)
def wsX3_leave : List Cond := .code yX3_leave cX3_leave 2 (some .boolean) :: ([.fieldLink RX3 18 "QuorumRegister" "clients" "[LQuorumRegister$Client;", .fieldLink RX3 43 "QuorumRegister$Client" "phase" "I", .methodLink RX3 39 yX3_isClient, .static yX3_isClient, .initialized RX3, .code yX3_isClient cX3_isClient 1 (some .boolean), .methodLink RX3 47 yX0_enter, .instanceMethod yX0_enter, .selects RX0 yX0_enter yX0_enter, .initialized RX0, .code yX0_enter cX0_enter 2 none, .fieldLink RX0 9 "QuorumRegister$Client" "phase" "I", .fieldLink RX0 15 "QuorumRegister$Client" "answers" "I"] ++ wsX30 ++ wsX00)
def wsX3_takeAsk_r1 : List Cond := [Cond.fieldLink RX3 11 "QuorumRegister" "replicas" "[LQuorumRegister$Replica;", Cond.fieldLink RX3 88 "QuorumRegister$Replica" "failed" "Z", Cond.fieldLink RX3 96 "QuorumRegister$Replica" "tag" "I", Cond.fieldLink RX3 99 "QuorumRegister$Replica" "value" "I", Cond.methodLink RX3 120 yX3_send, Cond.instanceMethod yX3_send, Cond.selects RX3 yX3_send yX3_send, Cond.initialized RX3, Cond.code yX3_send cX3_send 8 none, Cond.fieldLink RX3 28 "QuorumRegister" "pool" "LQuorumRegister$Rows;", Cond.methodLink RX3 148 yX2_add, Cond.instanceMethod yX2_add, Cond.selects RX2 yX2_add yX2_add, Cond.initialized RX2, Cond.code yX2_add cX2_add 1 (some .int), Cond.fieldLink RX2 26 "QuorumRegister$Rows" "count" "I", Cond.fieldLink RX2 19 "QuorumRegister$Rows" "most" "I", Cond.methodLink RX3 151 yX2_set, Cond.instanceMethod yX2_set, Cond.selects RX2 yX2_set yX2_set, Cond.code yX2_set cX2_set 4 none, Cond.fieldLink RX2 22 "QuorumRegister$Rows" "cells" "[I", Cond.fieldLink RX2 13 "QuorumRegister$Rows" "width" "I", Cond.methodLink RX2 29 yX2_has]
def wsX3_takeAsk_r2 : List Cond := [Cond.instanceMethod yX2_has, Cond.selects RX2 yX2_has yX2_has, Cond.code yX2_has cX2_has 2 (some .boolean), Cond.methodLink RX2 33 yX2_hasColumn, Cond.instanceMethod yX2_hasColumn, Cond.selects RX2 yX2_hasColumn yX2_hasColumn, Cond.code yX2_hasColumn cX2_hasColumn 2 (some .boolean)]
def wsX3_takeAsk : List Cond := .code yX3_takeAsk cX3_takeAsk 5 none :: ((wsX3_takeAsk_r1 ++ wsX3_takeAsk_r2) ++ wsX30 ++ wsX10 ++ wsX20)
def wsX3_store_r1 : List Cond := [Cond.fieldLink RX3 18 "QuorumRegister" "clients" "[LQuorumRegister$Client;", Cond.fieldLink RX3 108 "QuorumRegister$Client" "writes" "Z", Cond.fieldLink RX3 114 "QuorumRegister$Client" "tag" "I", Cond.fieldLink RX3 137 "QuorumRegister$Client" "lastNumber" "I", Cond.methodLink RX3 140 Lib.Math.max.name, Cond.static Lib.Math.max.name, Cond.initialized "java/lang/Math", Cond.code Lib.Math.max.name Lib.Math.max.code 2 (some .int), Cond.fieldLink RX3 111 "QuorumRegister$Client" "toWrite" "I", Cond.fieldLink RX3 115 "QuorumRegister$Client" "value" "I", Cond.methodLink RX3 47 yX0_enter, Cond.instanceMethod yX0_enter, Cond.selects RX0 yX0_enter yX0_enter, Cond.initialized RX0, Cond.code yX0_enter cX0_enter 2 none, Cond.fieldLink RX0 9 "QuorumRegister$Client" "phase" "I", Cond.fieldLink RX0 15 "QuorumRegister$Client" "answers" "I", Cond.methodLink RX3 116 yX3_sendToAll, Cond.instanceMethod yX3_sendToAll, Cond.selects RX3 yX3_sendToAll yX3_sendToAll, Cond.initialized RX3, Cond.code yX3_sendToAll cX3_sendToAll 6 none, Cond.fieldLink RX3 105 "QuorumRegister$Client" "serial" "I", Cond.methodLink RX3 120 yX3_send]
def wsX3_store_r2 : List Cond := [Cond.instanceMethod yX3_send, Cond.selects RX3 yX3_send yX3_send, Cond.code yX3_send cX3_send 8 none, Cond.fieldLink RX3 28 "QuorumRegister" "pool" "LQuorumRegister$Rows;", Cond.methodLink RX3 148 yX2_add, Cond.instanceMethod yX2_add, Cond.selects RX2 yX2_add yX2_add, Cond.initialized RX2, Cond.code yX2_add cX2_add 1 (some .int), Cond.fieldLink RX2 26 "QuorumRegister$Rows" "count" "I", Cond.fieldLink RX2 19 "QuorumRegister$Rows" "most" "I", Cond.methodLink RX3 151 yX2_set, Cond.instanceMethod yX2_set, Cond.selects RX2 yX2_set yX2_set, Cond.code yX2_set cX2_set 4 none, Cond.fieldLink RX2 22 "QuorumRegister$Rows" "cells" "[I", Cond.fieldLink RX2 13 "QuorumRegister$Rows" "width" "I", Cond.methodLink RX2 29 yX2_has, Cond.instanceMethod yX2_has, Cond.selects RX2 yX2_has yX2_has, Cond.code yX2_has cX2_has 2 (some .boolean), Cond.methodLink RX2 33 yX2_hasColumn, Cond.instanceMethod yX2_hasColumn, Cond.selects RX2 yX2_hasColumn yX2_hasColumn]
def wsX3_store_r3 : List Cond := [Cond.code yX2_hasColumn cX2_hasColumn 2 (some .boolean)]
def wsX3_store : List Cond := .code yX3_store cX3_store 4 none :: ((wsX3_store_r1 ++ (wsX3_store_r2 ++ wsX3_store_r3)) ++ wsX30 ++ wsX00 ++ wsX20)
def wsX3_takeTell_r1 : List Cond := [Cond.fieldLink RX3 18 "QuorumRegister" "clients" "[LQuorumRegister$Client;", Cond.fieldLink RX3 114 "QuorumRegister$Client" "tag" "I", Cond.fieldLink RX3 115 "QuorumRegister$Client" "value" "I", Cond.methodLink RX3 124 yX0_awaits, Cond.instanceMethod yX0_awaits, Cond.selects RX0 yX0_awaits yX0_awaits, Cond.initialized RX0, Cond.code yX0_awaits cX0_awaits 4 (some .boolean), Cond.fieldLink RX0 18 "QuorumRegister$Client" "serial" "I", Cond.fieldLink RX0 9 "QuorumRegister$Client" "phase" "I", Cond.fieldLink RX0 15 "QuorumRegister$Client" "answers" "I", Cond.methodLink RX3 128 yX0_hear, Cond.instanceMethod yX0_hear, Cond.selects RX0 yX0_hear yX0_hear, Cond.code yX0_hear cX0_hear 2 none, Cond.methodLink RX3 131 yX0_hasQuorum, Cond.instanceMethod yX0_hasQuorum, Cond.selects RX0 yX0_hasQuorum yX0_hasQuorum, Cond.code yX0_hasQuorum cX0_hasQuorum 1 (some .boolean), Cond.methodLink RX0 21 yJ6_bitCount_0f7a4, Cond.static yJ6_bitCount_0f7a4, Cond.initialized RJ6, Cond.code yJ6_bitCount_0f7a4 cJ6_bitCount_0f7a4 1 (some .int), Cond.constant RJ6 265 (1431655765)]
def wsX3_takeTell_r2 : List Cond := [Cond.constant RJ6 266 (858993459), Cond.constant RJ6 267 (252645135), Cond.methodLink RX3 134 yX3_store, Cond.instanceMethod yX3_store, Cond.selects RX3 yX3_store yX3_store, Cond.initialized RX3, Cond.code yX3_store cX3_store 4 none, Cond.fieldLink RX3 108 "QuorumRegister$Client" "writes" "Z", Cond.fieldLink RX3 137 "QuorumRegister$Client" "lastNumber" "I", Cond.methodLink RX3 140 Lib.Math.max.name, Cond.static Lib.Math.max.name, Cond.initialized "java/lang/Math", Cond.code Lib.Math.max.name Lib.Math.max.code 2 (some .int), Cond.fieldLink RX3 111 "QuorumRegister$Client" "toWrite" "I", Cond.methodLink RX3 47 yX0_enter, Cond.instanceMethod yX0_enter, Cond.selects RX0 yX0_enter yX0_enter, Cond.code yX0_enter cX0_enter 2 none, Cond.methodLink RX3 116 yX3_sendToAll, Cond.instanceMethod yX3_sendToAll, Cond.selects RX3 yX3_sendToAll yX3_sendToAll, Cond.code yX3_sendToAll cX3_sendToAll 6 none, Cond.fieldLink RX3 105 "QuorumRegister$Client" "serial" "I", Cond.methodLink RX3 120 yX3_send]
def wsX3_takeTell_r3 : List Cond := [Cond.instanceMethod yX3_send, Cond.selects RX3 yX3_send yX3_send, Cond.code yX3_send cX3_send 8 none, Cond.fieldLink RX3 28 "QuorumRegister" "pool" "LQuorumRegister$Rows;", Cond.methodLink RX3 148 yX2_add, Cond.instanceMethod yX2_add, Cond.selects RX2 yX2_add yX2_add, Cond.initialized RX2, Cond.code yX2_add cX2_add 1 (some .int), Cond.fieldLink RX2 26 "QuorumRegister$Rows" "count" "I", Cond.fieldLink RX2 19 "QuorumRegister$Rows" "most" "I", Cond.methodLink RX3 151 yX2_set, Cond.instanceMethod yX2_set, Cond.selects RX2 yX2_set yX2_set, Cond.code yX2_set cX2_set 4 none, Cond.fieldLink RX2 22 "QuorumRegister$Rows" "cells" "[I", Cond.fieldLink RX2 13 "QuorumRegister$Rows" "width" "I", Cond.methodLink RX2 29 yX2_has, Cond.instanceMethod yX2_has, Cond.selects RX2 yX2_has yX2_has, Cond.code yX2_has cX2_has 2 (some .boolean), Cond.methodLink RX2 33 yX2_hasColumn, Cond.instanceMethod yX2_hasColumn, Cond.selects RX2 yX2_hasColumn yX2_hasColumn]
def wsX3_takeTell_r4 : List Cond := [Cond.code yX2_hasColumn cX2_hasColumn 2 (some .boolean)]
def wsX3_takeTell : List Cond := .code yX3_takeTell cX3_takeTell 7 none :: ((wsX3_takeTell_r1 ++ (wsX3_takeTell_r2 ++ (wsX3_takeTell_r3 ++ wsX3_takeTell_r4))) ++ wsX30 ++ wsX00 ++ wsX20)
def wsX3_takeStore_r1 : List Cond := [Cond.fieldLink RX3 11 "QuorumRegister" "replicas" "[LQuorumRegister$Replica;", Cond.fieldLink RX3 88 "QuorumRegister$Replica" "failed" "Z", Cond.fieldLink RX3 96 "QuorumRegister$Replica" "tag" "I", Cond.fieldLink RX3 99 "QuorumRegister$Replica" "value" "I", Cond.methodLink RX3 120 yX3_send, Cond.instanceMethod yX3_send, Cond.selects RX3 yX3_send yX3_send, Cond.initialized RX3, Cond.code yX3_send cX3_send 8 none, Cond.fieldLink RX3 28 "QuorumRegister" "pool" "LQuorumRegister$Rows;", Cond.methodLink RX3 148 yX2_add, Cond.instanceMethod yX2_add, Cond.selects RX2 yX2_add yX2_add, Cond.initialized RX2, Cond.code yX2_add cX2_add 1 (some .int), Cond.fieldLink RX2 26 "QuorumRegister$Rows" "count" "I", Cond.fieldLink RX2 19 "QuorumRegister$Rows" "most" "I", Cond.methodLink RX3 151 yX2_set, Cond.instanceMethod yX2_set, Cond.selects RX2 yX2_set yX2_set, Cond.code yX2_set cX2_set 4 none, Cond.fieldLink RX2 22 "QuorumRegister$Rows" "cells" "[I", Cond.fieldLink RX2 13 "QuorumRegister$Rows" "width" "I", Cond.methodLink RX2 29 yX2_has]
def wsX3_takeStore_r2 : List Cond := [Cond.instanceMethod yX2_has, Cond.selects RX2 yX2_has yX2_has, Cond.code yX2_has cX2_has 2 (some .boolean), Cond.methodLink RX2 33 yX2_hasColumn, Cond.instanceMethod yX2_hasColumn, Cond.selects RX2 yX2_hasColumn yX2_hasColumn, Cond.code yX2_hasColumn cX2_hasColumn 2 (some .boolean)]
def wsX3_takeStore : List Cond := .code yX3_takeStore cX3_takeStore 7 none :: ((wsX3_takeStore_r1 ++ wsX3_takeStore_r2) ++ wsX30 ++ wsX10 ++ wsX20)
def wsX3_finish_r1 : List Cond := [Cond.fieldLink RX3 18 "QuorumRegister" "clients" "[LQuorumRegister$Client;", Cond.fieldLink RX3 32 "QuorumRegister" "done" "LQuorumRegister$Rows;", Cond.fieldLink RX3 105 "QuorumRegister$Client" "serial" "I", Cond.fieldLink RX3 108 "QuorumRegister$Client" "writes" "Z", Cond.fieldLink RX3 115 "QuorumRegister$Client" "value" "I", Cond.fieldLink RX3 114 "QuorumRegister$Client" "tag" "I", Cond.methodLink RX3 148 yX2_add, Cond.instanceMethod yX2_add, Cond.selects RX2 yX2_add yX2_add, Cond.initialized RX2, Cond.code yX2_add cX2_add 1 (some .int), Cond.fieldLink RX2 26 "QuorumRegister$Rows" "count" "I", Cond.fieldLink RX2 19 "QuorumRegister$Rows" "most" "I", Cond.methodLink RX3 151 yX2_set, Cond.instanceMethod yX2_set, Cond.selects RX2 yX2_set yX2_set, Cond.code yX2_set cX2_set 4 none, Cond.fieldLink RX2 22 "QuorumRegister$Rows" "cells" "[I", Cond.fieldLink RX2 13 "QuorumRegister$Rows" "width" "I", Cond.methodLink RX2 29 yX2_has, Cond.instanceMethod yX2_has, Cond.selects RX2 yX2_has yX2_has, Cond.code yX2_has cX2_has 2 (some .boolean), Cond.methodLink RX2 33 yX2_hasColumn]
def wsX3_finish_r2 : List Cond := [Cond.instanceMethod yX2_hasColumn, Cond.selects RX2 yX2_hasColumn yX2_hasColumn, Cond.code yX2_hasColumn cX2_hasColumn 2 (some .boolean), Cond.methodLink RX3 47 yX0_enter, Cond.instanceMethod yX0_enter, Cond.selects RX0 yX0_enter yX0_enter, Cond.initialized RX0, Cond.code yX0_enter cX0_enter 2 none, Cond.fieldLink RX0 9 "QuorumRegister$Client" "phase" "I", Cond.fieldLink RX0 15 "QuorumRegister$Client" "answers" "I"]
def wsX3_finish : List Cond := .code yX3_finish cX3_finish 4 none :: ((wsX3_finish_r1 ++ wsX3_finish_r2) ++ wsX30 ++ wsX00 ++ wsX20)
def wsX3_takeStored_r1 : List Cond := [Cond.fieldLink RX3 18 "QuorumRegister" "clients" "[LQuorumRegister$Client;", Cond.methodLink RX3 124 yX0_awaits, Cond.instanceMethod yX0_awaits, Cond.selects RX0 yX0_awaits yX0_awaits, Cond.initialized RX0, Cond.code yX0_awaits cX0_awaits 4 (some .boolean), Cond.fieldLink RX0 18 "QuorumRegister$Client" "serial" "I", Cond.fieldLink RX0 9 "QuorumRegister$Client" "phase" "I", Cond.fieldLink RX0 15 "QuorumRegister$Client" "answers" "I", Cond.methodLink RX3 128 yX0_hear, Cond.instanceMethod yX0_hear, Cond.selects RX0 yX0_hear yX0_hear, Cond.code yX0_hear cX0_hear 2 none, Cond.methodLink RX3 131 yX0_hasQuorum, Cond.instanceMethod yX0_hasQuorum, Cond.selects RX0 yX0_hasQuorum yX0_hasQuorum, Cond.code yX0_hasQuorum cX0_hasQuorum 1 (some .boolean), Cond.methodLink RX0 21 yJ6_bitCount_0f7a4, Cond.static yJ6_bitCount_0f7a4, Cond.initialized RJ6, Cond.code yJ6_bitCount_0f7a4 cJ6_bitCount_0f7a4 1 (some .int), Cond.constant RJ6 265 (1431655765), Cond.constant RJ6 266 (858993459), Cond.constant RJ6 267 (252645135)]
def wsX3_takeStored_r2 : List Cond := [Cond.methodLink RX3 145 yX3_finish, Cond.instanceMethod yX3_finish, Cond.selects RX3 yX3_finish yX3_finish, Cond.initialized RX3, Cond.code yX3_finish cX3_finish 4 none, Cond.fieldLink RX3 32 "QuorumRegister" "done" "LQuorumRegister$Rows;", Cond.fieldLink RX3 105 "QuorumRegister$Client" "serial" "I", Cond.fieldLink RX3 108 "QuorumRegister$Client" "writes" "Z", Cond.fieldLink RX3 115 "QuorumRegister$Client" "value" "I", Cond.fieldLink RX3 114 "QuorumRegister$Client" "tag" "I", Cond.methodLink RX3 148 yX2_add, Cond.instanceMethod yX2_add, Cond.selects RX2 yX2_add yX2_add, Cond.initialized RX2, Cond.code yX2_add cX2_add 1 (some .int), Cond.fieldLink RX2 26 "QuorumRegister$Rows" "count" "I", Cond.fieldLink RX2 19 "QuorumRegister$Rows" "most" "I", Cond.methodLink RX3 151 yX2_set, Cond.instanceMethod yX2_set, Cond.selects RX2 yX2_set yX2_set, Cond.code yX2_set cX2_set 4 none, Cond.fieldLink RX2 22 "QuorumRegister$Rows" "cells" "[I", Cond.fieldLink RX2 13 "QuorumRegister$Rows" "width" "I", Cond.methodLink RX2 29 yX2_has]
def wsX3_takeStored_r3 : List Cond := [Cond.instanceMethod yX2_has, Cond.selects RX2 yX2_has yX2_has, Cond.code yX2_has cX2_has 2 (some .boolean), Cond.methodLink RX2 33 yX2_hasColumn, Cond.instanceMethod yX2_hasColumn, Cond.selects RX2 yX2_hasColumn yX2_hasColumn, Cond.code yX2_hasColumn cX2_hasColumn 2 (some .boolean), Cond.methodLink RX3 47 yX0_enter, Cond.instanceMethod yX0_enter, Cond.selects RX0 yX0_enter yX0_enter, Cond.code yX0_enter cX0_enter 2 none]
def wsX3_takeStored : List Cond := .code yX3_takeStored cX3_takeStored 5 none :: ((wsX3_takeStored_r1 ++ (wsX3_takeStored_r2 ++ wsX3_takeStored_r3)) ++ wsX30 ++ wsX00 ++ wsX20)
def wsX3_deliver_r1 : List Cond := [Cond.fieldLink RX3 28 "QuorumRegister" "pool" "LQuorumRegister$Rows;", Cond.fieldLink RX3 61 "QuorumRegister$Rows" "count" "I", Cond.methodLink RX3 51 yX2_has, Cond.instanceMethod yX2_has, Cond.selects RX2 yX2_has yX2_has, Cond.initialized RX2, Cond.code yX2_has cX2_has 2 (some .boolean), Cond.fieldLink RX2 26 "QuorumRegister$Rows" "count" "I", Cond.methodLink RX3 54 yX2_cell, Cond.instanceMethod yX2_cell, Cond.selects RX2 yX2_cell yX2_cell, Cond.code yX2_cell cX2_cell 3 (some .int), Cond.fieldLink RX2 22 "QuorumRegister$Rows" "cells" "[I", Cond.fieldLink RX2 13 "QuorumRegister$Rows" "width" "I", Cond.methodLink RX2 29 yX2_has, Cond.methodLink RX2 33 yX2_hasColumn, Cond.instanceMethod yX2_hasColumn, Cond.selects RX2 yX2_hasColumn yX2_hasColumn, Cond.code yX2_hasColumn cX2_hasColumn 2 (some .boolean), Cond.methodLink RX3 58 yX2_remove, Cond.instanceMethod yX2_remove, Cond.selects RX2 yX2_remove yX2_remove, Cond.code yX2_remove cX2_remove 3 none, Cond.methodLink RX2 40 arraycopyName]
def wsX3_deliver_r2 : List Cond := [Cond.native arraycopyName, Cond.static arraycopyName, Cond.initialized "java/lang/System", Cond.methodLink RX3 64 yX3_takeAsk, Cond.instanceMethod yX3_takeAsk, Cond.selects RX3 yX3_takeAsk yX3_takeAsk, Cond.initialized RX3, Cond.code yX3_takeAsk cX3_takeAsk 5 none, Cond.fieldLink RX3 11 "QuorumRegister" "replicas" "[LQuorumRegister$Replica;", Cond.fieldLink RX3 88 "QuorumRegister$Replica" "failed" "Z", Cond.fieldLink RX3 96 "QuorumRegister$Replica" "tag" "I", Cond.fieldLink RX3 99 "QuorumRegister$Replica" "value" "I", Cond.methodLink RX3 120 yX3_send, Cond.instanceMethod yX3_send, Cond.selects RX3 yX3_send yX3_send, Cond.code yX3_send cX3_send 8 none, Cond.methodLink RX3 148 yX2_add, Cond.instanceMethod yX2_add, Cond.selects RX2 yX2_add yX2_add, Cond.code yX2_add cX2_add 1 (some .int), Cond.fieldLink RX2 19 "QuorumRegister$Rows" "most" "I", Cond.methodLink RX3 151 yX2_set, Cond.instanceMethod yX2_set, Cond.selects RX2 yX2_set yX2_set]
def wsX3_deliver_r3 : List Cond := [Cond.code yX2_set cX2_set 4 none, Cond.methodLink RX3 68 yX3_takeTell, Cond.instanceMethod yX3_takeTell, Cond.selects RX3 yX3_takeTell yX3_takeTell, Cond.code yX3_takeTell cX3_takeTell 7 none, Cond.fieldLink RX3 18 "QuorumRegister" "clients" "[LQuorumRegister$Client;", Cond.fieldLink RX3 114 "QuorumRegister$Client" "tag" "I", Cond.fieldLink RX3 115 "QuorumRegister$Client" "value" "I", Cond.methodLink RX3 124 yX0_awaits, Cond.instanceMethod yX0_awaits, Cond.selects RX0 yX0_awaits yX0_awaits, Cond.initialized RX0, Cond.code yX0_awaits cX0_awaits 4 (some .boolean), Cond.fieldLink RX0 18 "QuorumRegister$Client" "serial" "I", Cond.fieldLink RX0 9 "QuorumRegister$Client" "phase" "I", Cond.fieldLink RX0 15 "QuorumRegister$Client" "answers" "I", Cond.methodLink RX3 128 yX0_hear, Cond.instanceMethod yX0_hear, Cond.selects RX0 yX0_hear yX0_hear, Cond.code yX0_hear cX0_hear 2 none, Cond.methodLink RX3 131 yX0_hasQuorum, Cond.instanceMethod yX0_hasQuorum, Cond.selects RX0 yX0_hasQuorum yX0_hasQuorum, Cond.code yX0_hasQuorum cX0_hasQuorum 1 (some .boolean)]
def wsX3_deliver_r4 : List Cond := [Cond.methodLink RX0 21 yJ6_bitCount_0f7a4, Cond.static yJ6_bitCount_0f7a4, Cond.initialized RJ6, Cond.code yJ6_bitCount_0f7a4 cJ6_bitCount_0f7a4 1 (some .int), Cond.constant RJ6 265 (1431655765), Cond.constant RJ6 266 (858993459), Cond.constant RJ6 267 (252645135), Cond.methodLink RX3 134 yX3_store, Cond.instanceMethod yX3_store, Cond.selects RX3 yX3_store yX3_store, Cond.code yX3_store cX3_store 4 none, Cond.fieldLink RX3 108 "QuorumRegister$Client" "writes" "Z", Cond.fieldLink RX3 137 "QuorumRegister$Client" "lastNumber" "I", Cond.methodLink RX3 140 Lib.Math.max.name, Cond.static Lib.Math.max.name, Cond.initialized "java/lang/Math", Cond.code Lib.Math.max.name Lib.Math.max.code 2 (some .int), Cond.fieldLink RX3 111 "QuorumRegister$Client" "toWrite" "I", Cond.methodLink RX3 47 yX0_enter, Cond.instanceMethod yX0_enter, Cond.selects RX0 yX0_enter yX0_enter, Cond.code yX0_enter cX0_enter 2 none, Cond.methodLink RX3 116 yX3_sendToAll, Cond.instanceMethod yX3_sendToAll]
def wsX3_deliver_r5 : List Cond := [Cond.selects RX3 yX3_sendToAll yX3_sendToAll, Cond.code yX3_sendToAll cX3_sendToAll 6 none, Cond.fieldLink RX3 105 "QuorumRegister$Client" "serial" "I", Cond.methodLink RX3 72 yX3_takeStore, Cond.instanceMethod yX3_takeStore, Cond.selects RX3 yX3_takeStore yX3_takeStore, Cond.code yX3_takeStore cX3_takeStore 7 none, Cond.methodLink RX3 75 yX3_takeStored, Cond.instanceMethod yX3_takeStored, Cond.selects RX3 yX3_takeStored yX3_takeStored, Cond.code yX3_takeStored cX3_takeStored 5 none, Cond.methodLink RX3 145 yX3_finish, Cond.instanceMethod yX3_finish, Cond.selects RX3 yX3_finish yX3_finish, Cond.code yX3_finish cX3_finish 4 none, Cond.fieldLink RX3 32 "QuorumRegister" "done" "LQuorumRegister$Rows;"]
def wsX3_deliver : List Cond := .code yX3_deliver cX3_deliver 9 (some .int) :: ((wsX3_deliver_r1 ++ (wsX3_deliver_r2 ++ (wsX3_deliver_r3 ++ (wsX3_deliver_r4 ++ wsX3_deliver_r5)))) ++ wsX30 ++ wsX20 ++ wsX10 ++ wsX00)
def wsX3_lose : List Cond := .code yX3_lose cX3_lose 2 (some .boolean) :: ([.fieldLink RX3 28 "QuorumRegister" "pool" "LQuorumRegister$Rows;", .methodLink RX3 51 yX2_has, .instanceMethod yX2_has, .selects RX2 yX2_has yX2_has, .initialized RX2, .code yX2_has cX2_has 2 (some .boolean), .fieldLink RX2 26 "QuorumRegister$Rows" "count" "I", .methodLink RX3 58 yX2_remove, .instanceMethod yX2_remove, .selects RX2 yX2_remove yX2_remove, .code yX2_remove cX2_remove 3 none, .fieldLink RX2 13 "QuorumRegister$Rows" "width" "I", .fieldLink RX2 22 "QuorumRegister$Rows" "cells" "[I", .methodLink RX2 40 arraycopyName, .native arraycopyName, .static arraycopyName, .initialized "java/lang/System", .methodLink RX2 29 yX2_has] ++ wsX30 ++ wsX20)
def wsX3_repeat_r1 : List Cond := [Cond.fieldLink RX3 28 "QuorumRegister" "pool" "LQuorumRegister$Rows;", Cond.methodLink RX3 51 yX2_has, Cond.instanceMethod yX2_has, Cond.selects RX2 yX2_has yX2_has, Cond.initialized RX2, Cond.code yX2_has cX2_has 2 (some .boolean), Cond.fieldLink RX2 26 "QuorumRegister$Rows" "count" "I", Cond.methodLink RX3 78 yX3_isCrowded, Cond.instanceMethod yX3_isCrowded, Cond.selects RX3 yX3_isCrowded yX3_isCrowded, Cond.initialized RX3, Cond.code yX3_isCrowded cX3_isCrowded 1 (some .boolean), Cond.fieldLink RX3 61 "QuorumRegister$Rows" "count" "I", Cond.methodLink RX3 82 yX2_addCopy, Cond.instanceMethod yX2_addCopy, Cond.selects RX2 yX2_addCopy yX2_addCopy, Cond.code yX2_addCopy cX2_addCopy 3 none, Cond.fieldLink RX2 22 "QuorumRegister$Rows" "cells" "[I", Cond.fieldLink RX2 13 "QuorumRegister$Rows" "width" "I", Cond.methodLink RX2 40 arraycopyName, Cond.native arraycopyName, Cond.static arraycopyName, Cond.initialized "java/lang/System", Cond.methodLink RX2 29 yX2_has]
def wsX3_repeat_r2 : List Cond := [Cond.methodLink RX2 36 yX2_add, Cond.instanceMethod yX2_add, Cond.selects RX2 yX2_add yX2_add, Cond.code yX2_add cX2_add 1 (some .int), Cond.fieldLink RX2 19 "QuorumRegister$Rows" "most" "I"]
def wsX3_repeat : List Cond := .code yX3_repeat cX3_repeat 2 (some .boolean) :: ((wsX3_repeat_r1 ++ wsX3_repeat_r2) ++ wsX30 ++ wsX20)
def wsX3_isReplica : List Cond := .code yX3_isReplica cX3_isReplica 1 (some .boolean) :: ([])
def wsX3_countFailed : List Cond := .code yX3_countFailed cX3_countFailed 3 (some .int) :: ([.fieldLink RX3 11 "QuorumRegister" "replicas" "[LQuorumRegister$Replica;", .fieldLink RX3 88 "QuorumRegister$Replica" "failed" "Z"] ++ wsX30 ++ wsX10)
def wsX3_fail : List Cond := .code yX3_fail cX3_fail 2 (some .boolean) :: ([.fieldLink RX3 11 "QuorumRegister" "replicas" "[LQuorumRegister$Replica;", .fieldLink RX3 88 "QuorumRegister$Replica" "failed" "Z", .methodLink RX3 85 yX3_isReplica, .static yX3_isReplica, .initialized RX3, .code yX3_isReplica cX3_isReplica 1 (some .boolean), .methodLink RX3 92 yX3_countFailed, .instanceMethod yX3_countFailed, .selects RX3 yX3_countFailed yX3_countFailed, .code yX3_countFailed cX3_countFailed 3 (some .int)] ++ wsX30 ++ wsX10)
def wsX3_messages : List Cond := .code yX3_messages cX3_messages 1 (some .int) :: ([.fieldLink RX3 28 "QuorumRegister" "pool" "LQuorumRegister$Rows;", .fieldLink RX3 61 "QuorumRegister$Rows" "count" "I"] ++ wsX30 ++ wsX20)
def wsX3_message : List Cond := .code yX3_message cX3_message 3 (some .int) :: ([.fieldLink RX3 28 "QuorumRegister" "pool" "LQuorumRegister$Rows;", .methodLink RX3 54 yX2_cell, .instanceMethod yX2_cell, .selects RX2 yX2_cell yX2_cell, .initialized RX2, .code yX2_cell cX2_cell 3 (some .int), .fieldLink RX2 22 "QuorumRegister$Rows" "cells" "[I", .fieldLink RX2 13 "QuorumRegister$Rows" "width" "I", .methodLink RX2 29 yX2_has, .instanceMethod yX2_has, .selects RX2 yX2_has yX2_has, .code yX2_has cX2_has 2 (some .boolean), .fieldLink RX2 26 "QuorumRegister$Rows" "count" "I", .methodLink RX2 33 yX2_hasColumn, .instanceMethod yX2_hasColumn, .selects RX2 yX2_hasColumn yX2_hasColumn, .code yX2_hasColumn cX2_hasColumn 2 (some .boolean)] ++ wsX30 ++ wsX20)
def wsX3_tag : List Cond := .code yX3_tag cX3_tag 2 (some .int) :: ([.fieldLink RX3 11 "QuorumRegister" "replicas" "[LQuorumRegister$Replica;", .fieldLink RX3 96 "QuorumRegister$Replica" "tag" "I", .methodLink RX3 85 yX3_isReplica, .static yX3_isReplica, .initialized RX3, .code yX3_isReplica cX3_isReplica 1 (some .boolean)] ++ wsX30 ++ wsX10)
def wsX3_value : List Cond := .code yX3_value cX3_value 2 (some .int) :: ([.fieldLink RX3 11 "QuorumRegister" "replicas" "[LQuorumRegister$Replica;", .fieldLink RX3 99 "QuorumRegister$Replica" "value" "I", .methodLink RX3 85 yX3_isReplica, .static yX3_isReplica, .initialized RX3, .code yX3_isReplica cX3_isReplica 1 (some .boolean)] ++ wsX30 ++ wsX10)
def wsX3_failed : List Cond := .code yX3_failed cX3_failed 2 (some .boolean) :: ([.fieldLink RX3 11 "QuorumRegister" "replicas" "[LQuorumRegister$Replica;", .fieldLink RX3 88 "QuorumRegister$Replica" "failed" "Z", .methodLink RX3 85 yX3_isReplica, .static yX3_isReplica, .initialized RX3, .code yX3_isReplica cX3_isReplica 1 (some .boolean)] ++ wsX30 ++ wsX10)
def wsX3_phase : List Cond := .code yX3_phase cX3_phase 2 (some .int) :: ([.fieldLink RX3 18 "QuorumRegister" "clients" "[LQuorumRegister$Client;", .fieldLink RX3 43 "QuorumRegister$Client" "phase" "I", .methodLink RX3 39 yX3_isClient, .static yX3_isClient, .initialized RX3, .code yX3_isClient cX3_isClient 1 (some .boolean)] ++ wsX30 ++ wsX00)
def wsX3_answered : List Cond := .code yX3_answered cX3_answered 2 (some .int) :: ([.fieldLink RX3 18 "QuorumRegister" "clients" "[LQuorumRegister$Client;", .fieldLink RX3 102 "QuorumRegister$Client" "answers" "I", .methodLink RX3 39 yX3_isClient, .static yX3_isClient, .initialized RX3, .code yX3_isClient cX3_isClient 1 (some .boolean)] ++ wsX30 ++ wsX00)
def wsX3_finished : List Cond := .code yX3_finished cX3_finished 1 (some .int) :: ([.fieldLink RX3 32 "QuorumRegister" "done" "LQuorumRegister$Rows;", .fieldLink RX3 61 "QuorumRegister$Rows" "count" "I"] ++ wsX30 ++ wsX20)
def wsX3_operation : List Cond := .code yX3_operation cX3_operation 3 (some .int) :: ([.fieldLink RX3 32 "QuorumRegister" "done" "LQuorumRegister$Rows;", .methodLink RX3 54 yX2_cell, .instanceMethod yX2_cell, .selects RX2 yX2_cell yX2_cell, .initialized RX2, .code yX2_cell cX2_cell 3 (some .int), .fieldLink RX2 22 "QuorumRegister$Rows" "cells" "[I", .fieldLink RX2 13 "QuorumRegister$Rows" "width" "I", .methodLink RX2 29 yX2_has, .instanceMethod yX2_has, .selects RX2 yX2_has yX2_has, .code yX2_has cX2_has 2 (some .boolean), .fieldLink RX2 26 "QuorumRegister$Rows" "count" "I", .methodLink RX2 33 yX2_hasColumn, .instanceMethod yX2_hasColumn, .selects RX2 yX2_hasColumn yX2_hasColumn, .code yX2_hasColumn cX2_hasColumn 2 (some .boolean)] ++ wsX30 ++ wsX20)
def wsX4_init : List Cond := .code yX4_init cX4_init 1 none :: ([.methodLink RX4 1 objectInit, .instanceMethod objectInit, .code objectInit ⟨#[0xb1]⟩ 1 none, .arrayClass .int, .fieldLink RX4 7 "QuorumRegisterModel" "tag" "[I", .fieldLink RX4 13 "QuorumRegisterModel" "value" "[I", .arrayClass .boolean, .fieldLink RX4 16 "QuorumRegisterModel" "failed" "[Z", .fieldLink RX4 20 "QuorumRegisterModel" "phase" "[I", .fieldLink RX4 23 "QuorumRegisterModel" "serial" "[I", .fieldLink RX4 26 "QuorumRegisterModel" "writes" "[Z", .fieldLink RX4 29 "QuorumRegisterModel" "wanted" "[I", .fieldLink RX4 32 "QuorumRegisterModel" "answers" "[I", .fieldLink RX4 35 "QuorumRegisterModel" "seenTag" "[I", .fieldLink RX4 38 "QuorumRegisterModel" "seenValue" "[I", .fieldLink RX4 41 "QuorumRegisterModel" "made" "[I", .fieldLink RX4 44 "QuorumRegisterModel" "pool" "[I", .fieldLink RX4 47 "QuorumRegisterModel" "done" "[I"] ++ wsX40)
def wsX4_within : List Cond := .code yX4_within cX4_within 3 (some .boolean) :: ([])
def wsX4_send : List Cond := .code yX4_send cX4_send 8 none :: ([.fieldLink RX4 50 "QuorumRegisterModel" "count" "I", .fieldLink RX4 44 "QuorumRegisterModel" "pool" "[I"] ++ wsX40)
def wsX4_sendAll : List Cond := .code yX4_sendAll cX4_sendAll 6 none :: ([.fieldLink RX4 23 "QuorumRegisterModel" "serial" "[I", .methodLink RX4 54 yX4_send, .instanceMethod yX4_send, .selects RX4 yX4_send yX4_send, .initialized RX4, .code yX4_send cX4_send 8 none, .fieldLink RX4 50 "QuorumRegisterModel" "count" "I", .fieldLink RX4 44 "QuorumRegisterModel" "pool" "[I"] ++ wsX40)
def wsX4_begin : List Cond := .code yX4_begin cX4_begin 4 (some .int) :: ([.fieldLink RX4 20 "QuorumRegisterModel" "phase" "[I", .fieldLink RX4 50 "QuorumRegisterModel" "count" "I", .fieldLink RX4 23 "QuorumRegisterModel" "serial" "[I", .fieldLink RX4 26 "QuorumRegisterModel" "writes" "[Z", .fieldLink RX4 29 "QuorumRegisterModel" "wanted" "[I", .fieldLink RX4 32 "QuorumRegisterModel" "answers" "[I", .fieldLink RX4 35 "QuorumRegisterModel" "seenTag" "[I", .fieldLink RX4 38 "QuorumRegisterModel" "seenValue" "[I", .methodLink RX4 58 yX4_within, .static yX4_within, .initialized RX4, .code yX4_within cX4_within 3 (some .boolean), .methodLink RX4 62 yX4_sendAll, .instanceMethod yX4_sendAll, .selects RX4 yX4_sendAll yX4_sendAll, .code yX4_sendAll cX4_sendAll 6 none, .methodLink RX4 54 yX4_send, .instanceMethod yX4_send, .selects RX4 yX4_send yX4_send, .code yX4_send cX4_send 8 none, .fieldLink RX4 44 "QuorumRegisterModel" "pool" "[I"] ++ wsX40)
def wsX4_write_r1 : List Cond := [Cond.methodLink RX4 66 yX4_begin, Cond.instanceMethod yX4_begin, Cond.selects RX4 yX4_begin yX4_begin, Cond.initialized RX4, Cond.code yX4_begin cX4_begin 4 (some .int), Cond.fieldLink RX4 20 "QuorumRegisterModel" "phase" "[I", Cond.fieldLink RX4 50 "QuorumRegisterModel" "count" "I", Cond.fieldLink RX4 23 "QuorumRegisterModel" "serial" "[I", Cond.fieldLink RX4 26 "QuorumRegisterModel" "writes" "[Z", Cond.fieldLink RX4 29 "QuorumRegisterModel" "wanted" "[I", Cond.fieldLink RX4 32 "QuorumRegisterModel" "answers" "[I", Cond.fieldLink RX4 35 "QuorumRegisterModel" "seenTag" "[I", Cond.fieldLink RX4 38 "QuorumRegisterModel" "seenValue" "[I", Cond.methodLink RX4 58 yX4_within, Cond.static yX4_within, Cond.code yX4_within cX4_within 3 (some .boolean), Cond.methodLink RX4 62 yX4_sendAll, Cond.instanceMethod yX4_sendAll, Cond.selects RX4 yX4_sendAll yX4_sendAll, Cond.code yX4_sendAll cX4_sendAll 6 none, Cond.methodLink RX4 54 yX4_send, Cond.instanceMethod yX4_send, Cond.selects RX4 yX4_send yX4_send, Cond.code yX4_send cX4_send 8 none]
def wsX4_write_r2 : List Cond := [Cond.fieldLink RX4 44 "QuorumRegisterModel" "pool" "[I"]
def wsX4_write : List Cond := .code yX4_write cX4_write 3 (some .int) :: ((wsX4_write_r1 ++ wsX4_write_r2) ++ wsX40)
def wsX4_read_r1 : List Cond := [Cond.methodLink RX4 66 yX4_begin, Cond.instanceMethod yX4_begin, Cond.selects RX4 yX4_begin yX4_begin, Cond.initialized RX4, Cond.code yX4_begin cX4_begin 4 (some .int), Cond.fieldLink RX4 20 "QuorumRegisterModel" "phase" "[I", Cond.fieldLink RX4 50 "QuorumRegisterModel" "count" "I", Cond.fieldLink RX4 23 "QuorumRegisterModel" "serial" "[I", Cond.fieldLink RX4 26 "QuorumRegisterModel" "writes" "[Z", Cond.fieldLink RX4 29 "QuorumRegisterModel" "wanted" "[I", Cond.fieldLink RX4 32 "QuorumRegisterModel" "answers" "[I", Cond.fieldLink RX4 35 "QuorumRegisterModel" "seenTag" "[I", Cond.fieldLink RX4 38 "QuorumRegisterModel" "seenValue" "[I", Cond.methodLink RX4 58 yX4_within, Cond.static yX4_within, Cond.code yX4_within cX4_within 3 (some .boolean), Cond.methodLink RX4 62 yX4_sendAll, Cond.instanceMethod yX4_sendAll, Cond.selects RX4 yX4_sendAll yX4_sendAll, Cond.code yX4_sendAll cX4_sendAll 6 none, Cond.methodLink RX4 54 yX4_send, Cond.instanceMethod yX4_send, Cond.selects RX4 yX4_send yX4_send, Cond.code yX4_send cX4_send 8 none]
def wsX4_read_r2 : List Cond := [Cond.fieldLink RX4 44 "QuorumRegisterModel" "pool" "[I"]
def wsX4_read : List Cond := .code yX4_read cX4_read 2 (some .int) :: ((wsX4_read_r1 ++ wsX4_read_r2) ++ wsX40)
def wsX4_leave : List Cond := .code yX4_leave cX4_leave 2 (some .boolean) :: ([.fieldLink RX4 20 "QuorumRegisterModel" "phase" "[I", .methodLink RX4 58 yX4_within, .static yX4_within, .initialized RX4, .code yX4_within cX4_within 3 (some .boolean)] ++ wsX40)
def wsX4_drop : List Cond := .code yX4_drop cX4_drop 3 none :: ([.fieldLink RX4 50 "QuorumRegisterModel" "count" "I", .fieldLink RX4 44 "QuorumRegisterModel" "pool" "[I"] ++ wsX40)
def wsX4_bits : List Cond := .code yX4_bits cX4_bits 3 (some .int) :: ([])
def wsX4_deliver_r1 : List Cond := [Cond.fieldLink RX4 50 "QuorumRegisterModel" "count" "I", Cond.fieldLink RX4 44 "QuorumRegisterModel" "pool" "[I", Cond.fieldLink RX4 16 "QuorumRegisterModel" "failed" "[Z", Cond.fieldLink RX4 7 "QuorumRegisterModel" "tag" "[I", Cond.fieldLink RX4 13 "QuorumRegisterModel" "value" "[I", Cond.fieldLink RX4 23 "QuorumRegisterModel" "serial" "[I", Cond.fieldLink RX4 20 "QuorumRegisterModel" "phase" "[I", Cond.fieldLink RX4 32 "QuorumRegisterModel" "answers" "[I", Cond.fieldLink RX4 35 "QuorumRegisterModel" "seenTag" "[I", Cond.fieldLink RX4 38 "QuorumRegisterModel" "seenValue" "[I", Cond.fieldLink RX4 26 "QuorumRegisterModel" "writes" "[Z", Cond.fieldLink RX4 41 "QuorumRegisterModel" "made" "[I", Cond.fieldLink RX4 29 "QuorumRegisterModel" "wanted" "[I", Cond.fieldLink RX4 78 "QuorumRegisterModel" "finished" "I", Cond.fieldLink RX4 47 "QuorumRegisterModel" "done" "[I", Cond.methodLink RX4 58 yX4_within, Cond.static yX4_within, Cond.initialized RX4, Cond.code yX4_within cX4_within 3 (some .boolean), Cond.methodLink RX4 70 yX4_drop, Cond.instanceMethod yX4_drop, Cond.selects RX4 yX4_drop yX4_drop, Cond.code yX4_drop cX4_drop 3 none, Cond.methodLink RX4 54 yX4_send]
def wsX4_deliver_r2 : List Cond := [Cond.instanceMethod yX4_send, Cond.selects RX4 yX4_send yX4_send, Cond.code yX4_send cX4_send 8 none, Cond.methodLink RX4 74 yX4_bits, Cond.static yX4_bits, Cond.code yX4_bits cX4_bits 3 (some .int), Cond.methodLink RX4 62 yX4_sendAll, Cond.instanceMethod yX4_sendAll, Cond.selects RX4 yX4_sendAll yX4_sendAll, Cond.code yX4_sendAll cX4_sendAll 6 none]
def wsX4_deliver : List Cond := .code yX4_deliver cX4_deliver 10 (some .int) :: ((wsX4_deliver_r1 ++ wsX4_deliver_r2) ++ wsX40)
def wsX4_lose : List Cond := .code yX4_lose cX4_lose 2 (some .boolean) :: ([.fieldLink RX4 50 "QuorumRegisterModel" "count" "I", .methodLink RX4 58 yX4_within, .static yX4_within, .initialized RX4, .code yX4_within cX4_within 3 (some .boolean), .methodLink RX4 70 yX4_drop, .instanceMethod yX4_drop, .selects RX4 yX4_drop yX4_drop, .code yX4_drop cX4_drop 3 none, .fieldLink RX4 44 "QuorumRegisterModel" "pool" "[I"] ++ wsX40)
def wsX4_repeat : List Cond := .code yX4_repeat cX4_repeat 2 (some .boolean) :: ([.fieldLink RX4 50 "QuorumRegisterModel" "count" "I", .fieldLink RX4 44 "QuorumRegisterModel" "pool" "[I", .methodLink RX4 58 yX4_within, .static yX4_within, .initialized RX4, .code yX4_within cX4_within 3 (some .boolean), .methodLink RX4 54 yX4_send, .instanceMethod yX4_send, .selects RX4 yX4_send yX4_send, .code yX4_send cX4_send 8 none] ++ wsX40)
def wsX4_fail : List Cond := .code yX4_fail cX4_fail 2 (some .boolean) :: ([.fieldLink RX4 16 "QuorumRegisterModel" "failed" "[Z", .fieldLink RX4 81 "QuorumRegisterModel" "failures" "I", .methodLink RX4 58 yX4_within, .static yX4_within, .initialized RX4, .code yX4_within cX4_within 3 (some .boolean)] ++ wsX40)
def wsX4_messages : List Cond := .code yX4_messages cX4_messages 1 (some .int) :: ([.fieldLink RX4 50 "QuorumRegisterModel" "count" "I"] ++ wsX40)
def wsX4_message : List Cond := .code yX4_message cX4_message 3 (some .int) :: ([.fieldLink RX4 50 "QuorumRegisterModel" "count" "I", .fieldLink RX4 44 "QuorumRegisterModel" "pool" "[I", .methodLink RX4 58 yX4_within, .static yX4_within, .initialized RX4, .code yX4_within cX4_within 3 (some .boolean)] ++ wsX40)
def wsX4_tag : List Cond := .code yX4_tag cX4_tag 2 (some .int) :: ([.fieldLink RX4 7 "QuorumRegisterModel" "tag" "[I", .methodLink RX4 58 yX4_within, .static yX4_within, .initialized RX4, .code yX4_within cX4_within 3 (some .boolean)] ++ wsX40)
def wsX4_value : List Cond := .code yX4_value cX4_value 2 (some .int) :: ([.fieldLink RX4 13 "QuorumRegisterModel" "value" "[I", .methodLink RX4 58 yX4_within, .static yX4_within, .initialized RX4, .code yX4_within cX4_within 3 (some .boolean)] ++ wsX40)
def wsX4_failed : List Cond := .code yX4_failed cX4_failed 2 (some .boolean) :: ([.fieldLink RX4 16 "QuorumRegisterModel" "failed" "[Z", .methodLink RX4 58 yX4_within, .static yX4_within, .initialized RX4, .code yX4_within cX4_within 3 (some .boolean)] ++ wsX40)
def wsX4_phase : List Cond := .code yX4_phase cX4_phase 2 (some .int) :: ([.fieldLink RX4 20 "QuorumRegisterModel" "phase" "[I", .methodLink RX4 58 yX4_within, .static yX4_within, .initialized RX4, .code yX4_within cX4_within 3 (some .boolean)] ++ wsX40)
def wsX4_answered : List Cond := .code yX4_answered cX4_answered 2 (some .int) :: ([.fieldLink RX4 20 "QuorumRegisterModel" "phase" "[I", .fieldLink RX4 32 "QuorumRegisterModel" "answers" "[I", .methodLink RX4 58 yX4_within, .static yX4_within, .initialized RX4, .code yX4_within cX4_within 3 (some .boolean)] ++ wsX40)
def wsX4_finished : List Cond := .code yX4_finished cX4_finished 1 (some .int) :: ([.fieldLink RX4 78 "QuorumRegisterModel" "finished" "I"] ++ wsX40)
def wsX4_operation : List Cond := .code yX4_operation cX4_operation 3 (some .int) :: ([.fieldLink RX4 78 "QuorumRegisterModel" "finished" "I", .fieldLink RX4 47 "QuorumRegisterModel" "done" "[I", .methodLink RX4 58 yX4_within, .static yX4_within, .initialized RX4, .code yX4_within cX4_within 3 (some .boolean)] ++ wsX40)
def wsJ9_max_7cf53 : List Cond := .code yJ9_max_7cf53 cJ9_max_7cf53 2 (some .int) :: ([])
def wsL_law_r1 : List Cond := [Cond.classLink RL 7 RX3, Cond.instantiable RX3 4, Cond.initialized RX3, Cond.classLink RL 10 RX4, Cond.instantiable RX4 16, Cond.initialized RX4, Cond.methodLink RL 9 yX3_init, Cond.instanceMethod yX3_init, Cond.code yX3_init cX3_init 2 none, Cond.methodLink RX3 3 objectInit, Cond.instanceMethod objectInit, Cond.code objectInit ⟨#[0xb1]⟩ 1 none, Cond.classLink RX3 9 RX1, Cond.fieldLink RX3 11 "QuorumRegister" "replicas" "[LQuorumRegister$Replica;", Cond.instantiable RX1 3, Cond.initialized RX1, Cond.classLink RX3 16 RX0, Cond.fieldLink RX3 18 "QuorumRegister" "clients" "[LQuorumRegister$Client;", Cond.instantiable RX0 8, Cond.initialized RX0, Cond.classLink RX3 23 RX2, Cond.instantiable RX2 4, Cond.initialized RX2, Cond.fieldLink RX3 28 "QuorumRegister" "pool" "LQuorumRegister$Rows;"]
def wsL_law_r2 : List Cond := [Cond.fieldLink RX3 32 "QuorumRegister" "done" "LQuorumRegister$Rows;", Cond.instanceMethod yX1_init, Cond.code yX1_init cX1_init 1 none, Cond.methodLink RX1 1 objectInit, Cond.instanceMethod yX0_init, Cond.code yX0_init cX0_init 1 none, Cond.methodLink RX0 3 objectInit, Cond.methodLink RX3 25 yX2_init, Cond.instanceMethod yX2_init, Cond.code yX2_init cX2_init 3 none, Cond.methodLink RX2 1 objectInit, Cond.methodLink RX2 7 Lib.Math.max.name, Cond.static Lib.Math.max.name, Cond.initialized "java/lang/Math", Cond.code Lib.Math.max.name Lib.Math.max.code 2 (some .int), Cond.fieldLink RX2 13 "QuorumRegister$Rows" "width" "I", Cond.fieldLink RX2 19 "QuorumRegister$Rows" "most" "I", Cond.arrayClass .int, Cond.fieldLink RX2 22 "QuorumRegister$Rows" "cells" "[I", Cond.methodLink RL 12 yX4_init, Cond.instanceMethod yX4_init, Cond.code yX4_init cX4_init 1 none, Cond.methodLink RX4 1 objectInit, Cond.fieldLink RX4 7 "QuorumRegisterModel" "tag" "[I"]
def wsL_law_r3 : List Cond := [Cond.fieldLink RX4 13 "QuorumRegisterModel" "value" "[I", Cond.arrayClass .boolean, Cond.fieldLink RX4 16 "QuorumRegisterModel" "failed" "[Z", Cond.fieldLink RX4 20 "QuorumRegisterModel" "phase" "[I", Cond.fieldLink RX4 23 "QuorumRegisterModel" "serial" "[I", Cond.fieldLink RX4 26 "QuorumRegisterModel" "writes" "[Z", Cond.fieldLink RX4 29 "QuorumRegisterModel" "wanted" "[I", Cond.fieldLink RX4 32 "QuorumRegisterModel" "answers" "[I", Cond.fieldLink RX4 35 "QuorumRegisterModel" "seenTag" "[I", Cond.fieldLink RX4 38 "QuorumRegisterModel" "seenValue" "[I", Cond.fieldLink RX4 41 "QuorumRegisterModel" "made" "[I", Cond.fieldLink RX4 44 "QuorumRegisterModel" "pool" "[I", Cond.fieldLink RX4 47 "QuorumRegisterModel" "done" "[I", Cond.methodLink RL 13 yX3_write, Cond.instanceMethod yX3_write, Cond.selects RX3 yX3_write yX3_write, Cond.code yX3_write cX3_write 3 (some .int), Cond.methodLink RX3 35 yX3_begin, Cond.instanceMethod yX3_begin, Cond.selects RX3 yX3_begin yX3_begin, Cond.code yX3_begin cX3_begin 5 (some .int), Cond.fieldLink RX3 43 "QuorumRegister$Client" "phase" "I", Cond.fieldLink RX3 105 "QuorumRegister$Client" "serial" "I", Cond.fieldLink RX3 108 "QuorumRegister$Client" "writes" "Z"]
def wsL_law_r4 : List Cond := [Cond.fieldLink RX3 111 "QuorumRegister$Client" "toWrite" "I", Cond.fieldLink RX3 114 "QuorumRegister$Client" "tag" "I", Cond.fieldLink RX3 115 "QuorumRegister$Client" "value" "I", Cond.methodLink RX3 39 yX3_isClient, Cond.static yX3_isClient, Cond.code yX3_isClient cX3_isClient 1 (some .boolean), Cond.methodLink RX3 78 yX3_isCrowded, Cond.instanceMethod yX3_isCrowded, Cond.selects RX3 yX3_isCrowded yX3_isCrowded, Cond.code yX3_isCrowded cX3_isCrowded 1 (some .boolean), Cond.fieldLink RX3 61 "QuorumRegister$Rows" "count" "I", Cond.methodLink RX3 47 yX0_enter, Cond.instanceMethod yX0_enter, Cond.selects RX0 yX0_enter yX0_enter, Cond.code yX0_enter cX0_enter 2 none, Cond.fieldLink RX0 9 "QuorumRegister$Client" "phase" "I", Cond.fieldLink RX0 15 "QuorumRegister$Client" "answers" "I", Cond.methodLink RX3 116 yX3_sendToAll, Cond.instanceMethod yX3_sendToAll, Cond.selects RX3 yX3_sendToAll yX3_sendToAll, Cond.code yX3_sendToAll cX3_sendToAll 6 none, Cond.methodLink RX3 120 yX3_send, Cond.instanceMethod yX3_send, Cond.selects RX3 yX3_send yX3_send]
def wsL_law_r5 : List Cond := [Cond.code yX3_send cX3_send 8 none, Cond.methodLink RX3 148 yX2_add, Cond.instanceMethod yX2_add, Cond.selects RX2 yX2_add yX2_add, Cond.code yX2_add cX2_add 1 (some .int), Cond.fieldLink RX2 26 "QuorumRegister$Rows" "count" "I", Cond.methodLink RX3 151 yX2_set, Cond.instanceMethod yX2_set, Cond.selects RX2 yX2_set yX2_set, Cond.code yX2_set cX2_set 4 none, Cond.methodLink RX2 29 yX2_has, Cond.instanceMethod yX2_has, Cond.selects RX2 yX2_has yX2_has, Cond.code yX2_has cX2_has 2 (some .boolean), Cond.methodLink RX2 33 yX2_hasColumn, Cond.instanceMethod yX2_hasColumn, Cond.selects RX2 yX2_hasColumn yX2_hasColumn, Cond.code yX2_hasColumn cX2_hasColumn 2 (some .boolean), Cond.methodLink RL 17 yX4_write, Cond.instanceMethod yX4_write, Cond.selects RX4 yX4_write yX4_write, Cond.code yX4_write cX4_write 3 (some .int), Cond.methodLink RX4 66 yX4_begin, Cond.instanceMethod yX4_begin]
def wsL_law_r6 : List Cond := [Cond.selects RX4 yX4_begin yX4_begin, Cond.code yX4_begin cX4_begin 4 (some .int), Cond.fieldLink RX4 50 "QuorumRegisterModel" "count" "I", Cond.methodLink RX4 58 yX4_within, Cond.static yX4_within, Cond.code yX4_within cX4_within 3 (some .boolean), Cond.methodLink RX4 62 yX4_sendAll, Cond.instanceMethod yX4_sendAll, Cond.selects RX4 yX4_sendAll yX4_sendAll, Cond.code yX4_sendAll cX4_sendAll 6 none, Cond.methodLink RX4 54 yX4_send, Cond.instanceMethod yX4_send, Cond.selects RX4 yX4_send yX4_send, Cond.code yX4_send cX4_send 8 none, Cond.methodLink RL 18 yX3_read, Cond.instanceMethod yX3_read, Cond.selects RX3 yX3_read yX3_read, Cond.code yX3_read cX3_read 2 (some .int), Cond.methodLink RL 22 yX4_read, Cond.instanceMethod yX4_read, Cond.selects RX4 yX4_read yX4_read, Cond.code yX4_read cX4_read 2 (some .int), Cond.methodLink RL 23 yX3_leave, Cond.instanceMethod yX3_leave]
def wsL_law_r7 : List Cond := [Cond.selects RX3 yX3_leave yX3_leave, Cond.code yX3_leave cX3_leave 2 (some .boolean), Cond.methodLink RL 27 yX4_leave, Cond.instanceMethod yX4_leave, Cond.selects RX4 yX4_leave yX4_leave, Cond.code yX4_leave cX4_leave 2 (some .boolean), Cond.methodLink RL 28 yX3_deliver, Cond.instanceMethod yX3_deliver, Cond.selects RX3 yX3_deliver yX3_deliver, Cond.code yX3_deliver cX3_deliver 9 (some .int), Cond.methodLink RX3 51 yX2_has, Cond.methodLink RX3 54 yX2_cell, Cond.instanceMethod yX2_cell, Cond.selects RX2 yX2_cell yX2_cell, Cond.code yX2_cell cX2_cell 3 (some .int), Cond.methodLink RX3 58 yX2_remove, Cond.instanceMethod yX2_remove, Cond.selects RX2 yX2_remove yX2_remove, Cond.code yX2_remove cX2_remove 3 none, Cond.methodLink RX2 40 arraycopyName, Cond.native arraycopyName, Cond.static arraycopyName, Cond.initialized "java/lang/System", Cond.methodLink RX3 64 yX3_takeAsk]
def wsL_law_r8 : List Cond := [Cond.instanceMethod yX3_takeAsk, Cond.selects RX3 yX3_takeAsk yX3_takeAsk, Cond.code yX3_takeAsk cX3_takeAsk 5 none, Cond.fieldLink RX3 88 "QuorumRegister$Replica" "failed" "Z", Cond.fieldLink RX3 96 "QuorumRegister$Replica" "tag" "I", Cond.fieldLink RX3 99 "QuorumRegister$Replica" "value" "I", Cond.methodLink RX3 68 yX3_takeTell, Cond.instanceMethod yX3_takeTell, Cond.selects RX3 yX3_takeTell yX3_takeTell, Cond.code yX3_takeTell cX3_takeTell 7 none, Cond.methodLink RX3 124 yX0_awaits, Cond.instanceMethod yX0_awaits, Cond.selects RX0 yX0_awaits yX0_awaits, Cond.code yX0_awaits cX0_awaits 4 (some .boolean), Cond.fieldLink RX0 18 "QuorumRegister$Client" "serial" "I", Cond.methodLink RX3 128 yX0_hear, Cond.instanceMethod yX0_hear, Cond.selects RX0 yX0_hear yX0_hear, Cond.code yX0_hear cX0_hear 2 none, Cond.methodLink RX3 131 yX0_hasQuorum, Cond.instanceMethod yX0_hasQuorum, Cond.selects RX0 yX0_hasQuorum yX0_hasQuorum, Cond.code yX0_hasQuorum cX0_hasQuorum 1 (some .boolean), Cond.methodLink RX0 21 yJ6_bitCount_0f7a4]
def wsL_law_r9 : List Cond := [Cond.static yJ6_bitCount_0f7a4, Cond.initialized RJ6, Cond.code yJ6_bitCount_0f7a4 cJ6_bitCount_0f7a4 1 (some .int), Cond.constant RJ6 265 (1431655765), Cond.constant RJ6 266 (858993459), Cond.constant RJ6 267 (252645135), Cond.methodLink RX3 134 yX3_store, Cond.instanceMethod yX3_store, Cond.selects RX3 yX3_store yX3_store, Cond.code yX3_store cX3_store 4 none, Cond.fieldLink RX3 137 "QuorumRegister$Client" "lastNumber" "I", Cond.methodLink RX3 140 Lib.Math.max.name, Cond.methodLink RX3 72 yX3_takeStore, Cond.instanceMethod yX3_takeStore, Cond.selects RX3 yX3_takeStore yX3_takeStore, Cond.code yX3_takeStore cX3_takeStore 7 none, Cond.methodLink RX3 75 yX3_takeStored, Cond.instanceMethod yX3_takeStored, Cond.selects RX3 yX3_takeStored yX3_takeStored, Cond.code yX3_takeStored cX3_takeStored 5 none, Cond.methodLink RX3 145 yX3_finish, Cond.instanceMethod yX3_finish, Cond.selects RX3 yX3_finish yX3_finish, Cond.code yX3_finish cX3_finish 4 none]
def wsL_law_r10 : List Cond := [Cond.methodLink RL 31 yX4_deliver, Cond.instanceMethod yX4_deliver, Cond.selects RX4 yX4_deliver yX4_deliver, Cond.code yX4_deliver cX4_deliver 10 (some .int), Cond.fieldLink RX4 78 "QuorumRegisterModel" "finished" "I", Cond.methodLink RX4 70 yX4_drop, Cond.instanceMethod yX4_drop, Cond.selects RX4 yX4_drop yX4_drop, Cond.code yX4_drop cX4_drop 3 none, Cond.methodLink RX4 74 yX4_bits, Cond.static yX4_bits, Cond.code yX4_bits cX4_bits 3 (some .int), Cond.methodLink RL 32 yX3_lose, Cond.instanceMethod yX3_lose, Cond.selects RX3 yX3_lose yX3_lose, Cond.code yX3_lose cX3_lose 2 (some .boolean), Cond.methodLink RL 35 yX4_lose, Cond.instanceMethod yX4_lose, Cond.selects RX4 yX4_lose yX4_lose, Cond.code yX4_lose cX4_lose 2 (some .boolean), Cond.methodLink RL 36 yX3_repeat, Cond.instanceMethod yX3_repeat, Cond.selects RX3 yX3_repeat yX3_repeat, Cond.code yX3_repeat cX3_repeat 2 (some .boolean)]
def wsL_law_r11 : List Cond := [Cond.methodLink RX3 82 yX2_addCopy, Cond.instanceMethod yX2_addCopy, Cond.selects RX2 yX2_addCopy yX2_addCopy, Cond.code yX2_addCopy cX2_addCopy 3 none, Cond.methodLink RX2 36 yX2_add, Cond.methodLink RL 39 yX4_repeat, Cond.instanceMethod yX4_repeat, Cond.selects RX4 yX4_repeat yX4_repeat, Cond.code yX4_repeat cX4_repeat 2 (some .boolean), Cond.methodLink RL 40 yX3_fail, Cond.instanceMethod yX3_fail, Cond.selects RX3 yX3_fail yX3_fail, Cond.code yX3_fail cX3_fail 2 (some .boolean), Cond.methodLink RX3 85 yX3_isReplica, Cond.static yX3_isReplica, Cond.code yX3_isReplica cX3_isReplica 1 (some .boolean), Cond.methodLink RX3 92 yX3_countFailed, Cond.instanceMethod yX3_countFailed, Cond.selects RX3 yX3_countFailed yX3_countFailed, Cond.code yX3_countFailed cX3_countFailed 3 (some .int), Cond.methodLink RL 43 yX4_fail, Cond.instanceMethod yX4_fail, Cond.selects RX4 yX4_fail yX4_fail, Cond.code yX4_fail cX4_fail 2 (some .boolean)]
def wsL_law_r12 : List Cond := [Cond.fieldLink RX4 81 "QuorumRegisterModel" "failures" "I", Cond.methodLink RL 44 yX3_messages, Cond.instanceMethod yX3_messages, Cond.selects RX3 yX3_messages yX3_messages, Cond.code yX3_messages cX3_messages 1 (some .int), Cond.methodLink RL 48 yX4_messages, Cond.instanceMethod yX4_messages, Cond.selects RX4 yX4_messages yX4_messages, Cond.code yX4_messages cX4_messages 1 (some .int), Cond.methodLink RL 49 yX3_message, Cond.instanceMethod yX3_message, Cond.selects RX3 yX3_message yX3_message, Cond.code yX3_message cX3_message 3 (some .int), Cond.methodLink RL 52 yX4_message, Cond.instanceMethod yX4_message, Cond.selects RX4 yX4_message yX4_message, Cond.code yX4_message cX4_message 3 (some .int), Cond.methodLink RL 53 yX3_tag, Cond.instanceMethod yX3_tag, Cond.selects RX3 yX3_tag yX3_tag, Cond.code yX3_tag cX3_tag 2 (some .int), Cond.methodLink RL 56 yX4_tag, Cond.instanceMethod yX4_tag, Cond.selects RX4 yX4_tag yX4_tag]
def wsL_law_r13 : List Cond := [Cond.code yX4_tag cX4_tag 2 (some .int), Cond.methodLink RL 57 yX3_value, Cond.instanceMethod yX3_value, Cond.selects RX3 yX3_value yX3_value, Cond.code yX3_value cX3_value 2 (some .int), Cond.methodLink RL 60 yX4_value, Cond.instanceMethod yX4_value, Cond.selects RX4 yX4_value yX4_value, Cond.code yX4_value cX4_value 2 (some .int), Cond.methodLink RL 61 yX3_failed, Cond.instanceMethod yX3_failed, Cond.selects RX3 yX3_failed yX3_failed, Cond.code yX3_failed cX3_failed 2 (some .boolean), Cond.methodLink RL 64 yX4_failed, Cond.instanceMethod yX4_failed, Cond.selects RX4 yX4_failed yX4_failed, Cond.code yX4_failed cX4_failed 2 (some .boolean), Cond.methodLink RL 65 yX3_phase, Cond.instanceMethod yX3_phase, Cond.selects RX3 yX3_phase yX3_phase, Cond.code yX3_phase cX3_phase 2 (some .int), Cond.methodLink RL 68 yX4_phase, Cond.instanceMethod yX4_phase, Cond.selects RX4 yX4_phase yX4_phase]
def wsL_law_r14 : List Cond := [Cond.code yX4_phase cX4_phase 2 (some .int), Cond.methodLink RL 69 yX3_answered, Cond.instanceMethod yX3_answered, Cond.selects RX3 yX3_answered yX3_answered, Cond.code yX3_answered cX3_answered 2 (some .int), Cond.fieldLink RX3 102 "QuorumRegister$Client" "answers" "I", Cond.methodLink RL 72 yX4_answered, Cond.instanceMethod yX4_answered, Cond.selects RX4 yX4_answered yX4_answered, Cond.code yX4_answered cX4_answered 2 (some .int), Cond.methodLink RL 73 yX3_finished, Cond.instanceMethod yX3_finished, Cond.selects RX3 yX3_finished yX3_finished, Cond.code yX3_finished cX3_finished 1 (some .int), Cond.methodLink RL 76 yX4_finished, Cond.instanceMethod yX4_finished, Cond.selects RX4 yX4_finished yX4_finished, Cond.code yX4_finished cX4_finished 1 (some .int), Cond.methodLink RL 77 yX3_operation, Cond.instanceMethod yX3_operation, Cond.selects RX3 yX3_operation yX3_operation, Cond.code yX3_operation cX3_operation 3 (some .int), Cond.methodLink RL 80 yX4_operation, Cond.instanceMethod yX4_operation]
def wsL_law_r15 : List Cond := [Cond.selects RX4 yX4_operation yX4_operation, Cond.code yX4_operation cX4_operation 3 (some .int)]
def wsL_law : List Cond := (wsL_law_r1 ++ (wsL_law_r2 ++ (wsL_law_r3 ++ (wsL_law_r4 ++ (wsL_law_r5 ++ (wsL_law_r6 ++ (wsL_law_r7 ++ (wsL_law_r8 ++ (wsL_law_r9 ++ (wsL_law_r10 ++ (wsL_law_r11 ++ (wsL_law_r12 ++ (wsL_law_r13 ++ (wsL_law_r14 ++ wsL_law_r15)))))))))))))) ++ wsX30 ++ wsX40 ++ wsX10 ++ wsX00 ++ wsX20 ++ ([] : List Cond)
abbrev vwCl : List vw_C := [(RX0, TX0, 8), (RX1, TX1, 3), (RX2, TX2, 4), (RX3, TX3, 4), (RX4, TX4, 16)]
end
section
theorem inJ6 : ∀ w ∈ wsJ60, w ∈ lw_tbl := by decide +kernel
theorem inJ9 : ∀ w ∈ wsJ90, w ∈ lw_tbl := by decide +kernel
theorem inJ10 : ∀ w ∈ wsJ100, w ∈ lw_tbl := by decide +kernel
theorem dX0_init_0 : decode cX0_init 0 = .ok (.aload_n 0, 1) := by decide +kernel
theorem dX0_init_1 : decode cX0_init 1 = .ok (.invokespecial 3, 3) := by decide +kernel
theorem dX0_init_4 : decode cX0_init 4 = .ok (.return_, 1) := by decide +kernel
theorem dX0_enter_0 : decode cX0_enter 0 = .ok (.aload_n 0, 1) := by decide +kernel
theorem dX0_enter_1 : decode cX0_enter 1 = .ok (.iload_n 1, 1) := by decide +kernel
theorem dX0_enter_2 : decode cX0_enter 2 = .ok (.putfield 9, 3) := by decide +kernel
theorem dX0_enter_5 : decode cX0_enter 5 = .ok (.aload_n 0, 1) := by decide +kernel
theorem dX0_enter_6 : decode cX0_enter 6 = .ok (.iconst 0, 1) := by decide +kernel
theorem dX0_enter_7 : decode cX0_enter 7 = .ok (.putfield 15, 3) := by decide +kernel
theorem dX0_enter_10 : decode cX0_enter 10 = .ok (.return_, 1) := by decide +kernel
theorem dX0_awaits_0 : decode cX0_awaits 0 = .ok (.aload_n 0, 1) := by decide +kernel
theorem dX0_awaits_1 : decode cX0_awaits 1 = .ok (.getfield 18, 3) := by decide +kernel
theorem dX0_awaits_4 : decode cX0_awaits 4 = .ok (.iload_n 3, 1) := by decide +kernel
theorem dX0_awaits_5 : decode cX0_awaits 5 = .ok (.if_icmp .ne 26, 3) := by decide +kernel
theorem dX0_awaits_8 : decode cX0_awaits 8 = .ok (.aload_n 0, 1) := by decide +kernel
theorem dX0_awaits_9 : decode cX0_awaits 9 = .ok (.getfield 9, 3) := by decide +kernel
theorem dX0_awaits_12 : decode cX0_awaits 12 = .ok (.iload_n 1, 1) := by decide +kernel
theorem dX0_awaits_13 : decode cX0_awaits 13 = .ok (.if_icmp .ne 18, 3) := by decide +kernel
theorem dX0_awaits_16 : decode cX0_awaits 16 = .ok (.aload_n 0, 1) := by decide +kernel
theorem dX0_awaits_17 : decode cX0_awaits 17 = .ok (.getfield 15, 3) := by decide +kernel
theorem dX0_awaits_20 : decode cX0_awaits 20 = .ok (.iconst 1, 1) := by decide +kernel
theorem dX0_awaits_21 : decode cX0_awaits 21 = .ok (.iload_n 2, 1) := by decide +kernel
theorem dX0_awaits_22 : decode cX0_awaits 22 = .ok (.ishl, 1) := by decide +kernel
theorem dX0_awaits_23 : decode cX0_awaits 23 = .ok (.iand, 1) := by decide +kernel
theorem dX0_awaits_24 : decode cX0_awaits 24 = .ok (.ifCond .ne 7, 3) := by decide +kernel
theorem dX0_awaits_27 : decode cX0_awaits 27 = .ok (.iconst 1, 1) := by decide +kernel
theorem dX0_awaits_28 : decode cX0_awaits 28 = .ok (.goto 4, 3) := by decide +kernel
theorem dX0_awaits_31 : decode cX0_awaits 31 = .ok (.iconst 0, 1) := by decide +kernel
theorem dX0_awaits_32 : decode cX0_awaits 32 = .ok (.ireturn, 1) := by decide +kernel
theorem dX0_hear_0 : decode cX0_hear 0 = .ok (.aload_n 0, 1) := by decide +kernel
theorem dX0_hear_1 : decode cX0_hear 1 = .ok (.dup, 1) := by decide +kernel
theorem dX0_hear_2 : decode cX0_hear 2 = .ok (.getfield 15, 3) := by decide +kernel
theorem dX0_hear_5 : decode cX0_hear 5 = .ok (.iconst 1, 1) := by decide +kernel
theorem dX0_hear_6 : decode cX0_hear 6 = .ok (.iload_n 1, 1) := by decide +kernel
theorem dX0_hear_7 : decode cX0_hear 7 = .ok (.ishl, 1) := by decide +kernel
theorem dX0_hear_8 : decode cX0_hear 8 = .ok (.ior, 1) := by decide +kernel
theorem dX0_hear_9 : decode cX0_hear 9 = .ok (.putfield 15, 3) := by decide +kernel
theorem dX0_hear_12 : decode cX0_hear 12 = .ok (.return_, 1) := by decide +kernel
set_option maxRecDepth 20000 in
theorem ggX0_hasQuorum_J6_bitCount_0f7a4 : GoodIn wsX0_hasQuorum wsJ6_bitCount_0f7a4 := goodIn_r _ [5, 6, 7, 8] (by decide +kernel) (by decide +kernel)
set_option maxRecDepth 20000 in
theorem gX0_hasQuorum_J6_bitCount_0f7a4 : GoodIn wsX0_hasQuorum (va_wsS RX0 21 yJ6_bitCount_0f7a4 wsJ6_bitCount_0f7a4) := goodIn_app (goodIn_of _ (by decide +kernel)) ggX0_hasQuorum_J6_bitCount_0f7a4
theorem dX0_hasQuorum_0 : decode cX0_hasQuorum 0 = .ok (.aload_n 0, 1) := by decide +kernel
theorem dX0_hasQuorum_1 : decode cX0_hasQuorum 1 = .ok (.getfield 15, 3) := by decide +kernel
theorem dX0_hasQuorum_4 : decode cX0_hasQuorum 4 = .ok (.invokestatic 21, 3) := by decide +kernel
theorem dX0_hasQuorum_7 : decode cX0_hasQuorum 7 = .ok (.iconst 3, 1) := by decide +kernel
theorem dX0_hasQuorum_8 : decode cX0_hasQuorum 8 = .ok (.if_icmp .lt 7, 3) := by decide +kernel
theorem dX0_hasQuorum_11 : decode cX0_hasQuorum 11 = .ok (.iconst 1, 1) := by decide +kernel
theorem dX0_hasQuorum_12 : decode cX0_hasQuorum 12 = .ok (.goto 4, 3) := by decide +kernel
theorem dX0_hasQuorum_15 : decode cX0_hasQuorum 15 = .ok (.iconst 0, 1) := by decide +kernel
theorem dX0_hasQuorum_16 : decode cX0_hasQuorum 16 = .ok (.ireturn, 1) := by decide +kernel
theorem dX1_init_0 : decode cX1_init 0 = .ok (.aload_n 0, 1) := by decide +kernel
theorem dX1_init_1 : decode cX1_init 1 = .ok (.invokespecial 1, 3) := by decide +kernel
theorem dX1_init_4 : decode cX1_init 4 = .ok (.return_, 1) := by decide +kernel
theorem dX2_init_0 : decode cX2_init 0 = .ok (.aload_n 0, 1) := by decide +kernel
theorem dX2_init_1 : decode cX2_init 1 = .ok (.invokespecial 1, 3) := by decide +kernel
theorem dX2_init_4 : decode cX2_init 4 = .ok (.aload_n 0, 1) := by decide +kernel
theorem dX2_init_5 : decode cX2_init 5 = .ok (.iload_n 1, 1) := by decide +kernel
theorem dX2_init_6 : decode cX2_init 6 = .ok (.iconst 0, 1) := by decide +kernel
theorem dX2_init_7 : decode cX2_init 7 = .ok (.invokestatic 7, 3) := by decide +kernel
theorem dX2_init_10 : decode cX2_init 10 = .ok (.putfield 13, 3) := by decide +kernel
theorem dX2_init_13 : decode cX2_init 13 = .ok (.aload_n 0, 1) := by decide +kernel
theorem dX2_init_14 : decode cX2_init 14 = .ok (.iload_n 2, 1) := by decide +kernel
theorem dX2_init_15 : decode cX2_init 15 = .ok (.iconst 0, 1) := by decide +kernel
theorem dX2_init_16 : decode cX2_init 16 = .ok (.invokestatic 7, 3) := by decide +kernel
theorem dX2_init_19 : decode cX2_init 19 = .ok (.putfield 19, 3) := by decide +kernel
theorem dX2_init_22 : decode cX2_init 22 = .ok (.aload_n 0, 1) := by decide +kernel
theorem dX2_init_23 : decode cX2_init 23 = .ok (.aload_n 0, 1) := by decide +kernel
theorem dX2_init_24 : decode cX2_init 24 = .ok (.getfield 13, 3) := by decide +kernel
theorem dX2_init_27 : decode cX2_init 27 = .ok (.aload_n 0, 1) := by decide +kernel
theorem dX2_init_28 : decode cX2_init 28 = .ok (.getfield 19, 3) := by decide +kernel
theorem dX2_init_31 : decode cX2_init 31 = .ok (.imul, 1) := by decide +kernel
theorem dX2_init_32 : decode cX2_init 32 = .ok (.newarray .int, 2) := by decide +kernel
theorem dX2_init_34 : decode cX2_init 34 = .ok (.putfield 22, 3) := by decide +kernel
theorem dX2_init_37 : decode cX2_init 37 = .ok (.return_, 1) := by decide +kernel
theorem dX2_has_0 : decode cX2_has 0 = .ok (.iload_n 1, 1) := by decide +kernel
theorem dX2_has_1 : decode cX2_has 1 = .ok (.ifCond .lt 15, 3) := by decide +kernel
theorem dX2_has_4 : decode cX2_has 4 = .ok (.iload_n 1, 1) := by decide +kernel
theorem dX2_has_5 : decode cX2_has 5 = .ok (.aload_n 0, 1) := by decide +kernel
theorem dX2_has_6 : decode cX2_has 6 = .ok (.getfield 26, 3) := by decide +kernel
theorem dX2_has_9 : decode cX2_has 9 = .ok (.if_icmp .ge 7, 3) := by decide +kernel
theorem dX2_has_12 : decode cX2_has 12 = .ok (.iconst 1, 1) := by decide +kernel
theorem dX2_has_13 : decode cX2_has 13 = .ok (.goto 4, 3) := by decide +kernel
theorem dX2_has_16 : decode cX2_has 16 = .ok (.iconst 0, 1) := by decide +kernel
theorem dX2_has_17 : decode cX2_has 17 = .ok (.ireturn, 1) := by decide +kernel
theorem dX2_hasColumn_0 : decode cX2_hasColumn 0 = .ok (.iload_n 1, 1) := by decide +kernel
theorem dX2_hasColumn_1 : decode cX2_hasColumn 1 = .ok (.ifCond .lt 15, 3) := by decide +kernel
theorem dX2_hasColumn_4 : decode cX2_hasColumn 4 = .ok (.iload_n 1, 1) := by decide +kernel
theorem dX2_hasColumn_5 : decode cX2_hasColumn 5 = .ok (.aload_n 0, 1) := by decide +kernel
theorem dX2_hasColumn_6 : decode cX2_hasColumn 6 = .ok (.getfield 13, 3) := by decide +kernel
theorem dX2_hasColumn_9 : decode cX2_hasColumn 9 = .ok (.if_icmp .ge 7, 3) := by decide +kernel
theorem dX2_hasColumn_12 : decode cX2_hasColumn 12 = .ok (.iconst 1, 1) := by decide +kernel
theorem dX2_hasColumn_13 : decode cX2_hasColumn 13 = .ok (.goto 4, 3) := by decide +kernel
theorem dX2_hasColumn_16 : decode cX2_hasColumn 16 = .ok (.iconst 0, 1) := by decide +kernel
theorem dX2_hasColumn_17 : decode cX2_hasColumn 17 = .ok (.ireturn, 1) := by decide +kernel
set_option maxRecDepth 20000 in
theorem ggX2_cell_X2_has : GoodIn wsX2_cell wsX2_has := goodIn_r _ [7, 8, 13, 14, 15, 16] (by decide +kernel) (by decide +kernel)
set_option maxRecDepth 20000 in
theorem gX2_cell_X2_has : GoodIn wsX2_cell (wsV RX2 29 RX2 yX2_has wsX2_has) := goodIn_app (goodIn_of _ (by decide +kernel)) ggX2_cell_X2_has
set_option maxRecDepth 20000 in
theorem ggX2_cell_X2_hasColumn : GoodIn wsX2_cell wsX2_hasColumn := goodIn_r _ [12, 2, 13, 14, 15, 16] (by decide +kernel) (by decide +kernel)
set_option maxRecDepth 20000 in
theorem gX2_cell_X2_hasColumn : GoodIn wsX2_cell (wsV RX2 33 RX2 yX2_hasColumn wsX2_hasColumn) := goodIn_app (goodIn_of _ (by decide +kernel)) ggX2_cell_X2_hasColumn
theorem dX2_cell_0 : decode cX2_cell 0 = .ok (.aload_n 0, 1) := by decide +kernel
theorem dX2_cell_1 : decode cX2_cell 1 = .ok (.iload_n 1, 1) := by decide +kernel
theorem dX2_cell_2 : decode cX2_cell 2 = .ok (.invokevirtual 29, 3) := by decide +kernel
theorem dX2_cell_5 : decode cX2_cell 5 = .ok (.ifCond .ne 5, 3) := by decide +kernel
theorem dX2_cell_8 : decode cX2_cell 8 = .ok (.iconst (-1), 1) := by decide +kernel
theorem dX2_cell_9 : decode cX2_cell 9 = .ok (.ireturn, 1) := by decide +kernel
theorem dX2_cell_10 : decode cX2_cell 10 = .ok (.aload_n 0, 1) := by decide +kernel
theorem dX2_cell_11 : decode cX2_cell 11 = .ok (.iload_n 2, 1) := by decide +kernel
theorem dX2_cell_12 : decode cX2_cell 12 = .ok (.invokevirtual 33, 3) := by decide +kernel
theorem dX2_cell_15 : decode cX2_cell 15 = .ok (.ifCond .eq 19, 3) := by decide +kernel
theorem dX2_cell_18 : decode cX2_cell 18 = .ok (.aload_n 0, 1) := by decide +kernel
theorem dX2_cell_19 : decode cX2_cell 19 = .ok (.getfield 22, 3) := by decide +kernel
theorem dX2_cell_22 : decode cX2_cell 22 = .ok (.iload_n 1, 1) := by decide +kernel
theorem dX2_cell_23 : decode cX2_cell 23 = .ok (.aload_n 0, 1) := by decide +kernel
theorem dX2_cell_24 : decode cX2_cell 24 = .ok (.getfield 13, 3) := by decide +kernel
theorem dX2_cell_27 : decode cX2_cell 27 = .ok (.imul, 1) := by decide +kernel
theorem dX2_cell_28 : decode cX2_cell 28 = .ok (.iload_n 2, 1) := by decide +kernel
theorem dX2_cell_29 : decode cX2_cell 29 = .ok (.iadd, 1) := by decide +kernel
theorem dX2_cell_30 : decode cX2_cell 30 = .ok (.iaload, 1) := by decide +kernel
theorem dX2_cell_31 : decode cX2_cell 31 = .ok (.goto 4, 3) := by decide +kernel
theorem dX2_cell_34 : decode cX2_cell 34 = .ok (.iconst 0, 1) := by decide +kernel
theorem dX2_cell_35 : decode cX2_cell 35 = .ok (.ireturn, 1) := by decide +kernel
theorem dX2_add_0 : decode cX2_add 0 = .ok (.aload_n 0, 1) := by decide +kernel
theorem dX2_add_1 : decode cX2_add 1 = .ok (.getfield 26, 3) := by decide +kernel
theorem dX2_add_4 : decode cX2_add 4 = .ok (.aload_n 0, 1) := by decide +kernel
theorem dX2_add_5 : decode cX2_add 5 = .ok (.getfield 19, 3) := by decide +kernel
theorem dX2_add_8 : decode cX2_add 8 = .ok (.if_icmp .lt 5, 3) := by decide +kernel
theorem dX2_add_11 : decode cX2_add 11 = .ok (.iconst (-1), 1) := by decide +kernel
theorem dX2_add_12 : decode cX2_add 12 = .ok (.ireturn, 1) := by decide +kernel
theorem dX2_add_13 : decode cX2_add 13 = .ok (.aload_n 0, 1) := by decide +kernel
theorem dX2_add_14 : decode cX2_add 14 = .ok (.dup, 1) := by decide +kernel
theorem dX2_add_15 : decode cX2_add 15 = .ok (.getfield 26, 3) := by decide +kernel
theorem dX2_add_18 : decode cX2_add 18 = .ok (.iconst 1, 1) := by decide +kernel
theorem dX2_add_19 : decode cX2_add 19 = .ok (.iadd, 1) := by decide +kernel
theorem dX2_add_20 : decode cX2_add 20 = .ok (.putfield 26, 3) := by decide +kernel
theorem dX2_add_23 : decode cX2_add 23 = .ok (.aload_n 0, 1) := by decide +kernel
theorem dX2_add_24 : decode cX2_add 24 = .ok (.getfield 26, 3) := by decide +kernel
theorem dX2_add_27 : decode cX2_add 27 = .ok (.iconst 1, 1) := by decide +kernel
theorem dX2_add_28 : decode cX2_add 28 = .ok (.isub, 1) := by decide +kernel
theorem dX2_add_29 : decode cX2_add 29 = .ok (.ireturn, 1) := by decide +kernel
set_option maxRecDepth 20000 in
theorem ggX2_set_X2_has : GoodIn wsX2_set wsX2_has := goodIn_r _ [7, 8, 13, 14, 15, 16] (by decide +kernel) (by decide +kernel)
set_option maxRecDepth 20000 in
theorem gX2_set_X2_has : GoodIn wsX2_set (wsV RX2 29 RX2 yX2_has wsX2_has) := goodIn_app (goodIn_of _ (by decide +kernel)) ggX2_set_X2_has
set_option maxRecDepth 20000 in
theorem ggX2_set_X2_hasColumn : GoodIn wsX2_set wsX2_hasColumn := goodIn_r _ [12, 2, 13, 14, 15, 16] (by decide +kernel) (by decide +kernel)
set_option maxRecDepth 20000 in
theorem gX2_set_X2_hasColumn : GoodIn wsX2_set (wsV RX2 33 RX2 yX2_hasColumn wsX2_hasColumn) := goodIn_app (goodIn_of _ (by decide +kernel)) ggX2_set_X2_hasColumn
theorem dX2_set_0 : decode cX2_set 0 = .ok (.aload_n 0, 1) := by decide +kernel
theorem dX2_set_1 : decode cX2_set 1 = .ok (.iload_n 1, 1) := by decide +kernel
theorem dX2_set_2 : decode cX2_set 2 = .ok (.invokevirtual 29, 3) := by decide +kernel
theorem dX2_set_5 : decode cX2_set 5 = .ok (.ifCond .eq 25, 3) := by decide +kernel
theorem dX2_set_8 : decode cX2_set 8 = .ok (.aload_n 0, 1) := by decide +kernel
theorem dX2_set_9 : decode cX2_set 9 = .ok (.iload_n 2, 1) := by decide +kernel
theorem dX2_set_10 : decode cX2_set 10 = .ok (.invokevirtual 33, 3) := by decide +kernel
theorem dX2_set_13 : decode cX2_set 13 = .ok (.ifCond .eq 17, 3) := by decide +kernel
theorem dX2_set_16 : decode cX2_set 16 = .ok (.aload_n 0, 1) := by decide +kernel
theorem dX2_set_17 : decode cX2_set 17 = .ok (.getfield 22, 3) := by decide +kernel
theorem dX2_set_20 : decode cX2_set 20 = .ok (.iload_n 1, 1) := by decide +kernel
theorem dX2_set_21 : decode cX2_set 21 = .ok (.aload_n 0, 1) := by decide +kernel
theorem dX2_set_22 : decode cX2_set 22 = .ok (.getfield 13, 3) := by decide +kernel
theorem dX2_set_25 : decode cX2_set 25 = .ok (.imul, 1) := by decide +kernel
theorem dX2_set_26 : decode cX2_set 26 = .ok (.iload_n 2, 1) := by decide +kernel
theorem dX2_set_27 : decode cX2_set 27 = .ok (.iadd, 1) := by decide +kernel
theorem dX2_set_28 : decode cX2_set 28 = .ok (.iload_n 3, 1) := by decide +kernel
theorem dX2_set_29 : decode cX2_set 29 = .ok (.iastore, 1) := by decide +kernel
theorem dX2_set_30 : decode cX2_set 30 = .ok (.return_, 1) := by decide +kernel
set_option maxRecDepth 20000 in
theorem ggX2_addCopy_X2_has : GoodIn wsX2_addCopy wsX2_has := goodIn_r _ [11, 12, 18, 19, 20, 21] (by decide +kernel) (by decide +kernel)
set_option maxRecDepth 20000 in
theorem gX2_addCopy_X2_has : GoodIn wsX2_addCopy (wsV RX2 29 RX2 yX2_has wsX2_has) := goodIn_app (goodIn_of _ (by decide +kernel)) ggX2_addCopy_X2_has
set_option maxRecDepth 20000 in
theorem ggX2_addCopy_X2_add : GoodIn wsX2_addCopy wsX2_add := goodIn_r _ [16, 12, 17, 18, 19, 20, 21] (by decide +kernel) (by decide +kernel)
set_option maxRecDepth 20000 in
theorem gX2_addCopy_X2_add : GoodIn wsX2_addCopy (wsV RX2 36 RX2 yX2_add wsX2_add) := goodIn_app (goodIn_of _ (by decide +kernel)) ggX2_addCopy_X2_add
theorem dX2_addCopy_0 : decode cX2_addCopy 0 = .ok (.aload_n 0, 1) := by decide +kernel
theorem dX2_addCopy_1 : decode cX2_addCopy 1 = .ok (.iload_n 1, 1) := by decide +kernel
theorem dX2_addCopy_2 : decode cX2_addCopy 2 = .ok (.invokevirtual 29, 3) := by decide +kernel
theorem dX2_addCopy_5 : decode cX2_addCopy 5 = .ok (.ifCond .ne 4, 3) := by decide +kernel
theorem dX2_addCopy_8 : decode cX2_addCopy 8 = .ok (.return_, 1) := by decide +kernel
theorem dX2_addCopy_9 : decode cX2_addCopy 9 = .ok (.aload_n 0, 1) := by decide +kernel
theorem dX2_addCopy_10 : decode cX2_addCopy 10 = .ok (.invokevirtual 36, 3) := by decide +kernel
theorem dX2_addCopy_13 : decode cX2_addCopy 13 = .ok (.istore_n 2, 1) := by decide +kernel
theorem dX2_addCopy_14 : decode cX2_addCopy 14 = .ok (.iload_n 2, 1) := by decide +kernel
theorem dX2_addCopy_15 : decode cX2_addCopy 15 = .ok (.ifCond .lt 30, 3) := by decide +kernel
theorem dX2_addCopy_18 : decode cX2_addCopy 18 = .ok (.aload_n 0, 1) := by decide +kernel
theorem dX2_addCopy_19 : decode cX2_addCopy 19 = .ok (.getfield 22, 3) := by decide +kernel
theorem dX2_addCopy_22 : decode cX2_addCopy 22 = .ok (.iload_n 1, 1) := by decide +kernel
theorem dX2_addCopy_23 : decode cX2_addCopy 23 = .ok (.aload_n 0, 1) := by decide +kernel
theorem dX2_addCopy_24 : decode cX2_addCopy 24 = .ok (.getfield 13, 3) := by decide +kernel
theorem dX2_addCopy_27 : decode cX2_addCopy 27 = .ok (.imul, 1) := by decide +kernel
theorem dX2_addCopy_28 : decode cX2_addCopy 28 = .ok (.aload_n 0, 1) := by decide +kernel
theorem dX2_addCopy_29 : decode cX2_addCopy 29 = .ok (.getfield 22, 3) := by decide +kernel
theorem dX2_addCopy_32 : decode cX2_addCopy 32 = .ok (.iload_n 2, 1) := by decide +kernel
theorem dX2_addCopy_33 : decode cX2_addCopy 33 = .ok (.aload_n 0, 1) := by decide +kernel
theorem dX2_addCopy_34 : decode cX2_addCopy 34 = .ok (.getfield 13, 3) := by decide +kernel
theorem dX2_addCopy_37 : decode cX2_addCopy 37 = .ok (.imul, 1) := by decide +kernel
theorem dX2_addCopy_38 : decode cX2_addCopy 38 = .ok (.aload_n 0, 1) := by decide +kernel
theorem dX2_addCopy_39 : decode cX2_addCopy 39 = .ok (.getfield 13, 3) := by decide +kernel
theorem dX2_addCopy_42 : decode cX2_addCopy 42 = .ok (.invokestatic 40, 3) := by decide +kernel
theorem dX2_addCopy_45 : decode cX2_addCopy 45 = .ok (.return_, 1) := by decide +kernel
set_option maxRecDepth 20000 in
theorem ggX2_remove_X2_has : GoodIn wsX2_remove wsX2_has := goodIn_r _ [12, 3, 13, 14, 15, 16] (by decide +kernel) (by decide +kernel)
set_option maxRecDepth 20000 in
theorem gX2_remove_X2_has : GoodIn wsX2_remove (wsV RX2 29 RX2 yX2_has wsX2_has) := goodIn_app (goodIn_of _ (by decide +kernel)) ggX2_remove_X2_has
theorem dX2_remove_0 : decode cX2_remove 0 = .ok (.aload_n 0, 1) := by decide +kernel
theorem dX2_remove_1 : decode cX2_remove 1 = .ok (.iload_n 1, 1) := by decide +kernel
theorem dX2_remove_2 : decode cX2_remove 2 = .ok (.invokevirtual 29, 3) := by decide +kernel
theorem dX2_remove_5 : decode cX2_remove 5 = .ok (.ifCond .ne 4, 3) := by decide +kernel
theorem dX2_remove_8 : decode cX2_remove 8 = .ok (.return_, 1) := by decide +kernel
theorem dX2_remove_9 : decode cX2_remove 9 = .ok (.iload_n 1, 1) := by decide +kernel
theorem dX2_remove_10 : decode cX2_remove 10 = .ok (.iconst 1, 1) := by decide +kernel
theorem dX2_remove_11 : decode cX2_remove 11 = .ok (.iadd, 1) := by decide +kernel
theorem dX2_remove_12 : decode cX2_remove 12 = .ok (.aload_n 0, 1) := by decide +kernel
theorem dX2_remove_13 : decode cX2_remove 13 = .ok (.getfield 13, 3) := by decide +kernel
theorem dX2_remove_16 : decode cX2_remove 16 = .ok (.imul, 1) := by decide +kernel
theorem dX2_remove_17 : decode cX2_remove 17 = .ok (.istore_n 2, 1) := by decide +kernel
theorem dX2_remove_18 : decode cX2_remove 18 = .ok (.aload_n 0, 1) := by decide +kernel
theorem dX2_remove_19 : decode cX2_remove 19 = .ok (.getfield 22, 3) := by decide +kernel
theorem dX2_remove_22 : decode cX2_remove 22 = .ok (.iload_n 2, 1) := by decide +kernel
theorem dX2_remove_23 : decode cX2_remove 23 = .ok (.aload_n 0, 1) := by decide +kernel
theorem dX2_remove_24 : decode cX2_remove 24 = .ok (.getfield 22, 3) := by decide +kernel
theorem dX2_remove_27 : decode cX2_remove 27 = .ok (.iload_n 1, 1) := by decide +kernel
theorem dX2_remove_28 : decode cX2_remove 28 = .ok (.aload_n 0, 1) := by decide +kernel
theorem dX2_remove_29 : decode cX2_remove 29 = .ok (.getfield 13, 3) := by decide +kernel
theorem dX2_remove_32 : decode cX2_remove 32 = .ok (.imul, 1) := by decide +kernel
theorem dX2_remove_33 : decode cX2_remove 33 = .ok (.aload_n 0, 1) := by decide +kernel
theorem dX2_remove_34 : decode cX2_remove 34 = .ok (.getfield 26, 3) := by decide +kernel
theorem dX2_remove_37 : decode cX2_remove 37 = .ok (.aload_n 0, 1) := by decide +kernel
theorem dX2_remove_38 : decode cX2_remove 38 = .ok (.getfield 13, 3) := by decide +kernel
theorem dX2_remove_41 : decode cX2_remove 41 = .ok (.imul, 1) := by decide +kernel
theorem dX2_remove_42 : decode cX2_remove 42 = .ok (.iload_n 2, 1) := by decide +kernel
theorem dX2_remove_43 : decode cX2_remove 43 = .ok (.isub, 1) := by decide +kernel
theorem dX2_remove_44 : decode cX2_remove 44 = .ok (.invokestatic 40, 3) := by decide +kernel
theorem dX2_remove_47 : decode cX2_remove 47 = .ok (.aload_n 0, 1) := by decide +kernel
theorem dX2_remove_48 : decode cX2_remove 48 = .ok (.dup, 1) := by decide +kernel
theorem dX2_remove_49 : decode cX2_remove 49 = .ok (.getfield 26, 3) := by decide +kernel
theorem dX2_remove_52 : decode cX2_remove 52 = .ok (.iconst 1, 1) := by decide +kernel
theorem dX2_remove_53 : decode cX2_remove 53 = .ok (.isub, 1) := by decide +kernel
theorem dX2_remove_54 : decode cX2_remove 54 = .ok (.putfield 26, 3) := by decide +kernel
theorem dX2_remove_57 : decode cX2_remove 57 = .ok (.return_, 1) := by decide +kernel
set_option maxRecDepth 20000 in
theorem ggX3_init_X1_init : GoodIn wsX3_init wsX1_init := goodIn_r _ [18, 19, 2, 3] (by decide +kernel) (by decide +kernel)
set_option maxRecDepth 20000 in
theorem gX3_init_X1_init_n15 : GoodIn wsX3_init (wsX1_init) := ggX3_init_X1_init
set_option maxRecDepth 20000 in
theorem ggX3_init_X0_init : GoodIn wsX3_init wsX0_init := goodIn_r _ [21, 22, 2, 3] (by decide +kernel) (by decide +kernel)
set_option maxRecDepth 20000 in
theorem gX3_init_X0_init_n22 : GoodIn wsX3_init (wsX0_init) := ggX3_init_X0_init
set_option maxRecDepth 20000 in
theorem ggX3_init_X2_init : GoodIn wsX3_init wsX2_init := goodIn_r _ [25, 26, 2, 3, 27, 28, 29, 30, 31, 32, 33, 34, 50, 51, 52, 53] (by decide +kernel) (by decide +kernel)
set_option maxRecDepth 20000 in
theorem gX3_init_X2_init : GoodIn wsX3_init (wsX2_init) := ggX3_init_X2_init
theorem dX3_init_0 : decode cX3_init 0 = .ok (.aload_n 0, 1) := by decide +kernel
theorem dX3_init_1 : decode cX3_init 1 = .ok (.invokespecial 3, 3) := by decide +kernel
theorem dX3_init_4 : decode cX3_init 4 = .ok (.aload_n 0, 1) := by decide +kernel
theorem dX3_init_5 : decode cX3_init 5 = .ok (.iconst 5, 1) := by decide +kernel
theorem dX3_init_6 : decode cX3_init 6 = .ok (.anewarray 9, 3) := by decide +kernel
theorem dX3_init_9 : decode cX3_init 9 = .ok (.putfield 11, 3) := by decide +kernel
theorem dX3_init_12 : decode cX3_init 12 = .ok (.iconst 0, 1) := by decide +kernel
theorem dX3_init_13 : decode cX3_init 13 = .ok (.istore_n 1, 1) := by decide +kernel
theorem dX3_init_14 : decode cX3_init 14 = .ok (.iload_n 1, 1) := by decide +kernel
theorem dX3_init_15 : decode cX3_init 15 = .ok (.iconst 5, 1) := by decide +kernel
theorem dX3_init_16 : decode cX3_init 16 = .ok (.if_icmp .ge 22, 3) := by decide +kernel
theorem dX3_init_19 : decode cX3_init 19 = .ok (.aload_n 0, 1) := by decide +kernel
theorem dX3_init_20 : decode cX3_init 20 = .ok (.getfield 11, 3) := by decide +kernel
theorem dX3_init_23 : decode cX3_init 23 = .ok (.iload_n 1, 1) := by decide +kernel
theorem dX3_init_24 : decode cX3_init 24 = .ok (.new 9, 3) := by decide +kernel
theorem dX3_init_27 : decode cX3_init 27 = .ok (.dup, 1) := by decide +kernel
theorem dX3_init_28 : decode cX3_init 28 = .ok (.invokespecial 15, 3) := by decide +kernel
theorem dX3_init_31 : decode cX3_init 31 = .ok (.aastore, 1) := by decide +kernel
theorem dX3_init_32 : decode cX3_init 32 = .ok (.iinc 1 1, 3) := by decide +kernel
theorem dX3_init_35 : decode cX3_init 35 = .ok (.goto (-21), 3) := by decide +kernel
theorem dX3_init_38 : decode cX3_init 38 = .ok (.aload_n 0, 1) := by decide +kernel
theorem dX3_init_39 : decode cX3_init 39 = .ok (.iconst 3, 1) := by decide +kernel
theorem dX3_init_40 : decode cX3_init 40 = .ok (.anewarray 16, 3) := by decide +kernel
theorem dX3_init_43 : decode cX3_init 43 = .ok (.putfield 18, 3) := by decide +kernel
theorem dX3_init_46 : decode cX3_init 46 = .ok (.iconst 0, 1) := by decide +kernel
theorem dX3_init_47 : decode cX3_init 47 = .ok (.istore_n 1, 1) := by decide +kernel
theorem dX3_init_48 : decode cX3_init 48 = .ok (.iload_n 1, 1) := by decide +kernel
theorem dX3_init_49 : decode cX3_init 49 = .ok (.iconst 3, 1) := by decide +kernel
theorem dX3_init_50 : decode cX3_init 50 = .ok (.if_icmp .ge 22, 3) := by decide +kernel
theorem dX3_init_53 : decode cX3_init 53 = .ok (.aload_n 0, 1) := by decide +kernel
theorem dX3_init_54 : decode cX3_init 54 = .ok (.getfield 18, 3) := by decide +kernel
theorem dX3_init_57 : decode cX3_init 57 = .ok (.iload_n 1, 1) := by decide +kernel
theorem dX3_init_58 : decode cX3_init 58 = .ok (.new 16, 3) := by decide +kernel
theorem dX3_init_61 : decode cX3_init 61 = .ok (.dup, 1) := by decide +kernel
theorem dX3_init_62 : decode cX3_init 62 = .ok (.invokespecial 22, 3) := by decide +kernel
theorem dX3_init_65 : decode cX3_init 65 = .ok (.aastore, 1) := by decide +kernel
theorem dX3_init_66 : decode cX3_init 66 = .ok (.iinc 1 1, 3) := by decide +kernel
theorem dX3_init_69 : decode cX3_init 69 = .ok (.goto (-21), 3) := by decide +kernel
theorem dX3_init_72 : decode cX3_init 72 = .ok (.aload_n 0, 1) := by decide +kernel
theorem dX3_init_73 : decode cX3_init 73 = .ok (.new 23, 3) := by decide +kernel
theorem dX3_init_76 : decode cX3_init 76 = .ok (.dup, 1) := by decide +kernel
theorem dX3_init_77 : decode cX3_init 77 = .ok (.bipush 6, 2) := by decide +kernel
theorem dX3_init_79 : decode cX3_init 79 = .ok (.bipush 77, 2) := by decide +kernel
theorem dX3_init_81 : decode cX3_init 81 = .ok (.invokespecial 25, 3) := by decide +kernel
theorem dX3_init_84 : decode cX3_init 84 = .ok (.putfield 28, 3) := by decide +kernel
theorem dX3_init_87 : decode cX3_init 87 = .ok (.aload_n 0, 1) := by decide +kernel
theorem dX3_init_88 : decode cX3_init 88 = .ok (.new 23, 3) := by decide +kernel
theorem dX3_init_91 : decode cX3_init 91 = .ok (.dup, 1) := by decide +kernel
theorem dX3_init_92 : decode cX3_init 92 = .ok (.iconst 5, 1) := by decide +kernel
theorem dX3_init_93 : decode cX3_init 93 = .ok (.bipush 39, 2) := by decide +kernel
theorem dX3_init_95 : decode cX3_init 95 = .ok (.invokespecial 25, 3) := by decide +kernel
theorem dX3_init_98 : decode cX3_init 98 = .ok (.putfield 32, 3) := by decide +kernel
theorem dX3_init_101 : decode cX3_init 101 = .ok (.return_, 1) := by decide +kernel
set_option maxRecDepth 20000 in
theorem ggX3_write_X3_begin : GoodIn wsX3_write wsX3_begin := goodIn_r _ [5, 6, 7, 8, 9, 10, 11, 12, 13, 14, 4, 15, 16, 17, 18, 19, 20, 21, 22, 23, 24, 25, 26, 27, 28, 29, 30, 31, 32, 33, 34, 35, 36, 37, 38, 39, 40, 41, 42, 43, 44, 45, 46, 47, 48, 49, 50, 51, 52, 53, 54, 55, 56, 57, 58, 59, 60, 61, 62, 63, 64, 65, 66, 67, 68, 69, 70, 71, 72, 73] (by decide +kernel) (by decide +kernel)
set_option maxRecDepth 20000 in
theorem gX3_write_X3_begin : GoodIn wsX3_write (wsV RX3 35 RX3 yX3_begin wsX3_begin) := goodIn_app (goodIn_of _ (by decide +kernel)) ggX3_write_X3_begin
theorem dX3_write_0 : decode cX3_write 0 = .ok (.aload_n 0, 1) := by decide +kernel
theorem dX3_write_1 : decode cX3_write 1 = .ok (.iload_n 1, 1) := by decide +kernel
theorem dX3_write_2 : decode cX3_write 2 = .ok (.iconst 1, 1) := by decide +kernel
theorem dX3_write_3 : decode cX3_write 3 = .ok (.iload_n 2, 1) := by decide +kernel
theorem dX3_write_4 : decode cX3_write 4 = .ok (.invokevirtual 35, 3) := by decide +kernel
theorem dX3_write_7 : decode cX3_write 7 = .ok (.ireturn, 1) := by decide +kernel
set_option maxRecDepth 20000 in
theorem ggX3_read_X3_begin : GoodIn wsX3_read wsX3_begin := goodIn_r _ [5, 6, 7, 8, 9, 10, 11, 12, 13, 14, 4, 15, 16, 17, 18, 19, 20, 21, 22, 23, 24, 25, 26, 27, 28, 29, 30, 31, 32, 33, 34, 35, 36, 37, 38, 39, 40, 41, 42, 43, 44, 45, 46, 47, 48, 49, 50, 51, 52, 53, 54, 55, 56, 57, 58, 59, 60, 61, 62, 63, 64, 65, 66, 67, 68, 69, 70, 71, 72, 73] (by decide +kernel) (by decide +kernel)
set_option maxRecDepth 20000 in
theorem gX3_read_X3_begin : GoodIn wsX3_read (wsV RX3 35 RX3 yX3_begin wsX3_begin) := goodIn_app (goodIn_of _ (by decide +kernel)) ggX3_read_X3_begin
theorem dX3_read_0 : decode cX3_read 0 = .ok (.aload_n 0, 1) := by decide +kernel
theorem dX3_read_1 : decode cX3_read 1 = .ok (.iload_n 1, 1) := by decide +kernel
theorem dX3_read_2 : decode cX3_read 2 = .ok (.iconst 0, 1) := by decide +kernel
theorem dX3_read_3 : decode cX3_read 3 = .ok (.iconst 0, 1) := by decide +kernel
theorem dX3_read_4 : decode cX3_read 4 = .ok (.invokevirtual 35, 3) := by decide +kernel
theorem dX3_read_7 : decode cX3_read 7 = .ok (.ireturn, 1) := by decide +kernel
set_option maxRecDepth 20000 in
theorem ggX3_leave_X3_isClient : GoodIn wsX3_leave wsX3_isClient := goodIn_r _ [6] (by decide +kernel) (by decide +kernel)
set_option maxRecDepth 20000 in
theorem gX3_leave_X3_isClient : GoodIn wsX3_leave (va_wsS RX3 39 yX3_isClient wsX3_isClient) := goodIn_app (goodIn_of _ (by decide +kernel)) ggX3_leave_X3_isClient
set_option maxRecDepth 20000 in
theorem ggX3_leave_X0_enter : GoodIn wsX3_leave wsX0_enter := goodIn_r _ [11, 12, 13, 18, 19, 20, 21, 22, 23, 24, 25] (by decide +kernel) (by decide +kernel)
set_option maxRecDepth 20000 in
theorem gX3_leave_X0_enter : GoodIn wsX3_leave (wsV RX3 47 RX0 yX0_enter wsX0_enter) := goodIn_app (goodIn_of _ (by decide +kernel)) ggX3_leave_X0_enter
theorem dX3_leave_0 : decode cX3_leave 0 = .ok (.iload_n 1, 1) := by decide +kernel
theorem dX3_leave_1 : decode cX3_leave 1 = .ok (.invokestatic 39, 3) := by decide +kernel
theorem dX3_leave_4 : decode cX3_leave 4 = .ok (.ifCond .eq 15, 3) := by decide +kernel
theorem dX3_leave_7 : decode cX3_leave 7 = .ok (.aload_n 0, 1) := by decide +kernel
theorem dX3_leave_8 : decode cX3_leave 8 = .ok (.getfield 18, 3) := by decide +kernel
theorem dX3_leave_11 : decode cX3_leave 11 = .ok (.iload_n 1, 1) := by decide +kernel
theorem dX3_leave_12 : decode cX3_leave 12 = .ok (.aaload, 1) := by decide +kernel
theorem dX3_leave_13 : decode cX3_leave 13 = .ok (.getfield 43, 3) := by decide +kernel
theorem dX3_leave_16 : decode cX3_leave 16 = .ok (.ifCond .ne 5, 3) := by decide +kernel
theorem dX3_leave_19 : decode cX3_leave 19 = .ok (.iconst 0, 1) := by decide +kernel
theorem dX3_leave_20 : decode cX3_leave 20 = .ok (.ireturn, 1) := by decide +kernel
theorem dX3_leave_21 : decode cX3_leave 21 = .ok (.aload_n 0, 1) := by decide +kernel
theorem dX3_leave_22 : decode cX3_leave 22 = .ok (.getfield 18, 3) := by decide +kernel
theorem dX3_leave_25 : decode cX3_leave 25 = .ok (.iload_n 1, 1) := by decide +kernel
theorem dX3_leave_26 : decode cX3_leave 26 = .ok (.aaload, 1) := by decide +kernel
theorem dX3_leave_27 : decode cX3_leave 27 = .ok (.iconst 0, 1) := by decide +kernel
theorem dX3_leave_28 : decode cX3_leave 28 = .ok (.invokevirtual 47, 3) := by decide +kernel
theorem dX3_leave_31 : decode cX3_leave 31 = .ok (.iconst 1, 1) := by decide +kernel
theorem dX3_leave_32 : decode cX3_leave 32 = .ok (.ireturn, 1) := by decide +kernel
set_option maxRecDepth 20000 in
theorem ggX3_deliver_X2_has : GoodIn wsX3_deliver wsX2_has := goodIn_r _ [7, 8, 117, 118, 119, 120] (by decide +kernel) (by decide +kernel)
set_option maxRecDepth 20000 in
theorem gX3_deliver_X2_has : GoodIn wsX3_deliver (wsV RX3 51 RX2 yX2_has wsX2_has) := goodIn_app (goodIn_of _ (by decide +kernel)) ggX3_deliver_X2_has
set_option maxRecDepth 20000 in
theorem ggX3_deliver_X2_cell : GoodIn wsX3_deliver wsX2_cell := goodIn_r _ [12, 13, 14, 15, 4, 5, 6, 7, 8, 16, 17, 18, 19, 117, 118, 119, 120] (by decide +kernel) (by decide +kernel)
set_option maxRecDepth 20000 in
theorem gX3_deliver_X2_cell : GoodIn wsX3_deliver (wsV RX3 54 RX2 yX2_cell wsX2_cell) := goodIn_app (goodIn_of _ (by decide +kernel)) ggX3_deliver_X2_cell
set_option maxRecDepth 20000 in
theorem ggX3_deliver_X2_remove : GoodIn wsX3_deliver wsX2_remove := goodIn_r _ [23, 14, 13, 8, 24, 25, 26, 27, 15, 4, 5, 6, 7, 117, 118, 119, 120] (by decide +kernel) (by decide +kernel)
set_option maxRecDepth 20000 in
theorem gX3_deliver_X2_remove : GoodIn wsX3_deliver (wsV RX3 58 RX2 yX2_remove wsX2_remove) := goodIn_app (goodIn_of _ (by decide +kernel)) ggX3_deliver_X2_remove
set_option maxRecDepth 20000 in
theorem ggX3_deliver_X3_takeAsk : GoodIn wsX3_deliver wsX3_takeAsk := goodIn_r _ [32, 33, 34, 35, 36, 37, 38, 39, 31, 40, 1, 41, 42, 43, 6, 44, 8, 45, 46, 47, 48, 49, 13, 14, 15, 4, 5, 7, 16, 17, 18, 19, 113, 114, 115, 116, 121, 122, 123, 117, 118, 119, 120] (by decide +kernel) (by decide +kernel)
set_option maxRecDepth 20000 in
theorem gX3_deliver_X3_takeAsk : GoodIn wsX3_deliver (wsV RX3 64 RX3 yX3_takeAsk wsX3_takeAsk) := goodIn_app (goodIn_of _ (by decide +kernel)) ggX3_deliver_X3_takeAsk
set_option maxRecDepth 20000 in
theorem ggX3_deliver_X3_takeTell : GoodIn wsX3_deliver wsX3_takeTell := goodIn_r _ [53, 54, 55, 56, 57, 58, 59, 60, 61, 62, 63, 64, 65, 66, 67, 68, 69, 70, 71, 72, 73, 74, 75, 76, 77, 78, 79, 80, 81, 82, 31, 83, 84, 85, 86, 87, 88, 89, 90, 91, 92, 93, 94, 95, 96, 97, 98, 99, 37, 38, 39, 40, 1, 41, 42, 43, 6, 44, 8, 45, 46, 47, 48, 49, 13, 14, 15, 4, 5, 7, 16, 17, 18, 19, 113, 114, 115, 116, 124, 125, 126, 127, 128, 129, 130, 131, 117, 118, 119, 120] (by decide +kernel) (by decide +kernel)
set_option maxRecDepth 20000 in
theorem gX3_deliver_X3_takeTell : GoodIn wsX3_deliver (wsV RX3 68 RX3 yX3_takeTell wsX3_takeTell) := goodIn_app (goodIn_of _ (by decide +kernel)) ggX3_deliver_X3_takeTell
set_option maxRecDepth 20000 in
theorem ggX3_deliver_X3_takeStore : GoodIn wsX3_deliver wsX3_takeStore := goodIn_r _ [103, 33, 34, 35, 36, 37, 38, 39, 31, 40, 1, 41, 42, 43, 6, 44, 8, 45, 46, 47, 48, 49, 13, 14, 15, 4, 5, 7, 16, 17, 18, 19, 113, 114, 115, 116, 121, 122, 123, 117, 118, 119, 120] (by decide +kernel) (by decide +kernel)
set_option maxRecDepth 20000 in
theorem gX3_deliver_X3_takeStore : GoodIn wsX3_deliver (wsV RX3 72 RX3 yX3_takeStore wsX3_takeStore) := goodIn_app (goodIn_of _ (by decide +kernel)) ggX3_deliver_X3_takeStore
set_option maxRecDepth 20000 in
theorem ggX3_deliver_X3_takeStored : GoodIn wsX3_deliver wsX3_takeStored := goodIn_r _ [107, 54, 57, 58, 59, 60, 61, 62, 63, 64, 65, 66, 67, 68, 69, 70, 71, 72, 73, 74, 75, 76, 77, 78, 79, 108, 109, 110, 31, 111, 112, 99, 84, 56, 55, 41, 42, 43, 6, 44, 8, 45, 46, 47, 48, 49, 13, 14, 15, 4, 5, 7, 16, 17, 18, 19, 91, 92, 93, 94, 113, 114, 115, 116, 124, 125, 126, 127, 128, 129, 130, 131, 117, 118, 119, 120] (by decide +kernel) (by decide +kernel)
set_option maxRecDepth 20000 in
theorem gX3_deliver_X3_takeStored : GoodIn wsX3_deliver (wsV RX3 75 RX3 yX3_takeStored wsX3_takeStored) := goodIn_app (goodIn_of _ (by decide +kernel)) ggX3_deliver_X3_takeStored
theorem dX3_deliver_0 : decode cX3_deliver 0 = .ok (.aload_n 0, 1) := by decide +kernel
theorem dX3_deliver_1 : decode cX3_deliver 1 = .ok (.getfield 28, 3) := by decide +kernel
theorem dX3_deliver_4 : decode cX3_deliver 4 = .ok (.iload_n 1, 1) := by decide +kernel
theorem dX3_deliver_5 : decode cX3_deliver 5 = .ok (.invokevirtual 51, 3) := by decide +kernel
theorem dX3_deliver_8 : decode cX3_deliver 8 = .ok (.ifCond .ne 5, 3) := by decide +kernel
theorem dX3_deliver_11 : decode cX3_deliver 11 = .ok (.iconst (-1), 1) := by decide +kernel
theorem dX3_deliver_12 : decode cX3_deliver 12 = .ok (.ireturn, 1) := by decide +kernel
theorem dX3_deliver_13 : decode cX3_deliver 13 = .ok (.aload_n 0, 1) := by decide +kernel
theorem dX3_deliver_14 : decode cX3_deliver 14 = .ok (.getfield 28, 3) := by decide +kernel
theorem dX3_deliver_17 : decode cX3_deliver 17 = .ok (.iload_n 1, 1) := by decide +kernel
theorem dX3_deliver_18 : decode cX3_deliver 18 = .ok (.iconst 0, 1) := by decide +kernel
theorem dX3_deliver_19 : decode cX3_deliver 19 = .ok (.invokevirtual 54, 3) := by decide +kernel
theorem dX3_deliver_22 : decode cX3_deliver 22 = .ok (.istore_n 2, 1) := by decide +kernel
theorem dX3_deliver_23 : decode cX3_deliver 23 = .ok (.aload_n 0, 1) := by decide +kernel
theorem dX3_deliver_24 : decode cX3_deliver 24 = .ok (.getfield 28, 3) := by decide +kernel
theorem dX3_deliver_27 : decode cX3_deliver 27 = .ok (.iload_n 1, 1) := by decide +kernel
theorem dX3_deliver_28 : decode cX3_deliver 28 = .ok (.iconst 1, 1) := by decide +kernel
theorem dX3_deliver_29 : decode cX3_deliver 29 = .ok (.invokevirtual 54, 3) := by decide +kernel
theorem dX3_deliver_32 : decode cX3_deliver 32 = .ok (.istore_n 3, 1) := by decide +kernel
theorem dX3_deliver_33 : decode cX3_deliver 33 = .ok (.aload_n 0, 1) := by decide +kernel
theorem dX3_deliver_34 : decode cX3_deliver 34 = .ok (.getfield 28, 3) := by decide +kernel
theorem dX3_deliver_37 : decode cX3_deliver 37 = .ok (.iload_n 1, 1) := by decide +kernel
theorem dX3_deliver_38 : decode cX3_deliver 38 = .ok (.iconst 2, 1) := by decide +kernel
theorem dX3_deliver_39 : decode cX3_deliver 39 = .ok (.invokevirtual 54, 3) := by decide +kernel
theorem dX3_deliver_42 : decode cX3_deliver 42 = .ok (.istore 4, 2) := by decide +kernel
theorem dX3_deliver_44 : decode cX3_deliver 44 = .ok (.aload_n 0, 1) := by decide +kernel
theorem dX3_deliver_45 : decode cX3_deliver 45 = .ok (.getfield 28, 3) := by decide +kernel
theorem dX3_deliver_48 : decode cX3_deliver 48 = .ok (.iload_n 1, 1) := by decide +kernel
theorem dX3_deliver_49 : decode cX3_deliver 49 = .ok (.iconst 3, 1) := by decide +kernel
theorem dX3_deliver_50 : decode cX3_deliver 50 = .ok (.invokevirtual 54, 3) := by decide +kernel
theorem dX3_deliver_53 : decode cX3_deliver 53 = .ok (.istore 5, 2) := by decide +kernel
theorem dX3_deliver_55 : decode cX3_deliver 55 = .ok (.aload_n 0, 1) := by decide +kernel
theorem dX3_deliver_56 : decode cX3_deliver 56 = .ok (.getfield 28, 3) := by decide +kernel
theorem dX3_deliver_59 : decode cX3_deliver 59 = .ok (.iload_n 1, 1) := by decide +kernel
theorem dX3_deliver_60 : decode cX3_deliver 60 = .ok (.iconst 4, 1) := by decide +kernel
theorem dX3_deliver_61 : decode cX3_deliver 61 = .ok (.invokevirtual 54, 3) := by decide +kernel
theorem dX3_deliver_64 : decode cX3_deliver 64 = .ok (.istore 6, 2) := by decide +kernel
theorem dX3_deliver_66 : decode cX3_deliver 66 = .ok (.aload_n 0, 1) := by decide +kernel
theorem dX3_deliver_67 : decode cX3_deliver 67 = .ok (.getfield 28, 3) := by decide +kernel
theorem dX3_deliver_70 : decode cX3_deliver 70 = .ok (.iload_n 1, 1) := by decide +kernel
theorem dX3_deliver_71 : decode cX3_deliver 71 = .ok (.iconst 5, 1) := by decide +kernel
theorem dX3_deliver_72 : decode cX3_deliver 72 = .ok (.invokevirtual 54, 3) := by decide +kernel
theorem dX3_deliver_75 : decode cX3_deliver 75 = .ok (.istore 7, 2) := by decide +kernel
theorem dX3_deliver_77 : decode cX3_deliver 77 = .ok (.aload_n 0, 1) := by decide +kernel
theorem dX3_deliver_78 : decode cX3_deliver 78 = .ok (.getfield 28, 3) := by decide +kernel
theorem dX3_deliver_81 : decode cX3_deliver 81 = .ok (.iload_n 1, 1) := by decide +kernel
theorem dX3_deliver_82 : decode cX3_deliver 82 = .ok (.invokevirtual 58, 3) := by decide +kernel
theorem dX3_deliver_85 : decode cX3_deliver 85 = .ok (.aload_n 0, 1) := by decide +kernel
theorem dX3_deliver_86 : decode cX3_deliver 86 = .ok (.getfield 28, 3) := by decide +kernel
theorem dX3_deliver_89 : decode cX3_deliver 89 = .ok (.getfield 61, 3) := by decide +kernel
theorem dX3_deliver_92 : decode cX3_deliver 92 = .ok (.istore 8, 2) := by decide +kernel
theorem dX3_deliver_94 : decode cX3_deliver 94 = .ok (.iload_n 2, 1) := by decide +kernel
theorem dX3_deliver_95 : decode cX3_deliver 95 = .ok (.tableswitch 69 0 2 #[25, 37, 53], 25) := by decide +kernel
theorem dX3_deliver_120 : decode cX3_deliver 120 = .ok (.aload_n 0, 1) := by decide +kernel
theorem dX3_deliver_121 : decode cX3_deliver 121 = .ok (.iload_n 3, 1) := by decide +kernel
theorem dX3_deliver_122 : decode cX3_deliver 122 = .ok (.iload 4, 2) := by decide +kernel
theorem dX3_deliver_124 : decode cX3_deliver 124 = .ok (.iload 5, 2) := by decide +kernel
theorem dX3_deliver_126 : decode cX3_deliver 126 = .ok (.invokevirtual 64, 3) := by decide +kernel
theorem dX3_deliver_129 : decode cX3_deliver 129 = .ok (.goto 44, 3) := by decide +kernel
theorem dX3_deliver_132 : decode cX3_deliver 132 = .ok (.aload_n 0, 1) := by decide +kernel
theorem dX3_deliver_133 : decode cX3_deliver 133 = .ok (.iload_n 3, 1) := by decide +kernel
theorem dX3_deliver_134 : decode cX3_deliver 134 = .ok (.iload 4, 2) := by decide +kernel
theorem dX3_deliver_136 : decode cX3_deliver 136 = .ok (.iload 5, 2) := by decide +kernel
theorem dX3_deliver_138 : decode cX3_deliver 138 = .ok (.iload 6, 2) := by decide +kernel
theorem dX3_deliver_140 : decode cX3_deliver 140 = .ok (.iload 7, 2) := by decide +kernel
theorem dX3_deliver_142 : decode cX3_deliver 142 = .ok (.invokevirtual 68, 3) := by decide +kernel
theorem dX3_deliver_145 : decode cX3_deliver 145 = .ok (.goto 28, 3) := by decide +kernel
theorem dX3_deliver_148 : decode cX3_deliver 148 = .ok (.aload_n 0, 1) := by decide +kernel
theorem dX3_deliver_149 : decode cX3_deliver 149 = .ok (.iload_n 3, 1) := by decide +kernel
theorem dX3_deliver_150 : decode cX3_deliver 150 = .ok (.iload 4, 2) := by decide +kernel
theorem dX3_deliver_152 : decode cX3_deliver 152 = .ok (.iload 5, 2) := by decide +kernel
theorem dX3_deliver_154 : decode cX3_deliver 154 = .ok (.iload 6, 2) := by decide +kernel
theorem dX3_deliver_156 : decode cX3_deliver 156 = .ok (.iload 7, 2) := by decide +kernel
theorem dX3_deliver_158 : decode cX3_deliver 158 = .ok (.invokevirtual 72, 3) := by decide +kernel
theorem dX3_deliver_161 : decode cX3_deliver 161 = .ok (.goto 12, 3) := by decide +kernel
theorem dX3_deliver_164 : decode cX3_deliver 164 = .ok (.aload_n 0, 1) := by decide +kernel
theorem dX3_deliver_165 : decode cX3_deliver 165 = .ok (.iload_n 3, 1) := by decide +kernel
theorem dX3_deliver_166 : decode cX3_deliver 166 = .ok (.iload 4, 2) := by decide +kernel
theorem dX3_deliver_168 : decode cX3_deliver 168 = .ok (.iload 5, 2) := by decide +kernel
theorem dX3_deliver_170 : decode cX3_deliver 170 = .ok (.invokevirtual 75, 3) := by decide +kernel
theorem dX3_deliver_173 : decode cX3_deliver 173 = .ok (.aload_n 0, 1) := by decide +kernel
theorem dX3_deliver_174 : decode cX3_deliver 174 = .ok (.getfield 28, 3) := by decide +kernel
theorem dX3_deliver_177 : decode cX3_deliver 177 = .ok (.getfield 61, 3) := by decide +kernel
theorem dX3_deliver_180 : decode cX3_deliver 180 = .ok (.iload 8, 2) := by decide +kernel
theorem dX3_deliver_182 : decode cX3_deliver 182 = .ok (.isub, 1) := by decide +kernel
theorem dX3_deliver_183 : decode cX3_deliver 183 = .ok (.ireturn, 1) := by decide +kernel
set_option maxRecDepth 20000 in
theorem ggX3_lose_X2_has : GoodIn wsX3_lose wsX2_has := goodIn_r _ [6, 7, 23, 24, 25, 26] (by decide +kernel) (by decide +kernel)
set_option maxRecDepth 20000 in
theorem gX3_lose_X2_has : GoodIn wsX3_lose (wsV RX3 51 RX2 yX2_has wsX2_has) := goodIn_app (goodIn_of _ (by decide +kernel)) ggX3_lose_X2_has
set_option maxRecDepth 20000 in
theorem ggX3_lose_X2_remove : GoodIn wsX3_lose wsX2_remove := goodIn_r _ [11, 12, 13, 7, 14, 15, 16, 17, 18, 3, 4, 5, 6, 23, 24, 25, 26] (by decide +kernel) (by decide +kernel)
set_option maxRecDepth 20000 in
theorem gX3_lose_X2_remove : GoodIn wsX3_lose (wsV RX3 58 RX2 yX2_remove wsX2_remove) := goodIn_app (goodIn_of _ (by decide +kernel)) ggX3_lose_X2_remove
theorem dX3_lose_0 : decode cX3_lose 0 = .ok (.aload_n 0, 1) := by decide +kernel
theorem dX3_lose_1 : decode cX3_lose 1 = .ok (.getfield 28, 3) := by decide +kernel
theorem dX3_lose_4 : decode cX3_lose 4 = .ok (.iload_n 1, 1) := by decide +kernel
theorem dX3_lose_5 : decode cX3_lose 5 = .ok (.invokevirtual 51, 3) := by decide +kernel
theorem dX3_lose_8 : decode cX3_lose 8 = .ok (.ifCond .ne 5, 3) := by decide +kernel
theorem dX3_lose_11 : decode cX3_lose 11 = .ok (.iconst 0, 1) := by decide +kernel
theorem dX3_lose_12 : decode cX3_lose 12 = .ok (.ireturn, 1) := by decide +kernel
theorem dX3_lose_13 : decode cX3_lose 13 = .ok (.aload_n 0, 1) := by decide +kernel
theorem dX3_lose_14 : decode cX3_lose 14 = .ok (.getfield 28, 3) := by decide +kernel
theorem dX3_lose_17 : decode cX3_lose 17 = .ok (.iload_n 1, 1) := by decide +kernel
theorem dX3_lose_18 : decode cX3_lose 18 = .ok (.invokevirtual 58, 3) := by decide +kernel
theorem dX3_lose_21 : decode cX3_lose 21 = .ok (.iconst 1, 1) := by decide +kernel
theorem dX3_lose_22 : decode cX3_lose 22 = .ok (.ireturn, 1) := by decide +kernel
set_option maxRecDepth 20000 in
theorem ggX3_repeat_X2_has : GoodIn wsX3_repeat wsX2_has := goodIn_r _ [6, 7, 34, 35, 36, 37] (by decide +kernel) (by decide +kernel)
set_option maxRecDepth 20000 in
theorem gX3_repeat_X2_has : GoodIn wsX3_repeat (wsV RX3 51 RX2 yX2_has wsX2_has) := goodIn_app (goodIn_of _ (by decide +kernel)) ggX3_repeat_X2_has
set_option maxRecDepth 20000 in
theorem ggX3_repeat_X3_isCrowded : GoodIn wsX3_repeat wsX3_isCrowded := goodIn_r _ [12, 1, 13, 30, 31, 32, 33, 34, 35, 36, 37] (by decide +kernel) (by decide +kernel)
set_option maxRecDepth 20000 in
theorem gX3_repeat_X3_isCrowded : GoodIn wsX3_repeat (wsV RX3 78 RX3 yX3_isCrowded wsX3_isCrowded) := goodIn_app (goodIn_of _ (by decide +kernel)) ggX3_repeat_X3_isCrowded
set_option maxRecDepth 20000 in
theorem ggX3_repeat_X2_addCopy : GoodIn wsX3_repeat wsX2_addCopy := goodIn_r _ [17, 18, 19, 20, 21, 22, 23, 24, 3, 4, 5, 6, 7, 25, 26, 27, 28, 29, 34, 35, 36, 37] (by decide +kernel) (by decide +kernel)
set_option maxRecDepth 20000 in
theorem gX3_repeat_X2_addCopy : GoodIn wsX3_repeat (wsV RX3 82 RX2 yX2_addCopy wsX2_addCopy) := goodIn_app (goodIn_of _ (by decide +kernel)) ggX3_repeat_X2_addCopy
theorem dX3_repeat_0 : decode cX3_repeat 0 = .ok (.aload_n 0, 1) := by decide +kernel
theorem dX3_repeat_1 : decode cX3_repeat 1 = .ok (.getfield 28, 3) := by decide +kernel
theorem dX3_repeat_4 : decode cX3_repeat 4 = .ok (.iload_n 1, 1) := by decide +kernel
theorem dX3_repeat_5 : decode cX3_repeat 5 = .ok (.invokevirtual 51, 3) := by decide +kernel
theorem dX3_repeat_8 : decode cX3_repeat 8 = .ok (.ifCond .eq 10, 3) := by decide +kernel
theorem dX3_repeat_11 : decode cX3_repeat 11 = .ok (.aload_n 0, 1) := by decide +kernel
theorem dX3_repeat_12 : decode cX3_repeat 12 = .ok (.invokevirtual 78, 3) := by decide +kernel
theorem dX3_repeat_15 : decode cX3_repeat 15 = .ok (.ifCond .eq 5, 3) := by decide +kernel
theorem dX3_repeat_18 : decode cX3_repeat 18 = .ok (.iconst 0, 1) := by decide +kernel
theorem dX3_repeat_19 : decode cX3_repeat 19 = .ok (.ireturn, 1) := by decide +kernel
theorem dX3_repeat_20 : decode cX3_repeat 20 = .ok (.aload_n 0, 1) := by decide +kernel
theorem dX3_repeat_21 : decode cX3_repeat 21 = .ok (.getfield 28, 3) := by decide +kernel
theorem dX3_repeat_24 : decode cX3_repeat 24 = .ok (.iload_n 1, 1) := by decide +kernel
theorem dX3_repeat_25 : decode cX3_repeat 25 = .ok (.invokevirtual 82, 3) := by decide +kernel
theorem dX3_repeat_28 : decode cX3_repeat 28 = .ok (.iconst 1, 1) := by decide +kernel
theorem dX3_repeat_29 : decode cX3_repeat 29 = .ok (.ireturn, 1) := by decide +kernel
set_option maxRecDepth 20000 in
theorem ggX3_fail_X3_isReplica : GoodIn wsX3_fail wsX3_isReplica := goodIn_r _ [6] (by decide +kernel) (by decide +kernel)
set_option maxRecDepth 20000 in
theorem gX3_fail_X3_isReplica : GoodIn wsX3_fail (va_wsS RX3 85 yX3_isReplica wsX3_isReplica) := goodIn_app (goodIn_of _ (by decide +kernel)) ggX3_fail_X3_isReplica
set_option maxRecDepth 20000 in
theorem ggX3_fail_X3_countFailed : GoodIn wsX3_fail wsX3_countFailed := goodIn_r _ [10, 1, 2, 11, 12, 13, 14, 15, 16, 17] (by decide +kernel) (by decide +kernel)
set_option maxRecDepth 20000 in
theorem gX3_fail_X3_countFailed : GoodIn wsX3_fail (wsV RX3 92 RX3 yX3_countFailed wsX3_countFailed) := goodIn_app (goodIn_of _ (by decide +kernel)) ggX3_fail_X3_countFailed
theorem dX3_fail_0 : decode cX3_fail 0 = .ok (.iload_n 1, 1) := by decide +kernel
theorem dX3_fail_1 : decode cX3_fail 1 = .ok (.invokestatic 85, 3) := by decide +kernel
theorem dX3_fail_4 : decode cX3_fail 4 = .ok (.ifCond .eq 23, 3) := by decide +kernel
theorem dX3_fail_7 : decode cX3_fail 7 = .ok (.aload_n 0, 1) := by decide +kernel
theorem dX3_fail_8 : decode cX3_fail 8 = .ok (.getfield 11, 3) := by decide +kernel
theorem dX3_fail_11 : decode cX3_fail 11 = .ok (.iload_n 1, 1) := by decide +kernel
theorem dX3_fail_12 : decode cX3_fail 12 = .ok (.aaload, 1) := by decide +kernel
theorem dX3_fail_13 : decode cX3_fail 13 = .ok (.getfield 88, 3) := by decide +kernel
theorem dX3_fail_16 : decode cX3_fail 16 = .ok (.ifCond .ne 11, 3) := by decide +kernel
theorem dX3_fail_19 : decode cX3_fail 19 = .ok (.aload_n 0, 1) := by decide +kernel
theorem dX3_fail_20 : decode cX3_fail 20 = .ok (.invokevirtual 92, 3) := by decide +kernel
theorem dX3_fail_23 : decode cX3_fail 23 = .ok (.iconst 2, 1) := by decide +kernel
theorem dX3_fail_24 : decode cX3_fail 24 = .ok (.if_icmp .lt 5, 3) := by decide +kernel
theorem dX3_fail_27 : decode cX3_fail 27 = .ok (.iconst 0, 1) := by decide +kernel
theorem dX3_fail_28 : decode cX3_fail 28 = .ok (.ireturn, 1) := by decide +kernel
theorem dX3_fail_29 : decode cX3_fail 29 = .ok (.aload_n 0, 1) := by decide +kernel
theorem dX3_fail_30 : decode cX3_fail 30 = .ok (.getfield 11, 3) := by decide +kernel
theorem dX3_fail_33 : decode cX3_fail 33 = .ok (.iload_n 1, 1) := by decide +kernel
theorem dX3_fail_34 : decode cX3_fail 34 = .ok (.aaload, 1) := by decide +kernel
theorem dX3_fail_35 : decode cX3_fail 35 = .ok (.iconst 1, 1) := by decide +kernel
theorem dX3_fail_36 : decode cX3_fail 36 = .ok (.putfield 88, 3) := by decide +kernel
theorem dX3_fail_39 : decode cX3_fail 39 = .ok (.iconst 1, 1) := by decide +kernel
theorem dX3_fail_40 : decode cX3_fail 40 = .ok (.ireturn, 1) := by decide +kernel
theorem dX3_messages_0 : decode cX3_messages 0 = .ok (.aload_n 0, 1) := by decide +kernel
theorem dX3_messages_1 : decode cX3_messages 1 = .ok (.getfield 28, 3) := by decide +kernel
theorem dX3_messages_4 : decode cX3_messages 4 = .ok (.getfield 61, 3) := by decide +kernel
theorem dX3_messages_7 : decode cX3_messages 7 = .ok (.ireturn, 1) := by decide +kernel
set_option maxRecDepth 20000 in
theorem ggX3_message_X2_cell : GoodIn wsX3_message wsX2_cell := goodIn_r _ [6, 7, 8, 9, 10, 11, 5, 12, 13, 14, 15, 16, 17, 22, 23, 24, 25] (by decide +kernel) (by decide +kernel)
set_option maxRecDepth 20000 in
theorem gX3_message_X2_cell : GoodIn wsX3_message (wsV RX3 54 RX2 yX2_cell wsX2_cell) := goodIn_app (goodIn_of _ (by decide +kernel)) ggX3_message_X2_cell
theorem dX3_message_0 : decode cX3_message 0 = .ok (.aload_n 0, 1) := by decide +kernel
theorem dX3_message_1 : decode cX3_message 1 = .ok (.getfield 28, 3) := by decide +kernel
theorem dX3_message_4 : decode cX3_message 4 = .ok (.iload_n 1, 1) := by decide +kernel
theorem dX3_message_5 : decode cX3_message 5 = .ok (.iload_n 2, 1) := by decide +kernel
theorem dX3_message_6 : decode cX3_message 6 = .ok (.invokevirtual 54, 3) := by decide +kernel
theorem dX3_message_9 : decode cX3_message 9 = .ok (.ireturn, 1) := by decide +kernel
set_option maxRecDepth 20000 in
theorem ggX3_tag_X3_isReplica : GoodIn wsX3_tag wsX3_isReplica := goodIn_r _ [6] (by decide +kernel) (by decide +kernel)
set_option maxRecDepth 20000 in
theorem gX3_tag_X3_isReplica : GoodIn wsX3_tag (va_wsS RX3 85 yX3_isReplica wsX3_isReplica) := goodIn_app (goodIn_of _ (by decide +kernel)) ggX3_tag_X3_isReplica
theorem dX3_tag_0 : decode cX3_tag 0 = .ok (.iload_n 1, 1) := by decide +kernel
theorem dX3_tag_1 : decode cX3_tag 1 = .ok (.invokestatic 85, 3) := by decide +kernel
theorem dX3_tag_4 : decode cX3_tag 4 = .ok (.ifCond .eq 15, 3) := by decide +kernel
theorem dX3_tag_7 : decode cX3_tag 7 = .ok (.aload_n 0, 1) := by decide +kernel
theorem dX3_tag_8 : decode cX3_tag 8 = .ok (.getfield 11, 3) := by decide +kernel
theorem dX3_tag_11 : decode cX3_tag 11 = .ok (.iload_n 1, 1) := by decide +kernel
theorem dX3_tag_12 : decode cX3_tag 12 = .ok (.aaload, 1) := by decide +kernel
theorem dX3_tag_13 : decode cX3_tag 13 = .ok (.getfield 96, 3) := by decide +kernel
theorem dX3_tag_16 : decode cX3_tag 16 = .ok (.goto 4, 3) := by decide +kernel
theorem dX3_tag_19 : decode cX3_tag 19 = .ok (.iconst (-1), 1) := by decide +kernel
theorem dX3_tag_20 : decode cX3_tag 20 = .ok (.ireturn, 1) := by decide +kernel
set_option maxRecDepth 20000 in
theorem ggX3_value_X3_isReplica : GoodIn wsX3_value wsX3_isReplica := goodIn_r _ [6] (by decide +kernel) (by decide +kernel)
set_option maxRecDepth 20000 in
theorem gX3_value_X3_isReplica : GoodIn wsX3_value (va_wsS RX3 85 yX3_isReplica wsX3_isReplica) := goodIn_app (goodIn_of _ (by decide +kernel)) ggX3_value_X3_isReplica
theorem dX3_value_0 : decode cX3_value 0 = .ok (.iload_n 1, 1) := by decide +kernel
theorem dX3_value_1 : decode cX3_value 1 = .ok (.invokestatic 85, 3) := by decide +kernel
theorem dX3_value_4 : decode cX3_value 4 = .ok (.ifCond .eq 15, 3) := by decide +kernel
theorem dX3_value_7 : decode cX3_value 7 = .ok (.aload_n 0, 1) := by decide +kernel
theorem dX3_value_8 : decode cX3_value 8 = .ok (.getfield 11, 3) := by decide +kernel
theorem dX3_value_11 : decode cX3_value 11 = .ok (.iload_n 1, 1) := by decide +kernel
theorem dX3_value_12 : decode cX3_value 12 = .ok (.aaload, 1) := by decide +kernel
theorem dX3_value_13 : decode cX3_value 13 = .ok (.getfield 99, 3) := by decide +kernel
theorem dX3_value_16 : decode cX3_value 16 = .ok (.goto 4, 3) := by decide +kernel
theorem dX3_value_19 : decode cX3_value 19 = .ok (.iconst 0, 1) := by decide +kernel
theorem dX3_value_20 : decode cX3_value 20 = .ok (.ireturn, 1) := by decide +kernel
set_option maxRecDepth 20000 in
theorem ggX3_failed_X3_isReplica : GoodIn wsX3_failed wsX3_isReplica := goodIn_r _ [6] (by decide +kernel) (by decide +kernel)
set_option maxRecDepth 20000 in
theorem gX3_failed_X3_isReplica : GoodIn wsX3_failed (va_wsS RX3 85 yX3_isReplica wsX3_isReplica) := goodIn_app (goodIn_of _ (by decide +kernel)) ggX3_failed_X3_isReplica
theorem dX3_failed_0 : decode cX3_failed 0 = .ok (.iload_n 1, 1) := by decide +kernel
theorem dX3_failed_1 : decode cX3_failed 1 = .ok (.invokestatic 85, 3) := by decide +kernel
theorem dX3_failed_4 : decode cX3_failed 4 = .ok (.ifCond .eq 19, 3) := by decide +kernel
theorem dX3_failed_7 : decode cX3_failed 7 = .ok (.aload_n 0, 1) := by decide +kernel
theorem dX3_failed_8 : decode cX3_failed 8 = .ok (.getfield 11, 3) := by decide +kernel
theorem dX3_failed_11 : decode cX3_failed 11 = .ok (.iload_n 1, 1) := by decide +kernel
theorem dX3_failed_12 : decode cX3_failed 12 = .ok (.aaload, 1) := by decide +kernel
theorem dX3_failed_13 : decode cX3_failed 13 = .ok (.getfield 88, 3) := by decide +kernel
theorem dX3_failed_16 : decode cX3_failed 16 = .ok (.ifCond .eq 7, 3) := by decide +kernel
theorem dX3_failed_19 : decode cX3_failed 19 = .ok (.iconst 1, 1) := by decide +kernel
theorem dX3_failed_20 : decode cX3_failed 20 = .ok (.goto 4, 3) := by decide +kernel
theorem dX3_failed_23 : decode cX3_failed 23 = .ok (.iconst 0, 1) := by decide +kernel
theorem dX3_failed_24 : decode cX3_failed 24 = .ok (.ireturn, 1) := by decide +kernel
set_option maxRecDepth 20000 in
theorem ggX3_phase_X3_isClient : GoodIn wsX3_phase wsX3_isClient := goodIn_r _ [6] (by decide +kernel) (by decide +kernel)
set_option maxRecDepth 20000 in
theorem gX3_phase_X3_isClient : GoodIn wsX3_phase (va_wsS RX3 39 yX3_isClient wsX3_isClient) := goodIn_app (goodIn_of _ (by decide +kernel)) ggX3_phase_X3_isClient
theorem dX3_phase_0 : decode cX3_phase 0 = .ok (.iload_n 1, 1) := by decide +kernel
theorem dX3_phase_1 : decode cX3_phase 1 = .ok (.invokestatic 39, 3) := by decide +kernel
theorem dX3_phase_4 : decode cX3_phase 4 = .ok (.ifCond .eq 15, 3) := by decide +kernel
theorem dX3_phase_7 : decode cX3_phase 7 = .ok (.aload_n 0, 1) := by decide +kernel
theorem dX3_phase_8 : decode cX3_phase 8 = .ok (.getfield 18, 3) := by decide +kernel
theorem dX3_phase_11 : decode cX3_phase 11 = .ok (.iload_n 1, 1) := by decide +kernel
theorem dX3_phase_12 : decode cX3_phase 12 = .ok (.aaload, 1) := by decide +kernel
theorem dX3_phase_13 : decode cX3_phase 13 = .ok (.getfield 43, 3) := by decide +kernel
theorem dX3_phase_16 : decode cX3_phase 16 = .ok (.goto 4, 3) := by decide +kernel
theorem dX3_phase_19 : decode cX3_phase 19 = .ok (.iconst (-1), 1) := by decide +kernel
theorem dX3_phase_20 : decode cX3_phase 20 = .ok (.ireturn, 1) := by decide +kernel
set_option maxRecDepth 20000 in
theorem ggX3_answered_X3_isClient : GoodIn wsX3_answered wsX3_isClient := goodIn_r _ [6] (by decide +kernel) (by decide +kernel)
set_option maxRecDepth 20000 in
theorem gX3_answered_X3_isClient : GoodIn wsX3_answered (va_wsS RX3 39 yX3_isClient wsX3_isClient) := goodIn_app (goodIn_of _ (by decide +kernel)) ggX3_answered_X3_isClient
theorem dX3_answered_0 : decode cX3_answered 0 = .ok (.iload_n 1, 1) := by decide +kernel
theorem dX3_answered_1 : decode cX3_answered 1 = .ok (.invokestatic 39, 3) := by decide +kernel
theorem dX3_answered_4 : decode cX3_answered 4 = .ok (.ifCond .eq 15, 3) := by decide +kernel
theorem dX3_answered_7 : decode cX3_answered 7 = .ok (.aload_n 0, 1) := by decide +kernel
theorem dX3_answered_8 : decode cX3_answered 8 = .ok (.getfield 18, 3) := by decide +kernel
theorem dX3_answered_11 : decode cX3_answered 11 = .ok (.iload_n 1, 1) := by decide +kernel
theorem dX3_answered_12 : decode cX3_answered 12 = .ok (.aaload, 1) := by decide +kernel
theorem dX3_answered_13 : decode cX3_answered 13 = .ok (.getfield 102, 3) := by decide +kernel
theorem dX3_answered_16 : decode cX3_answered 16 = .ok (.goto 4, 3) := by decide +kernel
theorem dX3_answered_19 : decode cX3_answered 19 = .ok (.iconst (-1), 1) := by decide +kernel
theorem dX3_answered_20 : decode cX3_answered 20 = .ok (.ireturn, 1) := by decide +kernel
theorem dX3_finished_0 : decode cX3_finished 0 = .ok (.aload_n 0, 1) := by decide +kernel
theorem dX3_finished_1 : decode cX3_finished 1 = .ok (.getfield 32, 3) := by decide +kernel
theorem dX3_finished_4 : decode cX3_finished 4 = .ok (.getfield 61, 3) := by decide +kernel
theorem dX3_finished_7 : decode cX3_finished 7 = .ok (.ireturn, 1) := by decide +kernel
set_option maxRecDepth 20000 in
theorem ggX3_operation_X2_cell : GoodIn wsX3_operation wsX2_cell := goodIn_r _ [6, 7, 8, 9, 10, 11, 5, 12, 13, 14, 15, 16, 17, 22, 23, 24, 25] (by decide +kernel) (by decide +kernel)
end
section
set_option maxRecDepth 20000 in
theorem gX3_operation_X2_cell : GoodIn wsX3_operation (wsV RX3 54 RX2 yX2_cell wsX2_cell) := goodIn_app (goodIn_of _ (by decide +kernel)) ggX3_operation_X2_cell
theorem dX3_operation_0 : decode cX3_operation 0 = .ok (.aload_n 0, 1) := by decide +kernel
theorem dX3_operation_1 : decode cX3_operation 1 = .ok (.getfield 32, 3) := by decide +kernel
theorem dX3_operation_4 : decode cX3_operation 4 = .ok (.iload_n 1, 1) := by decide +kernel
theorem dX3_operation_5 : decode cX3_operation 5 = .ok (.iload_n 2, 1) := by decide +kernel
theorem dX3_operation_6 : decode cX3_operation 6 = .ok (.invokevirtual 54, 3) := by decide +kernel
theorem dX3_operation_9 : decode cX3_operation 9 = .ok (.ireturn, 1) := by decide +kernel
theorem dX3_isClient_0 : decode cX3_isClient 0 = .ok (.iload_n 0, 1) := by decide +kernel
theorem dX3_isClient_1 : decode cX3_isClient 1 = .ok (.ifCond .lt 12, 3) := by decide +kernel
theorem dX3_isClient_4 : decode cX3_isClient 4 = .ok (.iload_n 0, 1) := by decide +kernel
theorem dX3_isClient_5 : decode cX3_isClient 5 = .ok (.iconst 3, 1) := by decide +kernel
theorem dX3_isClient_6 : decode cX3_isClient 6 = .ok (.if_icmp .ge 7, 3) := by decide +kernel
theorem dX3_isClient_9 : decode cX3_isClient 9 = .ok (.iconst 1, 1) := by decide +kernel
theorem dX3_isClient_10 : decode cX3_isClient 10 = .ok (.goto 4, 3) := by decide +kernel
theorem dX3_isClient_13 : decode cX3_isClient 13 = .ok (.iconst 0, 1) := by decide +kernel
theorem dX3_isClient_14 : decode cX3_isClient 14 = .ok (.ireturn, 1) := by decide +kernel
theorem dX3_isReplica_0 : decode cX3_isReplica 0 = .ok (.iload_n 0, 1) := by decide +kernel
theorem dX3_isReplica_1 : decode cX3_isReplica 1 = .ok (.ifCond .lt 12, 3) := by decide +kernel
theorem dX3_isReplica_4 : decode cX3_isReplica 4 = .ok (.iload_n 0, 1) := by decide +kernel
theorem dX3_isReplica_5 : decode cX3_isReplica 5 = .ok (.iconst 5, 1) := by decide +kernel
theorem dX3_isReplica_6 : decode cX3_isReplica 6 = .ok (.if_icmp .ge 7, 3) := by decide +kernel
theorem dX3_isReplica_9 : decode cX3_isReplica 9 = .ok (.iconst 1, 1) := by decide +kernel
theorem dX3_isReplica_10 : decode cX3_isReplica 10 = .ok (.goto 4, 3) := by decide +kernel
theorem dX3_isReplica_13 : decode cX3_isReplica 13 = .ok (.iconst 0, 1) := by decide +kernel
theorem dX3_isReplica_14 : decode cX3_isReplica 14 = .ok (.ireturn, 1) := by decide +kernel
theorem dX3_isCrowded_0 : decode cX3_isCrowded 0 = .ok (.aload_n 0, 1) := by decide +kernel
theorem dX3_isCrowded_1 : decode cX3_isCrowded 1 = .ok (.getfield 28, 3) := by decide +kernel
theorem dX3_isCrowded_4 : decode cX3_isCrowded 4 = .ok (.getfield 61, 3) := by decide +kernel
theorem dX3_isCrowded_7 : decode cX3_isCrowded 7 = .ok (.bipush 60, 2) := by decide +kernel
theorem dX3_isCrowded_9 : decode cX3_isCrowded 9 = .ok (.if_icmp .le 7, 3) := by decide +kernel
theorem dX3_isCrowded_12 : decode cX3_isCrowded 12 = .ok (.iconst 1, 1) := by decide +kernel
theorem dX3_isCrowded_13 : decode cX3_isCrowded 13 = .ok (.goto 4, 3) := by decide +kernel
theorem dX3_isCrowded_16 : decode cX3_isCrowded 16 = .ok (.iconst 0, 1) := by decide +kernel
theorem dX3_isCrowded_17 : decode cX3_isCrowded 17 = .ok (.ireturn, 1) := by decide +kernel
theorem dX3_countFailed_0 : decode cX3_countFailed 0 = .ok (.iconst 0, 1) := by decide +kernel
theorem dX3_countFailed_1 : decode cX3_countFailed 1 = .ok (.istore_n 1, 1) := by decide +kernel
theorem dX3_countFailed_2 : decode cX3_countFailed 2 = .ok (.iconst 0, 1) := by decide +kernel
theorem dX3_countFailed_3 : decode cX3_countFailed 3 = .ok (.istore_n 2, 1) := by decide +kernel
theorem dX3_countFailed_4 : decode cX3_countFailed 4 = .ok (.iload_n 2, 1) := by decide +kernel
theorem dX3_countFailed_5 : decode cX3_countFailed 5 = .ok (.iconst 5, 1) := by decide +kernel
theorem dX3_countFailed_6 : decode cX3_countFailed 6 = .ok (.if_icmp .ge 24, 3) := by decide +kernel
theorem dX3_countFailed_9 : decode cX3_countFailed 9 = .ok (.aload_n 0, 1) := by decide +kernel
theorem dX3_countFailed_10 : decode cX3_countFailed 10 = .ok (.getfield 11, 3) := by decide +kernel
theorem dX3_countFailed_13 : decode cX3_countFailed 13 = .ok (.iload_n 2, 1) := by decide +kernel
theorem dX3_countFailed_14 : decode cX3_countFailed 14 = .ok (.aaload, 1) := by decide +kernel
theorem dX3_countFailed_15 : decode cX3_countFailed 15 = .ok (.getfield 88, 3) := by decide +kernel
theorem dX3_countFailed_18 : decode cX3_countFailed 18 = .ok (.ifCond .eq 6, 3) := by decide +kernel
theorem dX3_countFailed_21 : decode cX3_countFailed 21 = .ok (.iinc 1 1, 3) := by decide +kernel
theorem dX3_countFailed_24 : decode cX3_countFailed 24 = .ok (.iinc 2 1, 3) := by decide +kernel
theorem dX3_countFailed_27 : decode cX3_countFailed 27 = .ok (.goto (-23), 3) := by decide +kernel
theorem dX3_countFailed_30 : decode cX3_countFailed 30 = .ok (.iload_n 1, 1) := by decide +kernel
theorem dX3_countFailed_31 : decode cX3_countFailed 31 = .ok (.ireturn, 1) := by decide +kernel
set_option maxRecDepth 20000 in
theorem ggX3_begin_X3_isClient : GoodIn wsX3_begin wsX3_isClient := goodIn_r _ [11] (by decide +kernel) (by decide +kernel)
set_option maxRecDepth 20000 in
theorem gX3_begin_X3_isClient : GoodIn wsX3_begin (va_wsS RX3 39 yX3_isClient wsX3_isClient) := goodIn_app (goodIn_of _ (by decide +kernel)) ggX3_begin_X3_isClient
set_option maxRecDepth 20000 in
theorem ggX3_begin_X3_isCrowded : GoodIn wsX3_begin wsX3_isCrowded := goodIn_r _ [15, 16, 17, 54, 55, 56, 57, 66, 67, 68, 69] (by decide +kernel) (by decide +kernel)
set_option maxRecDepth 20000 in
theorem gX3_begin_X3_isCrowded : GoodIn wsX3_begin (wsV RX3 78 RX3 yX3_isCrowded wsX3_isCrowded) := goodIn_app (goodIn_of _ (by decide +kernel)) ggX3_begin_X3_isCrowded
set_option maxRecDepth 20000 in
theorem ggX3_begin_X0_enter : GoodIn wsX3_begin wsX0_enter := goodIn_r _ [22, 23, 24, 58, 59, 60, 61, 62, 63, 64, 65] (by decide +kernel) (by decide +kernel)
set_option maxRecDepth 20000 in
theorem gX3_begin_X0_enter : GoodIn wsX3_begin (wsV RX3 47 RX0 yX0_enter wsX0_enter) := goodIn_app (goodIn_of _ (by decide +kernel)) ggX3_begin_X0_enter
set_option maxRecDepth 20000 in
theorem ggX3_begin_X3_sendToAll : GoodIn wsX3_begin wsX3_sendToAll := goodIn_r _ [28, 1, 3, 29, 30, 31, 10, 32, 16, 33, 34, 35, 36, 37, 38, 39, 40, 41, 42, 43, 44, 45, 46, 47, 48, 49, 50, 51, 52, 53, 54, 55, 56, 57, 58, 59, 60, 61, 62, 63, 64, 65, 66, 67, 68, 69] (by decide +kernel) (by decide +kernel)
set_option maxRecDepth 20000 in
theorem gX3_begin_X3_sendToAll : GoodIn wsX3_begin (wsV RX3 116 RX3 yX3_sendToAll wsX3_sendToAll) := goodIn_app (goodIn_of _ (by decide +kernel)) ggX3_begin_X3_sendToAll
theorem dX3_begin_0 : decode cX3_begin 0 = .ok (.iload_n 1, 1) := by decide +kernel
theorem dX3_begin_1 : decode cX3_begin 1 = .ok (.invokestatic 39, 3) := by decide +kernel
theorem dX3_begin_4 : decode cX3_begin 4 = .ok (.ifCond .ne 5, 3) := by decide +kernel
theorem dX3_begin_7 : decode cX3_begin 7 = .ok (.iconst (-1), 1) := by decide +kernel
theorem dX3_begin_8 : decode cX3_begin 8 = .ok (.ireturn, 1) := by decide +kernel
theorem dX3_begin_9 : decode cX3_begin 9 = .ok (.aload_n 0, 1) := by decide +kernel
theorem dX3_begin_10 : decode cX3_begin 10 = .ok (.getfield 18, 3) := by decide +kernel
theorem dX3_begin_13 : decode cX3_begin 13 = .ok (.iload_n 1, 1) := by decide +kernel
theorem dX3_begin_14 : decode cX3_begin 14 = .ok (.aaload, 1) := by decide +kernel
theorem dX3_begin_15 : decode cX3_begin 15 = .ok (.astore 4, 2) := by decide +kernel
theorem dX3_begin_17 : decode cX3_begin 17 = .ok (.aload 4, 2) := by decide +kernel
theorem dX3_begin_19 : decode cX3_begin 19 = .ok (.getfield 43, 3) := by decide +kernel
theorem dX3_begin_22 : decode cX3_begin 22 = .ok (.ifCond .eq 6, 3) := by decide +kernel
theorem dX3_begin_25 : decode cX3_begin 25 = .ok (.bipush (-2), 2) := by decide +kernel
theorem dX3_begin_27 : decode cX3_begin 27 = .ok (.ireturn, 1) := by decide +kernel
theorem dX3_begin_28 : decode cX3_begin 28 = .ok (.aload_n 0, 1) := by decide +kernel
theorem dX3_begin_29 : decode cX3_begin 29 = .ok (.invokevirtual 78, 3) := by decide +kernel
theorem dX3_begin_32 : decode cX3_begin 32 = .ok (.ifCond .eq 6, 3) := by decide +kernel
theorem dX3_begin_35 : decode cX3_begin 35 = .ok (.bipush (-3), 2) := by decide +kernel
theorem dX3_begin_37 : decode cX3_begin 37 = .ok (.ireturn, 1) := by decide +kernel
theorem dX3_begin_38 : decode cX3_begin 38 = .ok (.aload 4, 2) := by decide +kernel
theorem dX3_begin_40 : decode cX3_begin 40 = .ok (.dup, 1) := by decide +kernel
theorem dX3_begin_41 : decode cX3_begin 41 = .ok (.getfield 105, 3) := by decide +kernel
theorem dX3_begin_44 : decode cX3_begin 44 = .ok (.iconst 1, 1) := by decide +kernel
theorem dX3_begin_45 : decode cX3_begin 45 = .ok (.iadd, 1) := by decide +kernel
theorem dX3_begin_46 : decode cX3_begin 46 = .ok (.putfield 105, 3) := by decide +kernel
theorem dX3_begin_49 : decode cX3_begin 49 = .ok (.aload 4, 2) := by decide +kernel
theorem dX3_begin_51 : decode cX3_begin 51 = .ok (.iload_n 2, 1) := by decide +kernel
theorem dX3_begin_52 : decode cX3_begin 52 = .ok (.putfield 108, 3) := by decide +kernel
theorem dX3_begin_55 : decode cX3_begin 55 = .ok (.aload 4, 2) := by decide +kernel
theorem dX3_begin_57 : decode cX3_begin 57 = .ok (.iload_n 3, 1) := by decide +kernel
theorem dX3_begin_58 : decode cX3_begin 58 = .ok (.putfield 111, 3) := by decide +kernel
theorem dX3_begin_61 : decode cX3_begin 61 = .ok (.aload 4, 2) := by decide +kernel
theorem dX3_begin_63 : decode cX3_begin 63 = .ok (.iconst 0, 1) := by decide +kernel
theorem dX3_begin_64 : decode cX3_begin 64 = .ok (.putfield 114, 3) := by decide +kernel
theorem dX3_begin_67 : decode cX3_begin 67 = .ok (.aload 4, 2) := by decide +kernel
theorem dX3_begin_69 : decode cX3_begin 69 = .ok (.iconst 0, 1) := by decide +kernel
theorem dX3_begin_70 : decode cX3_begin 70 = .ok (.putfield 115, 3) := by decide +kernel
theorem dX3_begin_73 : decode cX3_begin 73 = .ok (.aload 4, 2) := by decide +kernel
theorem dX3_begin_75 : decode cX3_begin 75 = .ok (.iconst 1, 1) := by decide +kernel
theorem dX3_begin_76 : decode cX3_begin 76 = .ok (.invokevirtual 47, 3) := by decide +kernel
theorem dX3_begin_79 : decode cX3_begin 79 = .ok (.aload_n 0, 1) := by decide +kernel
theorem dX3_begin_80 : decode cX3_begin 80 = .ok (.iconst 0, 1) := by decide +kernel
theorem dX3_begin_81 : decode cX3_begin 81 = .ok (.iload_n 1, 1) := by decide +kernel
theorem dX3_begin_82 : decode cX3_begin 82 = .ok (.iconst 0, 1) := by decide +kernel
theorem dX3_begin_83 : decode cX3_begin 83 = .ok (.iconst 0, 1) := by decide +kernel
theorem dX3_begin_84 : decode cX3_begin 84 = .ok (.invokevirtual 116, 3) := by decide +kernel
theorem dX3_begin_87 : decode cX3_begin 87 = .ok (.aload 4, 2) := by decide +kernel
theorem dX3_begin_89 : decode cX3_begin 89 = .ok (.getfield 105, 3) := by decide +kernel
theorem dX3_begin_92 : decode cX3_begin 92 = .ok (.ireturn, 1) := by decide +kernel
set_option maxRecDepth 20000 in
theorem ggX3_takeAsk_X3_send : GoodIn wsX3_takeAsk wsX3_send := goodIn_r _ [9, 10, 11, 12, 13, 14, 15, 16, 17, 18, 19, 20, 21, 22, 23, 24, 25, 26, 27, 28, 29, 30, 31, 32, 33, 34, 35, 39, 40, 41, 42] (by decide +kernel) (by decide +kernel)
set_option maxRecDepth 20000 in
theorem gX3_takeAsk_X3_send : GoodIn wsX3_takeAsk (wsV RX3 120 RX3 yX3_send wsX3_send) := goodIn_app (goodIn_of _ (by decide +kernel)) ggX3_takeAsk_X3_send
theorem dX3_takeAsk_0 : decode cX3_takeAsk 0 = .ok (.aload_n 0, 1) := by decide +kernel
theorem dX3_takeAsk_1 : decode cX3_takeAsk 1 = .ok (.getfield 11, 3) := by decide +kernel
theorem dX3_takeAsk_4 : decode cX3_takeAsk 4 = .ok (.iload_n 2, 1) := by decide +kernel
theorem dX3_takeAsk_5 : decode cX3_takeAsk 5 = .ok (.aaload, 1) := by decide +kernel
theorem dX3_takeAsk_6 : decode cX3_takeAsk 6 = .ok (.astore 4, 2) := by decide +kernel
theorem dX3_takeAsk_8 : decode cX3_takeAsk 8 = .ok (.aload 4, 2) := by decide +kernel
theorem dX3_takeAsk_10 : decode cX3_takeAsk 10 = .ok (.getfield 88, 3) := by decide +kernel
theorem dX3_takeAsk_13 : decode cX3_takeAsk 13 = .ok (.ifCond .eq 4, 3) := by decide +kernel
theorem dX3_takeAsk_16 : decode cX3_takeAsk 16 = .ok (.return_, 1) := by decide +kernel
theorem dX3_takeAsk_17 : decode cX3_takeAsk 17 = .ok (.aload_n 0, 1) := by decide +kernel
theorem dX3_takeAsk_18 : decode cX3_takeAsk 18 = .ok (.iconst 1, 1) := by decide +kernel
theorem dX3_takeAsk_19 : decode cX3_takeAsk 19 = .ok (.iload_n 1, 1) := by decide +kernel
theorem dX3_takeAsk_20 : decode cX3_takeAsk 20 = .ok (.iload_n 2, 1) := by decide +kernel
theorem dX3_takeAsk_21 : decode cX3_takeAsk 21 = .ok (.iload_n 3, 1) := by decide +kernel
theorem dX3_takeAsk_22 : decode cX3_takeAsk 22 = .ok (.aload 4, 2) := by decide +kernel
theorem dX3_takeAsk_24 : decode cX3_takeAsk 24 = .ok (.getfield 96, 3) := by decide +kernel
theorem dX3_takeAsk_27 : decode cX3_takeAsk 27 = .ok (.aload 4, 2) := by decide +kernel
theorem dX3_takeAsk_29 : decode cX3_takeAsk 29 = .ok (.getfield 99, 3) := by decide +kernel
theorem dX3_takeAsk_32 : decode cX3_takeAsk 32 = .ok (.invokevirtual 120, 3) := by decide +kernel
theorem dX3_takeAsk_35 : decode cX3_takeAsk 35 = .ok (.return_, 1) := by decide +kernel
set_option maxRecDepth 20000 in
theorem ggX3_takeStore_X3_send : GoodIn wsX3_takeStore wsX3_send := goodIn_r _ [9, 10, 11, 12, 13, 14, 15, 16, 17, 18, 19, 20, 21, 22, 23, 24, 25, 26, 27, 28, 29, 30, 31, 32, 33, 34, 35, 39, 40, 41, 42] (by decide +kernel) (by decide +kernel)
set_option maxRecDepth 20000 in
theorem gX3_takeStore_X3_send : GoodIn wsX3_takeStore (wsV RX3 120 RX3 yX3_send wsX3_send) := goodIn_app (goodIn_of _ (by decide +kernel)) ggX3_takeStore_X3_send
theorem dX3_takeStore_0 : decode cX3_takeStore 0 = .ok (.aload_n 0, 1) := by decide +kernel
theorem dX3_takeStore_1 : decode cX3_takeStore 1 = .ok (.getfield 11, 3) := by decide +kernel
theorem dX3_takeStore_4 : decode cX3_takeStore 4 = .ok (.iload_n 2, 1) := by decide +kernel
theorem dX3_takeStore_5 : decode cX3_takeStore 5 = .ok (.aaload, 1) := by decide +kernel
theorem dX3_takeStore_6 : decode cX3_takeStore 6 = .ok (.astore 6, 2) := by decide +kernel
theorem dX3_takeStore_8 : decode cX3_takeStore 8 = .ok (.aload 6, 2) := by decide +kernel
theorem dX3_takeStore_10 : decode cX3_takeStore 10 = .ok (.getfield 88, 3) := by decide +kernel
theorem dX3_takeStore_13 : decode cX3_takeStore 13 = .ok (.ifCond .eq 4, 3) := by decide +kernel
theorem dX3_takeStore_16 : decode cX3_takeStore 16 = .ok (.return_, 1) := by decide +kernel
theorem dX3_takeStore_17 : decode cX3_takeStore 17 = .ok (.iload 4, 2) := by decide +kernel
theorem dX3_takeStore_19 : decode cX3_takeStore 19 = .ok (.aload 6, 2) := by decide +kernel
theorem dX3_takeStore_21 : decode cX3_takeStore 21 = .ok (.getfield 96, 3) := by decide +kernel
theorem dX3_takeStore_24 : decode cX3_takeStore 24 = .ok (.if_icmp .le 17, 3) := by decide +kernel
theorem dX3_takeStore_27 : decode cX3_takeStore 27 = .ok (.aload 6, 2) := by decide +kernel
theorem dX3_takeStore_29 : decode cX3_takeStore 29 = .ok (.iload 4, 2) := by decide +kernel
theorem dX3_takeStore_31 : decode cX3_takeStore 31 = .ok (.putfield 96, 3) := by decide +kernel
theorem dX3_takeStore_34 : decode cX3_takeStore 34 = .ok (.aload 6, 2) := by decide +kernel
theorem dX3_takeStore_36 : decode cX3_takeStore 36 = .ok (.iload 5, 2) := by decide +kernel
theorem dX3_takeStore_38 : decode cX3_takeStore 38 = .ok (.putfield 99, 3) := by decide +kernel
theorem dX3_takeStore_41 : decode cX3_takeStore 41 = .ok (.aload_n 0, 1) := by decide +kernel
theorem dX3_takeStore_42 : decode cX3_takeStore 42 = .ok (.iconst 3, 1) := by decide +kernel
theorem dX3_takeStore_43 : decode cX3_takeStore 43 = .ok (.iload_n 1, 1) := by decide +kernel
theorem dX3_takeStore_44 : decode cX3_takeStore 44 = .ok (.iload_n 2, 1) := by decide +kernel
theorem dX3_takeStore_45 : decode cX3_takeStore 45 = .ok (.iload_n 3, 1) := by decide +kernel
theorem dX3_takeStore_46 : decode cX3_takeStore 46 = .ok (.iconst 0, 1) := by decide +kernel
theorem dX3_takeStore_47 : decode cX3_takeStore 47 = .ok (.iconst 0, 1) := by decide +kernel
theorem dX3_takeStore_48 : decode cX3_takeStore 48 = .ok (.invokevirtual 120, 3) := by decide +kernel
theorem dX3_takeStore_51 : decode cX3_takeStore 51 = .ok (.return_, 1) := by decide +kernel
set_option maxRecDepth 20000 in
theorem ggX3_takeTell_X0_awaits : GoodIn wsX3_takeTell wsX0_awaits := goodIn_r _ [8, 9, 10, 11, 78, 79, 80, 81, 82, 83, 84, 85] (by decide +kernel) (by decide +kernel)
set_option maxRecDepth 20000 in
theorem gX3_takeTell_X0_awaits : GoodIn wsX3_takeTell (wsV RX3 124 RX0 yX0_awaits wsX0_awaits) := goodIn_app (goodIn_of _ (by decide +kernel)) ggX3_takeTell_X0_awaits
set_option maxRecDepth 20000 in
theorem ggX3_takeTell_X0_hear : GoodIn wsX3_takeTell wsX0_hear := goodIn_r _ [15, 11, 78, 79, 80, 81, 82, 83, 84, 85] (by decide +kernel) (by decide +kernel)
set_option maxRecDepth 20000 in
theorem gX3_takeTell_X0_hear : GoodIn wsX3_takeTell (wsV RX3 128 RX0 yX0_hear wsX0_hear) := goodIn_app (goodIn_of _ (by decide +kernel)) ggX3_takeTell_X0_hear
set_option maxRecDepth 20000 in
theorem ggX3_takeTell_X0_hasQuorum : GoodIn wsX3_takeTell wsX0_hasQuorum := goodIn_r _ [19, 11, 20, 21, 22, 23, 24, 25, 26, 78, 79, 80, 81, 82, 83, 84, 85] (by decide +kernel) (by decide +kernel)
set_option maxRecDepth 20000 in
theorem gX3_takeTell_X0_hasQuorum : GoodIn wsX3_takeTell (wsV RX3 131 RX0 yX0_hasQuorum wsX0_hasQuorum) := goodIn_app (goodIn_of _ (by decide +kernel)) ggX3_takeTell_X0_hasQuorum
set_option maxRecDepth 20000 in
theorem ggX3_takeTell_X3_store : GoodIn wsX3_takeTell wsX3_store := goodIn_r _ [31, 1, 32, 2, 33, 34, 35, 36, 37, 38, 3, 39, 40, 41, 7, 42, 10, 11, 43, 44, 45, 30, 46, 47, 48, 49, 50, 51, 52, 53, 54, 55, 56, 57, 58, 59, 60, 61, 62, 63, 64, 65, 66, 67, 68, 69, 70, 71, 72, 73, 74, 75, 76, 77, 78, 79, 80, 81, 82, 83, 84, 85, 86, 87, 88, 89] (by decide +kernel) (by decide +kernel)
set_option maxRecDepth 20000 in
theorem gX3_takeTell_X3_store : GoodIn wsX3_takeTell (wsV RX3 134 RX3 yX3_store wsX3_store) := goodIn_app (goodIn_of _ (by decide +kernel)) ggX3_takeTell_X3_store
theorem dX3_takeTell_0 : decode cX3_takeTell 0 = .ok (.aload_n 0, 1) := by decide +kernel
theorem dX3_takeTell_1 : decode cX3_takeTell 1 = .ok (.getfield 18, 3) := by decide +kernel
theorem dX3_takeTell_4 : decode cX3_takeTell 4 = .ok (.iload_n 1, 1) := by decide +kernel
theorem dX3_takeTell_5 : decode cX3_takeTell 5 = .ok (.aaload, 1) := by decide +kernel
theorem dX3_takeTell_6 : decode cX3_takeTell 6 = .ok (.astore 6, 2) := by decide +kernel
theorem dX3_takeTell_8 : decode cX3_takeTell 8 = .ok (.aload 6, 2) := by decide +kernel
theorem dX3_takeTell_10 : decode cX3_takeTell 10 = .ok (.iconst 1, 1) := by decide +kernel
theorem dX3_takeTell_11 : decode cX3_takeTell 11 = .ok (.iload_n 2, 1) := by decide +kernel
theorem dX3_takeTell_12 : decode cX3_takeTell 12 = .ok (.iload_n 3, 1) := by decide +kernel
theorem dX3_takeTell_13 : decode cX3_takeTell 13 = .ok (.invokevirtual 124, 3) := by decide +kernel
theorem dX3_takeTell_16 : decode cX3_takeTell 16 = .ok (.ifCond .ne 4, 3) := by decide +kernel
theorem dX3_takeTell_19 : decode cX3_takeTell 19 = .ok (.return_, 1) := by decide +kernel
theorem dX3_takeTell_20 : decode cX3_takeTell 20 = .ok (.aload 6, 2) := by decide +kernel
theorem dX3_takeTell_22 : decode cX3_takeTell 22 = .ok (.iload_n 2, 1) := by decide +kernel
theorem dX3_takeTell_23 : decode cX3_takeTell 23 = .ok (.invokevirtual 128, 3) := by decide +kernel
theorem dX3_takeTell_26 : decode cX3_takeTell 26 = .ok (.iload 4, 2) := by decide +kernel
theorem dX3_takeTell_28 : decode cX3_takeTell 28 = .ok (.aload 6, 2) := by decide +kernel
theorem dX3_takeTell_30 : decode cX3_takeTell 30 = .ok (.getfield 114, 3) := by decide +kernel
theorem dX3_takeTell_33 : decode cX3_takeTell 33 = .ok (.if_icmp .le 17, 3) := by decide +kernel
theorem dX3_takeTell_36 : decode cX3_takeTell 36 = .ok (.aload 6, 2) := by decide +kernel
theorem dX3_takeTell_38 : decode cX3_takeTell 38 = .ok (.iload 4, 2) := by decide +kernel
theorem dX3_takeTell_40 : decode cX3_takeTell 40 = .ok (.putfield 114, 3) := by decide +kernel
theorem dX3_takeTell_43 : decode cX3_takeTell 43 = .ok (.aload 6, 2) := by decide +kernel
theorem dX3_takeTell_45 : decode cX3_takeTell 45 = .ok (.iload 5, 2) := by decide +kernel
theorem dX3_takeTell_47 : decode cX3_takeTell 47 = .ok (.putfield 115, 3) := by decide +kernel
theorem dX3_takeTell_50 : decode cX3_takeTell 50 = .ok (.aload 6, 2) := by decide +kernel
theorem dX3_takeTell_52 : decode cX3_takeTell 52 = .ok (.invokevirtual 131, 3) := by decide +kernel
theorem dX3_takeTell_55 : decode cX3_takeTell 55 = .ok (.ifCond .eq 8, 3) := by decide +kernel
theorem dX3_takeTell_58 : decode cX3_takeTell 58 = .ok (.aload_n 0, 1) := by decide +kernel
theorem dX3_takeTell_59 : decode cX3_takeTell 59 = .ok (.iload_n 1, 1) := by decide +kernel
theorem dX3_takeTell_60 : decode cX3_takeTell 60 = .ok (.invokevirtual 134, 3) := by decide +kernel
theorem dX3_takeTell_63 : decode cX3_takeTell 63 = .ok (.return_, 1) := by decide +kernel
set_option maxRecDepth 20000 in
theorem ggX3_store_X0_enter : GoodIn wsX3_store wsX0_enter := goodIn_r _ [15, 16, 17, 54, 55, 56, 57, 58, 59, 60, 61] (by decide +kernel) (by decide +kernel)
set_option maxRecDepth 20000 in
theorem gX3_store_X0_enter : GoodIn wsX3_store (wsV RX3 47 RX0 yX0_enter wsX0_enter) := goodIn_app (goodIn_of _ (by decide +kernel)) ggX3_store_X0_enter
set_option maxRecDepth 20000 in
theorem ggX3_store_X3_sendToAll : GoodIn wsX3_store wsX3_sendToAll := goodIn_r _ [22, 1, 23, 24, 25, 26, 21, 27, 28, 29, 30, 31, 32, 33, 34, 35, 36, 37, 38, 39, 40, 41, 42, 43, 44, 45, 46, 47, 48, 49, 50, 51, 52, 53, 54, 55, 56, 57, 58, 59, 60, 61, 62, 63, 64, 65] (by decide +kernel) (by decide +kernel)
set_option maxRecDepth 20000 in
theorem gX3_store_X3_sendToAll : GoodIn wsX3_store (wsV RX3 116 RX3 yX3_sendToAll wsX3_sendToAll) := goodIn_app (goodIn_of _ (by decide +kernel)) ggX3_store_X3_sendToAll
theorem dX3_store_0 : decode cX3_store 0 = .ok (.aload_n 0, 1) := by decide +kernel
theorem dX3_store_1 : decode cX3_store 1 = .ok (.getfield 18, 3) := by decide +kernel
theorem dX3_store_4 : decode cX3_store 4 = .ok (.iload_n 1, 1) := by decide +kernel
theorem dX3_store_5 : decode cX3_store 5 = .ok (.aaload, 1) := by decide +kernel
theorem dX3_store_6 : decode cX3_store 6 = .ok (.astore_n 2, 1) := by decide +kernel
theorem dX3_store_7 : decode cX3_store 7 = .ok (.aload_n 2, 1) := by decide +kernel
theorem dX3_store_8 : decode cX3_store 8 = .ok (.getfield 108, 3) := by decide +kernel
theorem dX3_store_11 : decode cX3_store 11 = .ok (.ifCond .eq 41, 3) := by decide +kernel
theorem dX3_store_14 : decode cX3_store 14 = .ok (.iconst 1, 1) := by decide +kernel
theorem dX3_store_15 : decode cX3_store 15 = .ok (.aload_n 2, 1) := by decide +kernel
theorem dX3_store_16 : decode cX3_store 16 = .ok (.getfield 114, 3) := by decide +kernel
theorem dX3_store_19 : decode cX3_store 19 = .ok (.iconst 4, 1) := by decide +kernel
theorem dX3_store_20 : decode cX3_store 20 = .ok (.idiv, 1) := by decide +kernel
theorem dX3_store_21 : decode cX3_store 21 = .ok (.aload_n 2, 1) := by decide +kernel
theorem dX3_store_22 : decode cX3_store 22 = .ok (.getfield 137, 3) := by decide +kernel
theorem dX3_store_25 : decode cX3_store 25 = .ok (.invokestatic 140, 3) := by decide +kernel
theorem dX3_store_28 : decode cX3_store 28 = .ok (.iadd, 1) := by decide +kernel
theorem dX3_store_29 : decode cX3_store 29 = .ok (.istore_n 3, 1) := by decide +kernel
theorem dX3_store_30 : decode cX3_store 30 = .ok (.aload_n 2, 1) := by decide +kernel
theorem dX3_store_31 : decode cX3_store 31 = .ok (.iload_n 3, 1) := by decide +kernel
theorem dX3_store_32 : decode cX3_store 32 = .ok (.putfield 137, 3) := by decide +kernel
theorem dX3_store_35 : decode cX3_store 35 = .ok (.aload_n 2, 1) := by decide +kernel
theorem dX3_store_36 : decode cX3_store 36 = .ok (.iconst 4, 1) := by decide +kernel
theorem dX3_store_37 : decode cX3_store 37 = .ok (.iload_n 3, 1) := by decide +kernel
theorem dX3_store_38 : decode cX3_store 38 = .ok (.imul, 1) := by decide +kernel
theorem dX3_store_39 : decode cX3_store 39 = .ok (.iload_n 1, 1) := by decide +kernel
theorem dX3_store_40 : decode cX3_store 40 = .ok (.iadd, 1) := by decide +kernel
theorem dX3_store_41 : decode cX3_store 41 = .ok (.putfield 114, 3) := by decide +kernel
theorem dX3_store_44 : decode cX3_store 44 = .ok (.aload_n 2, 1) := by decide +kernel
theorem dX3_store_45 : decode cX3_store 45 = .ok (.aload_n 2, 1) := by decide +kernel
theorem dX3_store_46 : decode cX3_store 46 = .ok (.getfield 111, 3) := by decide +kernel
theorem dX3_store_49 : decode cX3_store 49 = .ok (.putfield 115, 3) := by decide +kernel
theorem dX3_store_52 : decode cX3_store 52 = .ok (.aload_n 2, 1) := by decide +kernel
theorem dX3_store_53 : decode cX3_store 53 = .ok (.iconst 2, 1) := by decide +kernel
theorem dX3_store_54 : decode cX3_store 54 = .ok (.invokevirtual 47, 3) := by decide +kernel
theorem dX3_store_57 : decode cX3_store 57 = .ok (.aload_n 0, 1) := by decide +kernel
theorem dX3_store_58 : decode cX3_store 58 = .ok (.iconst 2, 1) := by decide +kernel
theorem dX3_store_59 : decode cX3_store 59 = .ok (.iload_n 1, 1) := by decide +kernel
theorem dX3_store_60 : decode cX3_store 60 = .ok (.aload_n 2, 1) := by decide +kernel
theorem dX3_store_61 : decode cX3_store 61 = .ok (.getfield 114, 3) := by decide +kernel
theorem dX3_store_64 : decode cX3_store 64 = .ok (.aload_n 2, 1) := by decide +kernel
theorem dX3_store_65 : decode cX3_store 65 = .ok (.getfield 115, 3) := by decide +kernel
theorem dX3_store_68 : decode cX3_store 68 = .ok (.invokevirtual 116, 3) := by decide +kernel
theorem dX3_store_71 : decode cX3_store 71 = .ok (.return_, 1) := by decide +kernel
set_option maxRecDepth 20000 in
theorem ggX3_takeStored_X0_awaits : GoodIn wsX3_takeStored wsX0_awaits := goodIn_r _ [6, 7, 8, 9, 64, 65, 66, 67, 68, 69, 70, 71] (by decide +kernel) (by decide +kernel)
set_option maxRecDepth 20000 in
theorem gX3_takeStored_X0_awaits : GoodIn wsX3_takeStored (wsV RX3 124 RX0 yX0_awaits wsX0_awaits) := goodIn_app (goodIn_of _ (by decide +kernel)) ggX3_takeStored_X0_awaits
set_option maxRecDepth 20000 in
theorem ggX3_takeStored_X0_hear : GoodIn wsX3_takeStored wsX0_hear := goodIn_r _ [13, 9, 64, 65, 66, 67, 68, 69, 70, 71] (by decide +kernel) (by decide +kernel)
set_option maxRecDepth 20000 in
theorem gX3_takeStored_X0_hear : GoodIn wsX3_takeStored (wsV RX3 128 RX0 yX0_hear wsX0_hear) := goodIn_app (goodIn_of _ (by decide +kernel)) ggX3_takeStored_X0_hear
set_option maxRecDepth 20000 in
theorem ggX3_takeStored_X0_hasQuorum : GoodIn wsX3_takeStored wsX0_hasQuorum := goodIn_r _ [17, 9, 18, 19, 20, 21, 22, 23, 24, 64, 65, 66, 67, 68, 69, 70, 71] (by decide +kernel) (by decide +kernel)
set_option maxRecDepth 20000 in
theorem gX3_takeStored_X0_hasQuorum : GoodIn wsX3_takeStored (wsV RX3 131 RX0 yX0_hasQuorum wsX0_hasQuorum) := goodIn_app (goodIn_of _ (by decide +kernel)) ggX3_takeStored_X0_hasQuorum
set_option maxRecDepth 20000 in
theorem ggX3_takeStored_X3_finish : GoodIn wsX3_takeStored wsX3_finish := goodIn_r _ [29, 1, 30, 31, 32, 33, 34, 35, 36, 37, 38, 39, 40, 41, 42, 43, 44, 45, 46, 47, 48, 49, 50, 51, 52, 53, 54, 55, 56, 57, 58, 5, 59, 8, 9, 60, 61, 62, 63, 64, 65, 66, 67, 68, 69, 70, 71, 72, 73, 74, 75] (by decide +kernel) (by decide +kernel)
set_option maxRecDepth 20000 in
theorem gX3_takeStored_X3_finish : GoodIn wsX3_takeStored (wsV RX3 145 RX3 yX3_finish wsX3_finish) := goodIn_app (goodIn_of _ (by decide +kernel)) ggX3_takeStored_X3_finish
theorem dX3_takeStored_0 : decode cX3_takeStored 0 = .ok (.aload_n 0, 1) := by decide +kernel
theorem dX3_takeStored_1 : decode cX3_takeStored 1 = .ok (.getfield 18, 3) := by decide +kernel
theorem dX3_takeStored_4 : decode cX3_takeStored 4 = .ok (.iload_n 1, 1) := by decide +kernel
theorem dX3_takeStored_5 : decode cX3_takeStored 5 = .ok (.aaload, 1) := by decide +kernel
theorem dX3_takeStored_6 : decode cX3_takeStored 6 = .ok (.astore 4, 2) := by decide +kernel
theorem dX3_takeStored_8 : decode cX3_takeStored 8 = .ok (.aload 4, 2) := by decide +kernel
theorem dX3_takeStored_10 : decode cX3_takeStored 10 = .ok (.iconst 2, 1) := by decide +kernel
theorem dX3_takeStored_11 : decode cX3_takeStored 11 = .ok (.iload_n 2, 1) := by decide +kernel
theorem dX3_takeStored_12 : decode cX3_takeStored 12 = .ok (.iload_n 3, 1) := by decide +kernel
theorem dX3_takeStored_13 : decode cX3_takeStored 13 = .ok (.invokevirtual 124, 3) := by decide +kernel
theorem dX3_takeStored_16 : decode cX3_takeStored 16 = .ok (.ifCond .ne 4, 3) := by decide +kernel
theorem dX3_takeStored_19 : decode cX3_takeStored 19 = .ok (.return_, 1) := by decide +kernel
theorem dX3_takeStored_20 : decode cX3_takeStored 20 = .ok (.aload 4, 2) := by decide +kernel
theorem dX3_takeStored_22 : decode cX3_takeStored 22 = .ok (.iload_n 2, 1) := by decide +kernel
theorem dX3_takeStored_23 : decode cX3_takeStored 23 = .ok (.invokevirtual 128, 3) := by decide +kernel
theorem dX3_takeStored_26 : decode cX3_takeStored 26 = .ok (.aload 4, 2) := by decide +kernel
theorem dX3_takeStored_28 : decode cX3_takeStored 28 = .ok (.invokevirtual 131, 3) := by decide +kernel
theorem dX3_takeStored_31 : decode cX3_takeStored 31 = .ok (.ifCond .eq 8, 3) := by decide +kernel
theorem dX3_takeStored_34 : decode cX3_takeStored 34 = .ok (.aload_n 0, 1) := by decide +kernel
theorem dX3_takeStored_35 : decode cX3_takeStored 35 = .ok (.iload_n 1, 1) := by decide +kernel
theorem dX3_takeStored_36 : decode cX3_takeStored 36 = .ok (.invokevirtual 145, 3) := by decide +kernel
theorem dX3_takeStored_39 : decode cX3_takeStored 39 = .ok (.return_, 1) := by decide +kernel
set_option maxRecDepth 20000 in
theorem ggX3_finish_X2_add : GoodIn wsX3_finish wsX2_add := goodIn_r _ [11, 12, 13, 47, 48, 49, 50] (by decide +kernel) (by decide +kernel)
set_option maxRecDepth 20000 in
theorem gX3_finish_X2_add : GoodIn wsX3_finish (wsV RX3 148 RX2 yX2_add wsX2_add) := goodIn_app (goodIn_of _ (by decide +kernel)) ggX3_finish_X2_add
set_option maxRecDepth 20000 in
theorem ggX3_finish_X2_set : GoodIn wsX3_finish wsX2_set := goodIn_r _ [17, 18, 19, 20, 21, 22, 10, 23, 12, 24, 25, 26, 27, 47, 48, 49, 50] (by decide +kernel) (by decide +kernel)
set_option maxRecDepth 20000 in
theorem gX3_finish_X2_set : GoodIn wsX3_finish (wsV RX3 151 RX2 yX2_set wsX2_set) := goodIn_app (goodIn_of _ (by decide +kernel)) ggX3_finish_X2_set
set_option maxRecDepth 20000 in
theorem ggX3_finish_X0_enter : GoodIn wsX3_finish wsX0_enter := goodIn_r _ [32, 33, 34, 39, 40, 41, 42, 43, 44, 45, 46] (by decide +kernel) (by decide +kernel)
set_option maxRecDepth 20000 in
theorem gX3_finish_X0_enter : GoodIn wsX3_finish (wsV RX3 47 RX0 yX0_enter wsX0_enter) := goodIn_app (goodIn_of _ (by decide +kernel)) ggX3_finish_X0_enter
theorem dX3_finish_0 : decode cX3_finish 0 = .ok (.aload_n 0, 1) := by decide +kernel
theorem dX3_finish_1 : decode cX3_finish 1 = .ok (.getfield 18, 3) := by decide +kernel
theorem dX3_finish_4 : decode cX3_finish 4 = .ok (.iload_n 1, 1) := by decide +kernel
theorem dX3_finish_5 : decode cX3_finish 5 = .ok (.aaload, 1) := by decide +kernel
theorem dX3_finish_6 : decode cX3_finish 6 = .ok (.astore_n 2, 1) := by decide +kernel
theorem dX3_finish_7 : decode cX3_finish 7 = .ok (.aload_n 0, 1) := by decide +kernel
theorem dX3_finish_8 : decode cX3_finish 8 = .ok (.getfield 32, 3) := by decide +kernel
theorem dX3_finish_11 : decode cX3_finish 11 = .ok (.invokevirtual 148, 3) := by decide +kernel
theorem dX3_finish_14 : decode cX3_finish 14 = .ok (.istore_n 3, 1) := by decide +kernel
theorem dX3_finish_15 : decode cX3_finish 15 = .ok (.aload_n 0, 1) := by decide +kernel
theorem dX3_finish_16 : decode cX3_finish 16 = .ok (.getfield 32, 3) := by decide +kernel
theorem dX3_finish_19 : decode cX3_finish 19 = .ok (.iload_n 3, 1) := by decide +kernel
theorem dX3_finish_20 : decode cX3_finish 20 = .ok (.iconst 0, 1) := by decide +kernel
theorem dX3_finish_21 : decode cX3_finish 21 = .ok (.iload_n 1, 1) := by decide +kernel
theorem dX3_finish_22 : decode cX3_finish 22 = .ok (.invokevirtual 151, 3) := by decide +kernel
theorem dX3_finish_25 : decode cX3_finish 25 = .ok (.aload_n 0, 1) := by decide +kernel
theorem dX3_finish_26 : decode cX3_finish 26 = .ok (.getfield 32, 3) := by decide +kernel
theorem dX3_finish_29 : decode cX3_finish 29 = .ok (.iload_n 3, 1) := by decide +kernel
theorem dX3_finish_30 : decode cX3_finish 30 = .ok (.iconst 1, 1) := by decide +kernel
theorem dX3_finish_31 : decode cX3_finish 31 = .ok (.aload_n 2, 1) := by decide +kernel
theorem dX3_finish_32 : decode cX3_finish 32 = .ok (.getfield 105, 3) := by decide +kernel
theorem dX3_finish_35 : decode cX3_finish 35 = .ok (.invokevirtual 151, 3) := by decide +kernel
theorem dX3_finish_38 : decode cX3_finish 38 = .ok (.aload_n 0, 1) := by decide +kernel
theorem dX3_finish_39 : decode cX3_finish 39 = .ok (.getfield 32, 3) := by decide +kernel
theorem dX3_finish_42 : decode cX3_finish 42 = .ok (.iload_n 3, 1) := by decide +kernel
theorem dX3_finish_43 : decode cX3_finish 43 = .ok (.iconst 2, 1) := by decide +kernel
theorem dX3_finish_44 : decode cX3_finish 44 = .ok (.aload_n 2, 1) := by decide +kernel
theorem dX3_finish_45 : decode cX3_finish 45 = .ok (.getfield 108, 3) := by decide +kernel
theorem dX3_finish_48 : decode cX3_finish 48 = .ok (.ifCond .eq 7, 3) := by decide +kernel
theorem dX3_finish_51 : decode cX3_finish 51 = .ok (.iconst 1, 1) := by decide +kernel
theorem dX3_finish_52 : decode cX3_finish 52 = .ok (.goto 4, 3) := by decide +kernel
theorem dX3_finish_55 : decode cX3_finish 55 = .ok (.iconst 0, 1) := by decide +kernel
theorem dX3_finish_56 : decode cX3_finish 56 = .ok (.invokevirtual 151, 3) := by decide +kernel
theorem dX3_finish_59 : decode cX3_finish 59 = .ok (.aload_n 0, 1) := by decide +kernel
theorem dX3_finish_60 : decode cX3_finish 60 = .ok (.getfield 32, 3) := by decide +kernel
theorem dX3_finish_63 : decode cX3_finish 63 = .ok (.iload_n 3, 1) := by decide +kernel
theorem dX3_finish_64 : decode cX3_finish 64 = .ok (.iconst 3, 1) := by decide +kernel
theorem dX3_finish_65 : decode cX3_finish 65 = .ok (.aload_n 2, 1) := by decide +kernel
theorem dX3_finish_66 : decode cX3_finish 66 = .ok (.getfield 115, 3) := by decide +kernel
theorem dX3_finish_69 : decode cX3_finish 69 = .ok (.invokevirtual 151, 3) := by decide +kernel
theorem dX3_finish_72 : decode cX3_finish 72 = .ok (.aload_n 0, 1) := by decide +kernel
theorem dX3_finish_73 : decode cX3_finish 73 = .ok (.getfield 32, 3) := by decide +kernel
theorem dX3_finish_76 : decode cX3_finish 76 = .ok (.iload_n 3, 1) := by decide +kernel
theorem dX3_finish_77 : decode cX3_finish 77 = .ok (.iconst 4, 1) := by decide +kernel
theorem dX3_finish_78 : decode cX3_finish 78 = .ok (.aload_n 2, 1) := by decide +kernel
theorem dX3_finish_79 : decode cX3_finish 79 = .ok (.getfield 114, 3) := by decide +kernel
theorem dX3_finish_82 : decode cX3_finish 82 = .ok (.invokevirtual 151, 3) := by decide +kernel
theorem dX3_finish_85 : decode cX3_finish 85 = .ok (.aload_n 2, 1) := by decide +kernel
theorem dX3_finish_86 : decode cX3_finish 86 = .ok (.iconst 0, 1) := by decide +kernel
theorem dX3_finish_87 : decode cX3_finish 87 = .ok (.invokevirtual 47, 3) := by decide +kernel
theorem dX3_finish_90 : decode cX3_finish 90 = .ok (.return_, 1) := by decide +kernel
set_option maxRecDepth 20000 in
theorem ggX3_sendToAll_X3_send : GoodIn wsX3_sendToAll wsX3_send := goodIn_r _ [7, 8, 9, 10, 11, 12, 13, 14, 15, 16, 17, 18, 19, 20, 21, 22, 23, 24, 25, 26, 27, 28, 29, 30, 31, 32, 33, 42, 43, 44, 45] (by decide +kernel) (by decide +kernel)
set_option maxRecDepth 20000 in
theorem gX3_sendToAll_X3_send : GoodIn wsX3_sendToAll (wsV RX3 120 RX3 yX3_send wsX3_send) := goodIn_app (goodIn_of _ (by decide +kernel)) ggX3_sendToAll_X3_send
theorem dX3_sendToAll_0 : decode cX3_sendToAll 0 = .ok (.iconst 0, 1) := by decide +kernel
theorem dX3_sendToAll_1 : decode cX3_sendToAll 1 = .ok (.istore 5, 2) := by decide +kernel
theorem dX3_sendToAll_3 : decode cX3_sendToAll 3 = .ok (.iload 5, 2) := by decide +kernel
theorem dX3_sendToAll_5 : decode cX3_sendToAll 5 = .ok (.iconst 5, 1) := by decide +kernel
theorem dX3_sendToAll_6 : decode cX3_sendToAll 6 = .ok (.if_icmp .ge 29, 3) := by decide +kernel
theorem dX3_sendToAll_9 : decode cX3_sendToAll 9 = .ok (.aload_n 0, 1) := by decide +kernel
theorem dX3_sendToAll_10 : decode cX3_sendToAll 10 = .ok (.iload_n 1, 1) := by decide +kernel
theorem dX3_sendToAll_11 : decode cX3_sendToAll 11 = .ok (.iload_n 2, 1) := by decide +kernel
theorem dX3_sendToAll_12 : decode cX3_sendToAll 12 = .ok (.iload 5, 2) := by decide +kernel
theorem dX3_sendToAll_14 : decode cX3_sendToAll 14 = .ok (.aload_n 0, 1) := by decide +kernel
theorem dX3_sendToAll_15 : decode cX3_sendToAll 15 = .ok (.getfield 18, 3) := by decide +kernel
theorem dX3_sendToAll_18 : decode cX3_sendToAll 18 = .ok (.iload_n 2, 1) := by decide +kernel
theorem dX3_sendToAll_19 : decode cX3_sendToAll 19 = .ok (.aaload, 1) := by decide +kernel
theorem dX3_sendToAll_20 : decode cX3_sendToAll 20 = .ok (.getfield 105, 3) := by decide +kernel
theorem dX3_sendToAll_23 : decode cX3_sendToAll 23 = .ok (.iload_n 3, 1) := by decide +kernel
theorem dX3_sendToAll_24 : decode cX3_sendToAll 24 = .ok (.iload 4, 2) := by decide +kernel
theorem dX3_sendToAll_26 : decode cX3_sendToAll 26 = .ok (.invokevirtual 120, 3) := by decide +kernel
theorem dX3_sendToAll_29 : decode cX3_sendToAll 29 = .ok (.iinc 5 1, 3) := by decide +kernel
theorem dX3_sendToAll_32 : decode cX3_sendToAll 32 = .ok (.goto (-29), 3) := by decide +kernel
theorem dX3_sendToAll_35 : decode cX3_sendToAll 35 = .ok (.return_, 1) := by decide +kernel
set_option maxRecDepth 20000 in
theorem ggX3_send_X2_add : GoodIn wsX3_send wsX2_add := goodIn_r _ [6, 7, 8, 27, 28, 29, 30] (by decide +kernel) (by decide +kernel)
set_option maxRecDepth 20000 in
theorem gX3_send_X2_add : GoodIn wsX3_send (wsV RX3 148 RX2 yX2_add wsX2_add) := goodIn_app (goodIn_of _ (by decide +kernel)) ggX3_send_X2_add
set_option maxRecDepth 20000 in
theorem ggX3_send_X2_set : GoodIn wsX3_send wsX2_set := goodIn_r _ [12, 13, 14, 15, 16, 17, 5, 18, 7, 19, 20, 21, 22, 27, 28, 29, 30] (by decide +kernel) (by decide +kernel)
set_option maxRecDepth 20000 in
theorem gX3_send_X2_set : GoodIn wsX3_send (wsV RX3 151 RX2 yX2_set wsX2_set) := goodIn_app (goodIn_of _ (by decide +kernel)) ggX3_send_X2_set
theorem dX3_send_0 : decode cX3_send 0 = .ok (.aload_n 0, 1) := by decide +kernel
theorem dX3_send_1 : decode cX3_send 1 = .ok (.getfield 28, 3) := by decide +kernel
theorem dX3_send_4 : decode cX3_send 4 = .ok (.invokevirtual 148, 3) := by decide +kernel
theorem dX3_send_7 : decode cX3_send 7 = .ok (.istore 7, 2) := by decide +kernel
theorem dX3_send_9 : decode cX3_send 9 = .ok (.aload_n 0, 1) := by decide +kernel
theorem dX3_send_10 : decode cX3_send 10 = .ok (.getfield 28, 3) := by decide +kernel
theorem dX3_send_13 : decode cX3_send 13 = .ok (.iload 7, 2) := by decide +kernel
theorem dX3_send_15 : decode cX3_send 15 = .ok (.iconst 0, 1) := by decide +kernel
theorem dX3_send_16 : decode cX3_send 16 = .ok (.iload_n 1, 1) := by decide +kernel
theorem dX3_send_17 : decode cX3_send 17 = .ok (.invokevirtual 151, 3) := by decide +kernel
theorem dX3_send_20 : decode cX3_send 20 = .ok (.aload_n 0, 1) := by decide +kernel
theorem dX3_send_21 : decode cX3_send 21 = .ok (.getfield 28, 3) := by decide +kernel
theorem dX3_send_24 : decode cX3_send 24 = .ok (.iload 7, 2) := by decide +kernel
theorem dX3_send_26 : decode cX3_send 26 = .ok (.iconst 1, 1) := by decide +kernel
theorem dX3_send_27 : decode cX3_send 27 = .ok (.iload_n 2, 1) := by decide +kernel
theorem dX3_send_28 : decode cX3_send 28 = .ok (.invokevirtual 151, 3) := by decide +kernel
theorem dX3_send_31 : decode cX3_send 31 = .ok (.aload_n 0, 1) := by decide +kernel
theorem dX3_send_32 : decode cX3_send 32 = .ok (.getfield 28, 3) := by decide +kernel
theorem dX3_send_35 : decode cX3_send 35 = .ok (.iload 7, 2) := by decide +kernel
theorem dX3_send_37 : decode cX3_send 37 = .ok (.iconst 2, 1) := by decide +kernel
theorem dX3_send_38 : decode cX3_send 38 = .ok (.iload_n 3, 1) := by decide +kernel
theorem dX3_send_39 : decode cX3_send 39 = .ok (.invokevirtual 151, 3) := by decide +kernel
theorem dX3_send_42 : decode cX3_send 42 = .ok (.aload_n 0, 1) := by decide +kernel
theorem dX3_send_43 : decode cX3_send 43 = .ok (.getfield 28, 3) := by decide +kernel
theorem dX3_send_46 : decode cX3_send 46 = .ok (.iload 7, 2) := by decide +kernel
theorem dX3_send_48 : decode cX3_send 48 = .ok (.iconst 3, 1) := by decide +kernel
theorem dX3_send_49 : decode cX3_send 49 = .ok (.iload 4, 2) := by decide +kernel
theorem dX3_send_51 : decode cX3_send 51 = .ok (.invokevirtual 151, 3) := by decide +kernel
theorem dX3_send_54 : decode cX3_send 54 = .ok (.aload_n 0, 1) := by decide +kernel
theorem dX3_send_55 : decode cX3_send 55 = .ok (.getfield 28, 3) := by decide +kernel
theorem dX3_send_58 : decode cX3_send 58 = .ok (.iload 7, 2) := by decide +kernel
theorem dX3_send_60 : decode cX3_send 60 = .ok (.iconst 4, 1) := by decide +kernel
theorem dX3_send_61 : decode cX3_send 61 = .ok (.iload 5, 2) := by decide +kernel
theorem dX3_send_63 : decode cX3_send 63 = .ok (.invokevirtual 151, 3) := by decide +kernel
theorem dX3_send_66 : decode cX3_send 66 = .ok (.aload_n 0, 1) := by decide +kernel
theorem dX3_send_67 : decode cX3_send 67 = .ok (.getfield 28, 3) := by decide +kernel
theorem dX3_send_70 : decode cX3_send 70 = .ok (.iload 7, 2) := by decide +kernel
theorem dX3_send_72 : decode cX3_send 72 = .ok (.iconst 5, 1) := by decide +kernel
theorem dX3_send_73 : decode cX3_send 73 = .ok (.iload 6, 2) := by decide +kernel
theorem dX3_send_75 : decode cX3_send 75 = .ok (.invokevirtual 151, 3) := by decide +kernel
theorem dX3_send_78 : decode cX3_send 78 = .ok (.return_, 1) := by decide +kernel
theorem dX4_init_0 : decode cX4_init 0 = .ok (.aload_n 0, 1) := by decide +kernel
theorem dX4_init_1 : decode cX4_init 1 = .ok (.invokespecial 1, 3) := by decide +kernel
theorem dX4_init_4 : decode cX4_init 4 = .ok (.aload_n 0, 1) := by decide +kernel
theorem dX4_init_5 : decode cX4_init 5 = .ok (.iconst 5, 1) := by decide +kernel
theorem dX4_init_6 : decode cX4_init 6 = .ok (.newarray .int, 2) := by decide +kernel
theorem dX4_init_8 : decode cX4_init 8 = .ok (.putfield 7, 3) := by decide +kernel
theorem dX4_init_11 : decode cX4_init 11 = .ok (.aload_n 0, 1) := by decide +kernel
theorem dX4_init_12 : decode cX4_init 12 = .ok (.iconst 5, 1) := by decide +kernel
theorem dX4_init_13 : decode cX4_init 13 = .ok (.newarray .int, 2) := by decide +kernel
theorem dX4_init_15 : decode cX4_init 15 = .ok (.putfield 13, 3) := by decide +kernel
theorem dX4_init_18 : decode cX4_init 18 = .ok (.aload_n 0, 1) := by decide +kernel
theorem dX4_init_19 : decode cX4_init 19 = .ok (.iconst 5, 1) := by decide +kernel
theorem dX4_init_20 : decode cX4_init 20 = .ok (.newarray .boolean, 2) := by decide +kernel
theorem dX4_init_22 : decode cX4_init 22 = .ok (.putfield 16, 3) := by decide +kernel
theorem dX4_init_25 : decode cX4_init 25 = .ok (.aload_n 0, 1) := by decide +kernel
theorem dX4_init_26 : decode cX4_init 26 = .ok (.iconst 3, 1) := by decide +kernel
theorem dX4_init_27 : decode cX4_init 27 = .ok (.newarray .int, 2) := by decide +kernel
theorem dX4_init_29 : decode cX4_init 29 = .ok (.putfield 20, 3) := by decide +kernel
theorem dX4_init_32 : decode cX4_init 32 = .ok (.aload_n 0, 1) := by decide +kernel
theorem dX4_init_33 : decode cX4_init 33 = .ok (.iconst 3, 1) := by decide +kernel
theorem dX4_init_34 : decode cX4_init 34 = .ok (.newarray .int, 2) := by decide +kernel
theorem dX4_init_36 : decode cX4_init 36 = .ok (.putfield 23, 3) := by decide +kernel
theorem dX4_init_39 : decode cX4_init 39 = .ok (.aload_n 0, 1) := by decide +kernel
theorem dX4_init_40 : decode cX4_init 40 = .ok (.iconst 3, 1) := by decide +kernel
theorem dX4_init_41 : decode cX4_init 41 = .ok (.newarray .boolean, 2) := by decide +kernel
theorem dX4_init_43 : decode cX4_init 43 = .ok (.putfield 26, 3) := by decide +kernel
theorem dX4_init_46 : decode cX4_init 46 = .ok (.aload_n 0, 1) := by decide +kernel
theorem dX4_init_47 : decode cX4_init 47 = .ok (.iconst 3, 1) := by decide +kernel
theorem dX4_init_48 : decode cX4_init 48 = .ok (.newarray .int, 2) := by decide +kernel
theorem dX4_init_50 : decode cX4_init 50 = .ok (.putfield 29, 3) := by decide +kernel
theorem dX4_init_53 : decode cX4_init 53 = .ok (.aload_n 0, 1) := by decide +kernel
theorem dX4_init_54 : decode cX4_init 54 = .ok (.iconst 3, 1) := by decide +kernel
theorem dX4_init_55 : decode cX4_init 55 = .ok (.newarray .int, 2) := by decide +kernel
theorem dX4_init_57 : decode cX4_init 57 = .ok (.putfield 32, 3) := by decide +kernel
theorem dX4_init_60 : decode cX4_init 60 = .ok (.aload_n 0, 1) := by decide +kernel
theorem dX4_init_61 : decode cX4_init 61 = .ok (.iconst 3, 1) := by decide +kernel
theorem dX4_init_62 : decode cX4_init 62 = .ok (.newarray .int, 2) := by decide +kernel
theorem dX4_init_64 : decode cX4_init 64 = .ok (.putfield 35, 3) := by decide +kernel
theorem dX4_init_67 : decode cX4_init 67 = .ok (.aload_n 0, 1) := by decide +kernel
theorem dX4_init_68 : decode cX4_init 68 = .ok (.iconst 3, 1) := by decide +kernel
theorem dX4_init_69 : decode cX4_init 69 = .ok (.newarray .int, 2) := by decide +kernel
theorem dX4_init_71 : decode cX4_init 71 = .ok (.putfield 38, 3) := by decide +kernel
theorem dX4_init_74 : decode cX4_init 74 = .ok (.aload_n 0, 1) := by decide +kernel
theorem dX4_init_75 : decode cX4_init 75 = .ok (.iconst 3, 1) := by decide +kernel
theorem dX4_init_76 : decode cX4_init 76 = .ok (.newarray .int, 2) := by decide +kernel
theorem dX4_init_78 : decode cX4_init 78 = .ok (.putfield 41, 3) := by decide +kernel
theorem dX4_init_81 : decode cX4_init 81 = .ok (.aload_n 0, 1) := by decide +kernel
theorem dX4_init_82 : decode cX4_init 82 = .ok (.sipush 600, 3) := by decide +kernel
theorem dX4_init_85 : decode cX4_init 85 = .ok (.newarray .int, 2) := by decide +kernel
theorem dX4_init_87 : decode cX4_init 87 = .ok (.putfield 44, 3) := by decide +kernel
theorem dX4_init_90 : decode cX4_init 90 = .ok (.aload_n 0, 1) := by decide +kernel
theorem dX4_init_91 : decode cX4_init 91 = .ok (.sipush 2560, 3) := by decide +kernel
theorem dX4_init_94 : decode cX4_init 94 = .ok (.newarray .int, 2) := by decide +kernel
theorem dX4_init_96 : decode cX4_init 96 = .ok (.putfield 47, 3) := by decide +kernel
theorem dX4_init_99 : decode cX4_init 99 = .ok (.return_, 1) := by decide +kernel
theorem dX4_within_0 : decode cX4_within 0 = .ok (.iload_n 0, 1) := by decide +kernel
theorem dX4_within_1 : decode cX4_within 1 = .ok (.iload_n 1, 1) := by decide +kernel
theorem dX4_within_2 : decode cX4_within 2 = .ok (.if_icmp .lt 12, 3) := by decide +kernel
theorem dX4_within_5 : decode cX4_within 5 = .ok (.iload_n 0, 1) := by decide +kernel
theorem dX4_within_6 : decode cX4_within 6 = .ok (.iload_n 2, 1) := by decide +kernel
theorem dX4_within_7 : decode cX4_within 7 = .ok (.if_icmp .gt 7, 3) := by decide +kernel
theorem dX4_within_10 : decode cX4_within 10 = .ok (.iconst 1, 1) := by decide +kernel
theorem dX4_within_11 : decode cX4_within 11 = .ok (.goto 4, 3) := by decide +kernel
theorem dX4_within_14 : decode cX4_within 14 = .ok (.iconst 0, 1) := by decide +kernel
theorem dX4_within_15 : decode cX4_within 15 = .ok (.ireturn, 1) := by decide +kernel
theorem dX4_send_0 : decode cX4_send 0 = .ok (.bipush 6, 2) := by decide +kernel
theorem dX4_send_2 : decode cX4_send 2 = .ok (.aload_n 0, 1) := by decide +kernel
theorem dX4_send_3 : decode cX4_send 3 = .ok (.getfield 50, 3) := by decide +kernel
theorem dX4_send_6 : decode cX4_send 6 = .ok (.imul, 1) := by decide +kernel
theorem dX4_send_7 : decode cX4_send 7 = .ok (.istore 7, 2) := by decide +kernel
theorem dX4_send_9 : decode cX4_send 9 = .ok (.aload_n 0, 1) := by decide +kernel
theorem dX4_send_10 : decode cX4_send 10 = .ok (.getfield 44, 3) := by decide +kernel
theorem dX4_send_13 : decode cX4_send 13 = .ok (.iload 7, 2) := by decide +kernel
theorem dX4_send_15 : decode cX4_send 15 = .ok (.iload_n 1, 1) := by decide +kernel
theorem dX4_send_16 : decode cX4_send 16 = .ok (.iastore, 1) := by decide +kernel
theorem dX4_send_17 : decode cX4_send 17 = .ok (.aload_n 0, 1) := by decide +kernel
theorem dX4_send_18 : decode cX4_send 18 = .ok (.getfield 44, 3) := by decide +kernel
theorem dX4_send_21 : decode cX4_send 21 = .ok (.iload 7, 2) := by decide +kernel
theorem dX4_send_23 : decode cX4_send 23 = .ok (.iconst 1, 1) := by decide +kernel
theorem dX4_send_24 : decode cX4_send 24 = .ok (.iadd, 1) := by decide +kernel
theorem dX4_send_25 : decode cX4_send 25 = .ok (.iload_n 2, 1) := by decide +kernel
theorem dX4_send_26 : decode cX4_send 26 = .ok (.iastore, 1) := by decide +kernel
theorem dX4_send_27 : decode cX4_send 27 = .ok (.aload_n 0, 1) := by decide +kernel
theorem dX4_send_28 : decode cX4_send 28 = .ok (.getfield 44, 3) := by decide +kernel
theorem dX4_send_31 : decode cX4_send 31 = .ok (.iload 7, 2) := by decide +kernel
theorem dX4_send_33 : decode cX4_send 33 = .ok (.iconst 2, 1) := by decide +kernel
theorem dX4_send_34 : decode cX4_send 34 = .ok (.iadd, 1) := by decide +kernel
theorem dX4_send_35 : decode cX4_send 35 = .ok (.iload_n 3, 1) := by decide +kernel
theorem dX4_send_36 : decode cX4_send 36 = .ok (.iastore, 1) := by decide +kernel
theorem dX4_send_37 : decode cX4_send 37 = .ok (.aload_n 0, 1) := by decide +kernel
theorem dX4_send_38 : decode cX4_send 38 = .ok (.getfield 44, 3) := by decide +kernel
theorem dX4_send_41 : decode cX4_send 41 = .ok (.iload 7, 2) := by decide +kernel
theorem dX4_send_43 : decode cX4_send 43 = .ok (.iconst 3, 1) := by decide +kernel
theorem dX4_send_44 : decode cX4_send 44 = .ok (.iadd, 1) := by decide +kernel
theorem dX4_send_45 : decode cX4_send 45 = .ok (.iload 4, 2) := by decide +kernel
theorem dX4_send_47 : decode cX4_send 47 = .ok (.iastore, 1) := by decide +kernel
theorem dX4_send_48 : decode cX4_send 48 = .ok (.aload_n 0, 1) := by decide +kernel
theorem dX4_send_49 : decode cX4_send 49 = .ok (.getfield 44, 3) := by decide +kernel
theorem dX4_send_52 : decode cX4_send 52 = .ok (.iload 7, 2) := by decide +kernel
theorem dX4_send_54 : decode cX4_send 54 = .ok (.iconst 4, 1) := by decide +kernel
theorem dX4_send_55 : decode cX4_send 55 = .ok (.iadd, 1) := by decide +kernel
theorem dX4_send_56 : decode cX4_send 56 = .ok (.iload 5, 2) := by decide +kernel
theorem dX4_send_58 : decode cX4_send 58 = .ok (.iastore, 1) := by decide +kernel
theorem dX4_send_59 : decode cX4_send 59 = .ok (.aload_n 0, 1) := by decide +kernel
theorem dX4_send_60 : decode cX4_send 60 = .ok (.getfield 44, 3) := by decide +kernel
theorem dX4_send_63 : decode cX4_send 63 = .ok (.iload 7, 2) := by decide +kernel
theorem dX4_send_65 : decode cX4_send 65 = .ok (.iconst 5, 1) := by decide +kernel
theorem dX4_send_66 : decode cX4_send 66 = .ok (.iadd, 1) := by decide +kernel
theorem dX4_send_67 : decode cX4_send 67 = .ok (.iload 6, 2) := by decide +kernel
theorem dX4_send_69 : decode cX4_send 69 = .ok (.iastore, 1) := by decide +kernel
theorem dX4_send_70 : decode cX4_send 70 = .ok (.aload_n 0, 1) := by decide +kernel
theorem dX4_send_71 : decode cX4_send 71 = .ok (.dup, 1) := by decide +kernel
theorem dX4_send_72 : decode cX4_send 72 = .ok (.getfield 50, 3) := by decide +kernel
theorem dX4_send_75 : decode cX4_send 75 = .ok (.iconst 1, 1) := by decide +kernel
theorem dX4_send_76 : decode cX4_send 76 = .ok (.iadd, 1) := by decide +kernel
theorem dX4_send_77 : decode cX4_send 77 = .ok (.putfield 50, 3) := by decide +kernel
theorem dX4_send_80 : decode cX4_send 80 = .ok (.return_, 1) := by decide +kernel
set_option maxRecDepth 20000 in
theorem ggX4_sendAll_X4_send : GoodIn wsX4_sendAll wsX4_send := goodIn_r _ [6, 7, 8, 9, 10, 11, 12, 13, 14, 15, 16, 17, 18, 19, 20, 21, 22, 23, 24] (by decide +kernel) (by decide +kernel)
set_option maxRecDepth 20000 in
theorem gX4_sendAll_X4_send : GoodIn wsX4_sendAll (wsV RX4 54 RX4 yX4_send wsX4_send) := goodIn_app (goodIn_of _ (by decide +kernel)) ggX4_sendAll_X4_send
theorem dX4_sendAll_0 : decode cX4_sendAll 0 = .ok (.iconst 0, 1) := by decide +kernel
theorem dX4_sendAll_1 : decode cX4_sendAll 1 = .ok (.istore 5, 2) := by decide +kernel
theorem dX4_sendAll_3 : decode cX4_sendAll 3 = .ok (.iload 5, 2) := by decide +kernel
theorem dX4_sendAll_5 : decode cX4_sendAll 5 = .ok (.iconst 5, 1) := by decide +kernel
theorem dX4_sendAll_6 : decode cX4_sendAll 6 = .ok (.if_icmp .ge 26, 3) := by decide +kernel
theorem dX4_sendAll_9 : decode cX4_sendAll 9 = .ok (.aload_n 0, 1) := by decide +kernel
theorem dX4_sendAll_10 : decode cX4_sendAll 10 = .ok (.iload_n 1, 1) := by decide +kernel
theorem dX4_sendAll_11 : decode cX4_sendAll 11 = .ok (.iload_n 2, 1) := by decide +kernel
theorem dX4_sendAll_12 : decode cX4_sendAll 12 = .ok (.iload 5, 2) := by decide +kernel
theorem dX4_sendAll_14 : decode cX4_sendAll 14 = .ok (.aload_n 0, 1) := by decide +kernel
theorem dX4_sendAll_15 : decode cX4_sendAll 15 = .ok (.getfield 23, 3) := by decide +kernel
theorem dX4_sendAll_18 : decode cX4_sendAll 18 = .ok (.iload_n 2, 1) := by decide +kernel
theorem dX4_sendAll_19 : decode cX4_sendAll 19 = .ok (.iaload, 1) := by decide +kernel
theorem dX4_sendAll_20 : decode cX4_sendAll 20 = .ok (.iload_n 3, 1) := by decide +kernel
theorem dX4_sendAll_21 : decode cX4_sendAll 21 = .ok (.iload 4, 2) := by decide +kernel
theorem dX4_sendAll_23 : decode cX4_sendAll 23 = .ok (.invokevirtual 54, 3) := by decide +kernel
theorem dX4_sendAll_26 : decode cX4_sendAll 26 = .ok (.iinc 5 1, 3) := by decide +kernel
theorem dX4_sendAll_29 : decode cX4_sendAll 29 = .ok (.goto (-26), 3) := by decide +kernel
theorem dX4_sendAll_32 : decode cX4_sendAll 32 = .ok (.return_, 1) := by decide +kernel
set_option maxRecDepth 20000 in
theorem ggX4_begin_X4_within : GoodIn wsX4_begin wsX4_within := goodIn_r _ [12] (by decide +kernel) (by decide +kernel)
set_option maxRecDepth 20000 in
theorem gX4_begin_X4_within : GoodIn wsX4_begin (va_wsS RX4 58 yX4_within wsX4_within) := goodIn_app (goodIn_of _ (by decide +kernel)) ggX4_begin_X4_within
set_option maxRecDepth 20000 in
theorem ggX4_begin_X4_sendAll : GoodIn wsX4_begin wsX4_sendAll := goodIn_r _ [16, 3, 17, 18, 19, 11, 20, 2, 21, 22, 23, 24, 25, 26, 27, 28, 29, 30, 31, 32, 33, 34, 35, 36, 37] (by decide +kernel) (by decide +kernel)
set_option maxRecDepth 20000 in
theorem gX4_begin_X4_sendAll : GoodIn wsX4_begin (wsV RX4 62 RX4 yX4_sendAll wsX4_sendAll) := goodIn_app (goodIn_of _ (by decide +kernel)) ggX4_begin_X4_sendAll
theorem dX4_begin_0 : decode cX4_begin 0 = .ok (.iload_n 1, 1) := by decide +kernel
theorem dX4_begin_1 : decode cX4_begin 1 = .ok (.iconst 0, 1) := by decide +kernel
theorem dX4_begin_2 : decode cX4_begin 2 = .ok (.iconst 2, 1) := by decide +kernel
theorem dX4_begin_3 : decode cX4_begin 3 = .ok (.invokestatic 58, 3) := by decide +kernel
theorem dX4_begin_6 : decode cX4_begin 6 = .ok (.ifCond .ne 5, 3) := by decide +kernel
theorem dX4_begin_9 : decode cX4_begin 9 = .ok (.iconst (-1), 1) := by decide +kernel
theorem dX4_begin_10 : decode cX4_begin 10 = .ok (.ireturn, 1) := by decide +kernel
theorem dX4_begin_11 : decode cX4_begin 11 = .ok (.aload_n 0, 1) := by decide +kernel
theorem dX4_begin_12 : decode cX4_begin 12 = .ok (.getfield 20, 3) := by decide +kernel
theorem dX4_begin_15 : decode cX4_begin 15 = .ok (.iload_n 1, 1) := by decide +kernel
theorem dX4_begin_16 : decode cX4_begin 16 = .ok (.iaload, 1) := by decide +kernel
theorem dX4_begin_17 : decode cX4_begin 17 = .ok (.ifCond .eq 6, 3) := by decide +kernel
theorem dX4_begin_20 : decode cX4_begin 20 = .ok (.bipush (-2), 2) := by decide +kernel
theorem dX4_begin_22 : decode cX4_begin 22 = .ok (.ireturn, 1) := by decide +kernel
theorem dX4_begin_23 : decode cX4_begin 23 = .ok (.aload_n 0, 1) := by decide +kernel
theorem dX4_begin_24 : decode cX4_begin 24 = .ok (.getfield 50, 3) := by decide +kernel
theorem dX4_begin_27 : decode cX4_begin 27 = .ok (.bipush 60, 2) := by decide +kernel
theorem dX4_begin_29 : decode cX4_begin 29 = .ok (.if_icmp .le 6, 3) := by decide +kernel
theorem dX4_begin_32 : decode cX4_begin 32 = .ok (.bipush (-3), 2) := by decide +kernel
theorem dX4_begin_34 : decode cX4_begin 34 = .ok (.ireturn, 1) := by decide +kernel
theorem dX4_begin_35 : decode cX4_begin 35 = .ok (.aload_n 0, 1) := by decide +kernel
theorem dX4_begin_36 : decode cX4_begin 36 = .ok (.getfield 23, 3) := by decide +kernel
theorem dX4_begin_39 : decode cX4_begin 39 = .ok (.iload_n 1, 1) := by decide +kernel
theorem dX4_begin_40 : decode cX4_begin 40 = .ok (.dup2, 1) := by decide +kernel
theorem dX4_begin_41 : decode cX4_begin 41 = .ok (.iaload, 1) := by decide +kernel
theorem dX4_begin_42 : decode cX4_begin 42 = .ok (.iconst 1, 1) := by decide +kernel
theorem dX4_begin_43 : decode cX4_begin 43 = .ok (.iadd, 1) := by decide +kernel
theorem dX4_begin_44 : decode cX4_begin 44 = .ok (.iastore, 1) := by decide +kernel
theorem dX4_begin_45 : decode cX4_begin 45 = .ok (.aload_n 0, 1) := by decide +kernel
theorem dX4_begin_46 : decode cX4_begin 46 = .ok (.getfield 20, 3) := by decide +kernel
theorem dX4_begin_49 : decode cX4_begin 49 = .ok (.iload_n 1, 1) := by decide +kernel
theorem dX4_begin_50 : decode cX4_begin 50 = .ok (.iconst 1, 1) := by decide +kernel
theorem dX4_begin_51 : decode cX4_begin 51 = .ok (.iastore, 1) := by decide +kernel
theorem dX4_begin_52 : decode cX4_begin 52 = .ok (.aload_n 0, 1) := by decide +kernel
theorem dX4_begin_53 : decode cX4_begin 53 = .ok (.getfield 26, 3) := by decide +kernel
theorem dX4_begin_56 : decode cX4_begin 56 = .ok (.iload_n 1, 1) := by decide +kernel
theorem dX4_begin_57 : decode cX4_begin 57 = .ok (.iload_n 2, 1) := by decide +kernel
theorem dX4_begin_58 : decode cX4_begin 58 = .ok (.bastore, 1) := by decide +kernel
theorem dX4_begin_59 : decode cX4_begin 59 = .ok (.aload_n 0, 1) := by decide +kernel
theorem dX4_begin_60 : decode cX4_begin 60 = .ok (.getfield 29, 3) := by decide +kernel
theorem dX4_begin_63 : decode cX4_begin 63 = .ok (.iload_n 1, 1) := by decide +kernel
theorem dX4_begin_64 : decode cX4_begin 64 = .ok (.iload_n 3, 1) := by decide +kernel
theorem dX4_begin_65 : decode cX4_begin 65 = .ok (.iastore, 1) := by decide +kernel
theorem dX4_begin_66 : decode cX4_begin 66 = .ok (.aload_n 0, 1) := by decide +kernel
theorem dX4_begin_67 : decode cX4_begin 67 = .ok (.getfield 32, 3) := by decide +kernel
theorem dX4_begin_70 : decode cX4_begin 70 = .ok (.iload_n 1, 1) := by decide +kernel
theorem dX4_begin_71 : decode cX4_begin 71 = .ok (.iconst 0, 1) := by decide +kernel
theorem dX4_begin_72 : decode cX4_begin 72 = .ok (.iastore, 1) := by decide +kernel
theorem dX4_begin_73 : decode cX4_begin 73 = .ok (.aload_n 0, 1) := by decide +kernel
theorem dX4_begin_74 : decode cX4_begin 74 = .ok (.getfield 35, 3) := by decide +kernel
theorem dX4_begin_77 : decode cX4_begin 77 = .ok (.iload_n 1, 1) := by decide +kernel
theorem dX4_begin_78 : decode cX4_begin 78 = .ok (.iconst 0, 1) := by decide +kernel
theorem dX4_begin_79 : decode cX4_begin 79 = .ok (.iastore, 1) := by decide +kernel
end
section
theorem dX4_begin_80 : decode cX4_begin 80 = .ok (.aload_n 0, 1) := by decide +kernel
theorem dX4_begin_81 : decode cX4_begin 81 = .ok (.getfield 38, 3) := by decide +kernel
theorem dX4_begin_84 : decode cX4_begin 84 = .ok (.iload_n 1, 1) := by decide +kernel
theorem dX4_begin_85 : decode cX4_begin 85 = .ok (.iconst 0, 1) := by decide +kernel
theorem dX4_begin_86 : decode cX4_begin 86 = .ok (.iastore, 1) := by decide +kernel
theorem dX4_begin_87 : decode cX4_begin 87 = .ok (.aload_n 0, 1) := by decide +kernel
theorem dX4_begin_88 : decode cX4_begin 88 = .ok (.iconst 0, 1) := by decide +kernel
theorem dX4_begin_89 : decode cX4_begin 89 = .ok (.iload_n 1, 1) := by decide +kernel
theorem dX4_begin_90 : decode cX4_begin 90 = .ok (.iconst 0, 1) := by decide +kernel
theorem dX4_begin_91 : decode cX4_begin 91 = .ok (.iconst 0, 1) := by decide +kernel
theorem dX4_begin_92 : decode cX4_begin 92 = .ok (.invokevirtual 62, 3) := by decide +kernel
theorem dX4_begin_95 : decode cX4_begin 95 = .ok (.aload_n 0, 1) := by decide +kernel
theorem dX4_begin_96 : decode cX4_begin 96 = .ok (.getfield 23, 3) := by decide +kernel
theorem dX4_begin_99 : decode cX4_begin 99 = .ok (.iload_n 1, 1) := by decide +kernel
theorem dX4_begin_100 : decode cX4_begin 100 = .ok (.iaload, 1) := by decide +kernel
theorem dX4_begin_101 : decode cX4_begin 101 = .ok (.ireturn, 1) := by decide +kernel
set_option maxRecDepth 20000 in
theorem ggX4_write_X4_begin : GoodIn wsX4_write wsX4_begin := goodIn_r _ [5, 6, 7, 8, 9, 10, 11, 12, 13, 14, 15, 4, 16, 17, 18, 19, 20, 21, 22, 23, 24, 25, 26, 27, 28, 29, 30, 31, 32, 33, 34, 35, 36, 37, 38, 39, 40, 41] (by decide +kernel) (by decide +kernel)
set_option maxRecDepth 20000 in
theorem gX4_write_X4_begin : GoodIn wsX4_write (wsV RX4 66 RX4 yX4_begin wsX4_begin) := goodIn_app (goodIn_of _ (by decide +kernel)) ggX4_write_X4_begin
theorem dX4_write_0 : decode cX4_write 0 = .ok (.aload_n 0, 1) := by decide +kernel
theorem dX4_write_1 : decode cX4_write 1 = .ok (.iload_n 1, 1) := by decide +kernel
theorem dX4_write_2 : decode cX4_write 2 = .ok (.iconst 1, 1) := by decide +kernel
theorem dX4_write_3 : decode cX4_write 3 = .ok (.iload_n 2, 1) := by decide +kernel
theorem dX4_write_4 : decode cX4_write 4 = .ok (.invokevirtual 66, 3) := by decide +kernel
theorem dX4_write_7 : decode cX4_write 7 = .ok (.ireturn, 1) := by decide +kernel
set_option maxRecDepth 20000 in
theorem ggX4_read_X4_begin : GoodIn wsX4_read wsX4_begin := goodIn_r _ [5, 6, 7, 8, 9, 10, 11, 12, 13, 14, 15, 4, 16, 17, 18, 19, 20, 21, 22, 23, 24, 25, 26, 27, 28, 29, 30, 31, 32, 33, 34, 35, 36, 37, 38, 39, 40, 41] (by decide +kernel) (by decide +kernel)
set_option maxRecDepth 20000 in
theorem gX4_read_X4_begin : GoodIn wsX4_read (wsV RX4 66 RX4 yX4_begin wsX4_begin) := goodIn_app (goodIn_of _ (by decide +kernel)) ggX4_read_X4_begin
theorem dX4_read_0 : decode cX4_read 0 = .ok (.aload_n 0, 1) := by decide +kernel
theorem dX4_read_1 : decode cX4_read 1 = .ok (.iload_n 1, 1) := by decide +kernel
theorem dX4_read_2 : decode cX4_read 2 = .ok (.iconst 0, 1) := by decide +kernel
theorem dX4_read_3 : decode cX4_read 3 = .ok (.iconst 0, 1) := by decide +kernel
theorem dX4_read_4 : decode cX4_read 4 = .ok (.invokevirtual 66, 3) := by decide +kernel
theorem dX4_read_7 : decode cX4_read 7 = .ok (.ireturn, 1) := by decide +kernel
set_option maxRecDepth 20000 in
theorem ggX4_leave_X4_within : GoodIn wsX4_leave wsX4_within := goodIn_r _ [5] (by decide +kernel) (by decide +kernel)
set_option maxRecDepth 20000 in
theorem gX4_leave_X4_within : GoodIn wsX4_leave (va_wsS RX4 58 yX4_within wsX4_within) := goodIn_app (goodIn_of _ (by decide +kernel)) ggX4_leave_X4_within
theorem dX4_leave_0 : decode cX4_leave 0 = .ok (.iload_n 1, 1) := by decide +kernel
theorem dX4_leave_1 : decode cX4_leave 1 = .ok (.iconst 0, 1) := by decide +kernel
theorem dX4_leave_2 : decode cX4_leave 2 = .ok (.iconst 2, 1) := by decide +kernel
theorem dX4_leave_3 : decode cX4_leave 3 = .ok (.invokestatic 58, 3) := by decide +kernel
theorem dX4_leave_6 : decode cX4_leave 6 = .ok (.ifCond .eq 12, 3) := by decide +kernel
theorem dX4_leave_9 : decode cX4_leave 9 = .ok (.aload_n 0, 1) := by decide +kernel
theorem dX4_leave_10 : decode cX4_leave 10 = .ok (.getfield 20, 3) := by decide +kernel
theorem dX4_leave_13 : decode cX4_leave 13 = .ok (.iload_n 1, 1) := by decide +kernel
theorem dX4_leave_14 : decode cX4_leave 14 = .ok (.iaload, 1) := by decide +kernel
theorem dX4_leave_15 : decode cX4_leave 15 = .ok (.ifCond .ne 5, 3) := by decide +kernel
theorem dX4_leave_18 : decode cX4_leave 18 = .ok (.iconst 0, 1) := by decide +kernel
theorem dX4_leave_19 : decode cX4_leave 19 = .ok (.ireturn, 1) := by decide +kernel
theorem dX4_leave_20 : decode cX4_leave 20 = .ok (.aload_n 0, 1) := by decide +kernel
theorem dX4_leave_21 : decode cX4_leave 21 = .ok (.getfield 20, 3) := by decide +kernel
theorem dX4_leave_24 : decode cX4_leave 24 = .ok (.iload_n 1, 1) := by decide +kernel
theorem dX4_leave_25 : decode cX4_leave 25 = .ok (.iconst 0, 1) := by decide +kernel
theorem dX4_leave_26 : decode cX4_leave 26 = .ok (.iastore, 1) := by decide +kernel
theorem dX4_leave_27 : decode cX4_leave 27 = .ok (.iconst 1, 1) := by decide +kernel
theorem dX4_leave_28 : decode cX4_leave 28 = .ok (.ireturn, 1) := by decide +kernel
theorem dX4_drop_0 : decode cX4_drop 0 = .ok (.aload_n 0, 1) := by decide +kernel
theorem dX4_drop_1 : decode cX4_drop 1 = .ok (.dup, 1) := by decide +kernel
theorem dX4_drop_2 : decode cX4_drop 2 = .ok (.getfield 50, 3) := by decide +kernel
theorem dX4_drop_5 : decode cX4_drop 5 = .ok (.iconst 1, 1) := by decide +kernel
theorem dX4_drop_6 : decode cX4_drop 6 = .ok (.isub, 1) := by decide +kernel
theorem dX4_drop_7 : decode cX4_drop 7 = .ok (.putfield 50, 3) := by decide +kernel
theorem dX4_drop_10 : decode cX4_drop 10 = .ok (.bipush 6, 2) := by decide +kernel
theorem dX4_drop_12 : decode cX4_drop 12 = .ok (.iload_n 1, 1) := by decide +kernel
theorem dX4_drop_13 : decode cX4_drop 13 = .ok (.imul, 1) := by decide +kernel
theorem dX4_drop_14 : decode cX4_drop 14 = .ok (.istore_n 2, 1) := by decide +kernel
theorem dX4_drop_15 : decode cX4_drop 15 = .ok (.iload_n 2, 1) := by decide +kernel
theorem dX4_drop_16 : decode cX4_drop 16 = .ok (.bipush 6, 2) := by decide +kernel
theorem dX4_drop_18 : decode cX4_drop 18 = .ok (.aload_n 0, 1) := by decide +kernel
theorem dX4_drop_19 : decode cX4_drop 19 = .ok (.getfield 50, 3) := by decide +kernel
theorem dX4_drop_22 : decode cX4_drop 22 = .ok (.imul, 1) := by decide +kernel
theorem dX4_drop_23 : decode cX4_drop 23 = .ok (.if_icmp .ge 24, 3) := by decide +kernel
theorem dX4_drop_26 : decode cX4_drop 26 = .ok (.aload_n 0, 1) := by decide +kernel
theorem dX4_drop_27 : decode cX4_drop 27 = .ok (.getfield 44, 3) := by decide +kernel
theorem dX4_drop_30 : decode cX4_drop 30 = .ok (.iload_n 2, 1) := by decide +kernel
theorem dX4_drop_31 : decode cX4_drop 31 = .ok (.aload_n 0, 1) := by decide +kernel
theorem dX4_drop_32 : decode cX4_drop 32 = .ok (.getfield 44, 3) := by decide +kernel
theorem dX4_drop_35 : decode cX4_drop 35 = .ok (.iload_n 2, 1) := by decide +kernel
theorem dX4_drop_36 : decode cX4_drop 36 = .ok (.bipush 6, 2) := by decide +kernel
theorem dX4_drop_38 : decode cX4_drop 38 = .ok (.iadd, 1) := by decide +kernel
theorem dX4_drop_39 : decode cX4_drop 39 = .ok (.iaload, 1) := by decide +kernel
theorem dX4_drop_40 : decode cX4_drop 40 = .ok (.iastore, 1) := by decide +kernel
theorem dX4_drop_41 : decode cX4_drop 41 = .ok (.iinc 2 1, 3) := by decide +kernel
theorem dX4_drop_44 : decode cX4_drop 44 = .ok (.goto (-29), 3) := by decide +kernel
theorem dX4_drop_47 : decode cX4_drop 47 = .ok (.return_, 1) := by decide +kernel
theorem dX4_bits_0 : decode cX4_bits 0 = .ok (.iconst 0, 1) := by decide +kernel
theorem dX4_bits_1 : decode cX4_bits 1 = .ok (.istore_n 1, 1) := by decide +kernel
theorem dX4_bits_2 : decode cX4_bits 2 = .ok (.iconst 0, 1) := by decide +kernel
theorem dX4_bits_3 : decode cX4_bits 3 = .ok (.istore_n 2, 1) := by decide +kernel
theorem dX4_bits_4 : decode cX4_bits 4 = .ok (.iload_n 2, 1) := by decide +kernel
theorem dX4_bits_5 : decode cX4_bits 5 = .ok (.iconst 5, 1) := by decide +kernel
theorem dX4_bits_6 : decode cX4_bits 6 = .ok (.if_icmp .ge 17, 3) := by decide +kernel
theorem dX4_bits_9 : decode cX4_bits 9 = .ok (.iload_n 1, 1) := by decide +kernel
theorem dX4_bits_10 : decode cX4_bits 10 = .ok (.iload_n 0, 1) := by decide +kernel
theorem dX4_bits_11 : decode cX4_bits 11 = .ok (.iload_n 2, 1) := by decide +kernel
theorem dX4_bits_12 : decode cX4_bits 12 = .ok (.ishr, 1) := by decide +kernel
theorem dX4_bits_13 : decode cX4_bits 13 = .ok (.iconst 1, 1) := by decide +kernel
theorem dX4_bits_14 : decode cX4_bits 14 = .ok (.iand, 1) := by decide +kernel
theorem dX4_bits_15 : decode cX4_bits 15 = .ok (.iadd, 1) := by decide +kernel
theorem dX4_bits_16 : decode cX4_bits 16 = .ok (.istore_n 1, 1) := by decide +kernel
theorem dX4_bits_17 : decode cX4_bits 17 = .ok (.iinc 2 1, 3) := by decide +kernel
theorem dX4_bits_20 : decode cX4_bits 20 = .ok (.goto (-16), 3) := by decide +kernel
theorem dX4_bits_23 : decode cX4_bits 23 = .ok (.iload_n 1, 1) := by decide +kernel
theorem dX4_bits_24 : decode cX4_bits 24 = .ok (.ireturn, 1) := by decide +kernel
set_option maxRecDepth 20000 in
theorem ggX4_deliver_X4_within : GoodIn wsX4_deliver wsX4_within := goodIn_r _ [19] (by decide +kernel) (by decide +kernel)
set_option maxRecDepth 20000 in
theorem gX4_deliver_X4_within : GoodIn wsX4_deliver (va_wsS RX4 58 yX4_within wsX4_within) := goodIn_app (goodIn_of _ (by decide +kernel)) ggX4_deliver_X4_within
set_option maxRecDepth 20000 in
theorem ggX4_deliver_X4_drop : GoodIn wsX4_deliver wsX4_drop := goodIn_r _ [23, 1, 2, 35, 36, 37, 38, 39, 40, 41, 42, 43, 44, 45, 46, 47, 48, 49, 50] (by decide +kernel) (by decide +kernel)
set_option maxRecDepth 20000 in
theorem gX4_deliver_X4_drop : GoodIn wsX4_deliver (wsV RX4 70 RX4 yX4_drop wsX4_drop) := goodIn_app (goodIn_of _ (by decide +kernel)) ggX4_deliver_X4_drop
set_option maxRecDepth 20000 in
theorem ggX4_deliver_X4_send : GoodIn wsX4_deliver wsX4_send := goodIn_r _ [27, 1, 2, 35, 36, 37, 38, 39, 40, 41, 42, 43, 44, 45, 46, 47, 48, 49, 50] (by decide +kernel) (by decide +kernel)
set_option maxRecDepth 20000 in
theorem gX4_deliver_X4_send : GoodIn wsX4_deliver (wsV RX4 54 RX4 yX4_send wsX4_send) := goodIn_app (goodIn_of _ (by decide +kernel)) ggX4_deliver_X4_send
set_option maxRecDepth 20000 in
theorem ggX4_deliver_X4_bits : GoodIn wsX4_deliver wsX4_bits := goodIn_r _ [30] (by decide +kernel) (by decide +kernel)
set_option maxRecDepth 20000 in
theorem gX4_deliver_X4_bits : GoodIn wsX4_deliver (va_wsS RX4 74 yX4_bits wsX4_bits) := goodIn_app (goodIn_of _ (by decide +kernel)) ggX4_deliver_X4_bits
set_option maxRecDepth 20000 in
theorem ggX4_deliver_X4_sendAll : GoodIn wsX4_deliver wsX4_sendAll := goodIn_r _ [34, 6, 24, 25, 26, 18, 27, 1, 2, 35, 36, 37, 38, 39, 40, 41, 42, 43, 44, 45, 46, 47, 48, 49, 50] (by decide +kernel) (by decide +kernel)
set_option maxRecDepth 20000 in
theorem gX4_deliver_X4_sendAll : GoodIn wsX4_deliver (wsV RX4 62 RX4 yX4_sendAll wsX4_sendAll) := goodIn_app (goodIn_of _ (by decide +kernel)) ggX4_deliver_X4_sendAll
theorem dX4_deliver_0 : decode cX4_deliver 0 = .ok (.iload_n 1, 1) := by decide +kernel
theorem dX4_deliver_1 : decode cX4_deliver 1 = .ok (.iconst 0, 1) := by decide +kernel
theorem dX4_deliver_2 : decode cX4_deliver 2 = .ok (.aload_n 0, 1) := by decide +kernel
theorem dX4_deliver_3 : decode cX4_deliver 3 = .ok (.getfield 50, 3) := by decide +kernel
theorem dX4_deliver_6 : decode cX4_deliver 6 = .ok (.iconst 1, 1) := by decide +kernel
theorem dX4_deliver_7 : decode cX4_deliver 7 = .ok (.isub, 1) := by decide +kernel
theorem dX4_deliver_8 : decode cX4_deliver 8 = .ok (.invokestatic 58, 3) := by decide +kernel
theorem dX4_deliver_11 : decode cX4_deliver 11 = .ok (.ifCond .ne 5, 3) := by decide +kernel
theorem dX4_deliver_14 : decode cX4_deliver 14 = .ok (.iconst (-1), 1) := by decide +kernel
theorem dX4_deliver_15 : decode cX4_deliver 15 = .ok (.ireturn, 1) := by decide +kernel
theorem dX4_deliver_16 : decode cX4_deliver 16 = .ok (.aload_n 0, 1) := by decide +kernel
theorem dX4_deliver_17 : decode cX4_deliver 17 = .ok (.getfield 44, 3) := by decide +kernel
theorem dX4_deliver_20 : decode cX4_deliver 20 = .ok (.bipush 6, 2) := by decide +kernel
theorem dX4_deliver_22 : decode cX4_deliver 22 = .ok (.iload_n 1, 1) := by decide +kernel
theorem dX4_deliver_23 : decode cX4_deliver 23 = .ok (.imul, 1) := by decide +kernel
theorem dX4_deliver_24 : decode cX4_deliver 24 = .ok (.iaload, 1) := by decide +kernel
theorem dX4_deliver_25 : decode cX4_deliver 25 = .ok (.istore_n 2, 1) := by decide +kernel
theorem dX4_deliver_26 : decode cX4_deliver 26 = .ok (.aload_n 0, 1) := by decide +kernel
theorem dX4_deliver_27 : decode cX4_deliver 27 = .ok (.getfield 44, 3) := by decide +kernel
theorem dX4_deliver_30 : decode cX4_deliver 30 = .ok (.bipush 6, 2) := by decide +kernel
theorem dX4_deliver_32 : decode cX4_deliver 32 = .ok (.iload_n 1, 1) := by decide +kernel
theorem dX4_deliver_33 : decode cX4_deliver 33 = .ok (.imul, 1) := by decide +kernel
theorem dX4_deliver_34 : decode cX4_deliver 34 = .ok (.iconst 1, 1) := by decide +kernel
theorem dX4_deliver_35 : decode cX4_deliver 35 = .ok (.iadd, 1) := by decide +kernel
theorem dX4_deliver_36 : decode cX4_deliver 36 = .ok (.iaload, 1) := by decide +kernel
theorem dX4_deliver_37 : decode cX4_deliver 37 = .ok (.istore_n 3, 1) := by decide +kernel
theorem dX4_deliver_38 : decode cX4_deliver 38 = .ok (.aload_n 0, 1) := by decide +kernel
theorem dX4_deliver_39 : decode cX4_deliver 39 = .ok (.getfield 44, 3) := by decide +kernel
theorem dX4_deliver_42 : decode cX4_deliver 42 = .ok (.bipush 6, 2) := by decide +kernel
theorem dX4_deliver_44 : decode cX4_deliver 44 = .ok (.iload_n 1, 1) := by decide +kernel
theorem dX4_deliver_45 : decode cX4_deliver 45 = .ok (.imul, 1) := by decide +kernel
theorem dX4_deliver_46 : decode cX4_deliver 46 = .ok (.iconst 2, 1) := by decide +kernel
theorem dX4_deliver_47 : decode cX4_deliver 47 = .ok (.iadd, 1) := by decide +kernel
theorem dX4_deliver_48 : decode cX4_deliver 48 = .ok (.iaload, 1) := by decide +kernel
theorem dX4_deliver_49 : decode cX4_deliver 49 = .ok (.istore 4, 2) := by decide +kernel
theorem dX4_deliver_51 : decode cX4_deliver 51 = .ok (.aload_n 0, 1) := by decide +kernel
theorem dX4_deliver_52 : decode cX4_deliver 52 = .ok (.getfield 44, 3) := by decide +kernel
theorem dX4_deliver_55 : decode cX4_deliver 55 = .ok (.bipush 6, 2) := by decide +kernel
theorem dX4_deliver_57 : decode cX4_deliver 57 = .ok (.iload_n 1, 1) := by decide +kernel
theorem dX4_deliver_58 : decode cX4_deliver 58 = .ok (.imul, 1) := by decide +kernel
theorem dX4_deliver_59 : decode cX4_deliver 59 = .ok (.iconst 3, 1) := by decide +kernel
theorem dX4_deliver_60 : decode cX4_deliver 60 = .ok (.iadd, 1) := by decide +kernel
theorem dX4_deliver_61 : decode cX4_deliver 61 = .ok (.iaload, 1) := by decide +kernel
theorem dX4_deliver_62 : decode cX4_deliver 62 = .ok (.istore 5, 2) := by decide +kernel
theorem dX4_deliver_64 : decode cX4_deliver 64 = .ok (.aload_n 0, 1) := by decide +kernel
theorem dX4_deliver_65 : decode cX4_deliver 65 = .ok (.getfield 44, 3) := by decide +kernel
theorem dX4_deliver_68 : decode cX4_deliver 68 = .ok (.bipush 6, 2) := by decide +kernel
theorem dX4_deliver_70 : decode cX4_deliver 70 = .ok (.iload_n 1, 1) := by decide +kernel
theorem dX4_deliver_71 : decode cX4_deliver 71 = .ok (.imul, 1) := by decide +kernel
theorem dX4_deliver_72 : decode cX4_deliver 72 = .ok (.iconst 4, 1) := by decide +kernel
theorem dX4_deliver_73 : decode cX4_deliver 73 = .ok (.iadd, 1) := by decide +kernel
theorem dX4_deliver_74 : decode cX4_deliver 74 = .ok (.iaload, 1) := by decide +kernel
theorem dX4_deliver_75 : decode cX4_deliver 75 = .ok (.istore 6, 2) := by decide +kernel
theorem dX4_deliver_77 : decode cX4_deliver 77 = .ok (.aload_n 0, 1) := by decide +kernel
theorem dX4_deliver_78 : decode cX4_deliver 78 = .ok (.getfield 44, 3) := by decide +kernel
theorem dX4_deliver_81 : decode cX4_deliver 81 = .ok (.bipush 6, 2) := by decide +kernel
theorem dX4_deliver_83 : decode cX4_deliver 83 = .ok (.iload_n 1, 1) := by decide +kernel
theorem dX4_deliver_84 : decode cX4_deliver 84 = .ok (.imul, 1) := by decide +kernel
theorem dX4_deliver_85 : decode cX4_deliver 85 = .ok (.iconst 5, 1) := by decide +kernel
theorem dX4_deliver_86 : decode cX4_deliver 86 = .ok (.iadd, 1) := by decide +kernel
theorem dX4_deliver_87 : decode cX4_deliver 87 = .ok (.iaload, 1) := by decide +kernel
theorem dX4_deliver_88 : decode cX4_deliver 88 = .ok (.istore 7, 2) := by decide +kernel
theorem dX4_deliver_90 : decode cX4_deliver 90 = .ok (.aload_n 0, 1) := by decide +kernel
theorem dX4_deliver_91 : decode cX4_deliver 91 = .ok (.iload_n 1, 1) := by decide +kernel
theorem dX4_deliver_92 : decode cX4_deliver 92 = .ok (.invokevirtual 70, 3) := by decide +kernel
theorem dX4_deliver_95 : decode cX4_deliver 95 = .ok (.aload_n 0, 1) := by decide +kernel
theorem dX4_deliver_96 : decode cX4_deliver 96 = .ok (.getfield 50, 3) := by decide +kernel
theorem dX4_deliver_99 : decode cX4_deliver 99 = .ok (.istore 8, 2) := by decide +kernel
theorem dX4_deliver_101 : decode cX4_deliver 101 = .ok (.iload_n 2, 1) := by decide +kernel
theorem dX4_deliver_102 : decode cX4_deliver 102 = .ok (.ifCond .eq 8, 3) := by decide +kernel
theorem dX4_deliver_105 : decode cX4_deliver 105 = .ok (.iload_n 2, 1) := by decide +kernel
theorem dX4_deliver_106 : decode cX4_deliver 106 = .ok (.iconst 2, 1) := by decide +kernel
theorem dX4_deliver_107 : decode cX4_deliver 107 = .ok (.if_icmp .ne 90, 3) := by decide +kernel
theorem dX4_deliver_110 : decode cX4_deliver 110 = .ok (.aload_n 0, 1) := by decide +kernel
theorem dX4_deliver_111 : decode cX4_deliver 111 = .ok (.getfield 16, 3) := by decide +kernel
theorem dX4_deliver_114 : decode cX4_deliver 114 = .ok (.iload 4, 2) := by decide +kernel
theorem dX4_deliver_116 : decode cX4_deliver 116 = .ok (.baload, 1) := by decide +kernel
theorem dX4_deliver_117 : decode cX4_deliver 117 = .ok (.ifCond .eq 5, 3) := by decide +kernel
theorem dX4_deliver_120 : decode cX4_deliver 120 = .ok (.iconst 0, 1) := by decide +kernel
theorem dX4_deliver_121 : decode cX4_deliver 121 = .ok (.ireturn, 1) := by decide +kernel
theorem dX4_deliver_122 : decode cX4_deliver 122 = .ok (.iload_n 2, 1) := by decide +kernel
theorem dX4_deliver_123 : decode cX4_deliver 123 = .ok (.ifCond .ne 30, 3) := by decide +kernel
theorem dX4_deliver_126 : decode cX4_deliver 126 = .ok (.aload_n 0, 1) := by decide +kernel
theorem dX4_deliver_127 : decode cX4_deliver 127 = .ok (.iconst 1, 1) := by decide +kernel
theorem dX4_deliver_128 : decode cX4_deliver 128 = .ok (.iload_n 3, 1) := by decide +kernel
theorem dX4_deliver_129 : decode cX4_deliver 129 = .ok (.iload 4, 2) := by decide +kernel
theorem dX4_deliver_131 : decode cX4_deliver 131 = .ok (.iload 5, 2) := by decide +kernel
theorem dX4_deliver_133 : decode cX4_deliver 133 = .ok (.aload_n 0, 1) := by decide +kernel
theorem dX4_deliver_134 : decode cX4_deliver 134 = .ok (.getfield 7, 3) := by decide +kernel
theorem dX4_deliver_137 : decode cX4_deliver 137 = .ok (.iload 4, 2) := by decide +kernel
theorem dX4_deliver_139 : decode cX4_deliver 139 = .ok (.iaload, 1) := by decide +kernel
theorem dX4_deliver_140 : decode cX4_deliver 140 = .ok (.aload_n 0, 1) := by decide +kernel
theorem dX4_deliver_141 : decode cX4_deliver 141 = .ok (.getfield 13, 3) := by decide +kernel
theorem dX4_deliver_144 : decode cX4_deliver 144 = .ok (.iload 4, 2) := by decide +kernel
theorem dX4_deliver_146 : decode cX4_deliver 146 = .ok (.iaload, 1) := by decide +kernel
theorem dX4_deliver_147 : decode cX4_deliver 147 = .ok (.invokevirtual 54, 3) := by decide +kernel
theorem dX4_deliver_150 : decode cX4_deliver 150 = .ok (.goto 45, 3) := by decide +kernel
theorem dX4_deliver_153 : decode cX4_deliver 153 = .ok (.iload 6, 2) := by decide +kernel
theorem dX4_deliver_155 : decode cX4_deliver 155 = .ok (.aload_n 0, 1) := by decide +kernel
theorem dX4_deliver_156 : decode cX4_deliver 156 = .ok (.getfield 7, 3) := by decide +kernel
theorem dX4_deliver_159 : decode cX4_deliver 159 = .ok (.iload 4, 2) := by decide +kernel
theorem dX4_deliver_161 : decode cX4_deliver 161 = .ok (.iaload, 1) := by decide +kernel
theorem dX4_deliver_162 : decode cX4_deliver 162 = .ok (.if_icmp .le 21, 3) := by decide +kernel
theorem dX4_deliver_165 : decode cX4_deliver 165 = .ok (.aload_n 0, 1) := by decide +kernel
theorem dX4_deliver_166 : decode cX4_deliver 166 = .ok (.getfield 7, 3) := by decide +kernel
theorem dX4_deliver_169 : decode cX4_deliver 169 = .ok (.iload 4, 2) := by decide +kernel
theorem dX4_deliver_171 : decode cX4_deliver 171 = .ok (.iload 6, 2) := by decide +kernel
theorem dX4_deliver_173 : decode cX4_deliver 173 = .ok (.iastore, 1) := by decide +kernel
theorem dX4_deliver_174 : decode cX4_deliver 174 = .ok (.aload_n 0, 1) := by decide +kernel
theorem dX4_deliver_175 : decode cX4_deliver 175 = .ok (.getfield 13, 3) := by decide +kernel
theorem dX4_deliver_178 : decode cX4_deliver 178 = .ok (.iload 4, 2) := by decide +kernel
theorem dX4_deliver_180 : decode cX4_deliver 180 = .ok (.iload 7, 2) := by decide +kernel
theorem dX4_deliver_182 : decode cX4_deliver 182 = .ok (.iastore, 1) := by decide +kernel
theorem dX4_deliver_183 : decode cX4_deliver 183 = .ok (.aload_n 0, 1) := by decide +kernel
theorem dX4_deliver_184 : decode cX4_deliver 184 = .ok (.iconst 3, 1) := by decide +kernel
theorem dX4_deliver_185 : decode cX4_deliver 185 = .ok (.iload_n 3, 1) := by decide +kernel
theorem dX4_deliver_186 : decode cX4_deliver 186 = .ok (.iload 4, 2) := by decide +kernel
theorem dX4_deliver_188 : decode cX4_deliver 188 = .ok (.iload 5, 2) := by decide +kernel
theorem dX4_deliver_190 : decode cX4_deliver 190 = .ok (.iconst 0, 1) := by decide +kernel
theorem dX4_deliver_191 : decode cX4_deliver 191 = .ok (.iconst 0, 1) := by decide +kernel
theorem dX4_deliver_192 : decode cX4_deliver 192 = .ok (.invokevirtual 54, 3) := by decide +kernel
theorem dX4_deliver_195 : decode cX4_deliver 195 = .ok (.iconst 1, 1) := by decide +kernel
theorem dX4_deliver_196 : decode cX4_deliver 196 = .ok (.ireturn, 1) := by decide +kernel
theorem dX4_deliver_197 : decode cX4_deliver 197 = .ok (.aload_n 0, 1) := by decide +kernel
theorem dX4_deliver_198 : decode cX4_deliver 198 = .ok (.getfield 23, 3) := by decide +kernel
theorem dX4_deliver_201 : decode cX4_deliver 201 = .ok (.iload_n 3, 1) := by decide +kernel
theorem dX4_deliver_202 : decode cX4_deliver 202 = .ok (.iaload, 1) := by decide +kernel
theorem dX4_deliver_203 : decode cX4_deliver 203 = .ok (.iload 5, 2) := by decide +kernel
theorem dX4_deliver_205 : decode cX4_deliver 205 = .ok (.if_icmp .ne 37, 3) := by decide +kernel
theorem dX4_deliver_208 : decode cX4_deliver 208 = .ok (.aload_n 0, 1) := by decide +kernel
theorem dX4_deliver_209 : decode cX4_deliver 209 = .ok (.getfield 20, 3) := by decide +kernel
theorem dX4_deliver_212 : decode cX4_deliver 212 = .ok (.iload_n 3, 1) := by decide +kernel
theorem dX4_deliver_213 : decode cX4_deliver 213 = .ok (.iaload, 1) := by decide +kernel
theorem dX4_deliver_214 : decode cX4_deliver 214 = .ok (.iload_n 2, 1) := by decide +kernel
theorem dX4_deliver_215 : decode cX4_deliver 215 = .ok (.iconst 1, 1) := by decide +kernel
theorem dX4_deliver_216 : decode cX4_deliver 216 = .ok (.if_icmp .ne 7, 3) := by decide +kernel
theorem dX4_deliver_219 : decode cX4_deliver 219 = .ok (.iconst 1, 1) := by decide +kernel
theorem dX4_deliver_220 : decode cX4_deliver 220 = .ok (.goto 4, 3) := by decide +kernel
theorem dX4_deliver_223 : decode cX4_deliver 223 = .ok (.iconst 2, 1) := by decide +kernel
theorem dX4_deliver_224 : decode cX4_deliver 224 = .ok (.if_icmp .ne 18, 3) := by decide +kernel
theorem dX4_deliver_227 : decode cX4_deliver 227 = .ok (.aload_n 0, 1) := by decide +kernel
theorem dX4_deliver_228 : decode cX4_deliver 228 = .ok (.getfield 32, 3) := by decide +kernel
theorem dX4_deliver_231 : decode cX4_deliver 231 = .ok (.iload_n 3, 1) := by decide +kernel
theorem dX4_deliver_232 : decode cX4_deliver 232 = .ok (.iaload, 1) := by decide +kernel
theorem dX4_deliver_233 : decode cX4_deliver 233 = .ok (.iload 4, 2) := by decide +kernel
theorem dX4_deliver_235 : decode cX4_deliver 235 = .ok (.ishr, 1) := by decide +kernel
theorem dX4_deliver_236 : decode cX4_deliver 236 = .ok (.iconst 1, 1) := by decide +kernel
theorem dX4_deliver_237 : decode cX4_deliver 237 = .ok (.iand, 1) := by decide +kernel
theorem dX4_deliver_238 : decode cX4_deliver 238 = .ok (.iconst 1, 1) := by decide +kernel
theorem dX4_deliver_239 : decode cX4_deliver 239 = .ok (.if_icmp .ne 5, 3) := by decide +kernel
theorem dX4_deliver_242 : decode cX4_deliver 242 = .ok (.iconst 0, 1) := by decide +kernel
theorem dX4_deliver_243 : decode cX4_deliver 243 = .ok (.ireturn, 1) := by decide +kernel
theorem dX4_deliver_244 : decode cX4_deliver 244 = .ok (.aload_n 0, 1) := by decide +kernel
theorem dX4_deliver_245 : decode cX4_deliver 245 = .ok (.getfield 32, 3) := by decide +kernel
theorem dX4_deliver_248 : decode cX4_deliver 248 = .ok (.iload_n 3, 1) := by decide +kernel
theorem dX4_deliver_249 : decode cX4_deliver 249 = .ok (.aload_n 0, 1) := by decide +kernel
theorem dX4_deliver_250 : decode cX4_deliver 250 = .ok (.getfield 32, 3) := by decide +kernel
theorem dX4_deliver_253 : decode cX4_deliver 253 = .ok (.iload_n 3, 1) := by decide +kernel
theorem dX4_deliver_254 : decode cX4_deliver 254 = .ok (.iaload, 1) := by decide +kernel
theorem dX4_deliver_255 : decode cX4_deliver 255 = .ok (.iconst 1, 1) := by decide +kernel
theorem dX4_deliver_256 : decode cX4_deliver 256 = .ok (.iload 4, 2) := by decide +kernel
theorem dX4_deliver_258 : decode cX4_deliver 258 = .ok (.ishl, 1) := by decide +kernel
theorem dX4_deliver_259 : decode cX4_deliver 259 = .ok (.ior, 1) := by decide +kernel
theorem dX4_deliver_260 : decode cX4_deliver 260 = .ok (.iastore, 1) := by decide +kernel
theorem dX4_deliver_261 : decode cX4_deliver 261 = .ok (.iload_n 2, 1) := by decide +kernel
theorem dX4_deliver_262 : decode cX4_deliver 262 = .ok (.iconst 1, 1) := by decide +kernel
theorem dX4_deliver_263 : decode cX4_deliver 263 = .ok (.if_icmp .ne 30, 3) := by decide +kernel
theorem dX4_deliver_266 : decode cX4_deliver 266 = .ok (.iload 6, 2) := by decide +kernel
theorem dX4_deliver_268 : decode cX4_deliver 268 = .ok (.aload_n 0, 1) := by decide +kernel
theorem dX4_deliver_269 : decode cX4_deliver 269 = .ok (.getfield 35, 3) := by decide +kernel
theorem dX4_deliver_272 : decode cX4_deliver 272 = .ok (.iload_n 3, 1) := by decide +kernel
theorem dX4_deliver_273 : decode cX4_deliver 273 = .ok (.iaload, 1) := by decide +kernel
theorem dX4_deliver_274 : decode cX4_deliver 274 = .ok (.if_icmp .le 19, 3) := by decide +kernel
theorem dX4_deliver_277 : decode cX4_deliver 277 = .ok (.aload_n 0, 1) := by decide +kernel
theorem dX4_deliver_278 : decode cX4_deliver 278 = .ok (.getfield 35, 3) := by decide +kernel
theorem dX4_deliver_281 : decode cX4_deliver 281 = .ok (.iload_n 3, 1) := by decide +kernel
theorem dX4_deliver_282 : decode cX4_deliver 282 = .ok (.iload 6, 2) := by decide +kernel
theorem dX4_deliver_284 : decode cX4_deliver 284 = .ok (.iastore, 1) := by decide +kernel
theorem dX4_deliver_285 : decode cX4_deliver 285 = .ok (.aload_n 0, 1) := by decide +kernel
theorem dX4_deliver_286 : decode cX4_deliver 286 = .ok (.getfield 38, 3) := by decide +kernel
theorem dX4_deliver_289 : decode cX4_deliver 289 = .ok (.iload_n 3, 1) := by decide +kernel
theorem dX4_deliver_290 : decode cX4_deliver 290 = .ok (.iload 7, 2) := by decide +kernel
theorem dX4_deliver_292 : decode cX4_deliver 292 = .ok (.iastore, 1) := by decide +kernel
theorem dX4_deliver_293 : decode cX4_deliver 293 = .ok (.aload_n 0, 1) := by decide +kernel
theorem dX4_deliver_294 : decode cX4_deliver 294 = .ok (.getfield 32, 3) := by decide +kernel
theorem dX4_deliver_297 : decode cX4_deliver 297 = .ok (.iload_n 3, 1) := by decide +kernel
theorem dX4_deliver_298 : decode cX4_deliver 298 = .ok (.iaload, 1) := by decide +kernel
theorem dX4_deliver_299 : decode cX4_deliver 299 = .ok (.invokestatic 74, 3) := by decide +kernel
theorem dX4_deliver_302 : decode cX4_deliver 302 = .ok (.iconst 3, 1) := by decide +kernel
theorem dX4_deliver_303 : decode cX4_deliver 303 = .ok (.if_icmp .ge 5, 3) := by decide +kernel
theorem dX4_deliver_306 : decode cX4_deliver 306 = .ok (.iconst 0, 1) := by decide +kernel
theorem dX4_deliver_307 : decode cX4_deliver 307 = .ok (.ireturn, 1) := by decide +kernel
theorem dX4_deliver_308 : decode cX4_deliver 308 = .ok (.iload_n 2, 1) := by decide +kernel
theorem dX4_deliver_309 : decode cX4_deliver 309 = .ok (.iconst 1, 1) := by decide +kernel
theorem dX4_deliver_310 : decode cX4_deliver 310 = .ok (.if_icmp .ne 121, 3) := by decide +kernel
theorem dX4_deliver_313 : decode cX4_deliver 313 = .ok (.aload_n 0, 1) := by decide +kernel
theorem dX4_deliver_314 : decode cX4_deliver 314 = .ok (.getfield 26, 3) := by decide +kernel
theorem dX4_deliver_317 : decode cX4_deliver 317 = .ok (.iload_n 3, 1) := by decide +kernel
theorem dX4_deliver_318 : decode cX4_deliver 318 = .ok (.baload, 1) := by decide +kernel
theorem dX4_deliver_319 : decode cX4_deliver 319 = .ok (.ifCond .eq 77, 3) := by decide +kernel
theorem dX4_deliver_322 : decode cX4_deliver 322 = .ok (.aload_n 0, 1) := by decide +kernel
theorem dX4_deliver_323 : decode cX4_deliver 323 = .ok (.getfield 35, 3) := by decide +kernel
theorem dX4_deliver_326 : decode cX4_deliver 326 = .ok (.iload_n 3, 1) := by decide +kernel
theorem dX4_deliver_327 : decode cX4_deliver 327 = .ok (.iaload, 1) := by decide +kernel
theorem dX4_deliver_328 : decode cX4_deliver 328 = .ok (.iconst 4, 1) := by decide +kernel
theorem dX4_deliver_329 : decode cX4_deliver 329 = .ok (.idiv, 1) := by decide +kernel
theorem dX4_deliver_330 : decode cX4_deliver 330 = .ok (.aload_n 0, 1) := by decide +kernel
theorem dX4_deliver_331 : decode cX4_deliver 331 = .ok (.getfield 41, 3) := by decide +kernel
theorem dX4_deliver_334 : decode cX4_deliver 334 = .ok (.iload_n 3, 1) := by decide +kernel
theorem dX4_deliver_335 : decode cX4_deliver 335 = .ok (.iaload, 1) := by decide +kernel
theorem dX4_deliver_336 : decode cX4_deliver 336 = .ok (.if_icmp .le 14, 3) := by decide +kernel
theorem dX4_deliver_339 : decode cX4_deliver 339 = .ok (.aload_n 0, 1) := by decide +kernel
theorem dX4_deliver_340 : decode cX4_deliver 340 = .ok (.getfield 35, 3) := by decide +kernel
theorem dX4_deliver_343 : decode cX4_deliver 343 = .ok (.iload_n 3, 1) := by decide +kernel
theorem dX4_deliver_344 : decode cX4_deliver 344 = .ok (.iaload, 1) := by decide +kernel
theorem dX4_deliver_345 : decode cX4_deliver 345 = .ok (.iconst 4, 1) := by decide +kernel
theorem dX4_deliver_346 : decode cX4_deliver 346 = .ok (.idiv, 1) := by decide +kernel
theorem dX4_deliver_347 : decode cX4_deliver 347 = .ok (.goto 9, 3) := by decide +kernel
theorem dX4_deliver_350 : decode cX4_deliver 350 = .ok (.aload_n 0, 1) := by decide +kernel
theorem dX4_deliver_351 : decode cX4_deliver 351 = .ok (.getfield 41, 3) := by decide +kernel
theorem dX4_deliver_354 : decode cX4_deliver 354 = .ok (.iload_n 3, 1) := by decide +kernel
theorem dX4_deliver_355 : decode cX4_deliver 355 = .ok (.iaload, 1) := by decide +kernel
theorem dX4_deliver_356 : decode cX4_deliver 356 = .ok (.istore 9, 2) := by decide +kernel
theorem dX4_deliver_358 : decode cX4_deliver 358 = .ok (.aload_n 0, 1) := by decide +kernel
theorem dX4_deliver_359 : decode cX4_deliver 359 = .ok (.getfield 41, 3) := by decide +kernel
theorem dX4_deliver_362 : decode cX4_deliver 362 = .ok (.iload_n 3, 1) := by decide +kernel
theorem dX4_deliver_363 : decode cX4_deliver 363 = .ok (.iload 9, 2) := by decide +kernel
theorem dX4_deliver_365 : decode cX4_deliver 365 = .ok (.iconst 1, 1) := by decide +kernel
theorem dX4_deliver_366 : decode cX4_deliver 366 = .ok (.iadd, 1) := by decide +kernel
theorem dX4_deliver_367 : decode cX4_deliver 367 = .ok (.iastore, 1) := by decide +kernel
theorem dX4_deliver_368 : decode cX4_deliver 368 = .ok (.aload_n 0, 1) := by decide +kernel
theorem dX4_deliver_369 : decode cX4_deliver 369 = .ok (.getfield 35, 3) := by decide +kernel
theorem dX4_deliver_372 : decode cX4_deliver 372 = .ok (.iload_n 3, 1) := by decide +kernel
theorem dX4_deliver_373 : decode cX4_deliver 373 = .ok (.iconst 4, 1) := by decide +kernel
theorem dX4_deliver_374 : decode cX4_deliver 374 = .ok (.aload_n 0, 1) := by decide +kernel
theorem dX4_deliver_375 : decode cX4_deliver 375 = .ok (.getfield 41, 3) := by decide +kernel
theorem dX4_deliver_378 : decode cX4_deliver 378 = .ok (.iload_n 3, 1) := by decide +kernel
theorem dX4_deliver_379 : decode cX4_deliver 379 = .ok (.iaload, 1) := by decide +kernel
theorem dX4_deliver_380 : decode cX4_deliver 380 = .ok (.imul, 1) := by decide +kernel
theorem dX4_deliver_381 : decode cX4_deliver 381 = .ok (.iload_n 3, 1) := by decide +kernel
theorem dX4_deliver_382 : decode cX4_deliver 382 = .ok (.iadd, 1) := by decide +kernel
theorem dX4_deliver_383 : decode cX4_deliver 383 = .ok (.iastore, 1) := by decide +kernel
theorem dX4_deliver_384 : decode cX4_deliver 384 = .ok (.aload_n 0, 1) := by decide +kernel
theorem dX4_deliver_385 : decode cX4_deliver 385 = .ok (.getfield 38, 3) := by decide +kernel
theorem dX4_deliver_388 : decode cX4_deliver 388 = .ok (.iload_n 3, 1) := by decide +kernel
theorem dX4_deliver_389 : decode cX4_deliver 389 = .ok (.aload_n 0, 1) := by decide +kernel
theorem dX4_deliver_390 : decode cX4_deliver 390 = .ok (.getfield 29, 3) := by decide +kernel
theorem dX4_deliver_393 : decode cX4_deliver 393 = .ok (.iload_n 3, 1) := by decide +kernel
theorem dX4_deliver_394 : decode cX4_deliver 394 = .ok (.iaload, 1) := by decide +kernel
theorem dX4_deliver_395 : decode cX4_deliver 395 = .ok (.iastore, 1) := by decide +kernel
theorem dX4_deliver_396 : decode cX4_deliver 396 = .ok (.aload_n 0, 1) := by decide +kernel
theorem dX4_deliver_397 : decode cX4_deliver 397 = .ok (.getfield 20, 3) := by decide +kernel
theorem dX4_deliver_400 : decode cX4_deliver 400 = .ok (.iload_n 3, 1) := by decide +kernel
theorem dX4_deliver_401 : decode cX4_deliver 401 = .ok (.iconst 2, 1) := by decide +kernel
theorem dX4_deliver_402 : decode cX4_deliver 402 = .ok (.iastore, 1) := by decide +kernel
theorem dX4_deliver_403 : decode cX4_deliver 403 = .ok (.aload_n 0, 1) := by decide +kernel
theorem dX4_deliver_404 : decode cX4_deliver 404 = .ok (.getfield 32, 3) := by decide +kernel
theorem dX4_deliver_407 : decode cX4_deliver 407 = .ok (.iload_n 3, 1) := by decide +kernel
theorem dX4_deliver_408 : decode cX4_deliver 408 = .ok (.iconst 0, 1) := by decide +kernel
theorem dX4_deliver_409 : decode cX4_deliver 409 = .ok (.iastore, 1) := by decide +kernel
theorem dX4_deliver_410 : decode cX4_deliver 410 = .ok (.aload_n 0, 1) := by decide +kernel
theorem dX4_deliver_411 : decode cX4_deliver 411 = .ok (.iconst 2, 1) := by decide +kernel
theorem dX4_deliver_412 : decode cX4_deliver 412 = .ok (.iload_n 3, 1) := by decide +kernel
theorem dX4_deliver_413 : decode cX4_deliver 413 = .ok (.aload_n 0, 1) := by decide +kernel
theorem dX4_deliver_414 : decode cX4_deliver 414 = .ok (.getfield 35, 3) := by decide +kernel
theorem dX4_deliver_417 : decode cX4_deliver 417 = .ok (.iload_n 3, 1) := by decide +kernel
theorem dX4_deliver_418 : decode cX4_deliver 418 = .ok (.iaload, 1) := by decide +kernel
theorem dX4_deliver_419 : decode cX4_deliver 419 = .ok (.aload_n 0, 1) := by decide +kernel
theorem dX4_deliver_420 : decode cX4_deliver 420 = .ok (.getfield 38, 3) := by decide +kernel
theorem dX4_deliver_423 : decode cX4_deliver 423 = .ok (.iload_n 3, 1) := by decide +kernel
theorem dX4_deliver_424 : decode cX4_deliver 424 = .ok (.iaload, 1) := by decide +kernel
theorem dX4_deliver_425 : decode cX4_deliver 425 = .ok (.invokevirtual 62, 3) := by decide +kernel
theorem dX4_deliver_428 : decode cX4_deliver 428 = .ok (.goto 100, 3) := by decide +kernel
theorem dX4_deliver_431 : decode cX4_deliver 431 = .ok (.aload_n 0, 1) := by decide +kernel
theorem dX4_deliver_432 : decode cX4_deliver 432 = .ok (.getfield 20, 3) := by decide +kernel
theorem dX4_deliver_435 : decode cX4_deliver 435 = .ok (.iload_n 3, 1) := by decide +kernel
theorem dX4_deliver_436 : decode cX4_deliver 436 = .ok (.iconst 0, 1) := by decide +kernel
theorem dX4_deliver_437 : decode cX4_deliver 437 = .ok (.iastore, 1) := by decide +kernel
theorem dX4_deliver_438 : decode cX4_deliver 438 = .ok (.iconst 5, 1) := by decide +kernel
theorem dX4_deliver_439 : decode cX4_deliver 439 = .ok (.aload_n 0, 1) := by decide +kernel
theorem dX4_deliver_440 : decode cX4_deliver 440 = .ok (.getfield 78, 3) := by decide +kernel
theorem dX4_deliver_443 : decode cX4_deliver 443 = .ok (.imul, 1) := by decide +kernel
theorem dX4_deliver_444 : decode cX4_deliver 444 = .ok (.istore 9, 2) := by decide +kernel
theorem dX4_deliver_446 : decode cX4_deliver 446 = .ok (.aload_n 0, 1) := by decide +kernel
theorem dX4_deliver_447 : decode cX4_deliver 447 = .ok (.getfield 47, 3) := by decide +kernel
theorem dX4_deliver_450 : decode cX4_deliver 450 = .ok (.iload 9, 2) := by decide +kernel
theorem dX4_deliver_452 : decode cX4_deliver 452 = .ok (.iload_n 3, 1) := by decide +kernel
theorem dX4_deliver_453 : decode cX4_deliver 453 = .ok (.iastore, 1) := by decide +kernel
theorem dX4_deliver_454 : decode cX4_deliver 454 = .ok (.aload_n 0, 1) := by decide +kernel
theorem dX4_deliver_455 : decode cX4_deliver 455 = .ok (.getfield 47, 3) := by decide +kernel
theorem dX4_deliver_458 : decode cX4_deliver 458 = .ok (.iload 9, 2) := by decide +kernel
theorem dX4_deliver_460 : decode cX4_deliver 460 = .ok (.iconst 1, 1) := by decide +kernel
theorem dX4_deliver_461 : decode cX4_deliver 461 = .ok (.iadd, 1) := by decide +kernel
theorem dX4_deliver_462 : decode cX4_deliver 462 = .ok (.iload 5, 2) := by decide +kernel
theorem dX4_deliver_464 : decode cX4_deliver 464 = .ok (.iastore, 1) := by decide +kernel
theorem dX4_deliver_465 : decode cX4_deliver 465 = .ok (.aload_n 0, 1) := by decide +kernel
theorem dX4_deliver_466 : decode cX4_deliver 466 = .ok (.getfield 47, 3) := by decide +kernel
theorem dX4_deliver_469 : decode cX4_deliver 469 = .ok (.iload 9, 2) := by decide +kernel
theorem dX4_deliver_471 : decode cX4_deliver 471 = .ok (.iconst 2, 1) := by decide +kernel
theorem dX4_deliver_472 : decode cX4_deliver 472 = .ok (.iadd, 1) := by decide +kernel
theorem dX4_deliver_473 : decode cX4_deliver 473 = .ok (.aload_n 0, 1) := by decide +kernel
theorem dX4_deliver_474 : decode cX4_deliver 474 = .ok (.getfield 26, 3) := by decide +kernel
theorem dX4_deliver_477 : decode cX4_deliver 477 = .ok (.iload_n 3, 1) := by decide +kernel
theorem dX4_deliver_478 : decode cX4_deliver 478 = .ok (.baload, 1) := by decide +kernel
theorem dX4_deliver_479 : decode cX4_deliver 479 = .ok (.ifCond .eq 7, 3) := by decide +kernel
theorem dX4_deliver_482 : decode cX4_deliver 482 = .ok (.iconst 1, 1) := by decide +kernel
theorem dX4_deliver_483 : decode cX4_deliver 483 = .ok (.goto 4, 3) := by decide +kernel
theorem dX4_deliver_486 : decode cX4_deliver 486 = .ok (.iconst 0, 1) := by decide +kernel
theorem dX4_deliver_487 : decode cX4_deliver 487 = .ok (.iastore, 1) := by decide +kernel
theorem dX4_deliver_488 : decode cX4_deliver 488 = .ok (.aload_n 0, 1) := by decide +kernel
theorem dX4_deliver_489 : decode cX4_deliver 489 = .ok (.getfield 47, 3) := by decide +kernel
theorem dX4_deliver_492 : decode cX4_deliver 492 = .ok (.iload 9, 2) := by decide +kernel
theorem dX4_deliver_494 : decode cX4_deliver 494 = .ok (.iconst 3, 1) := by decide +kernel
theorem dX4_deliver_495 : decode cX4_deliver 495 = .ok (.iadd, 1) := by decide +kernel
theorem dX4_deliver_496 : decode cX4_deliver 496 = .ok (.aload_n 0, 1) := by decide +kernel
theorem dX4_deliver_497 : decode cX4_deliver 497 = .ok (.getfield 38, 3) := by decide +kernel
theorem dX4_deliver_500 : decode cX4_deliver 500 = .ok (.iload_n 3, 1) := by decide +kernel
theorem dX4_deliver_501 : decode cX4_deliver 501 = .ok (.iaload, 1) := by decide +kernel
theorem dX4_deliver_502 : decode cX4_deliver 502 = .ok (.iastore, 1) := by decide +kernel
theorem dX4_deliver_503 : decode cX4_deliver 503 = .ok (.aload_n 0, 1) := by decide +kernel
theorem dX4_deliver_504 : decode cX4_deliver 504 = .ok (.getfield 47, 3) := by decide +kernel
theorem dX4_deliver_507 : decode cX4_deliver 507 = .ok (.iload 9, 2) := by decide +kernel
theorem dX4_deliver_509 : decode cX4_deliver 509 = .ok (.iconst 4, 1) := by decide +kernel
theorem dX4_deliver_510 : decode cX4_deliver 510 = .ok (.iadd, 1) := by decide +kernel
theorem dX4_deliver_511 : decode cX4_deliver 511 = .ok (.aload_n 0, 1) := by decide +kernel
theorem dX4_deliver_512 : decode cX4_deliver 512 = .ok (.getfield 35, 3) := by decide +kernel
theorem dX4_deliver_515 : decode cX4_deliver 515 = .ok (.iload_n 3, 1) := by decide +kernel
theorem dX4_deliver_516 : decode cX4_deliver 516 = .ok (.iaload, 1) := by decide +kernel
theorem dX4_deliver_517 : decode cX4_deliver 517 = .ok (.iastore, 1) := by decide +kernel
theorem dX4_deliver_518 : decode cX4_deliver 518 = .ok (.aload_n 0, 1) := by decide +kernel
theorem dX4_deliver_519 : decode cX4_deliver 519 = .ok (.dup, 1) := by decide +kernel
theorem dX4_deliver_520 : decode cX4_deliver 520 = .ok (.getfield 78, 3) := by decide +kernel
theorem dX4_deliver_523 : decode cX4_deliver 523 = .ok (.iconst 1, 1) := by decide +kernel
theorem dX4_deliver_524 : decode cX4_deliver 524 = .ok (.iadd, 1) := by decide +kernel
theorem dX4_deliver_525 : decode cX4_deliver 525 = .ok (.putfield 78, 3) := by decide +kernel
theorem dX4_deliver_528 : decode cX4_deliver 528 = .ok (.aload_n 0, 1) := by decide +kernel
theorem dX4_deliver_529 : decode cX4_deliver 529 = .ok (.getfield 50, 3) := by decide +kernel
theorem dX4_deliver_532 : decode cX4_deliver 532 = .ok (.iload 8, 2) := by decide +kernel
theorem dX4_deliver_534 : decode cX4_deliver 534 = .ok (.isub, 1) := by decide +kernel
theorem dX4_deliver_535 : decode cX4_deliver 535 = .ok (.ireturn, 1) := by decide +kernel
set_option maxRecDepth 20000 in
theorem ggX4_lose_X4_within : GoodIn wsX4_lose wsX4_within := goodIn_r _ [5] (by decide +kernel) (by decide +kernel)
set_option maxRecDepth 20000 in
theorem gX4_lose_X4_within : GoodIn wsX4_lose (va_wsS RX4 58 yX4_within wsX4_within) := goodIn_app (goodIn_of _ (by decide +kernel)) ggX4_lose_X4_within
set_option maxRecDepth 20000 in
theorem ggX4_lose_X4_drop : GoodIn wsX4_lose wsX4_drop := goodIn_r _ [9, 1, 10, 11, 12, 13, 14, 15, 16, 17, 18, 19, 20, 21, 22, 23, 24, 25, 26] (by decide +kernel) (by decide +kernel)
set_option maxRecDepth 20000 in
theorem gX4_lose_X4_drop : GoodIn wsX4_lose (wsV RX4 70 RX4 yX4_drop wsX4_drop) := goodIn_app (goodIn_of _ (by decide +kernel)) ggX4_lose_X4_drop
theorem dX4_lose_0 : decode cX4_lose 0 = .ok (.iload_n 1, 1) := by decide +kernel
theorem dX4_lose_1 : decode cX4_lose 1 = .ok (.iconst 0, 1) := by decide +kernel
theorem dX4_lose_2 : decode cX4_lose 2 = .ok (.aload_n 0, 1) := by decide +kernel
theorem dX4_lose_3 : decode cX4_lose 3 = .ok (.getfield 50, 3) := by decide +kernel
theorem dX4_lose_6 : decode cX4_lose 6 = .ok (.iconst 1, 1) := by decide +kernel
theorem dX4_lose_7 : decode cX4_lose 7 = .ok (.isub, 1) := by decide +kernel
theorem dX4_lose_8 : decode cX4_lose 8 = .ok (.invokestatic 58, 3) := by decide +kernel
theorem dX4_lose_11 : decode cX4_lose 11 = .ok (.ifCond .ne 5, 3) := by decide +kernel
theorem dX4_lose_14 : decode cX4_lose 14 = .ok (.iconst 0, 1) := by decide +kernel
theorem dX4_lose_15 : decode cX4_lose 15 = .ok (.ireturn, 1) := by decide +kernel
theorem dX4_lose_16 : decode cX4_lose 16 = .ok (.aload_n 0, 1) := by decide +kernel
theorem dX4_lose_17 : decode cX4_lose 17 = .ok (.iload_n 1, 1) := by decide +kernel
theorem dX4_lose_18 : decode cX4_lose 18 = .ok (.invokevirtual 70, 3) := by decide +kernel
theorem dX4_lose_21 : decode cX4_lose 21 = .ok (.iconst 1, 1) := by decide +kernel
theorem dX4_lose_22 : decode cX4_lose 22 = .ok (.ireturn, 1) := by decide +kernel
set_option maxRecDepth 20000 in
theorem ggX4_repeat_X4_within : GoodIn wsX4_repeat wsX4_within := goodIn_r _ [6] (by decide +kernel) (by decide +kernel)
set_option maxRecDepth 20000 in
theorem gX4_repeat_X4_within : GoodIn wsX4_repeat (va_wsS RX4 58 yX4_within wsX4_within) := goodIn_app (goodIn_of _ (by decide +kernel)) ggX4_repeat_X4_within
set_option maxRecDepth 20000 in
theorem ggX4_repeat_X4_send : GoodIn wsX4_repeat wsX4_send := goodIn_r _ [10, 1, 2, 11, 12, 13, 14, 15, 16, 17, 18, 19, 20, 21, 22, 23, 24, 25, 26] (by decide +kernel) (by decide +kernel)
set_option maxRecDepth 20000 in
theorem gX4_repeat_X4_send : GoodIn wsX4_repeat (wsV RX4 54 RX4 yX4_send wsX4_send) := goodIn_app (goodIn_of _ (by decide +kernel)) ggX4_repeat_X4_send
theorem dX4_repeat_0 : decode cX4_repeat 0 = .ok (.iload_n 1, 1) := by decide +kernel
theorem dX4_repeat_1 : decode cX4_repeat 1 = .ok (.iconst 0, 1) := by decide +kernel
theorem dX4_repeat_2 : decode cX4_repeat 2 = .ok (.aload_n 0, 1) := by decide +kernel
theorem dX4_repeat_3 : decode cX4_repeat 3 = .ok (.getfield 50, 3) := by decide +kernel
theorem dX4_repeat_6 : decode cX4_repeat 6 = .ok (.iconst 1, 1) := by decide +kernel
theorem dX4_repeat_7 : decode cX4_repeat 7 = .ok (.isub, 1) := by decide +kernel
theorem dX4_repeat_8 : decode cX4_repeat 8 = .ok (.invokestatic 58, 3) := by decide +kernel
theorem dX4_repeat_11 : decode cX4_repeat 11 = .ok (.ifCond .eq 12, 3) := by decide +kernel
theorem dX4_repeat_14 : decode cX4_repeat 14 = .ok (.aload_n 0, 1) := by decide +kernel
theorem dX4_repeat_15 : decode cX4_repeat 15 = .ok (.getfield 50, 3) := by decide +kernel
theorem dX4_repeat_18 : decode cX4_repeat 18 = .ok (.bipush 60, 2) := by decide +kernel
theorem dX4_repeat_20 : decode cX4_repeat 20 = .ok (.if_icmp .le 5, 3) := by decide +kernel
theorem dX4_repeat_23 : decode cX4_repeat 23 = .ok (.iconst 0, 1) := by decide +kernel
theorem dX4_repeat_24 : decode cX4_repeat 24 = .ok (.ireturn, 1) := by decide +kernel
theorem dX4_repeat_25 : decode cX4_repeat 25 = .ok (.aload_n 0, 1) := by decide +kernel
theorem dX4_repeat_26 : decode cX4_repeat 26 = .ok (.aload_n 0, 1) := by decide +kernel
theorem dX4_repeat_27 : decode cX4_repeat 27 = .ok (.getfield 44, 3) := by decide +kernel
theorem dX4_repeat_30 : decode cX4_repeat 30 = .ok (.bipush 6, 2) := by decide +kernel
theorem dX4_repeat_32 : decode cX4_repeat 32 = .ok (.iload_n 1, 1) := by decide +kernel
theorem dX4_repeat_33 : decode cX4_repeat 33 = .ok (.imul, 1) := by decide +kernel
theorem dX4_repeat_34 : decode cX4_repeat 34 = .ok (.iaload, 1) := by decide +kernel
theorem dX4_repeat_35 : decode cX4_repeat 35 = .ok (.aload_n 0, 1) := by decide +kernel
theorem dX4_repeat_36 : decode cX4_repeat 36 = .ok (.getfield 44, 3) := by decide +kernel
theorem dX4_repeat_39 : decode cX4_repeat 39 = .ok (.bipush 6, 2) := by decide +kernel
theorem dX4_repeat_41 : decode cX4_repeat 41 = .ok (.iload_n 1, 1) := by decide +kernel
theorem dX4_repeat_42 : decode cX4_repeat 42 = .ok (.imul, 1) := by decide +kernel
theorem dX4_repeat_43 : decode cX4_repeat 43 = .ok (.iconst 1, 1) := by decide +kernel
theorem dX4_repeat_44 : decode cX4_repeat 44 = .ok (.iadd, 1) := by decide +kernel
theorem dX4_repeat_45 : decode cX4_repeat 45 = .ok (.iaload, 1) := by decide +kernel
theorem dX4_repeat_46 : decode cX4_repeat 46 = .ok (.aload_n 0, 1) := by decide +kernel
theorem dX4_repeat_47 : decode cX4_repeat 47 = .ok (.getfield 44, 3) := by decide +kernel
theorem dX4_repeat_50 : decode cX4_repeat 50 = .ok (.bipush 6, 2) := by decide +kernel
theorem dX4_repeat_52 : decode cX4_repeat 52 = .ok (.iload_n 1, 1) := by decide +kernel
theorem dX4_repeat_53 : decode cX4_repeat 53 = .ok (.imul, 1) := by decide +kernel
theorem dX4_repeat_54 : decode cX4_repeat 54 = .ok (.iconst 2, 1) := by decide +kernel
theorem dX4_repeat_55 : decode cX4_repeat 55 = .ok (.iadd, 1) := by decide +kernel
theorem dX4_repeat_56 : decode cX4_repeat 56 = .ok (.iaload, 1) := by decide +kernel
theorem dX4_repeat_57 : decode cX4_repeat 57 = .ok (.aload_n 0, 1) := by decide +kernel
theorem dX4_repeat_58 : decode cX4_repeat 58 = .ok (.getfield 44, 3) := by decide +kernel
theorem dX4_repeat_61 : decode cX4_repeat 61 = .ok (.bipush 6, 2) := by decide +kernel
theorem dX4_repeat_63 : decode cX4_repeat 63 = .ok (.iload_n 1, 1) := by decide +kernel
theorem dX4_repeat_64 : decode cX4_repeat 64 = .ok (.imul, 1) := by decide +kernel
theorem dX4_repeat_65 : decode cX4_repeat 65 = .ok (.iconst 3, 1) := by decide +kernel
theorem dX4_repeat_66 : decode cX4_repeat 66 = .ok (.iadd, 1) := by decide +kernel
theorem dX4_repeat_67 : decode cX4_repeat 67 = .ok (.iaload, 1) := by decide +kernel
theorem dX4_repeat_68 : decode cX4_repeat 68 = .ok (.aload_n 0, 1) := by decide +kernel
theorem dX4_repeat_69 : decode cX4_repeat 69 = .ok (.getfield 44, 3) := by decide +kernel
theorem dX4_repeat_72 : decode cX4_repeat 72 = .ok (.bipush 6, 2) := by decide +kernel
theorem dX4_repeat_74 : decode cX4_repeat 74 = .ok (.iload_n 1, 1) := by decide +kernel
theorem dX4_repeat_75 : decode cX4_repeat 75 = .ok (.imul, 1) := by decide +kernel
theorem dX4_repeat_76 : decode cX4_repeat 76 = .ok (.iconst 4, 1) := by decide +kernel
theorem dX4_repeat_77 : decode cX4_repeat 77 = .ok (.iadd, 1) := by decide +kernel
theorem dX4_repeat_78 : decode cX4_repeat 78 = .ok (.iaload, 1) := by decide +kernel
theorem dX4_repeat_79 : decode cX4_repeat 79 = .ok (.aload_n 0, 1) := by decide +kernel
theorem dX4_repeat_80 : decode cX4_repeat 80 = .ok (.getfield 44, 3) := by decide +kernel
theorem dX4_repeat_83 : decode cX4_repeat 83 = .ok (.bipush 6, 2) := by decide +kernel
theorem dX4_repeat_85 : decode cX4_repeat 85 = .ok (.iload_n 1, 1) := by decide +kernel
theorem dX4_repeat_86 : decode cX4_repeat 86 = .ok (.imul, 1) := by decide +kernel
theorem dX4_repeat_87 : decode cX4_repeat 87 = .ok (.iconst 5, 1) := by decide +kernel
theorem dX4_repeat_88 : decode cX4_repeat 88 = .ok (.iadd, 1) := by decide +kernel
theorem dX4_repeat_89 : decode cX4_repeat 89 = .ok (.iaload, 1) := by decide +kernel
theorem dX4_repeat_90 : decode cX4_repeat 90 = .ok (.invokevirtual 54, 3) := by decide +kernel
theorem dX4_repeat_93 : decode cX4_repeat 93 = .ok (.iconst 1, 1) := by decide +kernel
theorem dX4_repeat_94 : decode cX4_repeat 94 = .ok (.ireturn, 1) := by decide +kernel
set_option maxRecDepth 20000 in
theorem ggX4_fail_X4_within : GoodIn wsX4_fail wsX4_within := goodIn_r _ [6] (by decide +kernel) (by decide +kernel)
set_option maxRecDepth 20000 in
theorem gX4_fail_X4_within : GoodIn wsX4_fail (va_wsS RX4 58 yX4_within wsX4_within) := goodIn_app (goodIn_of _ (by decide +kernel)) ggX4_fail_X4_within
theorem dX4_fail_0 : decode cX4_fail 0 = .ok (.iload_n 1, 1) := by decide +kernel
theorem dX4_fail_1 : decode cX4_fail 1 = .ok (.iconst 0, 1) := by decide +kernel
theorem dX4_fail_2 : decode cX4_fail 2 = .ok (.iconst 4, 1) := by decide +kernel
theorem dX4_fail_3 : decode cX4_fail 3 = .ok (.invokestatic 58, 3) := by decide +kernel
theorem dX4_fail_6 : decode cX4_fail 6 = .ok (.ifCond .eq 20, 3) := by decide +kernel
theorem dX4_fail_9 : decode cX4_fail 9 = .ok (.aload_n 0, 1) := by decide +kernel
theorem dX4_fail_10 : decode cX4_fail 10 = .ok (.getfield 16, 3) := by decide +kernel
theorem dX4_fail_13 : decode cX4_fail 13 = .ok (.iload_n 1, 1) := by decide +kernel
theorem dX4_fail_14 : decode cX4_fail 14 = .ok (.baload, 1) := by decide +kernel
theorem dX4_fail_15 : decode cX4_fail 15 = .ok (.ifCond .ne 11, 3) := by decide +kernel
theorem dX4_fail_18 : decode cX4_fail 18 = .ok (.aload_n 0, 1) := by decide +kernel
theorem dX4_fail_19 : decode cX4_fail 19 = .ok (.getfield 81, 3) := by decide +kernel
theorem dX4_fail_22 : decode cX4_fail 22 = .ok (.iconst 2, 1) := by decide +kernel
theorem dX4_fail_23 : decode cX4_fail 23 = .ok (.if_icmp .ne 5, 3) := by decide +kernel
theorem dX4_fail_26 : decode cX4_fail 26 = .ok (.iconst 0, 1) := by decide +kernel
theorem dX4_fail_27 : decode cX4_fail 27 = .ok (.ireturn, 1) := by decide +kernel
theorem dX4_fail_28 : decode cX4_fail 28 = .ok (.aload_n 0, 1) := by decide +kernel
theorem dX4_fail_29 : decode cX4_fail 29 = .ok (.getfield 16, 3) := by decide +kernel
theorem dX4_fail_32 : decode cX4_fail 32 = .ok (.iload_n 1, 1) := by decide +kernel
theorem dX4_fail_33 : decode cX4_fail 33 = .ok (.iconst 1, 1) := by decide +kernel
theorem dX4_fail_34 : decode cX4_fail 34 = .ok (.bastore, 1) := by decide +kernel
theorem dX4_fail_35 : decode cX4_fail 35 = .ok (.aload_n 0, 1) := by decide +kernel
theorem dX4_fail_36 : decode cX4_fail 36 = .ok (.dup, 1) := by decide +kernel
theorem dX4_fail_37 : decode cX4_fail 37 = .ok (.getfield 81, 3) := by decide +kernel
theorem dX4_fail_40 : decode cX4_fail 40 = .ok (.iconst 1, 1) := by decide +kernel
theorem dX4_fail_41 : decode cX4_fail 41 = .ok (.iadd, 1) := by decide +kernel
theorem dX4_fail_42 : decode cX4_fail 42 = .ok (.putfield 81, 3) := by decide +kernel
theorem dX4_fail_45 : decode cX4_fail 45 = .ok (.iconst 1, 1) := by decide +kernel
theorem dX4_fail_46 : decode cX4_fail 46 = .ok (.ireturn, 1) := by decide +kernel
theorem dX4_messages_0 : decode cX4_messages 0 = .ok (.aload_n 0, 1) := by decide +kernel
theorem dX4_messages_1 : decode cX4_messages 1 = .ok (.getfield 50, 3) := by decide +kernel
theorem dX4_messages_4 : decode cX4_messages 4 = .ok (.ireturn, 1) := by decide +kernel
set_option maxRecDepth 20000 in
theorem ggX4_message_X4_within : GoodIn wsX4_message wsX4_within := goodIn_r _ [6] (by decide +kernel) (by decide +kernel)
set_option maxRecDepth 20000 in
theorem gX4_message_X4_within : GoodIn wsX4_message (va_wsS RX4 58 yX4_within wsX4_within) := goodIn_app (goodIn_of _ (by decide +kernel)) ggX4_message_X4_within
theorem dX4_message_0 : decode cX4_message 0 = .ok (.iload_n 1, 1) := by decide +kernel
theorem dX4_message_1 : decode cX4_message 1 = .ok (.iconst 0, 1) := by decide +kernel
theorem dX4_message_2 : decode cX4_message 2 = .ok (.aload_n 0, 1) := by decide +kernel
theorem dX4_message_3 : decode cX4_message 3 = .ok (.getfield 50, 3) := by decide +kernel
theorem dX4_message_6 : decode cX4_message 6 = .ok (.iconst 1, 1) := by decide +kernel
theorem dX4_message_7 : decode cX4_message 7 = .ok (.isub, 1) := by decide +kernel
theorem dX4_message_8 : decode cX4_message 8 = .ok (.invokestatic 58, 3) := by decide +kernel
theorem dX4_message_11 : decode cX4_message 11 = .ok (.ifCond .ne 5, 3) := by decide +kernel
theorem dX4_message_14 : decode cX4_message 14 = .ok (.iconst (-1), 1) := by decide +kernel
theorem dX4_message_15 : decode cX4_message 15 = .ok (.ireturn, 1) := by decide +kernel
theorem dX4_message_16 : decode cX4_message 16 = .ok (.iload_n 2, 1) := by decide +kernel
theorem dX4_message_17 : decode cX4_message 17 = .ok (.iconst 0, 1) := by decide +kernel
theorem dX4_message_18 : decode cX4_message 18 = .ok (.iconst 5, 1) := by decide +kernel
theorem dX4_message_19 : decode cX4_message 19 = .ok (.invokestatic 58, 3) := by decide +kernel
theorem dX4_message_22 : decode cX4_message 22 = .ok (.ifCond .eq 17, 3) := by decide +kernel
theorem dX4_message_25 : decode cX4_message 25 = .ok (.aload_n 0, 1) := by decide +kernel
theorem dX4_message_26 : decode cX4_message 26 = .ok (.getfield 44, 3) := by decide +kernel
theorem dX4_message_29 : decode cX4_message 29 = .ok (.bipush 6, 2) := by decide +kernel
theorem dX4_message_31 : decode cX4_message 31 = .ok (.iload_n 1, 1) := by decide +kernel
theorem dX4_message_32 : decode cX4_message 32 = .ok (.imul, 1) := by decide +kernel
theorem dX4_message_33 : decode cX4_message 33 = .ok (.iload_n 2, 1) := by decide +kernel
theorem dX4_message_34 : decode cX4_message 34 = .ok (.iadd, 1) := by decide +kernel
theorem dX4_message_35 : decode cX4_message 35 = .ok (.iaload, 1) := by decide +kernel
theorem dX4_message_36 : decode cX4_message 36 = .ok (.goto 4, 3) := by decide +kernel
theorem dX4_message_39 : decode cX4_message 39 = .ok (.iconst 0, 1) := by decide +kernel
theorem dX4_message_40 : decode cX4_message 40 = .ok (.ireturn, 1) := by decide +kernel
set_option maxRecDepth 20000 in
theorem ggX4_tag_X4_within : GoodIn wsX4_tag wsX4_within := goodIn_r _ [5] (by decide +kernel) (by decide +kernel)
set_option maxRecDepth 20000 in
theorem gX4_tag_X4_within : GoodIn wsX4_tag (va_wsS RX4 58 yX4_within wsX4_within) := goodIn_app (goodIn_of _ (by decide +kernel)) ggX4_tag_X4_within
theorem dX4_tag_0 : decode cX4_tag 0 = .ok (.iload_n 1, 1) := by decide +kernel
theorem dX4_tag_1 : decode cX4_tag 1 = .ok (.iconst 0, 1) := by decide +kernel
theorem dX4_tag_2 : decode cX4_tag 2 = .ok (.iconst 4, 1) := by decide +kernel
theorem dX4_tag_3 : decode cX4_tag 3 = .ok (.invokestatic 58, 3) := by decide +kernel
theorem dX4_tag_6 : decode cX4_tag 6 = .ok (.ifCond .eq 12, 3) := by decide +kernel
theorem dX4_tag_9 : decode cX4_tag 9 = .ok (.aload_n 0, 1) := by decide +kernel
theorem dX4_tag_10 : decode cX4_tag 10 = .ok (.getfield 7, 3) := by decide +kernel
theorem dX4_tag_13 : decode cX4_tag 13 = .ok (.iload_n 1, 1) := by decide +kernel
theorem dX4_tag_14 : decode cX4_tag 14 = .ok (.iaload, 1) := by decide +kernel
theorem dX4_tag_15 : decode cX4_tag 15 = .ok (.goto 4, 3) := by decide +kernel
theorem dX4_tag_18 : decode cX4_tag 18 = .ok (.iconst (-1), 1) := by decide +kernel
theorem dX4_tag_19 : decode cX4_tag 19 = .ok (.ireturn, 1) := by decide +kernel
set_option maxRecDepth 20000 in
theorem ggX4_value_X4_within : GoodIn wsX4_value wsX4_within := goodIn_r _ [5] (by decide +kernel) (by decide +kernel)
set_option maxRecDepth 20000 in
theorem gX4_value_X4_within : GoodIn wsX4_value (va_wsS RX4 58 yX4_within wsX4_within) := goodIn_app (goodIn_of _ (by decide +kernel)) ggX4_value_X4_within
theorem dX4_value_0 : decode cX4_value 0 = .ok (.iload_n 1, 1) := by decide +kernel
theorem dX4_value_1 : decode cX4_value 1 = .ok (.iconst 0, 1) := by decide +kernel
end
section
theorem dX4_value_2 : decode cX4_value 2 = .ok (.iconst 4, 1) := by decide +kernel
theorem dX4_value_3 : decode cX4_value 3 = .ok (.invokestatic 58, 3) := by decide +kernel
theorem dX4_value_6 : decode cX4_value 6 = .ok (.ifCond .eq 12, 3) := by decide +kernel
theorem dX4_value_9 : decode cX4_value 9 = .ok (.aload_n 0, 1) := by decide +kernel
theorem dX4_value_10 : decode cX4_value 10 = .ok (.getfield 13, 3) := by decide +kernel
theorem dX4_value_13 : decode cX4_value 13 = .ok (.iload_n 1, 1) := by decide +kernel
theorem dX4_value_14 : decode cX4_value 14 = .ok (.iaload, 1) := by decide +kernel
theorem dX4_value_15 : decode cX4_value 15 = .ok (.goto 4, 3) := by decide +kernel
theorem dX4_value_18 : decode cX4_value 18 = .ok (.iconst 0, 1) := by decide +kernel
theorem dX4_value_19 : decode cX4_value 19 = .ok (.ireturn, 1) := by decide +kernel
set_option maxRecDepth 20000 in
theorem ggX4_failed_X4_within : GoodIn wsX4_failed wsX4_within := goodIn_r _ [5] (by decide +kernel) (by decide +kernel)
set_option maxRecDepth 20000 in
theorem gX4_failed_X4_within : GoodIn wsX4_failed (va_wsS RX4 58 yX4_within wsX4_within) := goodIn_app (goodIn_of _ (by decide +kernel)) ggX4_failed_X4_within
theorem dX4_failed_0 : decode cX4_failed 0 = .ok (.iload_n 1, 1) := by decide +kernel
theorem dX4_failed_1 : decode cX4_failed 1 = .ok (.iconst 0, 1) := by decide +kernel
theorem dX4_failed_2 : decode cX4_failed 2 = .ok (.iconst 4, 1) := by decide +kernel
theorem dX4_failed_3 : decode cX4_failed 3 = .ok (.invokestatic 58, 3) := by decide +kernel
theorem dX4_failed_6 : decode cX4_failed 6 = .ok (.ifCond .eq 16, 3) := by decide +kernel
theorem dX4_failed_9 : decode cX4_failed 9 = .ok (.aload_n 0, 1) := by decide +kernel
theorem dX4_failed_10 : decode cX4_failed 10 = .ok (.getfield 16, 3) := by decide +kernel
theorem dX4_failed_13 : decode cX4_failed 13 = .ok (.iload_n 1, 1) := by decide +kernel
theorem dX4_failed_14 : decode cX4_failed 14 = .ok (.baload, 1) := by decide +kernel
theorem dX4_failed_15 : decode cX4_failed 15 = .ok (.ifCond .eq 7, 3) := by decide +kernel
theorem dX4_failed_18 : decode cX4_failed 18 = .ok (.iconst 1, 1) := by decide +kernel
theorem dX4_failed_19 : decode cX4_failed 19 = .ok (.goto 4, 3) := by decide +kernel
theorem dX4_failed_22 : decode cX4_failed 22 = .ok (.iconst 0, 1) := by decide +kernel
theorem dX4_failed_23 : decode cX4_failed 23 = .ok (.ireturn, 1) := by decide +kernel
set_option maxRecDepth 20000 in
theorem ggX4_phase_X4_within : GoodIn wsX4_phase wsX4_within := goodIn_r _ [5] (by decide +kernel) (by decide +kernel)
set_option maxRecDepth 20000 in
theorem gX4_phase_X4_within : GoodIn wsX4_phase (va_wsS RX4 58 yX4_within wsX4_within) := goodIn_app (goodIn_of _ (by decide +kernel)) ggX4_phase_X4_within
theorem dX4_phase_0 : decode cX4_phase 0 = .ok (.iload_n 1, 1) := by decide +kernel
theorem dX4_phase_1 : decode cX4_phase 1 = .ok (.iconst 0, 1) := by decide +kernel
theorem dX4_phase_2 : decode cX4_phase 2 = .ok (.iconst 2, 1) := by decide +kernel
theorem dX4_phase_3 : decode cX4_phase 3 = .ok (.invokestatic 58, 3) := by decide +kernel
theorem dX4_phase_6 : decode cX4_phase 6 = .ok (.ifCond .eq 12, 3) := by decide +kernel
theorem dX4_phase_9 : decode cX4_phase 9 = .ok (.aload_n 0, 1) := by decide +kernel
theorem dX4_phase_10 : decode cX4_phase 10 = .ok (.getfield 20, 3) := by decide +kernel
theorem dX4_phase_13 : decode cX4_phase 13 = .ok (.iload_n 1, 1) := by decide +kernel
theorem dX4_phase_14 : decode cX4_phase 14 = .ok (.iaload, 1) := by decide +kernel
theorem dX4_phase_15 : decode cX4_phase 15 = .ok (.goto 4, 3) := by decide +kernel
theorem dX4_phase_18 : decode cX4_phase 18 = .ok (.iconst (-1), 1) := by decide +kernel
theorem dX4_phase_19 : decode cX4_phase 19 = .ok (.ireturn, 1) := by decide +kernel
set_option maxRecDepth 20000 in
theorem ggX4_answered_X4_within : GoodIn wsX4_answered wsX4_within := goodIn_r _ [6] (by decide +kernel) (by decide +kernel)
set_option maxRecDepth 20000 in
theorem gX4_answered_X4_within : GoodIn wsX4_answered (va_wsS RX4 58 yX4_within wsX4_within) := goodIn_app (goodIn_of _ (by decide +kernel)) ggX4_answered_X4_within
theorem dX4_answered_0 : decode cX4_answered 0 = .ok (.iload_n 1, 1) := by decide +kernel
theorem dX4_answered_1 : decode cX4_answered 1 = .ok (.iconst 0, 1) := by decide +kernel
theorem dX4_answered_2 : decode cX4_answered 2 = .ok (.iconst 2, 1) := by decide +kernel
theorem dX4_answered_3 : decode cX4_answered 3 = .ok (.invokestatic 58, 3) := by decide +kernel
theorem dX4_answered_6 : decode cX4_answered 6 = .ok (.ifCond .ne 7, 3) := by decide +kernel
theorem dX4_answered_9 : decode cX4_answered 9 = .ok (.iconst (-1), 1) := by decide +kernel
theorem dX4_answered_10 : decode cX4_answered 10 = .ok (.goto 22, 3) := by decide +kernel
theorem dX4_answered_13 : decode cX4_answered 13 = .ok (.aload_n 0, 1) := by decide +kernel
theorem dX4_answered_14 : decode cX4_answered 14 = .ok (.getfield 20, 3) := by decide +kernel
theorem dX4_answered_17 : decode cX4_answered 17 = .ok (.iload_n 1, 1) := by decide +kernel
theorem dX4_answered_18 : decode cX4_answered 18 = .ok (.iaload, 1) := by decide +kernel
theorem dX4_answered_19 : decode cX4_answered 19 = .ok (.ifCond .ne 7, 3) := by decide +kernel
theorem dX4_answered_22 : decode cX4_answered 22 = .ok (.iconst 0, 1) := by decide +kernel
theorem dX4_answered_23 : decode cX4_answered 23 = .ok (.goto 9, 3) := by decide +kernel
theorem dX4_answered_26 : decode cX4_answered 26 = .ok (.aload_n 0, 1) := by decide +kernel
theorem dX4_answered_27 : decode cX4_answered 27 = .ok (.getfield 32, 3) := by decide +kernel
theorem dX4_answered_30 : decode cX4_answered 30 = .ok (.iload_n 1, 1) := by decide +kernel
theorem dX4_answered_31 : decode cX4_answered 31 = .ok (.iaload, 1) := by decide +kernel
theorem dX4_answered_32 : decode cX4_answered 32 = .ok (.ireturn, 1) := by decide +kernel
theorem dX4_finished_0 : decode cX4_finished 0 = .ok (.aload_n 0, 1) := by decide +kernel
theorem dX4_finished_1 : decode cX4_finished 1 = .ok (.getfield 78, 3) := by decide +kernel
theorem dX4_finished_4 : decode cX4_finished 4 = .ok (.ireturn, 1) := by decide +kernel
set_option maxRecDepth 20000 in
theorem ggX4_operation_X4_within : GoodIn wsX4_operation wsX4_within := goodIn_r _ [6] (by decide +kernel) (by decide +kernel)
set_option maxRecDepth 20000 in
theorem gX4_operation_X4_within : GoodIn wsX4_operation (va_wsS RX4 58 yX4_within wsX4_within) := goodIn_app (goodIn_of _ (by decide +kernel)) ggX4_operation_X4_within
theorem dX4_operation_0 : decode cX4_operation 0 = .ok (.iload_n 1, 1) := by decide +kernel
theorem dX4_operation_1 : decode cX4_operation 1 = .ok (.iconst 0, 1) := by decide +kernel
theorem dX4_operation_2 : decode cX4_operation 2 = .ok (.aload_n 0, 1) := by decide +kernel
theorem dX4_operation_3 : decode cX4_operation 3 = .ok (.getfield 78, 3) := by decide +kernel
theorem dX4_operation_6 : decode cX4_operation 6 = .ok (.iconst 1, 1) := by decide +kernel
theorem dX4_operation_7 : decode cX4_operation 7 = .ok (.isub, 1) := by decide +kernel
theorem dX4_operation_8 : decode cX4_operation 8 = .ok (.invokestatic 58, 3) := by decide +kernel
theorem dX4_operation_11 : decode cX4_operation 11 = .ok (.ifCond .ne 5, 3) := by decide +kernel
theorem dX4_operation_14 : decode cX4_operation 14 = .ok (.iconst (-1), 1) := by decide +kernel
theorem dX4_operation_15 : decode cX4_operation 15 = .ok (.ireturn, 1) := by decide +kernel
theorem dX4_operation_16 : decode cX4_operation 16 = .ok (.iload_n 2, 1) := by decide +kernel
theorem dX4_operation_17 : decode cX4_operation 17 = .ok (.iconst 0, 1) := by decide +kernel
theorem dX4_operation_18 : decode cX4_operation 18 = .ok (.iconst 4, 1) := by decide +kernel
theorem dX4_operation_19 : decode cX4_operation 19 = .ok (.invokestatic 58, 3) := by decide +kernel
theorem dX4_operation_22 : decode cX4_operation 22 = .ok (.ifCond .eq 16, 3) := by decide +kernel
theorem dX4_operation_25 : decode cX4_operation 25 = .ok (.aload_n 0, 1) := by decide +kernel
theorem dX4_operation_26 : decode cX4_operation 26 = .ok (.getfield 47, 3) := by decide +kernel
theorem dX4_operation_29 : decode cX4_operation 29 = .ok (.iconst 5, 1) := by decide +kernel
theorem dX4_operation_30 : decode cX4_operation 30 = .ok (.iload_n 1, 1) := by decide +kernel
theorem dX4_operation_31 : decode cX4_operation 31 = .ok (.imul, 1) := by decide +kernel
theorem dX4_operation_32 : decode cX4_operation 32 = .ok (.iload_n 2, 1) := by decide +kernel
theorem dX4_operation_33 : decode cX4_operation 33 = .ok (.iadd, 1) := by decide +kernel
theorem dX4_operation_34 : decode cX4_operation 34 = .ok (.iaload, 1) := by decide +kernel
theorem dX4_operation_35 : decode cX4_operation 35 = .ok (.goto 4, 3) := by decide +kernel
theorem dX4_operation_38 : decode cX4_operation 38 = .ok (.iconst 0, 1) := by decide +kernel
theorem dX4_operation_39 : decode cX4_operation 39 = .ok (.ireturn, 1) := by decide +kernel
theorem dJ6_bitCount_0f7a4_0 : decode cJ6_bitCount_0f7a4 0 = .ok (.iload_n 0, 1) := by decide +kernel
theorem dJ6_bitCount_0f7a4_1 : decode cJ6_bitCount_0f7a4 1 = .ok (.iload_n 0, 1) := by decide +kernel
theorem dJ6_bitCount_0f7a4_2 : decode cJ6_bitCount_0f7a4 2 = .ok (.iconst 1, 1) := by decide +kernel
theorem dJ6_bitCount_0f7a4_3 : decode cJ6_bitCount_0f7a4 3 = .ok (.iushr, 1) := by decide +kernel
theorem dJ6_bitCount_0f7a4_4 : decode cJ6_bitCount_0f7a4 4 = .ok (.ldc_w 265, 3) := by decide +kernel
theorem dJ6_bitCount_0f7a4_7 : decode cJ6_bitCount_0f7a4 7 = .ok (.iand, 1) := by decide +kernel
theorem dJ6_bitCount_0f7a4_8 : decode cJ6_bitCount_0f7a4 8 = .ok (.isub, 1) := by decide +kernel
theorem dJ6_bitCount_0f7a4_9 : decode cJ6_bitCount_0f7a4 9 = .ok (.istore_n 0, 1) := by decide +kernel
theorem dJ6_bitCount_0f7a4_10 : decode cJ6_bitCount_0f7a4 10 = .ok (.iload_n 0, 1) := by decide +kernel
theorem dJ6_bitCount_0f7a4_11 : decode cJ6_bitCount_0f7a4 11 = .ok (.ldc_w 266, 3) := by decide +kernel
theorem dJ6_bitCount_0f7a4_14 : decode cJ6_bitCount_0f7a4 14 = .ok (.iand, 1) := by decide +kernel
theorem dJ6_bitCount_0f7a4_15 : decode cJ6_bitCount_0f7a4 15 = .ok (.iload_n 0, 1) := by decide +kernel
theorem dJ6_bitCount_0f7a4_16 : decode cJ6_bitCount_0f7a4 16 = .ok (.iconst 2, 1) := by decide +kernel
theorem dJ6_bitCount_0f7a4_17 : decode cJ6_bitCount_0f7a4 17 = .ok (.iushr, 1) := by decide +kernel
theorem dJ6_bitCount_0f7a4_18 : decode cJ6_bitCount_0f7a4 18 = .ok (.ldc_w 266, 3) := by decide +kernel
theorem dJ6_bitCount_0f7a4_21 : decode cJ6_bitCount_0f7a4 21 = .ok (.iand, 1) := by decide +kernel
theorem dJ6_bitCount_0f7a4_22 : decode cJ6_bitCount_0f7a4 22 = .ok (.iadd, 1) := by decide +kernel
theorem dJ6_bitCount_0f7a4_23 : decode cJ6_bitCount_0f7a4 23 = .ok (.istore_n 0, 1) := by decide +kernel
theorem dJ6_bitCount_0f7a4_24 : decode cJ6_bitCount_0f7a4 24 = .ok (.iload_n 0, 1) := by decide +kernel
theorem dJ6_bitCount_0f7a4_25 : decode cJ6_bitCount_0f7a4 25 = .ok (.iload_n 0, 1) := by decide +kernel
theorem dJ6_bitCount_0f7a4_26 : decode cJ6_bitCount_0f7a4 26 = .ok (.iconst 4, 1) := by decide +kernel
theorem dJ6_bitCount_0f7a4_27 : decode cJ6_bitCount_0f7a4 27 = .ok (.iushr, 1) := by decide +kernel
theorem dJ6_bitCount_0f7a4_28 : decode cJ6_bitCount_0f7a4 28 = .ok (.iadd, 1) := by decide +kernel
theorem dJ6_bitCount_0f7a4_29 : decode cJ6_bitCount_0f7a4 29 = .ok (.ldc_w 267, 3) := by decide +kernel
theorem dJ6_bitCount_0f7a4_32 : decode cJ6_bitCount_0f7a4 32 = .ok (.iand, 1) := by decide +kernel
theorem dJ6_bitCount_0f7a4_33 : decode cJ6_bitCount_0f7a4 33 = .ok (.istore_n 0, 1) := by decide +kernel
theorem dJ6_bitCount_0f7a4_34 : decode cJ6_bitCount_0f7a4 34 = .ok (.iload_n 0, 1) := by decide +kernel
theorem dJ6_bitCount_0f7a4_35 : decode cJ6_bitCount_0f7a4 35 = .ok (.iload_n 0, 1) := by decide +kernel
theorem dJ6_bitCount_0f7a4_36 : decode cJ6_bitCount_0f7a4 36 = .ok (.bipush 8, 2) := by decide +kernel
theorem dJ6_bitCount_0f7a4_38 : decode cJ6_bitCount_0f7a4 38 = .ok (.iushr, 1) := by decide +kernel
theorem dJ6_bitCount_0f7a4_39 : decode cJ6_bitCount_0f7a4 39 = .ok (.iadd, 1) := by decide +kernel
theorem dJ6_bitCount_0f7a4_40 : decode cJ6_bitCount_0f7a4 40 = .ok (.istore_n 0, 1) := by decide +kernel
theorem dJ6_bitCount_0f7a4_41 : decode cJ6_bitCount_0f7a4 41 = .ok (.iload_n 0, 1) := by decide +kernel
theorem dJ6_bitCount_0f7a4_42 : decode cJ6_bitCount_0f7a4 42 = .ok (.iload_n 0, 1) := by decide +kernel
theorem dJ6_bitCount_0f7a4_43 : decode cJ6_bitCount_0f7a4 43 = .ok (.bipush 16, 2) := by decide +kernel
theorem dJ6_bitCount_0f7a4_45 : decode cJ6_bitCount_0f7a4 45 = .ok (.iushr, 1) := by decide +kernel
theorem dJ6_bitCount_0f7a4_46 : decode cJ6_bitCount_0f7a4 46 = .ok (.iadd, 1) := by decide +kernel
theorem dJ6_bitCount_0f7a4_47 : decode cJ6_bitCount_0f7a4 47 = .ok (.istore_n 0, 1) := by decide +kernel
theorem dJ6_bitCount_0f7a4_48 : decode cJ6_bitCount_0f7a4 48 = .ok (.iload_n 0, 1) := by decide +kernel
theorem dJ6_bitCount_0f7a4_49 : decode cJ6_bitCount_0f7a4 49 = .ok (.bipush 63, 2) := by decide +kernel
theorem dJ6_bitCount_0f7a4_51 : decode cJ6_bitCount_0f7a4 51 = .ok (.iand, 1) := by decide +kernel
theorem dJ6_bitCount_0f7a4_52 : decode cJ6_bitCount_0f7a4 52 = .ok (.ireturn, 1) := by decide +kernel
theorem dJ9_max_7cf53_0 : decode cJ9_max_7cf53 0 = .ok (.iload_n 0, 1) := by decide +kernel
theorem dJ9_max_7cf53_1 : decode cJ9_max_7cf53 1 = .ok (.iload_n 1, 1) := by decide +kernel
theorem dJ9_max_7cf53_2 : decode cJ9_max_7cf53 2 = .ok (.if_icmp .lt 7, 3) := by decide +kernel
theorem dJ9_max_7cf53_5 : decode cJ9_max_7cf53 5 = .ok (.iload_n 0, 1) := by decide +kernel
theorem dJ9_max_7cf53_6 : decode cJ9_max_7cf53 6 = .ok (.goto 4, 3) := by decide +kernel
theorem dJ9_max_7cf53_9 : decode cJ9_max_7cf53 9 = .ok (.iload_n 1, 1) := by decide +kernel
theorem dJ9_max_7cf53_10 : decode cJ9_max_7cf53 10 = .ok (.ireturn, 1) := by decide +kernel
set_option maxRecDepth 20000 in
theorem ggL_law_X3_init : GoodIn wsL_law wsX3_init := goodIn_r _ [8, 9, 10, 11, 12, 13, 14, 15, 16, 17, 18, 19, 20, 21, 22, 23, 24, 25, 26, 27, 28, 29, 30, 31, 32, 33, 34, 35, 36, 37, 38, 39, 40, 41, 42, 338, 339, 340, 341, 358, 359, 360, 361, 362, 363, 364, 365, 366, 367, 368, 369, 370, 371, 372] (by decide +kernel) (by decide +kernel)
set_option maxRecDepth 20000 in
theorem gL_law_X3_init : GoodIn wsL_law (wsX3_init) := ggL_law_X3_init
set_option maxRecDepth 20000 in
theorem ggL_law_X4_init : GoodIn wsL_law wsX4_init := goodIn_r _ [45, 46, 10, 11, 41, 47, 48, 49, 50, 51, 52, 53, 54, 55, 56, 57, 58, 59, 60, 342, 343, 344, 345, 346, 347, 348, 349, 350, 351, 352, 353, 354, 355, 356, 357] (by decide +kernel) (by decide +kernel)
set_option maxRecDepth 20000 in
theorem gL_law_X4_init : GoodIn wsL_law (wsX4_init) := ggL_law_X4_init
set_option maxRecDepth 20000 in
theorem ggL_law_X3_write : GoodIn wsL_law wsX3_write := goodIn_r _ [64, 65, 66, 67, 2, 68, 17, 69, 70, 71, 72, 73, 74, 75, 76, 77, 78, 79, 80, 81, 23, 82, 83, 84, 85, 19, 86, 87, 88, 89, 90, 91, 92, 93, 94, 95, 96, 97, 98, 99, 22, 100, 101, 40, 102, 103, 104, 105, 42, 39, 106, 107, 108, 109, 110, 111, 112, 113, 338, 339, 340, 341, 361, 362, 363, 364, 365, 366, 367, 368, 369, 370, 371, 372] (by decide +kernel) (by decide +kernel)
set_option maxRecDepth 20000 in
theorem gL_law_X3_write : GoodIn wsL_law (wsV RL 13 RX3 yX3_write wsX3_write) := goodIn_app (goodIn_of _ (by decide +kernel)) ggL_law_X3_write
set_option maxRecDepth 20000 in
theorem ggL_law_X4_write : GoodIn wsL_law wsX4_write := goodIn_r _ [117, 118, 119, 120, 5, 121, 51, 122, 52, 53, 54, 55, 56, 57, 123, 124, 125, 126, 127, 128, 129, 130, 131, 132, 133, 59, 342, 343, 344, 345, 346, 347, 348, 349, 350, 351, 352, 353, 354, 355, 356, 357] (by decide +kernel) (by decide +kernel)
set_option maxRecDepth 20000 in
theorem gL_law_X4_write : GoodIn wsL_law (wsV RL 17 RX4 yX4_write wsX4_write) := goodIn_app (goodIn_of _ (by decide +kernel)) ggL_law_X4_write
set_option maxRecDepth 20000 in
theorem ggL_law_X3_read : GoodIn wsL_law wsX3_read := goodIn_r _ [137, 65, 66, 67, 2, 68, 17, 69, 70, 71, 72, 73, 74, 75, 76, 77, 78, 79, 80, 81, 23, 82, 83, 84, 85, 19, 86, 87, 88, 89, 90, 91, 92, 93, 94, 95, 96, 97, 98, 99, 22, 100, 101, 40, 102, 103, 104, 105, 42, 39, 106, 107, 108, 109, 110, 111, 112, 113, 338, 339, 340, 341, 361, 362, 363, 364, 365, 366, 367, 368, 369, 370, 371, 372] (by decide +kernel) (by decide +kernel)
set_option maxRecDepth 20000 in
theorem gL_law_X3_read : GoodIn wsL_law (wsV RL 18 RX3 yX3_read wsX3_read) := goodIn_app (goodIn_of _ (by decide +kernel)) ggL_law_X3_read
set_option maxRecDepth 20000 in
theorem ggL_law_X4_read : GoodIn wsL_law wsX4_read := goodIn_r _ [141, 118, 119, 120, 5, 121, 51, 122, 52, 53, 54, 55, 56, 57, 123, 124, 125, 126, 127, 128, 129, 130, 131, 132, 133, 59, 342, 343, 344, 345, 346, 347, 348, 349, 350, 351, 352, 353, 354, 355, 356, 357] (by decide +kernel) (by decide +kernel)
set_option maxRecDepth 20000 in
theorem gL_law_X4_read : GoodIn wsL_law (wsV RL 22 RX4 yX4_read wsX4_read) := goodIn_app (goodIn_of _ (by decide +kernel)) ggL_law_X4_read
set_option maxRecDepth 20000 in
theorem ggL_law_X3_leave : GoodIn wsL_law wsX3_leave := goodIn_r _ [145, 17, 69, 75, 76, 2, 77, 83, 84, 85, 19, 86, 87, 88, 338, 339, 340, 341, 361, 362, 363, 364, 365, 366, 367, 368] (by decide +kernel) (by decide +kernel)
set_option maxRecDepth 20000 in
theorem gL_law_X3_leave : GoodIn wsL_law (wsV RL 23 RX3 yX3_leave wsX3_leave) := goodIn_app (goodIn_of _ (by decide +kernel)) ggL_law_X3_leave
set_option maxRecDepth 20000 in
theorem ggL_law_X4_leave : GoodIn wsL_law wsX4_leave := goodIn_r _ [149, 51, 123, 124, 5, 125, 342, 343, 344, 345, 346, 347, 348, 349, 350, 351, 352, 353, 354, 355, 356, 357] (by decide +kernel) (by decide +kernel)
set_option maxRecDepth 20000 in
theorem gL_law_X4_leave : GoodIn wsL_law (wsV RL 27 RX4 yX4_leave wsX4_leave) := goodIn_app (goodIn_of _ (by decide +kernel)) ggL_law_X4_leave
set_option maxRecDepth 20000 in
theorem ggL_law_X3_deliver : GoodIn wsL_law wsX3_deliver := goodIn_r _ [153, 23, 82, 154, 107, 108, 22, 109, 101, 155, 156, 157, 158, 42, 39, 106, 110, 111, 112, 113, 159, 160, 161, 162, 163, 164, 165, 166, 167, 168, 169, 2, 170, 13, 171, 172, 173, 93, 94, 95, 96, 97, 98, 99, 100, 40, 102, 103, 104, 105, 174, 175, 176, 177, 17, 73, 74, 178, 179, 180, 19, 181, 182, 87, 88, 183, 184, 185, 186, 187, 188, 189, 190, 191, 192, 193, 194, 195, 196, 197, 198, 199, 200, 201, 71, 202, 203, 36, 37, 38, 72, 83, 84, 85, 86, 89, 90, 91, 92, 70, 204, 205, 206, 207, 208, 209, 210, 211, 212, 213, 214, 215, 24, 338, 339, 340, 341, 369, 370, 371, 372, 358, 359, 360, 361, 362, 363, 364, 365, 366, 367, 368] (by decide +kernel) (by decide +kernel)
set_option maxRecDepth 20000 in
theorem gL_law_X3_deliver : GoodIn wsL_law (wsV RL 28 RX3 yX3_deliver wsX3_deliver) := goodIn_app (goodIn_of _ (by decide +kernel)) ggL_law_X3_deliver
set_option maxRecDepth 20000 in
theorem ggL_law_X4_deliver : GoodIn wsL_law wsX4_deliver := goodIn_r _ [219, 122, 59, 50, 47, 48, 52, 51, 55, 56, 57, 53, 58, 54, 220, 60, 123, 124, 5, 125, 221, 222, 223, 224, 130, 131, 132, 133, 225, 226, 227, 126, 127, 128, 129, 342, 343, 344, 345, 346, 347, 348, 349, 350, 351, 352, 353, 354, 355, 356, 357] (by decide +kernel) (by decide +kernel)
set_option maxRecDepth 20000 in
theorem gL_law_X4_deliver : GoodIn wsL_law (wsV RL 31 RX4 yX4_deliver wsX4_deliver) := goodIn_app (goodIn_of _ (by decide +kernel)) ggL_law_X4_deliver
set_option maxRecDepth 20000 in
theorem ggL_law_X3_lose : GoodIn wsL_law wsX3_lose := goodIn_r _ [231, 23, 154, 107, 108, 22, 109, 101, 159, 160, 161, 162, 39, 42, 163, 164, 165, 166, 106, 338, 339, 340, 341, 369, 370, 371, 372] (by decide +kernel) (by decide +kernel)
set_option maxRecDepth 20000 in
theorem gL_law_X3_lose : GoodIn wsL_law (wsV RL 32 RX3 yX3_lose wsX3_lose) := goodIn_app (goodIn_of _ (by decide +kernel)) ggL_law_X3_lose
set_option maxRecDepth 20000 in
theorem ggL_law_X4_lose : GoodIn wsL_law wsX4_lose := goodIn_r _ [235, 122, 123, 124, 5, 125, 221, 222, 223, 224, 59, 342, 343, 344, 345, 346, 347, 348, 349, 350, 351, 352, 353, 354, 355, 356, 357] (by decide +kernel) (by decide +kernel)
set_option maxRecDepth 20000 in
theorem gL_law_X4_lose : GoodIn wsL_law (wsV RL 35 RX4 yX4_lose wsX4_lose) := goodIn_app (goodIn_of _ (by decide +kernel)) ggL_law_X4_lose
set_option maxRecDepth 20000 in
theorem ggL_law_X3_repeat : GoodIn wsL_law wsX3_repeat := goodIn_r _ [239, 23, 154, 107, 108, 22, 109, 101, 78, 79, 80, 2, 81, 82, 240, 241, 242, 243, 42, 39, 163, 164, 165, 166, 106, 244, 98, 99, 100, 40, 338, 339, 340, 341, 369, 370, 371, 372] (by decide +kernel) (by decide +kernel)
set_option maxRecDepth 20000 in
theorem gL_law_X3_repeat : GoodIn wsL_law (wsV RL 36 RX3 yX3_repeat wsX3_repeat) := goodIn_app (goodIn_of _ (by decide +kernel)) ggL_law_X3_repeat
set_option maxRecDepth 20000 in
theorem ggL_law_X4_repeat : GoodIn wsL_law wsX4_repeat := goodIn_r _ [248, 122, 59, 123, 124, 5, 125, 130, 131, 132, 133, 342, 343, 344, 345, 346, 347, 348, 349, 350, 351, 352, 353, 354, 355, 356, 357] (by decide +kernel) (by decide +kernel)
set_option maxRecDepth 20000 in
theorem gL_law_X4_repeat : GoodIn wsL_law (wsV RL 39 RX4 yX4_repeat wsX4_repeat) := goodIn_app (goodIn_of _ (by decide +kernel)) ggL_law_X4_repeat
set_option maxRecDepth 20000 in
theorem ggL_law_X3_fail : GoodIn wsL_law wsX3_fail := goodIn_r _ [252, 13, 171, 253, 254, 2, 255, 256, 257, 258, 259, 338, 339, 340, 341, 358, 359, 360] (by decide +kernel) (by decide +kernel)
set_option maxRecDepth 20000 in
theorem gL_law_X3_fail : GoodIn wsL_law (wsV RL 40 RX3 yX3_fail wsX3_fail) := goodIn_app (goodIn_of _ (by decide +kernel)) ggL_law_X3_fail
set_option maxRecDepth 20000 in
theorem ggL_law_X4_fail : GoodIn wsL_law wsX4_fail := goodIn_r _ [263, 50, 264, 123, 124, 5, 125, 342, 343, 344, 345, 346, 347, 348, 349, 350, 351, 352, 353, 354, 355, 356, 357] (by decide +kernel) (by decide +kernel)
set_option maxRecDepth 20000 in
theorem gL_law_X4_fail : GoodIn wsL_law (wsV RL 43 RX4 yX4_fail wsX4_fail) := goodIn_app (goodIn_of _ (by decide +kernel)) ggL_law_X4_fail
set_option maxRecDepth 20000 in
theorem ggL_law_X3_messages : GoodIn wsL_law wsX3_messages := goodIn_r _ [268, 23, 82, 338, 339, 340, 341, 369, 370, 371, 372] (by decide +kernel) (by decide +kernel)
set_option maxRecDepth 20000 in
theorem gL_law_X3_messages : GoodIn wsL_law (wsV RL 44 RX3 yX3_messages wsX3_messages) := goodIn_app (goodIn_of _ (by decide +kernel)) ggL_law_X3_messages
set_option maxRecDepth 20000 in
theorem ggL_law_X4_messages : GoodIn wsL_law wsX4_messages := goodIn_r _ [272, 122, 342, 343, 344, 345, 346, 347, 348, 349, 350, 351, 352, 353, 354, 355, 356, 357] (by decide +kernel) (by decide +kernel)
set_option maxRecDepth 20000 in
theorem gL_law_X4_messages : GoodIn wsL_law (wsV RL 48 RX4 yX4_messages wsX4_messages) := goodIn_app (goodIn_of _ (by decide +kernel)) ggL_law_X4_messages
set_option maxRecDepth 20000 in
theorem ggL_law_X3_message : GoodIn wsL_law wsX3_message := goodIn_r _ [276, 23, 155, 156, 157, 22, 158, 42, 39, 106, 107, 108, 109, 101, 110, 111, 112, 113, 338, 339, 340, 341, 369, 370, 371, 372] (by decide +kernel) (by decide +kernel)
set_option maxRecDepth 20000 in
theorem gL_law_X3_message : GoodIn wsL_law (wsV RL 49 RX3 yX3_message wsX3_message) := goodIn_app (goodIn_of _ (by decide +kernel)) ggL_law_X3_message
set_option maxRecDepth 20000 in
theorem ggL_law_X4_message : GoodIn wsL_law wsX4_message := goodIn_r _ [280, 122, 59, 123, 124, 5, 125, 342, 343, 344, 345, 346, 347, 348, 349, 350, 351, 352, 353, 354, 355, 356, 357] (by decide +kernel) (by decide +kernel)
set_option maxRecDepth 20000 in
theorem gL_law_X4_message : GoodIn wsL_law (wsV RL 52 RX4 yX4_message wsX4_message) := goodIn_app (goodIn_of _ (by decide +kernel)) ggL_law_X4_message
set_option maxRecDepth 20000 in
theorem ggL_law_X3_tag : GoodIn wsL_law wsX3_tag := goodIn_r _ [284, 13, 172, 253, 254, 2, 255, 338, 339, 340, 341, 358, 359, 360] (by decide +kernel) (by decide +kernel)
set_option maxRecDepth 20000 in
theorem gL_law_X3_tag : GoodIn wsL_law (wsV RL 53 RX3 yX3_tag wsX3_tag) := goodIn_app (goodIn_of _ (by decide +kernel)) ggL_law_X3_tag
set_option maxRecDepth 20000 in
theorem ggL_law_X4_tag : GoodIn wsL_law wsX4_tag := goodIn_r _ [288, 47, 123, 124, 5, 125, 342, 343, 344, 345, 346, 347, 348, 349, 350, 351, 352, 353, 354, 355, 356, 357] (by decide +kernel) (by decide +kernel)
set_option maxRecDepth 20000 in
theorem gL_law_X4_tag : GoodIn wsL_law (wsV RL 56 RX4 yX4_tag wsX4_tag) := goodIn_app (goodIn_of _ (by decide +kernel)) ggL_law_X4_tag
set_option maxRecDepth 20000 in
theorem ggL_law_X3_value : GoodIn wsL_law wsX3_value := goodIn_r _ [292, 13, 173, 253, 254, 2, 255, 338, 339, 340, 341, 358, 359, 360] (by decide +kernel) (by decide +kernel)
set_option maxRecDepth 20000 in
theorem gL_law_X3_value : GoodIn wsL_law (wsV RL 57 RX3 yX3_value wsX3_value) := goodIn_app (goodIn_of _ (by decide +kernel)) ggL_law_X3_value
set_option maxRecDepth 20000 in
theorem ggL_law_X4_value : GoodIn wsL_law wsX4_value := goodIn_r _ [296, 48, 123, 124, 5, 125, 342, 343, 344, 345, 346, 347, 348, 349, 350, 351, 352, 353, 354, 355, 356, 357] (by decide +kernel) (by decide +kernel)
set_option maxRecDepth 20000 in
theorem gL_law_X4_value : GoodIn wsL_law (wsV RL 60 RX4 yX4_value wsX4_value) := goodIn_app (goodIn_of _ (by decide +kernel)) ggL_law_X4_value
set_option maxRecDepth 20000 in
theorem ggL_law_X3_failed : GoodIn wsL_law wsX3_failed := goodIn_r _ [300, 13, 171, 253, 254, 2, 255, 338, 339, 340, 341, 358, 359, 360] (by decide +kernel) (by decide +kernel)
set_option maxRecDepth 20000 in
theorem gL_law_X3_failed : GoodIn wsL_law (wsV RL 61 RX3 yX3_failed wsX3_failed) := goodIn_app (goodIn_of _ (by decide +kernel)) ggL_law_X3_failed
set_option maxRecDepth 20000 in
theorem ggL_law_X4_failed : GoodIn wsL_law wsX4_failed := goodIn_r _ [304, 50, 123, 124, 5, 125, 342, 343, 344, 345, 346, 347, 348, 349, 350, 351, 352, 353, 354, 355, 356, 357] (by decide +kernel) (by decide +kernel)
set_option maxRecDepth 20000 in
theorem gL_law_X4_failed : GoodIn wsL_law (wsV RL 64 RX4 yX4_failed wsX4_failed) := goodIn_app (goodIn_of _ (by decide +kernel)) ggL_law_X4_failed
set_option maxRecDepth 20000 in
theorem ggL_law_X3_phase : GoodIn wsL_law wsX3_phase := goodIn_r _ [308, 17, 69, 75, 76, 2, 77, 338, 339, 340, 341, 361, 362, 363, 364, 365, 366, 367, 368] (by decide +kernel) (by decide +kernel)
set_option maxRecDepth 20000 in
theorem gL_law_X3_phase : GoodIn wsL_law (wsV RL 65 RX3 yX3_phase wsX3_phase) := goodIn_app (goodIn_of _ (by decide +kernel)) ggL_law_X3_phase
set_option maxRecDepth 20000 in
theorem ggL_law_X4_phase : GoodIn wsL_law wsX4_phase := goodIn_r _ [312, 51, 123, 124, 5, 125, 342, 343, 344, 345, 346, 347, 348, 349, 350, 351, 352, 353, 354, 355, 356, 357] (by decide +kernel) (by decide +kernel)
set_option maxRecDepth 20000 in
theorem gL_law_X4_phase : GoodIn wsL_law (wsV RL 68 RX4 yX4_phase wsX4_phase) := goodIn_app (goodIn_of _ (by decide +kernel)) ggL_law_X4_phase
set_option maxRecDepth 20000 in
theorem ggL_law_X3_answered : GoodIn wsL_law wsX3_answered := goodIn_r _ [316, 17, 317, 75, 76, 2, 77, 338, 339, 340, 341, 361, 362, 363, 364, 365, 366, 367, 368] (by decide +kernel) (by decide +kernel)
set_option maxRecDepth 20000 in
theorem gL_law_X3_answered : GoodIn wsL_law (wsV RL 69 RX3 yX3_answered wsX3_answered) := goodIn_app (goodIn_of _ (by decide +kernel)) ggL_law_X3_answered
set_option maxRecDepth 20000 in
theorem ggL_law_X4_answered : GoodIn wsL_law wsX4_answered := goodIn_r _ [321, 51, 55, 123, 124, 5, 125, 342, 343, 344, 345, 346, 347, 348, 349, 350, 351, 352, 353, 354, 355, 356, 357] (by decide +kernel) (by decide +kernel)
set_option maxRecDepth 20000 in
theorem gL_law_X4_answered : GoodIn wsL_law (wsV RL 72 RX4 yX4_answered wsX4_answered) := goodIn_app (goodIn_of _ (by decide +kernel)) ggL_law_X4_answered
set_option maxRecDepth 20000 in
theorem ggL_law_X3_finished : GoodIn wsL_law wsX3_finished := goodIn_r _ [325, 24, 82, 338, 339, 340, 341, 369, 370, 371, 372] (by decide +kernel) (by decide +kernel)
set_option maxRecDepth 20000 in
theorem gL_law_X3_finished : GoodIn wsL_law (wsV RL 73 RX3 yX3_finished wsX3_finished) := goodIn_app (goodIn_of _ (by decide +kernel)) ggL_law_X3_finished
set_option maxRecDepth 20000 in
theorem ggL_law_X4_finished : GoodIn wsL_law wsX4_finished := goodIn_r _ [329, 220, 342, 343, 344, 345, 346, 347, 348, 349, 350, 351, 352, 353, 354, 355, 356, 357] (by decide +kernel) (by decide +kernel)
set_option maxRecDepth 20000 in
theorem gL_law_X4_finished : GoodIn wsL_law (wsV RL 76 RX4 yX4_finished wsX4_finished) := goodIn_app (goodIn_of _ (by decide +kernel)) ggL_law_X4_finished
set_option maxRecDepth 20000 in
theorem ggL_law_X3_operation : GoodIn wsL_law wsX3_operation := goodIn_r _ [333, 24, 155, 156, 157, 22, 158, 42, 39, 106, 107, 108, 109, 101, 110, 111, 112, 113, 338, 339, 340, 341, 369, 370, 371, 372] (by decide +kernel) (by decide +kernel)
set_option maxRecDepth 20000 in
theorem gL_law_X3_operation : GoodIn wsL_law (wsV RL 77 RX3 yX3_operation wsX3_operation) := goodIn_app (goodIn_of _ (by decide +kernel)) ggL_law_X3_operation
set_option maxRecDepth 20000 in
theorem ggL_law_X4_operation : GoodIn wsL_law wsX4_operation := goodIn_r _ [337, 220, 60, 123, 124, 5, 125, 342, 343, 344, 345, 346, 347, 348, 349, 350, 351, 352, 353, 354, 355, 356, 357] (by decide +kernel) (by decide +kernel)
set_option maxRecDepth 20000 in
theorem gL_law_X4_operation : GoodIn wsL_law (wsV RL 80 RX4 yX4_operation wsX4_operation) := goodIn_app (goodIn_of _ (by decide +kernel)) ggL_law_X4_operation
theorem dL_law_0 : decode cL_law 0 = .ok (.new 7, 3) := by decide +kernel
theorem dL_law_3 : decode cL_law 3 = .ok (.dup, 1) := by decide +kernel
theorem dL_law_4 : decode cL_law 4 = .ok (.invokespecial 9, 3) := by decide +kernel
theorem dL_law_7 : decode cL_law 7 = .ok (.astore_n 1, 1) := by decide +kernel
theorem dL_law_8 : decode cL_law 8 = .ok (.new 10, 3) := by decide +kernel
theorem dL_law_11 : decode cL_law 11 = .ok (.dup, 1) := by decide +kernel
theorem dL_law_12 : decode cL_law 12 = .ok (.invokespecial 12, 3) := by decide +kernel
theorem dL_law_15 : decode cL_law 15 = .ok (.astore_n 2, 1) := by decide +kernel
theorem dL_law_16 : decode cL_law 16 = .ok (.iconst 0, 1) := by decide +kernel
theorem dL_law_17 : decode cL_law 17 = .ok (.istore_n 3, 1) := by decide +kernel
theorem dL_law_18 : decode cL_law 18 = .ok (.iload_n 3, 1) := by decide +kernel
theorem dL_law_19 : decode cL_law 19 = .ok (.aload_n 0, 1) := by decide +kernel
theorem dL_law_20 : decode cL_law 20 = .ok (.arraylength, 1) := by decide +kernel
theorem dL_law_21 : decode cL_law 21 = .ok (.iconst 3, 1) := by decide +kernel
theorem dL_law_22 : decode cL_law 22 = .ok (.isub, 1) := by decide +kernel
theorem dL_law_23 : decode cL_law 23 = .ok (.if_icmp .gt 473, 3) := by decide +kernel
theorem dL_law_26 : decode cL_law 26 = .ok (.aload_n 0, 1) := by decide +kernel
theorem dL_law_27 : decode cL_law 27 = .ok (.iload_n 3, 1) := by decide +kernel
theorem dL_law_28 : decode cL_law 28 = .ok (.iaload, 1) := by decide +kernel
theorem dL_law_29 : decode cL_law 29 = .ok (.bipush 15, 2) := by decide +kernel
theorem dL_law_31 : decode cL_law 31 = .ok (.iand, 1) := by decide +kernel
theorem dL_law_32 : decode cL_law 32 = .ok (.tableswitch 458 0 15 #[80, 113, 136, 159, 182, 205, 228, 251, 264, 297, 320, 343, 366, 389, 412, 425], 80) := by decide +kernel
theorem dL_law_112 : decode cL_law 112 = .ok (.aload_n 1, 1) := by decide +kernel
theorem dL_law_113 : decode cL_law 113 = .ok (.aload_n 0, 1) := by decide +kernel
theorem dL_law_114 : decode cL_law 114 = .ok (.iload_n 3, 1) := by decide +kernel
theorem dL_law_115 : decode cL_law 115 = .ok (.iconst 1, 1) := by decide +kernel
theorem dL_law_116 : decode cL_law 116 = .ok (.iadd, 1) := by decide +kernel
theorem dL_law_117 : decode cL_law 117 = .ok (.iaload, 1) := by decide +kernel
theorem dL_law_118 : decode cL_law 118 = .ok (.aload_n 0, 1) := by decide +kernel
theorem dL_law_119 : decode cL_law 119 = .ok (.iload_n 3, 1) := by decide +kernel
theorem dL_law_120 : decode cL_law 120 = .ok (.iconst 2, 1) := by decide +kernel
theorem dL_law_121 : decode cL_law 121 = .ok (.iadd, 1) := by decide +kernel
theorem dL_law_122 : decode cL_law 122 = .ok (.iaload, 1) := by decide +kernel
theorem dL_law_123 : decode cL_law 123 = .ok (.invokevirtual 13, 3) := by decide +kernel
theorem dL_law_126 : decode cL_law 126 = .ok (.aload_n 2, 1) := by decide +kernel
theorem dL_law_127 : decode cL_law 127 = .ok (.aload_n 0, 1) := by decide +kernel
theorem dL_law_128 : decode cL_law 128 = .ok (.iload_n 3, 1) := by decide +kernel
theorem dL_law_129 : decode cL_law 129 = .ok (.iconst 1, 1) := by decide +kernel
theorem dL_law_130 : decode cL_law 130 = .ok (.iadd, 1) := by decide +kernel
theorem dL_law_131 : decode cL_law 131 = .ok (.iaload, 1) := by decide +kernel
theorem dL_law_132 : decode cL_law 132 = .ok (.aload_n 0, 1) := by decide +kernel
theorem dL_law_133 : decode cL_law 133 = .ok (.iload_n 3, 1) := by decide +kernel
theorem dL_law_134 : decode cL_law 134 = .ok (.iconst 2, 1) := by decide +kernel
theorem dL_law_135 : decode cL_law 135 = .ok (.iadd, 1) := by decide +kernel
theorem dL_law_136 : decode cL_law 136 = .ok (.iaload, 1) := by decide +kernel
theorem dL_law_137 : decode cL_law 137 = .ok (.invokevirtual 17, 3) := by decide +kernel
theorem dL_law_140 : decode cL_law 140 = .ok (.if_icmp .eq 350, 3) := by decide +kernel
theorem dL_law_143 : decode cL_law 143 = .ok (.iconst 0, 1) := by decide +kernel
theorem dL_law_144 : decode cL_law 144 = .ok (.ireturn, 1) := by decide +kernel
theorem dL_law_145 : decode cL_law 145 = .ok (.aload_n 1, 1) := by decide +kernel
theorem dL_law_146 : decode cL_law 146 = .ok (.aload_n 0, 1) := by decide +kernel
theorem dL_law_147 : decode cL_law 147 = .ok (.iload_n 3, 1) := by decide +kernel
theorem dL_law_148 : decode cL_law 148 = .ok (.iconst 1, 1) := by decide +kernel
theorem dL_law_149 : decode cL_law 149 = .ok (.iadd, 1) := by decide +kernel
theorem dL_law_150 : decode cL_law 150 = .ok (.iaload, 1) := by decide +kernel
theorem dL_law_151 : decode cL_law 151 = .ok (.invokevirtual 18, 3) := by decide +kernel
theorem dL_law_154 : decode cL_law 154 = .ok (.aload_n 2, 1) := by decide +kernel
theorem dL_law_155 : decode cL_law 155 = .ok (.aload_n 0, 1) := by decide +kernel
theorem dL_law_156 : decode cL_law 156 = .ok (.iload_n 3, 1) := by decide +kernel
theorem dL_law_157 : decode cL_law 157 = .ok (.iconst 1, 1) := by decide +kernel
theorem dL_law_158 : decode cL_law 158 = .ok (.iadd, 1) := by decide +kernel
theorem dL_law_159 : decode cL_law 159 = .ok (.iaload, 1) := by decide +kernel
theorem dL_law_160 : decode cL_law 160 = .ok (.invokevirtual 22, 3) := by decide +kernel
theorem dL_law_163 : decode cL_law 163 = .ok (.if_icmp .eq 327, 3) := by decide +kernel
theorem dL_law_166 : decode cL_law 166 = .ok (.iconst 0, 1) := by decide +kernel
theorem dL_law_167 : decode cL_law 167 = .ok (.ireturn, 1) := by decide +kernel
theorem dL_law_168 : decode cL_law 168 = .ok (.aload_n 1, 1) := by decide +kernel
theorem dL_law_169 : decode cL_law 169 = .ok (.aload_n 0, 1) := by decide +kernel
theorem dL_law_170 : decode cL_law 170 = .ok (.iload_n 3, 1) := by decide +kernel
theorem dL_law_171 : decode cL_law 171 = .ok (.iconst 1, 1) := by decide +kernel
theorem dL_law_172 : decode cL_law 172 = .ok (.iadd, 1) := by decide +kernel
theorem dL_law_173 : decode cL_law 173 = .ok (.iaload, 1) := by decide +kernel
theorem dL_law_174 : decode cL_law 174 = .ok (.invokevirtual 23, 3) := by decide +kernel
theorem dL_law_177 : decode cL_law 177 = .ok (.aload_n 2, 1) := by decide +kernel
theorem dL_law_178 : decode cL_law 178 = .ok (.aload_n 0, 1) := by decide +kernel
theorem dL_law_179 : decode cL_law 179 = .ok (.iload_n 3, 1) := by decide +kernel
theorem dL_law_180 : decode cL_law 180 = .ok (.iconst 1, 1) := by decide +kernel
theorem dL_law_181 : decode cL_law 181 = .ok (.iadd, 1) := by decide +kernel
theorem dL_law_182 : decode cL_law 182 = .ok (.iaload, 1) := by decide +kernel
theorem dL_law_183 : decode cL_law 183 = .ok (.invokevirtual 27, 3) := by decide +kernel
theorem dL_law_186 : decode cL_law 186 = .ok (.if_icmp .eq 304, 3) := by decide +kernel
theorem dL_law_189 : decode cL_law 189 = .ok (.iconst 0, 1) := by decide +kernel
theorem dL_law_190 : decode cL_law 190 = .ok (.ireturn, 1) := by decide +kernel
theorem dL_law_191 : decode cL_law 191 = .ok (.aload_n 1, 1) := by decide +kernel
theorem dL_law_192 : decode cL_law 192 = .ok (.aload_n 0, 1) := by decide +kernel
theorem dL_law_193 : decode cL_law 193 = .ok (.iload_n 3, 1) := by decide +kernel
theorem dL_law_194 : decode cL_law 194 = .ok (.iconst 1, 1) := by decide +kernel
theorem dL_law_195 : decode cL_law 195 = .ok (.iadd, 1) := by decide +kernel
theorem dL_law_196 : decode cL_law 196 = .ok (.iaload, 1) := by decide +kernel
theorem dL_law_197 : decode cL_law 197 = .ok (.invokevirtual 28, 3) := by decide +kernel
theorem dL_law_200 : decode cL_law 200 = .ok (.aload_n 2, 1) := by decide +kernel
theorem dL_law_201 : decode cL_law 201 = .ok (.aload_n 0, 1) := by decide +kernel
theorem dL_law_202 : decode cL_law 202 = .ok (.iload_n 3, 1) := by decide +kernel
theorem dL_law_203 : decode cL_law 203 = .ok (.iconst 1, 1) := by decide +kernel
theorem dL_law_204 : decode cL_law 204 = .ok (.iadd, 1) := by decide +kernel
theorem dL_law_205 : decode cL_law 205 = .ok (.iaload, 1) := by decide +kernel
theorem dL_law_206 : decode cL_law 206 = .ok (.invokevirtual 31, 3) := by decide +kernel
theorem dL_law_209 : decode cL_law 209 = .ok (.if_icmp .eq 281, 3) := by decide +kernel
theorem dL_law_212 : decode cL_law 212 = .ok (.iconst 0, 1) := by decide +kernel
theorem dL_law_213 : decode cL_law 213 = .ok (.ireturn, 1) := by decide +kernel
theorem dL_law_214 : decode cL_law 214 = .ok (.aload_n 1, 1) := by decide +kernel
theorem dL_law_215 : decode cL_law 215 = .ok (.aload_n 0, 1) := by decide +kernel
theorem dL_law_216 : decode cL_law 216 = .ok (.iload_n 3, 1) := by decide +kernel
theorem dL_law_217 : decode cL_law 217 = .ok (.iconst 1, 1) := by decide +kernel
theorem dL_law_218 : decode cL_law 218 = .ok (.iadd, 1) := by decide +kernel
theorem dL_law_219 : decode cL_law 219 = .ok (.iaload, 1) := by decide +kernel
theorem dL_law_220 : decode cL_law 220 = .ok (.invokevirtual 32, 3) := by decide +kernel
theorem dL_law_223 : decode cL_law 223 = .ok (.aload_n 2, 1) := by decide +kernel
theorem dL_law_224 : decode cL_law 224 = .ok (.aload_n 0, 1) := by decide +kernel
theorem dL_law_225 : decode cL_law 225 = .ok (.iload_n 3, 1) := by decide +kernel
theorem dL_law_226 : decode cL_law 226 = .ok (.iconst 1, 1) := by decide +kernel
theorem dL_law_227 : decode cL_law 227 = .ok (.iadd, 1) := by decide +kernel
theorem dL_law_228 : decode cL_law 228 = .ok (.iaload, 1) := by decide +kernel
theorem dL_law_229 : decode cL_law 229 = .ok (.invokevirtual 35, 3) := by decide +kernel
theorem dL_law_232 : decode cL_law 232 = .ok (.if_icmp .eq 258, 3) := by decide +kernel
theorem dL_law_235 : decode cL_law 235 = .ok (.iconst 0, 1) := by decide +kernel
theorem dL_law_236 : decode cL_law 236 = .ok (.ireturn, 1) := by decide +kernel
theorem dL_law_237 : decode cL_law 237 = .ok (.aload_n 1, 1) := by decide +kernel
theorem dL_law_238 : decode cL_law 238 = .ok (.aload_n 0, 1) := by decide +kernel
theorem dL_law_239 : decode cL_law 239 = .ok (.iload_n 3, 1) := by decide +kernel
theorem dL_law_240 : decode cL_law 240 = .ok (.iconst 1, 1) := by decide +kernel
theorem dL_law_241 : decode cL_law 241 = .ok (.iadd, 1) := by decide +kernel
theorem dL_law_242 : decode cL_law 242 = .ok (.iaload, 1) := by decide +kernel
theorem dL_law_243 : decode cL_law 243 = .ok (.invokevirtual 36, 3) := by decide +kernel
theorem dL_law_246 : decode cL_law 246 = .ok (.aload_n 2, 1) := by decide +kernel
theorem dL_law_247 : decode cL_law 247 = .ok (.aload_n 0, 1) := by decide +kernel
theorem dL_law_248 : decode cL_law 248 = .ok (.iload_n 3, 1) := by decide +kernel
theorem dL_law_249 : decode cL_law 249 = .ok (.iconst 1, 1) := by decide +kernel
theorem dL_law_250 : decode cL_law 250 = .ok (.iadd, 1) := by decide +kernel
theorem dL_law_251 : decode cL_law 251 = .ok (.iaload, 1) := by decide +kernel
theorem dL_law_252 : decode cL_law 252 = .ok (.invokevirtual 39, 3) := by decide +kernel
theorem dL_law_255 : decode cL_law 255 = .ok (.if_icmp .eq 235, 3) := by decide +kernel
theorem dL_law_258 : decode cL_law 258 = .ok (.iconst 0, 1) := by decide +kernel
theorem dL_law_259 : decode cL_law 259 = .ok (.ireturn, 1) := by decide +kernel
theorem dL_law_260 : decode cL_law 260 = .ok (.aload_n 1, 1) := by decide +kernel
theorem dL_law_261 : decode cL_law 261 = .ok (.aload_n 0, 1) := by decide +kernel
theorem dL_law_262 : decode cL_law 262 = .ok (.iload_n 3, 1) := by decide +kernel
theorem dL_law_263 : decode cL_law 263 = .ok (.iconst 1, 1) := by decide +kernel
theorem dL_law_264 : decode cL_law 264 = .ok (.iadd, 1) := by decide +kernel
theorem dL_law_265 : decode cL_law 265 = .ok (.iaload, 1) := by decide +kernel
theorem dL_law_266 : decode cL_law 266 = .ok (.invokevirtual 40, 3) := by decide +kernel
theorem dL_law_269 : decode cL_law 269 = .ok (.aload_n 2, 1) := by decide +kernel
theorem dL_law_270 : decode cL_law 270 = .ok (.aload_n 0, 1) := by decide +kernel
theorem dL_law_271 : decode cL_law 271 = .ok (.iload_n 3, 1) := by decide +kernel
theorem dL_law_272 : decode cL_law 272 = .ok (.iconst 1, 1) := by decide +kernel
theorem dL_law_273 : decode cL_law 273 = .ok (.iadd, 1) := by decide +kernel
theorem dL_law_274 : decode cL_law 274 = .ok (.iaload, 1) := by decide +kernel
theorem dL_law_275 : decode cL_law 275 = .ok (.invokevirtual 43, 3) := by decide +kernel
theorem dL_law_278 : decode cL_law 278 = .ok (.if_icmp .eq 212, 3) := by decide +kernel
theorem dL_law_281 : decode cL_law 281 = .ok (.iconst 0, 1) := by decide +kernel
theorem dL_law_282 : decode cL_law 282 = .ok (.ireturn, 1) := by decide +kernel
theorem dL_law_283 : decode cL_law 283 = .ok (.aload_n 1, 1) := by decide +kernel
theorem dL_law_284 : decode cL_law 284 = .ok (.invokevirtual 44, 3) := by decide +kernel
theorem dL_law_287 : decode cL_law 287 = .ok (.aload_n 2, 1) := by decide +kernel
theorem dL_law_288 : decode cL_law 288 = .ok (.invokevirtual 48, 3) := by decide +kernel
theorem dL_law_291 : decode cL_law 291 = .ok (.if_icmp .eq 199, 3) := by decide +kernel
theorem dL_law_294 : decode cL_law 294 = .ok (.iconst 0, 1) := by decide +kernel
theorem dL_law_295 : decode cL_law 295 = .ok (.ireturn, 1) := by decide +kernel
theorem dL_law_296 : decode cL_law 296 = .ok (.aload_n 1, 1) := by decide +kernel
theorem dL_law_297 : decode cL_law 297 = .ok (.aload_n 0, 1) := by decide +kernel
theorem dL_law_298 : decode cL_law 298 = .ok (.iload_n 3, 1) := by decide +kernel
theorem dL_law_299 : decode cL_law 299 = .ok (.iconst 1, 1) := by decide +kernel
theorem dL_law_300 : decode cL_law 300 = .ok (.iadd, 1) := by decide +kernel
theorem dL_law_301 : decode cL_law 301 = .ok (.iaload, 1) := by decide +kernel
theorem dL_law_302 : decode cL_law 302 = .ok (.aload_n 0, 1) := by decide +kernel
theorem dL_law_303 : decode cL_law 303 = .ok (.iload_n 3, 1) := by decide +kernel
theorem dL_law_304 : decode cL_law 304 = .ok (.iconst 2, 1) := by decide +kernel
theorem dL_law_305 : decode cL_law 305 = .ok (.iadd, 1) := by decide +kernel
theorem dL_law_306 : decode cL_law 306 = .ok (.iaload, 1) := by decide +kernel
theorem dL_law_307 : decode cL_law 307 = .ok (.invokevirtual 49, 3) := by decide +kernel
theorem dL_law_310 : decode cL_law 310 = .ok (.aload_n 2, 1) := by decide +kernel
theorem dL_law_311 : decode cL_law 311 = .ok (.aload_n 0, 1) := by decide +kernel
theorem dL_law_312 : decode cL_law 312 = .ok (.iload_n 3, 1) := by decide +kernel
theorem dL_law_313 : decode cL_law 313 = .ok (.iconst 1, 1) := by decide +kernel
theorem dL_law_314 : decode cL_law 314 = .ok (.iadd, 1) := by decide +kernel
theorem dL_law_315 : decode cL_law 315 = .ok (.iaload, 1) := by decide +kernel
theorem dL_law_316 : decode cL_law 316 = .ok (.aload_n 0, 1) := by decide +kernel
theorem dL_law_317 : decode cL_law 317 = .ok (.iload_n 3, 1) := by decide +kernel
theorem dL_law_318 : decode cL_law 318 = .ok (.iconst 2, 1) := by decide +kernel
theorem dL_law_319 : decode cL_law 319 = .ok (.iadd, 1) := by decide +kernel
theorem dL_law_320 : decode cL_law 320 = .ok (.iaload, 1) := by decide +kernel
theorem dL_law_321 : decode cL_law 321 = .ok (.invokevirtual 52, 3) := by decide +kernel
theorem dL_law_324 : decode cL_law 324 = .ok (.if_icmp .eq 166, 3) := by decide +kernel
theorem dL_law_327 : decode cL_law 327 = .ok (.iconst 0, 1) := by decide +kernel
theorem dL_law_328 : decode cL_law 328 = .ok (.ireturn, 1) := by decide +kernel
theorem dL_law_329 : decode cL_law 329 = .ok (.aload_n 1, 1) := by decide +kernel
theorem dL_law_330 : decode cL_law 330 = .ok (.aload_n 0, 1) := by decide +kernel
theorem dL_law_331 : decode cL_law 331 = .ok (.iload_n 3, 1) := by decide +kernel
theorem dL_law_332 : decode cL_law 332 = .ok (.iconst 1, 1) := by decide +kernel
theorem dL_law_333 : decode cL_law 333 = .ok (.iadd, 1) := by decide +kernel
theorem dL_law_334 : decode cL_law 334 = .ok (.iaload, 1) := by decide +kernel
theorem dL_law_335 : decode cL_law 335 = .ok (.invokevirtual 53, 3) := by decide +kernel
theorem dL_law_338 : decode cL_law 338 = .ok (.aload_n 2, 1) := by decide +kernel
theorem dL_law_339 : decode cL_law 339 = .ok (.aload_n 0, 1) := by decide +kernel
theorem dL_law_340 : decode cL_law 340 = .ok (.iload_n 3, 1) := by decide +kernel
theorem dL_law_341 : decode cL_law 341 = .ok (.iconst 1, 1) := by decide +kernel
theorem dL_law_342 : decode cL_law 342 = .ok (.iadd, 1) := by decide +kernel
theorem dL_law_343 : decode cL_law 343 = .ok (.iaload, 1) := by decide +kernel
theorem dL_law_344 : decode cL_law 344 = .ok (.invokevirtual 56, 3) := by decide +kernel
theorem dL_law_347 : decode cL_law 347 = .ok (.if_icmp .eq 143, 3) := by decide +kernel
theorem dL_law_350 : decode cL_law 350 = .ok (.iconst 0, 1) := by decide +kernel
theorem dL_law_351 : decode cL_law 351 = .ok (.ireturn, 1) := by decide +kernel
theorem dL_law_352 : decode cL_law 352 = .ok (.aload_n 1, 1) := by decide +kernel
theorem dL_law_353 : decode cL_law 353 = .ok (.aload_n 0, 1) := by decide +kernel
theorem dL_law_354 : decode cL_law 354 = .ok (.iload_n 3, 1) := by decide +kernel
theorem dL_law_355 : decode cL_law 355 = .ok (.iconst 1, 1) := by decide +kernel
theorem dL_law_356 : decode cL_law 356 = .ok (.iadd, 1) := by decide +kernel
theorem dL_law_357 : decode cL_law 357 = .ok (.iaload, 1) := by decide +kernel
theorem dL_law_358 : decode cL_law 358 = .ok (.invokevirtual 57, 3) := by decide +kernel
theorem dL_law_361 : decode cL_law 361 = .ok (.aload_n 2, 1) := by decide +kernel
theorem dL_law_362 : decode cL_law 362 = .ok (.aload_n 0, 1) := by decide +kernel
theorem dL_law_363 : decode cL_law 363 = .ok (.iload_n 3, 1) := by decide +kernel
theorem dL_law_364 : decode cL_law 364 = .ok (.iconst 1, 1) := by decide +kernel
theorem dL_law_365 : decode cL_law 365 = .ok (.iadd, 1) := by decide +kernel
theorem dL_law_366 : decode cL_law 366 = .ok (.iaload, 1) := by decide +kernel
theorem dL_law_367 : decode cL_law 367 = .ok (.invokevirtual 60, 3) := by decide +kernel
theorem dL_law_370 : decode cL_law 370 = .ok (.if_icmp .eq 120, 3) := by decide +kernel
theorem dL_law_373 : decode cL_law 373 = .ok (.iconst 0, 1) := by decide +kernel
theorem dL_law_374 : decode cL_law 374 = .ok (.ireturn, 1) := by decide +kernel
theorem dL_law_375 : decode cL_law 375 = .ok (.aload_n 1, 1) := by decide +kernel
theorem dL_law_376 : decode cL_law 376 = .ok (.aload_n 0, 1) := by decide +kernel
theorem dL_law_377 : decode cL_law 377 = .ok (.iload_n 3, 1) := by decide +kernel
theorem dL_law_378 : decode cL_law 378 = .ok (.iconst 1, 1) := by decide +kernel
theorem dL_law_379 : decode cL_law 379 = .ok (.iadd, 1) := by decide +kernel
theorem dL_law_380 : decode cL_law 380 = .ok (.iaload, 1) := by decide +kernel
theorem dL_law_381 : decode cL_law 381 = .ok (.invokevirtual 61, 3) := by decide +kernel
theorem dL_law_384 : decode cL_law 384 = .ok (.aload_n 2, 1) := by decide +kernel
theorem dL_law_385 : decode cL_law 385 = .ok (.aload_n 0, 1) := by decide +kernel
theorem dL_law_386 : decode cL_law 386 = .ok (.iload_n 3, 1) := by decide +kernel
theorem dL_law_387 : decode cL_law 387 = .ok (.iconst 1, 1) := by decide +kernel
theorem dL_law_388 : decode cL_law 388 = .ok (.iadd, 1) := by decide +kernel
theorem dL_law_389 : decode cL_law 389 = .ok (.iaload, 1) := by decide +kernel
theorem dL_law_390 : decode cL_law 390 = .ok (.invokevirtual 64, 3) := by decide +kernel
theorem dL_law_393 : decode cL_law 393 = .ok (.if_icmp .eq 97, 3) := by decide +kernel
theorem dL_law_396 : decode cL_law 396 = .ok (.iconst 0, 1) := by decide +kernel
theorem dL_law_397 : decode cL_law 397 = .ok (.ireturn, 1) := by decide +kernel
theorem dL_law_398 : decode cL_law 398 = .ok (.aload_n 1, 1) := by decide +kernel
theorem dL_law_399 : decode cL_law 399 = .ok (.aload_n 0, 1) := by decide +kernel
theorem dL_law_400 : decode cL_law 400 = .ok (.iload_n 3, 1) := by decide +kernel
theorem dL_law_401 : decode cL_law 401 = .ok (.iconst 1, 1) := by decide +kernel
theorem dL_law_402 : decode cL_law 402 = .ok (.iadd, 1) := by decide +kernel
theorem dL_law_403 : decode cL_law 403 = .ok (.iaload, 1) := by decide +kernel
theorem dL_law_404 : decode cL_law 404 = .ok (.invokevirtual 65, 3) := by decide +kernel
theorem dL_law_407 : decode cL_law 407 = .ok (.aload_n 2, 1) := by decide +kernel
theorem dL_law_408 : decode cL_law 408 = .ok (.aload_n 0, 1) := by decide +kernel
theorem dL_law_409 : decode cL_law 409 = .ok (.iload_n 3, 1) := by decide +kernel
theorem dL_law_410 : decode cL_law 410 = .ok (.iconst 1, 1) := by decide +kernel
theorem dL_law_411 : decode cL_law 411 = .ok (.iadd, 1) := by decide +kernel
theorem dL_law_412 : decode cL_law 412 = .ok (.iaload, 1) := by decide +kernel
theorem dL_law_413 : decode cL_law 413 = .ok (.invokevirtual 68, 3) := by decide +kernel
theorem dL_law_416 : decode cL_law 416 = .ok (.if_icmp .eq 74, 3) := by decide +kernel
theorem dL_law_419 : decode cL_law 419 = .ok (.iconst 0, 1) := by decide +kernel
theorem dL_law_420 : decode cL_law 420 = .ok (.ireturn, 1) := by decide +kernel
theorem dL_law_421 : decode cL_law 421 = .ok (.aload_n 1, 1) := by decide +kernel
theorem dL_law_422 : decode cL_law 422 = .ok (.aload_n 0, 1) := by decide +kernel
theorem dL_law_423 : decode cL_law 423 = .ok (.iload_n 3, 1) := by decide +kernel
theorem dL_law_424 : decode cL_law 424 = .ok (.iconst 1, 1) := by decide +kernel
theorem dL_law_425 : decode cL_law 425 = .ok (.iadd, 1) := by decide +kernel
theorem dL_law_426 : decode cL_law 426 = .ok (.iaload, 1) := by decide +kernel
theorem dL_law_427 : decode cL_law 427 = .ok (.invokevirtual 69, 3) := by decide +kernel
theorem dL_law_430 : decode cL_law 430 = .ok (.aload_n 2, 1) := by decide +kernel
theorem dL_law_431 : decode cL_law 431 = .ok (.aload_n 0, 1) := by decide +kernel
theorem dL_law_432 : decode cL_law 432 = .ok (.iload_n 3, 1) := by decide +kernel
theorem dL_law_433 : decode cL_law 433 = .ok (.iconst 1, 1) := by decide +kernel
theorem dL_law_434 : decode cL_law 434 = .ok (.iadd, 1) := by decide +kernel
theorem dL_law_435 : decode cL_law 435 = .ok (.iaload, 1) := by decide +kernel
theorem dL_law_436 : decode cL_law 436 = .ok (.invokevirtual 72, 3) := by decide +kernel
theorem dL_law_439 : decode cL_law 439 = .ok (.if_icmp .eq 51, 3) := by decide +kernel
theorem dL_law_442 : decode cL_law 442 = .ok (.iconst 0, 1) := by decide +kernel
theorem dL_law_443 : decode cL_law 443 = .ok (.ireturn, 1) := by decide +kernel
theorem dL_law_444 : decode cL_law 444 = .ok (.aload_n 1, 1) := by decide +kernel
theorem dL_law_445 : decode cL_law 445 = .ok (.invokevirtual 73, 3) := by decide +kernel
theorem dL_law_448 : decode cL_law 448 = .ok (.aload_n 2, 1) := by decide +kernel
theorem dL_law_449 : decode cL_law 449 = .ok (.invokevirtual 76, 3) := by decide +kernel
theorem dL_law_452 : decode cL_law 452 = .ok (.if_icmp .eq 38, 3) := by decide +kernel
theorem dL_law_455 : decode cL_law 455 = .ok (.iconst 0, 1) := by decide +kernel
theorem dL_law_456 : decode cL_law 456 = .ok (.ireturn, 1) := by decide +kernel
theorem dL_law_457 : decode cL_law 457 = .ok (.aload_n 1, 1) := by decide +kernel
theorem dL_law_458 : decode cL_law 458 = .ok (.aload_n 0, 1) := by decide +kernel
theorem dL_law_459 : decode cL_law 459 = .ok (.iload_n 3, 1) := by decide +kernel
theorem dL_law_460 : decode cL_law 460 = .ok (.iconst 1, 1) := by decide +kernel
theorem dL_law_461 : decode cL_law 461 = .ok (.iadd, 1) := by decide +kernel
theorem dL_law_462 : decode cL_law 462 = .ok (.iaload, 1) := by decide +kernel
theorem dL_law_463 : decode cL_law 463 = .ok (.aload_n 0, 1) := by decide +kernel
theorem dL_law_464 : decode cL_law 464 = .ok (.iload_n 3, 1) := by decide +kernel
theorem dL_law_465 : decode cL_law 465 = .ok (.iconst 2, 1) := by decide +kernel
theorem dL_law_466 : decode cL_law 466 = .ok (.iadd, 1) := by decide +kernel
theorem dL_law_467 : decode cL_law 467 = .ok (.iaload, 1) := by decide +kernel
theorem dL_law_468 : decode cL_law 468 = .ok (.invokevirtual 77, 3) := by decide +kernel
theorem dL_law_471 : decode cL_law 471 = .ok (.aload_n 2, 1) := by decide +kernel
theorem dL_law_472 : decode cL_law 472 = .ok (.aload_n 0, 1) := by decide +kernel
theorem dL_law_473 : decode cL_law 473 = .ok (.iload_n 3, 1) := by decide +kernel
theorem dL_law_474 : decode cL_law 474 = .ok (.iconst 1, 1) := by decide +kernel
theorem dL_law_475 : decode cL_law 475 = .ok (.iadd, 1) := by decide +kernel
theorem dL_law_476 : decode cL_law 476 = .ok (.iaload, 1) := by decide +kernel
theorem dL_law_477 : decode cL_law 477 = .ok (.aload_n 0, 1) := by decide +kernel
theorem dL_law_478 : decode cL_law 478 = .ok (.iload_n 3, 1) := by decide +kernel
theorem dL_law_479 : decode cL_law 479 = .ok (.iconst 2, 1) := by decide +kernel
theorem dL_law_480 : decode cL_law 480 = .ok (.iadd, 1) := by decide +kernel
theorem dL_law_481 : decode cL_law 481 = .ok (.iaload, 1) := by decide +kernel
theorem dL_law_482 : decode cL_law 482 = .ok (.invokevirtual 80, 3) := by decide +kernel
theorem dL_law_485 : decode cL_law 485 = .ok (.if_icmp .eq 5, 3) := by decide +kernel
theorem dL_law_488 : decode cL_law 488 = .ok (.iconst 0, 1) := by decide +kernel
theorem dL_law_489 : decode cL_law 489 = .ok (.ireturn, 1) := by decide +kernel
theorem dL_law_490 : decode cL_law 490 = .ok (.iinc 3 3, 3) := by decide +kernel
theorem dL_law_493 : decode cL_law 493 = .ok (.goto (-475), 3) := by decide +kernel
theorem dL_law_496 : decode cL_law 496 = .ok (.iconst 1, 1) := by decide +kernel
theorem dL_law_497 : decode cL_law 497 = .ok (.ireturn, 1) := by decide +kernel
end
section
/-! WORDS FOR THE STATE, and rows of our own over the kit's: contracts of three kinds (MetS: reads, MetV: writes, no answer, MetI: writes, an int), calls, places. -/
def up2 (F : Nat → Nat → Int32) (a k : Nat) (v : Int32) : Nat → Nat → Int32 := fun x y => if x = a ∧ y = k then v else F x y
theorem up2_same {F : Nat → Nat → Int32} {a k : Nat} {v : Int32} : up2 F a k v a k = v := if_pos ⟨rfl, rfl⟩
theorem up2_k {F : Nat → Nat → Int32} {a k x y : Nat} {v : Int32} (h : y ≠ k) : up2 F a k v x y = F x y := if_neg (fun q => h q.2)
theorem up2_a {F : Nat → Nat → Int32} {a k x y : Nat} {v : Int32} (h : x ≠ a) : up2 F a k v x y = F x y := if_neg (fun q => h q.1)
/-- a callee's world wc, w1 behind it, inside the caller's world ws, ws' behind it -/
def qFit (ws wc w1 ws' : va_W) : Prop := (∀ (j : Nat) (q : Nat × va_E), wc[j]? = some q → ∃ k : Nat, ws[k]? = some q) ∧ (∀ (k : Nat) (q : Nat × va_E), ws'[k]? = some q → (∃ j : Nat, w1[j]? = some q) ∨ (ws[k]? = some q ∧ ∀ (j : Nat) (q' : Nat × va_E), wc[j]? = some q' → q'.1 ≠ q.1)) ∧ ws'.map Prod.fst = ws.map Prod.fst
theorem qD_same {A : Nat → Prop} {ws ws' : va_W} (h : va_D A ws) (e : ws'.map Prod.fst = ws.map Prod.fst) : va_D A ws' := by
  have key : ∀ (i : Nat) (p : Nat × va_E), ws'[i]? = some p → ∃ p' : Nat × va_E, ws[i]? = some p' ∧ p'.1 = p.1 := by
    intro i p hp
    have h1 : (ws'.map Prod.fst)[i]? = some p.1 := by rw [List.getElem?_map, hp]; rfl
    rw [e, List.getElem?_map] at h1
    cases hw : ws[i]? with
    | none => rw [hw] at h1; cases h1
    | some p' => rw [hw] at h1; exact ⟨p', rfl, Option.some.inj h1⟩
  refine ⟨fun i j p q hi hj hpq => ?_, fun k q hk => ?_⟩
  · obtain ⟨p', hp', e1⟩ := key i p hi
    obtain ⟨q', hq', e2⟩ := key j q hj
    exact h.1 i j p' q' hp' hq' (by rw [e1, e2, hpq])
  · obtain ⟨q', hq', e1⟩ := key k q hk
    have := h.2 k q' hq'
    rw [e1] at this
    exact this
theorem qFit_all {ws w1 : va_W} (e : w1.map Prod.fst = ws.map Prod.fst) : qFit ws ws w1 w1 := ⟨fun j _ h => ⟨j, h⟩, fun k _ h => Or.inl ⟨k, h⟩, e⟩
theorem qset_fst {ws : va_W} {k a : Nat} {e e' : va_E} (hk : ws[k]? = some (a, e)) : (ws.set k (a, e')).map Prod.fst = ws.map Prod.fst := by
  refine List.ext_getElem? (fun i => ?_)
  rw [List.getElem?_map, List.getElem?_map]
  by_cases h : k = i
  · subst h
    have hlt : k < ws.length := (List.getElem?_eq_some_iff.mp hk).1
    rw [List.getElem?_set_self hlt, hk]
    rfl
  · rw [List.getElem?_set_ne h]
theorem qFit1 {A : Nat → Prop} {ws ws' : va_W} {k a : Nat} {e e' : va_E} (hD : va_D A ws) (hk : ws[k]? = some (a, e)) (he : ws.set k (a, e') = ws') : qFit ws [(a, e)] [(a, e')] ws' := by
  subst he
  refine ⟨fun j q h => ?_, fun i q h => ?_, qset_fst hk⟩
  · match j, h with
    | 0, h => cases h; exact ⟨k, hk⟩
  · by_cases hik : k = i
    · subst hik
      have hlt : k < ws.length := (List.getElem?_eq_some_iff.mp hk).1
      rw [List.getElem?_set_self hlt] at h
      exact Or.inl ⟨0, h⟩
    · rw [List.getElem?_set_ne hik] at h
      refine Or.inr ⟨h, fun j q' hj hq => ?_⟩
      match j, hj with
      | 0, hj => cases hj; exact hik (hD.1 k i _ _ hk h hq)
theorem qFit2 {A : Nat → Prop} {ws ws' : va_W} {k1 k2 a1 a2 : Nat} {e1 e1' e2 e2' : va_E} (hD : va_D A ws) (hk1 : ws[k1]? = some (a1, e1)) (hk2 : ws[k2]? = some (a2, e2)) (hne : k1 ≠ k2) (he : (ws.set k1 (a1, e1')).set k2 (a2, e2') = ws') : qFit ws [(a1, e1), (a2, e2)] [(a1, e1'), (a2, e2')] ws' := by
  subst he
  have h2 : (ws.set k1 (a1, e1'))[k2]? = some (a2, e2) := by rw [List.getElem?_set_ne hne]; exact hk2
  refine ⟨fun j q h => ?_, fun i q h => ?_, (qset_fst h2).trans (qset_fst hk1)⟩
  · match j, h with
    | 0, h => cases h; exact ⟨k1, hk1⟩
    | 1, h => cases h; exact ⟨k2, hk2⟩
  · by_cases hik : k2 = i
    · subst hik
      have hlt : k2 < (ws.set k1 (a1, e1')).length := (List.getElem?_eq_some_iff.mp h2).1
      rw [List.getElem?_set_self hlt] at h
      exact Or.inl ⟨1, h⟩
    · rw [List.getElem?_set_ne hik] at h
      by_cases hik1 : k1 = i
      · subst hik1
        have hlt : k1 < ws.length := (List.getElem?_eq_some_iff.mp hk1).1
        rw [List.getElem?_set_self hlt] at h
        exact Or.inl ⟨0, h⟩
      · rw [List.getElem?_set_ne hik1] at h
        refine Or.inr ⟨h, fun j q' hj hq => ?_⟩
        match j, hj with
        | 0, hj => cases hj; exact hik1 (hD.1 k1 i _ _ hk1 h hq)
        | 1, hj => cases hj; exact hik (hD.1 k2 i _ _ hk2 h hq)
theorem qFit.P {D : va_G} {cl : List vw_C} {ws wc w1 ws' : va_W} {H H1 : Heap} (h : qFit ws wc w1 ws') (hP : va_P D cl ws H) (hk : ∀ q : Nat, q < H.size → ¬ va_A wc H.size q → H1[q]? = H[q]?) (hP1 : va_P D cl w1 H1) : va_P D cl ws' H1 := by
  intro k q hq
  rcases h.2.1 k q hq with ⟨j, hj⟩ | ⟨h1, h2⟩
  · exact hP1 j q hj
  · have hlt := (hP k q h1).lt
    refine (hP k q h1).kept (hk q.1 hlt ?_)
    rintro (⟨j, e2, hj⟩ | h3)
    · exact h2 j _ hj rfl
    · omega
theorem qFit.sub {D : va_G} {cl : List vw_C} {ws wc w1 ws' : va_W} {H : Heap} (h : qFit ws wc w1 ws') (hP : va_P D cl ws H) : va_P D cl wc H := by
  intro j q hj
  obtain ⟨k, hk⟩ := h.1 j q hj
  exact hP k q hk
theorem qFit.free {A0 : Nat → Prop} {ws wc w1 ws' : va_W} {H0 H : Heap} {locs : List Loc} (h : qFit ws wc w1 ws') (hD : va_D A0 ws) (hS : va_S A0 H0 H locs) (hA : ∀ q, H0.size ≤ q → A0 q) : ∀ q, va_A wc H.size q → A0 q := by
  rintro q (⟨j, e2, hj⟩ | h3)
  · obtain ⟨k, hk⟩ := h.1 j _ hj
    exact hD.2 k _ hk
  · exact hA q (Nat.le_trans hS.1 h3)
theorem qFit.D {A0 : Nat → Prop} {ws wc w1 ws' : va_W} (h : qFit ws wc w1 ws') (hD : va_D A0 ws) : va_D A0 ws' := qD_same hD h.2.2
/-- the starts of contracts: a read's, a write's -/
def qS (D : va_G) (cl : List vw_C) (w : va_W) (tys : List (ClassId × FieldType)) (av : List Value) : Array Value → State → Prop := va_Pc av (fun U => va_P D cl w U.heap ∧ va_K D cl tys U)
def qW (D : va_G) (cl : List vw_C) (w : va_W) (tys : List (ClassId × FieldType)) (sz : Nat) (av : List Value) : Array Value → State → Prop := va_Pc av (fun U => U.heap.size = sz ∧ va_P D cl w U.heap ∧ va_K D cl tys U ∧ va_D (fun _ => True) w)
def qQv (D : va_G) (cl : List vw_C) (w' : va_W) (A : Nat → Prop) : Array Value → State → Outcome → State → Prop := va_Qv (fun _ : Unit => True) (fun _ t => va_P D cl w' t.heap) A
def qQi (D : va_G) (cl : List vw_C) (w' : va_W) (A : Nat → Prop) (x : Int32) : Array Value → State → Outcome → State → Prop := va_Qi (fun (r : Int32) (_ : Unit) => r = x) (fun _ t => va_P D cl w' t.heap) A
def MetS (l : Launch) (y : MethodName) (ws : List Cond) (rm : Room) (D : va_G) (cl : List vw_C) (w : va_W) (tys : List (ClassId × FieldType)) (av : List Value) (x : Int32) : Prop := Met l y ws rm (qS D cl w tys av) (vp_Si (fun r => r = x)) 0 0 (fun _ => False)
def MetV (l : Launch) (y : MethodName) (ws : List Cond) (rm : Room) (D : va_G) (cl : List vw_C) (w : va_W) (tys : List (ClassId × FieldType)) (av : List Value) (w' : va_W) : Prop := ∀ sz : Nat, Met l y ws rm (qW D cl w tys sz av) (qQv D cl w' (va_A w sz)) 0 0 (va_A w sz)
def MetI (l : Launch) (y : MethodName) (ws : List Cond) (rm : Room) (D : va_G) (cl : List vw_C) (w : va_W) (tys : List (ClassId × FieldType)) (av : List Value) (x : Int32) (w' : va_W) : Prop := ∀ sz : Nat, Met l y ws rm (qW D cl w tys sz av) (qQi D cl w' (va_A w sz) x) 0 0 (va_A w sz)
theorem qS_blind {D : va_G} {cl : List vw_C} {w : va_W} {tys : List (ClassId × FieldType)} {av : List Value} : FrameBlind (qS D cl w tys av) := fun a U g mk q => ⟨q.1, q.2.1, va_K.moved (u := U) (U := U.calling g mk a) (Vm.Alike.refl U.vm) q.2.2⟩
theorem qW_blind {D : va_G} {cl : List vw_C} {w : va_W} {tys : List (ClassId × FieldType)} {sz : Nat} {av : List Value} : FrameBlind (qW D cl w tys sz av) := fun a U g mk q => ⟨q.1, q.2.1, q.2.2.1, va_K.moved (u := U) (U := U.calling g mk a) (Vm.Alike.refl U.vm) q.2.2.2.1, q.2.2.2.2⟩
/-- a contract out of a walk -/
theorem MetS.of {l : Launch} {y : MethodName} {ws ws' : List Cond} {rm : Room} {D : va_G} {cl : List vw_C} {w : va_W} {tys : List (ClassId × FieldType)} {av : List Value} {x : Int32} {cc : ByteArray} {maxL : Nat} {ret : Option FieldType} {lv : List (Nat × Value)}
    (hy : plainName y.cls = true) (hw : ws = Cond.code y cc maxL ret :: ws') (hlen : (lg_sl av).length ≤ maxL) (hlv : lv_args 0 av = lv)
    (body : ∀ (p : Program) (e : Env) (s : State) (m : MethodId) (below : List Frame) (meth : Method) (c : Code) (ls : Array Slot), p.tables.exec = Jvm.exec → c.code = cc → meth.sig.returnType = ret → meth.locks = false → c.maxLocals = maxL → s.vm.findClass y.cls = some m.cls → (∀ w ∈ ws, w.before av.toArray s = true) → va_K D cl tys s → va_P D cl w s.heap → lv_has ls maxL lv →
      W p l e rm s m av.toArray below meth c s.heap [] 0 0 (MQ below (vp_Si (fun r => r = x)) av.toArray s 0 0 (fun _ => False)) (F0 m 0 ls [])) : MetS l y ws rm D cl w tys av x := by
  refine Met.ofW (cc := cc) (maxL := maxL) (ret := ret) hy hw ?_
  intro p e s m args below meth c s₁ B hml hv
  obtain ⟨rfl, hP, hK⟩ := hv
  have hl := lv_entry av (n := maxL) hlen
  rw [hlv] at hl
  rw [lg_entry_eq]
  exact body p e s m below meth c _ B.exec B.bytes B.returns B.notSynchronized hml (findClass_of_methodNamed B.named) (atoms_spec (ws := ws) B.pre) hK hP hl
theorem MetV.of {l : Launch} {y : MethodName} {ws ws' : List Cond} {rm : Room} {D : va_G} {cl : List vw_C} {w w' : va_W} {tys : List (ClassId × FieldType)} {av : List Value} {cc : ByteArray} {maxL : Nat} {ret : Option FieldType} {lv : List (Nat × Value)}
    (hy : plainName y.cls = true) (hw : ws = Cond.code y cc maxL ret :: ws') (hlen : (lg_sl av).length ≤ maxL) (hlv : lv_args 0 av = lv)
    (body : ∀ (p : Program) (e : Env) (s : State) (m : MethodId) (below : List Frame) (meth : Method) (c : Code) (ls : Array Slot) (A : Nat → Prop), p.tables.exec = Jvm.exec → c.code = cc → meth.sig.returnType = ret → meth.locks = false → c.maxLocals = maxL → s.vm.findClass y.cls = some m.cls → (∀ w ∈ ws, w.before av.toArray s = true) → va_K D cl tys s → va_P D cl w s.heap → va_D A w → va_S A s.heap s.heap [] → (∀ q, s.heap.size ≤ q → A q) → lv_has ls maxL lv →
      W p l e rm s m av.toArray below meth c s.heap [] 0 0 (MQ below (qQv D cl w' A) av.toArray s 0 0 A) (F0 m 0 ls [])) : MetV l y ws rm D cl w tys av w' := by
  intro sz
  refine Met.ofW (cc := cc) (maxL := maxL) (ret := ret) hy hw ?_
  intro p e s m args below meth c s₁ B hml hv
  obtain ⟨rfl, hsz, hP, hK, hD0⟩ := hv
  subst hsz
  have hl := lv_entry av (n := maxL) hlen
  rw [hlv] at hl
  rw [lg_entry_eq]
  exact body p e s m below meth c _ _ B.exec B.bytes B.returns B.notSynchronized hml (findClass_of_methodNamed B.named) (atoms_spec (ws := ws) B.pre) hK hP (hD0.self (sz := s.heap.size)) va_S.rf (fun q h => Or.inr h) hl
theorem MetI.of {l : Launch} {y : MethodName} {ws ws' : List Cond} {rm : Room} {D : va_G} {cl : List vw_C} {w w' : va_W} {tys : List (ClassId × FieldType)} {av : List Value} {x : Int32} {cc : ByteArray} {maxL : Nat} {ret : Option FieldType} {lv : List (Nat × Value)}
    (hy : plainName y.cls = true) (hw : ws = Cond.code y cc maxL ret :: ws') (hlen : (lg_sl av).length ≤ maxL) (hlv : lv_args 0 av = lv)
    (body : ∀ (p : Program) (e : Env) (s : State) (m : MethodId) (below : List Frame) (meth : Method) (c : Code) (ls : Array Slot) (A : Nat → Prop), p.tables.exec = Jvm.exec → c.code = cc → meth.sig.returnType = ret → meth.locks = false → c.maxLocals = maxL → s.vm.findClass y.cls = some m.cls → (∀ w ∈ ws, w.before av.toArray s = true) → va_K D cl tys s → va_P D cl w s.heap → va_D A w → va_S A s.heap s.heap [] → (∀ q, s.heap.size ≤ q → A q) → lv_has ls maxL lv →
      W p l e rm s m av.toArray below meth c s.heap [] 0 0 (MQ below (qQi D cl w' A x) av.toArray s 0 0 A) (F0 m 0 ls [])) : MetI l y ws rm D cl w tys av x w' := by
  intro sz
  refine Met.ofW (cc := cc) (maxL := maxL) (ret := ret) hy hw ?_
  intro p e s m args below meth c s₁ B hml hv
  obtain ⟨rfl, hsz, hP, hK, hD0⟩ := hv
  subst hsz
  have hl := lv_entry av (n := maxL) hlen
  rw [hlv] at hl
  rw [lg_entry_eq]
  exact body p e s m below meth c _ _ B.exec B.bytes B.returns B.notSynchronized hml (findClass_of_methodNamed B.named) (atoms_spec (ws := ws) B.pre) hK hP (hD0.self (sz := s.heap.size)) va_S.rf (fun q h => Or.inr h) hl
section QR
variable {p : Program} {l : Launch} {e : Env} {R : Room} {s : State} {m : MethodId} {args : Array Value} {below : List Frame} {meth : Method} {c : Code} {H H0 : Heap} {locs : List Loc} {cells slots : Nat} {Q : State → Prop} {cc : ByteArray} {pc : Nat} {ls : Array Slot} {rest st : List Value} {D : va_G} {cl : List vw_C} {ws wc w1 ws' : va_W} {tys tysc : List (ClassId × FieldType)} {A : Nat → Prop}
/-- ends -/
theorem retS {v x : Int32} (hx : p.tables.exec = Jvm.exec) (hb : c.code = cc) (hr : meth.sig.returnType = some .int) (hlk : meth.locks = false) (hdg : decode cc pc = .ok (.ireturn, 1)) (hv : v = x) : W p l e R s m args below meth c s.heap [] 0 0 (MQ below (vp_Si (fun r => r = x)) args s 0 0 (fun _ => False)) (F0 m pc ls [.int v]) :=
  W.iret (v := v) hx hb hr (fun t ht _ => ⟨v, rfl, hv, ht⟩) (fun q h => by cases h) hdg hlk
theorem retSz {v x : Int32} (hx : p.tables.exec = Jvm.exec) (hb : c.code = cc) (hr : meth.sig.returnType = some .boolean) (hlk : meth.locks = false) (hdg : decode cc pc = .ok (.ireturn, 1)) (hn : narrow .boolean (.int v) = .int v) (hv : v = x) : W p l e R s m args below meth c s.heap [] 0 0 (MQ below (vp_Si (fun r => r = x)) args s 0 0 (fun _ => False)) (F0 m pc ls [.int v]) :=
  W.zret (v := v) hx hb hr hn (fun t ht _ => ⟨v, rfl, hv, ht⟩) (fun q h => by cases h) hdg hlk
theorem retV (hx : p.tables.exec = Jvm.exec) (hb : c.code = cc) (hr : meth.sig.returnType = none) (hlk : meth.locks = false) (hdg : decode cc pc = .ok (.return_, 1)) (hS : va_S A s.heap H locs) (hP : va_P D cl ws' H) : W p l e R s m args below meth c H locs 0 0 (MQ below (qQv D cl ws' A) args s 0 0 A) (F0 m pc ls []) :=
  W.vret hx hb hr (fun t ht _ => ⟨⟨(), rfl, trivial, by show va_P D cl ws' t.heap; rw [ht]; exact hP⟩, hS.F ht⟩) hS.2.2 hdg hlk
theorem retI {v x : Int32} (hx : p.tables.exec = Jvm.exec) (hb : c.code = cc) (hr : meth.sig.returnType = some .int) (hlk : meth.locks = false) (hdg : decode cc pc = .ok (.ireturn, 1)) (hS : va_S A s.heap H locs) (hP : va_P D cl ws' H) (hv : v = x) : W p l e R s m args below meth c H locs 0 0 (MQ below (qQi D cl ws' A x) args s 0 0 A) (F0 m pc ls [.int v]) :=
  W.iret (v := v) hx hb hr (fun t ht _ => ⟨⟨v, (), rfl, hv, by show va_P D cl ws' t.heap; rw [ht]; exact hP⟩, hS.F ht⟩) hS.2.2 hdg hlk
theorem retIz {v x : Int32} (hx : p.tables.exec = Jvm.exec) (hb : c.code = cc) (hr : meth.sig.returnType = some .boolean) (hlk : meth.locks = false) (hdg : decode cc pc = .ok (.ireturn, 1)) (hn : narrow .boolean (.int v) = .int v) (hS : va_S A s.heap H locs) (hP : va_P D cl ws' H) (hv : v = x) : W p l e R s m args below meth c H locs 0 0 (MQ below (qQi D cl ws' A x) args s 0 0 A) (F0 m pc ls [.int v]) :=
  W.zret (v := v) hx hb hr hn (fun t ht _ => ⟨⟨v, (), rfl, hv, by show va_P D cl ws' t.heap; rw [ht]; exact hP⟩, hS.F ht⟩) hS.2.2 hdg hlk
/-- behind a run: a read's contract leaves the heap -/
theorem goS {x : Int32} {a : Array Value} (hr : va_Run p l e R s m args below meth c H locs cells slots 0 0 (F0 m pc ls st) rest (vp_Si (fun r => r = x) a) (fun _ => False)) (kk : W p l e R s m args below meth c H locs cells slots Q (F0 m (pc + 3) ls (.int x :: rest))) : W p l e R s m args below meth c H locs cells slots Q (F0 m pc ls st) :=
  vp_callSi (va_Run.run hr) (fun r e => by rw [e]; exact kk)
theorem goV {a : Array Value} (hfit : qFit ws wc w1 ws') (hP : va_P D cl ws H) (hD : va_D A ws) (hS : va_S A H0 H locs) (hA : ∀ q, H0.size ≤ q → A q) (hr : va_Run p l e R s m args below meth c H locs cells slots 0 0 (F0 m pc ls st) rest (qQv D cl w1 (va_A wc H.size) a) (va_A wc H.size)) (kk : ∀ (H1 : Heap) (locs1 : List Loc), va_P D cl ws' H1 → va_D A ws' → va_S A H0 H1 locs1 → W p l e R s m args below meth c H1 locs1 cells slots Q (F0 m (pc + 3) ls rest)) : W p l e R s m args below meth c H locs cells slots Q (F0 m pc ls st) := by
  have hF := hfit.free hD hS hA
  refine va_callv (mc := 0) (ms := 0) hr hS (fun q _ h => hF q h) hF (fun u t H1 locs1 ht hvm hw hB hz1 hk1 hS1 => ?_)
  rw [ht] at hB
  exact kk H1 locs1 (hfit.P hP hk1 hB) (hfit.D hD) hS1
theorem goI {a : Array Value} {x : Int32} (hfit : qFit ws wc w1 ws') (hP : va_P D cl ws H) (hD : va_D A ws) (hS : va_S A H0 H locs) (hA : ∀ q, H0.size ≤ q → A q) (hr : va_Run p l e R s m args below meth c H locs cells slots 0 0 (F0 m pc ls st) rest (qQi D cl w1 (va_A wc H.size) x a) (va_A wc H.size)) (kk : ∀ (H1 : Heap) (locs1 : List Loc), va_P D cl ws' H1 → va_D A ws' → va_S A H0 H1 locs1 → W p l e R s m args below meth c H1 locs1 cells slots Q (F0 m (pc + 3) ls (.int x :: rest))) : W p l e R s m args below meth c H locs cells slots Q (F0 m pc ls st) := by
  have hF := hfit.free hD hS hA
  refine va_calli (mc := 0) (ms := 0) hr hS (fun q _ h => hF q h) hF (fun r u t H1 locs1 ht hvm hw hB hz1 hk1 hS1 => ?_)
  rw [ht] at hB
  rw [hw]
  exact kk H1 locs1 (hfit.P hP hk1 hB) (hfit.D hD) hS1
/-- what a call wants of its start -/
theorem preSV {C : String} {b : Addr} {As : List Value} (hK : va_K D cl tys s) (hP : va_P D cl w1 H) (hc : ∃ cellB : Cell, H[b]? = some cellB ∧ cellB.vm.isStatics = false ∧ s.vm.findClass C = some cellB.cls) : PreV s H C b (qS D cl w1 tys (.ref b :: As)) As :=
  ⟨qS_blind, hc, fun U hU hW => ⟨rfl, by rw [hU]; exact hP, va_K.moved hW.alike hK⟩⟩
theorem preSS {As : List Value} (hK : va_K D cl tys s) (hP : va_P D cl w1 H) : PreS s H (qS D cl w1 tys As) As :=
  ⟨qS_blind, fun U hU hW => ⟨rfl, by rw [hU]; exact hP, va_K.moved hW.alike hK⟩⟩
theorem preWV {C : String} {b : Addr} {As : List Value} (hK : va_K D cl tys s) (hP : va_P D cl w1 H) (hD : va_D A w1) (hc : ∃ cellB : Cell, H[b]? = some cellB ∧ cellB.vm.isStatics = false ∧ s.vm.findClass C = some cellB.cls) : PreV s H C b (qW D cl w1 tys H.size (.ref b :: As)) As :=
  ⟨qW_blind, hc, fun U hU hW => ⟨rfl, by rw [hU], by rw [hU]; exact hP, va_K.moved hW.alike hK, hD.weaken (fun _ _ _ _ => trivial)⟩⟩
/-- arrays at an index that is a number -/
theorem q_iald (hx : p.tables.exec = Jvm.exec) (hb : c.code = cc) (hK : va_K D cl tys s) (hP : va_P D cl ws H) (q0 t0 : Nat) {a : Nat} {cA : ClassId} {n j : Nat} {f : Nat → Int32} (ha : ws[q0]? = some (a, .inl (cA, n, .inl f))) (ht : tys[t0]? = some (cA, .int)) (hj : j < n) (hn : n < 2 ^ 31) (hdg : decode cc pc = .ok (.iaload, 1)) (kk : W p l e R s m args below meth c H locs cells slots Q (F0 m (pc + 1) ls (.int (f j) :: rest))) : W p l e R s m args below meth c H locs cells slots Q (F0 m pc ls (.int (nI j) :: .ref a :: rest)) := by
  refine va_iald hx hb hK hP q0 t0 ha ht (vp_in_nI hj hn) hdg ?_
  rw [nI_clamp (by omega)]
  exact kk
theorem q_zald (hx : p.tables.exec = Jvm.exec) (hb : c.code = cc) (hK : va_K D cl tys s) (hP : va_P D cl ws H) (q0 t0 : Nat) {a : Nat} {cA : ClassId} {n j : Nat} {f : Nat → Int32} (ha : ws[q0]? = some (a, .inl (cA, n, .inl f))) (ht : tys[t0]? = some (cA, .boolean)) (hj : j < n) (hn : n < 2 ^ 31) (hdg : decode cc pc = .ok (.baload, 1)) (kk : W p l e R s m args below meth c H locs cells slots Q (F0 m (pc + 1) ls (.int (f j) :: rest))) : W p l e R s m args below meth c H locs cells slots Q (F0 m pc ls (.int (nI j) :: .ref a :: rest)) := by
  refine va_zald hx hb hK hP q0 t0 ha ht (vp_in_nI hj hn) hdg ?_
  rw [nI_clamp (by omega)]
  exact kk
theorem q_aald (hx : p.tables.exec = Jvm.exec) (hb : c.code = cc) (hK : va_K D cl tys s) (hP : va_P D cl ws H) (q0 t0 : Nat) {a : Nat} {cA : ClassId} {C : String} {n j : Nat} {f : Nat → Nat} (ha : ws[q0]? = some (a, .inl (cA, n, .inr (.inr (.inr (.inr (fun k => some (f k)))))))) (ht : tys[t0]? = some (cA, .object C)) (hj : j < n) (hn : n < 2 ^ 31) (hdg : decode cc pc = .ok (.aaload, 1)) (kk : W p l e R s m args below meth c H locs cells slots Q (F0 m (pc + 1) ls (.ref (f j) :: rest))) : W p l e R s m args below meth c H locs cells slots Q (F0 m pc ls (.int (nI j) :: .ref a :: rest)) := by
  refine va_aldq hx hb hK hP q0 t0 ha ht (vp_in_nI hj hn) hdg ?_
  rw [nI_clamp (by omega)]
  exact kk
theorem q_iast (hx : p.tables.exec = Jvm.exec) (hb : c.code = cc) (hK : va_K D cl tys s) (hP : va_P D cl ws H) (hD : va_D A ws) (hS : va_S A H0 H locs) (q0 t0 : Nat) {a : Nat} {cA : ClassId} {n j : Nat} {f : Nat → Int32} {x : Int32} (ha : ws[q0]? = some (a, .inl (cA, n, .inl f))) (ht : tys[t0]? = some (cA, .int)) (hj : j < n) (hn : n < 2 ^ 31) (he : ws.set q0 (a, .inl (cA, n, .inl (upd f j x))) = ws') (hdg : decode cc pc = .ok (.iastore, 1)) (kk : ∀ (H1 : Heap) (locs1 : List Loc), va_P D cl ws' H1 → va_D A ws' → va_S A H0 H1 locs1 → W p l e R s m args below meth c H1 locs1 cells slots Q (F0 m (pc + 1) ls rest)) : W p l e R s m args below meth c H locs cells slots Q (F0 m pc ls (.int x :: .int (nI j) :: .ref a :: rest)) := by
  subst he
  refine va_iast hx hb hK hP hD hS q0 t0 ha ht (vp_in_nI hj hn) hdg (fun H1 locs1 hP1 hD1 hS1 => ?_)
  rw [nI_clamp (by omega)] at hP1 hD1
  exact kk H1 locs1 hP1 hD1 hS1
end QR
end
section
/-! THE STATE: R (replica, field), C (client, field), n messages in f (six ints each), d finished operations in g (five ints each); its cells (wX), a part's cells (wR: Rows, wC: a client) -/
abbrev St : Type := (Nat → Nat → Int32) × (Nat → Nat → Int32) × Nat × (Nat → Int32) × Nat × (Nat → Int32)
def wR (h hc : Nat) (kA : ClassId) (w mo n : Nat) (f : Nat → Int32) : va_W := [(h, .inr (2, [.int (nI w), .int (nI mo), .ref hc, .int (nI n)])), (hc, .inl (kA, w * mo, .inl f))]
def wC (h : Nat) (F : Nat → Int32) : va_W := [(h, .inr (0, [.int (F 0), .int (F 1), .int (F 2), .int (F 3), .int (F 4), .int (F 5), .int (F 6), .int (F 7)]))]
def wX (o : Nat → Nat) (k : Nat → ClassId) (R C : Nat → Nat → Int32) (n : Nat) (f : Nat → Int32) (d : Nat) (g : Nat → Int32) : va_W :=
  [(o 0, .inr (3, [.ref (o 1), .ref (o 2), .ref (o 3), .ref (o 5)])),
   (o 1, .inl (k 0, 5, .inr (.inr (.inr (.inr (fun j => some (o (7 + j)))))))),
   (o 2, .inl (k 1, 3, .inr (.inr (.inr (.inr (fun j => some (o (12 + j)))))))),
   (o 3, .inr (2, [.int (nI 6), .int (nI 77), .ref (o 4), .int (nI n)])),
   (o 4, .inl (k 2, 6 * 77, .inl f)),
   (o 5, .inr (2, [.int (nI 5), .int (nI 39), .ref (o 6), .int (nI d)])),
   (o 6, .inl (k 3, 5 * 39, .inl g)),
   (o 7, .inr (1, [.int (R 0 0), .int (R 0 1), .int (R 0 2)])),
   (o 8, .inr (1, [.int (R 1 0), .int (R 1 1), .int (R 1 2)])),
   (o 9, .inr (1, [.int (R 2 0), .int (R 2 1), .int (R 2 2)])),
   (o 10, .inr (1, [.int (R 3 0), .int (R 3 1), .int (R 3 2)])),
   (o 11, .inr (1, [.int (R 4 0), .int (R 4 1), .int (R 4 2)])),
   (o 12, .inr (0, [.int (C 0 0), .int (C 0 1), .int (C 0 2), .int (C 0 3), .int (C 0 4), .int (C 0 5), .int (C 0 6), .int (C 0 7)])),
   (o 13, .inr (0, [.int (C 1 0), .int (C 1 1), .int (C 1 2), .int (C 1 3), .int (C 1 4), .int (C 1 5), .int (C 1 6), .int (C 1 7)])),
   (o 14, .inr (0, [.int (C 2 0), .int (C 2 1), .int (C 2 2), .int (C 2 3), .int (C 2 4), .int (C 2 5), .int (C 2 6), .int (C 2 7)]))]
def wS (o : Nat → Nat) (k : Nat → ClassId) (σ : St) : va_W := wX o k σ.1 σ.2.1 σ.2.2.1 σ.2.2.2.1 σ.2.2.2.2.1 σ.2.2.2.2.2
def tyX (k : Nat → ClassId) : List (ClassId × FieldType) := [(k 0, .object "QuorumRegister$Replica"), (k 1, .object "QuorumRegister$Client"), (k 2, .int), (k 3, .int)]
theorem lt5 {j : Nat} (h : j < 5) : j = 0 ∨ j = 1 ∨ j = 2 ∨ j = 3 ∨ j = 4 := by omega
theorem lt3 {j : Nat} (h : j < 3) : j = 0 ∨ j = 1 ∨ j = 2 := by omega
section WX
variable {o : Nat → Nat} {k : Nat → ClassId} {R C : Nat → Nat → Int32} {n d : Nat} {f g : Nat → Int32}
theorem wX_R {j : Nat} (h : j < 5) : (wX o k R C n f d g)[7 + j]? = some (o (7 + j), .inr (1, [.int (R j 0), .int (R j 1), .int (R j 2)])) := by
  rcases lt5 h with rfl | rfl | rfl | rfl | rfl <;> rfl
theorem wX_C {j : Nat} (h : j < 3) : (wX o k R C n f d g)[12 + j]? = some (o (12 + j), .inr (0, [.int (C j 0), .int (C j 1), .int (C j 2), .int (C j 3), .int (C j 4), .int (C j 5), .int (C j 6), .int (C j 7)])) := by
  rcases lt3 h with rfl | rfl | rfl <;> rfl
theorem wX_setR {j : Nat} (h : j < 5) {R' : Nat → Nat → Int32} (v0 v1 v2 : Int32) (hv : [R' j 0, R' j 1, R' j 2] = [v0, v1, v2]) (ho : ∀ a b, a ≠ j → R' a b = R a b) : (wX o k R C n f d g).set (7 + j) (o (7 + j), .inr (1, [.int v0, .int v1, .int v2])) = wX o k R' C n f d g := by
  simp only [List.cons.injEq, and_true] at hv
  obtain ⟨rfl, rfl, rfl⟩ := hv
  rcases lt5 h with rfl | rfl | rfl | rfl | rfl <;> simp only [wX, List.set, Nat.reduceAdd] <;> simp [ho]
theorem wX_setC {j : Nat} (h : j < 3) {C' : Nat → Nat → Int32} (v0 v1 v2 v3 v4 v5 v6 v7 : Int32) (hv : [C' j 0, C' j 1, C' j 2, C' j 3, C' j 4, C' j 5, C' j 6, C' j 7] = [v0, v1, v2, v3, v4, v5, v6, v7]) (ho : ∀ a b, a ≠ j → C' a b = C a b) : (wX o k R C n f d g).set (12 + j) (o (12 + j), .inr (0, [.int v0, .int v1, .int v2, .int v3, .int v4, .int v5, .int v6, .int v7])) = wX o k R C' n f d g := by
  simp only [List.cons.injEq, and_true] at hv
  obtain ⟨rfl, rfl, rfl, rfl, rfl, rfl, rfl, rfl⟩ := hv
  rcases lt3 h with rfl | rfl | rfl <;> simp only [wX, List.set, Nat.reduceAdd] <;> simp [ho]
end WX
theorem va_P1 {D : va_G} {cl : List vw_C} {ws : va_W} {H : Heap} {i : Nat} {q : Nat × va_E} (h : va_P D cl ws H) (hi : ws[i]? = some q) : va_P D cl [q] H := by
  intro j p hj
  match j, hj with
  | 0, hj => cases hj; exact h i _ hi
theorem va_D1 {q : Nat × va_E} : va_D (fun _ => True) [q] := by
  refine ⟨fun i j p p' hi hj _ => ?_, fun _ _ _ => trivial⟩
  match i, hi, j, hj with
  | 0, _, 0, _ => rfl
theorem MetV.at {l : Launch} {y : MethodName} {ws : List Cond} {rm : Room} {D : va_G} {cl : List vw_C} {w w' : va_W} {tys : List (ClassId × FieldType)} {av : List Value} (h : MetV l y ws rm D cl w tys av w') (sz : Nat) : Met l y ws rm (qW D cl w tys sz av) (qQv D cl w' (va_A w sz)) 0 0 (va_A w sz) := h sz
theorem MetI.at {l : Launch} {y : MethodName} {ws : List Cond} {rm : Room} {D : va_G} {cl : List vw_C} {w w' : va_W} {tys : List (ClassId × FieldType)} {av : List Value} {x : Int32} (h : MetI l y ws rm D cl w tys av x w') (sz : Nat) : Met l y ws rm (qW D cl w tys sz av) (qQi D cl w' (va_A w sz) x) 0 0 (va_A w sz) := h sz
theorem MetS.at {l : Launch} {y : MethodName} {ws : List Cond} {rm : Room} {D : va_G} {cl : List vw_C} {w : va_W} {tys : List (ClassId × FieldType)} {av : List Value} {x : Int32} (h : MetS l y ws rm D cl w tys av x) : Met l y ws rm (qS D cl w tys av) (vp_Si (fun r => r = x)) 0 0 (fun _ => False) := h
section QT
variable {p : Program} {l : Launch} {e : Env} {R : Room} {s : State} {m : MethodId} {args : Array Value} {below : List Frame} {meth : Method} {c : Code} {H H0 : Heap} {locs : List Loc} {cells slots : Nat} {Q : State → Prop} {cc : ByteArray} {pc : Nat} {ls : Array Slot} {rest : List Value} {D : va_G} {cl : List vw_C} {ws ws' : va_W} {tys : List (ClassId × FieldType)} {A : Nat → Prop}
theorem qtop {x y : Int32} (h : x = y) (kk : W p l e R s m args below meth c H locs cells slots Q (F0 m pc ls (.int y :: rest))) : W p l e R s m args below meth c H locs cells slots Q (F0 m pc ls (.int x :: rest)) := by
  rw [h]
  exact kk
theorem q_put (hexec : p.tables.exec = Jvm.exec) (hb : c.code = cc) {own ref C : String} {T : u_T} {N ci index : Nat} {Ts : List Cond} (hts : ∀ w ∈ Ts, w.before args s = true) (hin : ∀ w ∈ u_ws C T N, w ∈ Ts) (ty0 : Nat → FieldType) (hty : ∀ k, k < N → parseFieldDescriptor (T k).2.2.1 = some (ty0 k)) (hnm : ∀ a, a < N → ∀ b, b < N → a ≠ b → (T a).2.1 ≠ (T b).2.1) (hown : s.vm.findClass own = some m.cls) (hK : va_K D cl tys s) (hP : va_P D cl ws H) (hD : va_D A ws) (hS0 : va_S A H0 H locs) (q0 : Nat) {a : Nat} {fs : List Value} (he : ws[q0]? = some (a, .inr (ci, fs))) (hc : cl[ci]? = some (C, T, N)) (k : Nat) (hk : k < N) (hlink : (Cond.fieldLink own index ref (T k).2.1 (T k).2.2.1).before args s = true) (hsame : ∀ x, s.fieldFound? (T k).1 (T k).2.1 (T k).2.2.1 = some x → s.fieldFound? ref (T k).2.1 (T k).2.2.1 = some x) (hfin : (T k).2.2.2 = false) {ty : FieldType} {v : Value} (hd : parseFieldDescriptor (T k).2.2.1 = some ty) (hn : narrow ty v = v) (hfit : fits ty v = true) (hl : k < fs.length) (heq : ws.set q0 (a, .inr (ci, fs.set k v)) = ws') (hdg : decode cc pc = .ok (.putfield index, 3)) (kk : ∀ (H1 : Heap) (locs1 : List Loc), va_P D cl ws' H1 → va_D A ws' → va_S A H0 H1 locs1 → W p l e R s m args below meth c H1 locs1 cells slots Q (F0 m (pc + 3) ls rest)) : W p l e R s m args below meth c H locs cells slots Q (F0 m pc ls (v :: .ref a :: rest)) := by
  subst heq
  exact va_put hexec hb hts hin ty0 hty hnm hown hK hP hD hS0 q0 he hc k hk hlink hsame hfin hd hn hfit hl hdg kk
end QT
theorem it_yes {P : Prop} [Decidable P] (h : ¬ (if P then (1 : Int32) else 0) = 0) : P := by
  by_cases q : P
  · exact q
  · exact absurd (if_neg q) h
theorem it_no {P : Prop} [Decidable P] (h : (if P then (1 : Int32) else 0) = 0) : ¬ P := fun q => absurd ((if_pos q).symm.trans h) (by decide)
abbrev okI (i : Int32) (n : Nat) : Prop := ¬ i < 0 ∧ ¬ nI n ≤ i
theorem okI_of {i : Int32} {n : Nat} (h : okI i n) (hn : n < 2 ^ 31) : ∃ j : Nat, j < n ∧ i = nI j := by
  rcases pk_ix i hn with h1 | h1 | h1
  · exact absurd h1 h.1
  · exact absurd h1 h.2
  · exact h1
theorem okI_nI {j n : Nat} (h : j < n) (hn : n < 2 ^ 31) : okI (nI j) n := ⟨nI_pos (by omega), nI_ge h hn⟩
theorem rows_ix {i n mo w j : Nat} (hi : i < n) (hn : n ≤ mo) (hj : j < w) : i * w + j < w * mo := by
  have h1 : (i + 1) * w ≤ mo * w := Nat.mul_le_mul_right w (by omega)
  rw [Nat.add_mul, Nat.mul_comm mo w] at h1
  omega
section QU
variable {p : Program} {l : Launch} {e : Env} {R : Room} {s : State} {m : MethodId} {args : Array Value} {below : List Frame} {meth : Method} {c : Code} {H H0 : Heap} {locs : List Loc} {cells slots : Nat} {Q : State → Prop} {cc : ByteArray} {pc : Nat} {ls : Array Slot} {rest : List Value} {D : va_G} {cl : List vw_C} {ws ws' : va_W} {tys : List (ClassId × FieldType)} {A : Nat → Prop}
theorem q_zast (hx : p.tables.exec = Jvm.exec) (hb : c.code = cc) (hK : va_K D cl tys s) (hP : va_P D cl ws H) (hD : va_D A ws) (hS : va_S A H0 H locs) (q0 t0 : Nat) {a : Nat} {cA : ClassId} {n j : Nat} {f : Nat → Int32} {x : Int32} (ha : ws[q0]? = some (a, .inl (cA, n, .inl f))) (ht : tys[t0]? = some (cA, .boolean)) (hj : j < n) (hn : n < 2 ^ 31) (hz : vp_nar .boolean x = x) (he : ws.set q0 (a, .inl (cA, n, .inl (upd f j x))) = ws') (hdg : decode cc pc = .ok (.bastore, 1)) (kk : ∀ (H1 : Heap) (locs1 : List Loc), va_P D cl ws' H1 → va_D A ws' → va_S A H0 H1 locs1 → W p l e R s m args below meth c H1 locs1 cells slots Q (F0 m (pc + 1) ls rest)) : W p l e R s m args below meth c H locs cells slots Q (F0 m pc ls (.int x :: .int (nI j) :: .ref a :: rest)) := by
  subst he
  refine va_zast hx hb hK hP hD hS q0 t0 ha ht (vp_in_nI hj hn) hdg (fun H1 locs1 hP1 hD1 hS1 => ?_)
  rw [nI_clamp (by omega), hz] at hP1 hD1
  exact kk H1 locs1 hP1 hD1 hS1
theorem q_copy (hx : p.tables.exec = Jvm.exec) (hb : c.code = cc) (hml : c.maxLocals = ls.size) {own : String} {index : Nat} (hown : s.vm.findClass own = some m.cls) (hlink : (Cond.methodLink own index arraycopyName).before args s = true) (hnat : (Cond.native arraycopyName).before args s = true) (hstat : (Cond.static arraycopyName).before args s = true) (hini : (Cond.initialized "java/lang/System").before args s = true) (hK : va_K D cl tys s) (hP : va_P D cl ws H) (hD : va_D A ws) (hS : va_S A H0 H locs) (q0 q1 t0 t1 : Nat) {a a0 : Nat} {c0 c1 : ClassId} {n0 n1 : Nat} {f g : Nat → Int32} {sp dp n : Nat} (ha0 : ws[q0]? = some (a0, .inl (c0, n0, .inl f))) (ha1 : ws[q1]? = some (a, .inl (c1, n1, .inl g))) (ht0 : tys[t0]? = some (c0, .int)) (ht1 : tys[t1]? = some (c1, .int)) (h4 : sp + n ≤ n0) (h5 : dp + n ≤ n1) (hn0 : n0 < 2 ^ 31) (hn1 : n1 < 2 ^ 31) (hframes : 1 ≤ R.frames) (hlocals : (rest.map fun v => v.category).sum + (nativeFrameWords "java/lang/System" "arraycopy" 5 + 11) ≤ R.locals) (he : ws.set q1 (a, .inl (c1, n1, .inl (va_cpy f g sp dp n))) = ws') (hdg : decode cc pc = .ok (.invokestatic index, 3)) (kk : ∀ (H1 : Heap) (locs1 : List Loc), va_P D cl ws' H1 → va_D A ws' → va_S A H0 H1 locs1 → W p l e R s m args below meth c H1 locs1 cells slots Q (F0 m (pc + 3) ls rest)) : W p l e R s m args below meth c H locs cells slots Q (F0 m pc ls (.int (nI n) :: .int (nI dp) :: .ref a :: .int (nI sp) :: .ref a0 :: rest)) := by
  subst he
  have e1 : (nI sp).toNatClampNeg = sp := nI_clamp (by omega)
  have e2 : (nI dp).toNatClampNeg = dp := nI_clamp (by omega)
  have e3 : (nI n).toNatClampNeg = n := nI_clamp (by omega)
  refine va_copyi (ty := .int) hx hb hml hown hlink hnat hstat hini hK hP hD hS q0 q1 t0 t1 ha0 ha1 ht0 ht1 rfl (nI_pos (by omega)) (nI_pos (by omega)) (nI_pos (by omega)) (by rw [e1, e3]; exact h4) (by rw [e2, e3]; exact h5) (fun i _ => rfl) hframes hlocals hdg (fun H1 locs1 hP1 hD1 hS1 => ?_)
  rw [e1, e2, e3] at hP1 hD1
  exact kk H1 locs1 hP1 hD1 hS1
end QU
theorem va_P0 {D : va_G} {cl : List vw_C} {H : Heap} : va_P D cl [] H := fun k q h => by simp at h
end
section
/-! WHAT A CALL DOES, as functions of the state -/
def snd6 (f : Nat → Int32) (n : Nat) (kd c r s t v : Int32) : Nat → Int32 := upd (upd (upd (upd (upd (upd f (n * 6 + 0) kd) (n * 6 + 1) c) (n * 6 + 2) r) (n * 6 + 3) s) (n * 6 + 4) t) (n * 6 + 5) v
def sndN (kd c s t v : Int32) (f : Nat → Int32) (n : Nat) : Nat → (Nat → Int32)
  | 0 => f
  | j + 1 => snd6 (sndN kd c s t v f n j) (n + j) kd c (nI j) s t v
def drp (f : Nat → Int32) (n i : Nat) : Nat → Int32 := va_cpy f f ((i + 1) * 6) (i * 6) (n * 6 - (i + 1) * 6)
def fin5 (g : Nat → Int32) (d : Nat) (c s w v t : Int32) : Nat → Int32 := upd (upd (upd (upd (upd g (d * 5 + 0) c) (d * 5 + 1) s) (d * 5 + 2) w) (d * 5 + 3) v) (d * 5 + 4) t
def bits (a : Nat) : Nat := a % 2 + a / 2 % 2 + a / 4 % 2 + a / 8 % 2 + a / 16 % 2
def bts (x : Int32) : Nat := bits x.toBitVec.toNat
abbrev aw (F : Nat → Int32) (ph : Int32) (r s : Int32) : Prop := F 1 = s ∧ F 0 = ph ∧ F 4 &&& (nI 1 <<< (r &&& 31)) = 0
def begC (C : Nat → Nat → Int32) (c : Nat) (w v : Int32) : Nat → Nat → Int32 := up2 (up2 (up2 (up2 (up2 (up2 (up2 C c 1 (C c 1 + nI 1)) c 2 w) c 3 v) c 5 (nI 0)) c 6 (nI 0)) c 0 (nI 1)) c 4 (nI 0)
def idlC (C : Nat → Nat → Int32) (c : Nat) : Nat → Nat → Int32 := up2 (up2 C c 0 (nI 0)) c 4 (nI 0)
def heaC (C : Nat → Nat → Int32) (c : Nat) (r : Int32) : Nat → Nat → Int32 := up2 C c 4 (C c 4 ||| (nI 1 <<< (r &&& 31)))
def telC (C : Nat → Nat → Int32) (c : Nat) (r t v : Int32) : Nat → Nat → Int32 := if t ≤ C c 5 then heaC C c r else up2 (up2 (heaC C c r) c 5 t) c 6 v
def numC (C : Nat → Nat → Int32) (c : Nat) : Int32 := nI 1 + (if C c 5 / nI 4 < C c 7 then C c 7 else C c 5 / nI 4)
def wriC (C : Nat → Nat → Int32) (c : Nat) : Nat → Nat → Int32 := up2 (up2 (up2 C c 7 (numC C c)) c 5 (nI 4 * numC C c + nI c)) c 6 (C c 3)
def stoC (C : Nat → Nat → Int32) (c : Nat) : Nat → Nat → Int32 := up2 (up2 (if C c 2 = 0 then C else wriC C c) c 0 (nI 2)) c 4 (nI 0)
def cnF (R : Nat → Nat → Int32) : Nat → Nat
  | 0 => 0
  | j + 1 => cnF R j + (if R j 2 = 0 then 0 else 1)
/-- begin: its answer and the state behind it -/
def bgX (C : Nat → Nat → Int32) (n : Nat) (p0 : Int32) : Int32 := if okI p0 3 then (if C p0.toNatClampNeg 0 = 0 then (if 60 < n then (-3) else C p0.toNatClampNeg 1 + nI 1) else (-2)) else (-1)
def bgS (σ : St) (p0 w v : Int32) : St := if okI p0 3 ∧ σ.2.1 p0.toNatClampNeg 0 = 0 ∧ ¬ 60 < σ.2.2.1 then (σ.1, begC σ.2.1 p0.toNatClampNeg w v, σ.2.2.1 + 5, sndN (nI 0) (nI p0.toNatClampNeg) (σ.2.1 p0.toNatClampNeg 1 + nI 1) (nI 0) (nI 0) σ.2.2.2.1 σ.2.2.1 5, σ.2.2.2.2.1, σ.2.2.2.2.2) else σ
def lvX (C : Nat → Nat → Int32) (p0 : Int32) : Int32 := if okI p0 3 ∧ ¬ C p0.toNatClampNeg 0 = 0 then 1 else 0
def lvS (σ : St) (p0 : Int32) : St := if okI p0 3 ∧ ¬ σ.2.1 p0.toNatClampNeg 0 = 0 then (σ.1, idlC σ.2.1 p0.toNatClampNeg, σ.2.2.1, σ.2.2.2.1, σ.2.2.2.2.1, σ.2.2.2.2.2) else σ
def stSto (σ : St) (c : Nat) : St := (σ.1, stoC σ.2.1 c, σ.2.2.1 + 5, sndN (nI 2) (nI c) (σ.2.1 c 1) (stoC σ.2.1 c c 5) (stoC σ.2.1 c c 6) σ.2.2.2.1 σ.2.2.1 5, σ.2.2.2.2.1, σ.2.2.2.2.2)
def stFin (σ : St) (c : Nat) : St := (σ.1, idlC σ.2.1 c, σ.2.2.1, σ.2.2.2.1, σ.2.2.2.2.1 + 1, fin5 σ.2.2.2.2.2 σ.2.2.2.2.1 (nI c) (σ.2.1 c 1) (if σ.2.1 c 2 = 0 then nI 0 else nI 1) (σ.2.1 c 6) (σ.2.1 c 5))
def stAsk (σ : St) (c r : Nat) (s : Int32) : St := if σ.1 r 2 = 0 then (σ.1, σ.2.1, σ.2.2.1 + 1, snd6 σ.2.2.2.1 σ.2.2.1 (nI 1) (nI c) (nI r) s (σ.1 r 0) (σ.1 r 1), σ.2.2.2.2.1, σ.2.2.2.2.2) else σ
def stStr (σ : St) (c r : Nat) (s t v : Int32) : St := if σ.1 r 2 = 0 then (if t ≤ σ.1 r 0 then σ.1 else up2 (up2 σ.1 r 0 t) r 1 v, σ.2.1, σ.2.2.1 + 1, snd6 σ.2.2.2.1 σ.2.2.1 (nI 3) (nI c) (nI r) s (nI 0) (nI 0), σ.2.2.2.2.1, σ.2.2.2.2.2) else σ
def stTel (σ : St) (c r : Nat) (s t v : Int32) : St := if aw (σ.2.1 c) (nI 1) (nI r) s then (if 3 ≤ bts (telC σ.2.1 c (nI r) t v c 4) then stSto (σ.1, telC σ.2.1 c (nI r) t v, σ.2.2.1, σ.2.2.2.1, σ.2.2.2.2.1, σ.2.2.2.2.2) c else (σ.1, telC σ.2.1 c (nI r) t v, σ.2.2.1, σ.2.2.2.1, σ.2.2.2.2.1, σ.2.2.2.2.2)) else σ
def stStd (σ : St) (c r : Nat) (s : Int32) : St := if aw (σ.2.1 c) (nI 2) (nI r) s then (if 3 ≤ bts (heaC σ.2.1 c (nI r) c 4) then stFin (σ.1, heaC σ.2.1 c (nI r), σ.2.2.1, σ.2.2.2.1, σ.2.2.2.2.1, σ.2.2.2.2.2) c else (σ.1, heaC σ.2.1 c (nI r), σ.2.2.1, σ.2.2.2.1, σ.2.2.2.2.1, σ.2.2.2.2.2)) else σ
theorem bits_le (a : Nat) : bits a ≤ 5 := by unfold bits; omega
theorem hear_bits : ∀ a, a < 32 → ∀ r, r < 5 → nI a ||| (nI 1 <<< (nI r &&& 31)) = nI (a ||| 2 ^ r) ∧ a ||| 2 ^ r < 32 := by decide +kernel
theorem bts_nI {a : Nat} (h : a < 32) : bts (nI a) = bits a := by unfold bts; rw [pk_tn (by omega)]
theorem bz {w : Int32} (h : w = 0 ∨ w = 1) : narrow .boolean (.int w) = .int w := by rcases h with rfl | rfl <;> rfl
theorem bf {w : Int32} (h : w = 0 ∨ w = 1) : fits .boolean (.int w) = true := by rcases h with rfl | rfl <;> rfl
theorem bn {w : Int32} (h : w = 0 ∨ w = 1) : vp_nar .boolean w = w := by rcases h with rfl | rfl <;> rfl
end
section
/-! Rows: contracts -/
theorem cp_lt {i w mo : Nat} (h : i < mo) : i * w + w ≤ w * mo := by
  have h1 : (i + 1) * w ≤ mo * w := Nat.mul_le_mul_right w (by omega)
  rw [Nat.add_mul, Nat.mul_comm mo w] at h1
  omega
theorem rm_a {i n w mo : Nat} (hi : i < n) (hn : n ≤ mo) : (i + 1) * w + (n * w - (i + 1) * w) ≤ w * mo := by
  have h1 : (i + 1) * w ≤ n * w := Nat.mul_le_mul_right w (by omega)
  have h2 : n * w ≤ mo * w := Nat.mul_le_mul_right w hn
  rw [Nat.mul_comm mo w] at h2
  omega
theorem rm_b {i n w mo : Nat} (hi : i < n) (hn : n ≤ mo) : i * w + (n * w - (i + 1) * w) ≤ w * mo := by
  have h1 : i * w ≤ (i + 1) * w := Nat.mul_le_mul_right w (by omega)
  have h2 := rm_a (w := w) hi hn
  omega
theorem lkX2_has_26 : Cond.fieldLink RX2 26 "QuorumRegister$Rows" "count" "I" ∈ wsX2_has := by decide +kernel
theorem inX2_has_X2 : ∀ w ∈ wsX20, w ∈ wsX2_has := by decide +kernel
set_option maxHeartbeats 4000000 in
set_option maxRecDepth 100000 in
/-- X2_has(i) -/
theorem k_X2_has (l : Launch) (dC : Nat → ClassId) (dI : Nat → Nat → Nat) (h hc : Nat) (kA : ClassId) (w mo n : Nat) (f : Nat → Int32) (i : Int32) : MetS l yX2_has wsX2_has ({ frames := 0, cells := 0, slots := 0, locals := 0 } : Room) (dC, dI) vwCl (wR h hc kA w mo n f) ([(kA, .int)]) [.ref h, .int i] (if okI i n then 1 else 0) := by
  refine MetS.of (cc := cX2_has) (maxL := 2) (ret := (some .boolean)) (by decide) rfl (Nat.le_of_ble_eq_true rfl) rfl ?_
  intro p e s m below meth cd ls hx hb hr hlk hml hown hts hK hP hl
  have hl : lv_has ls 2 [(0, .ref h), (1, .int i)] := hl
  refine lv_iload_n hx hb dX2_has_0 rfl (lv_at hl 1 rfl) ?_
  refine lv_if_lt (tgt := 16) hx hb dX2_has_1 (by decide) (fun c_1 => ?_) (fun c_1 => ?_)
  · refine lv_iconst (v := nI 0) hx hb dX2_has_16 (by decide) ?_
    exact retSz hx hb hr hlk dX2_has_17 rfl ((if_neg (fun q => q.1 c_1)).symm)
  · refine lv_iload_n hx hb dX2_has_4 rfl (lv_at hl 1 rfl) ?_
    refine lv_aload_n hx hb dX2_has_5 rfl (lv_at hl 0 rfl) ?_
    refine va_get (D := (dC, dI)) (ci := 2) (v := .int (nI n)) (C := RX2) (T := TX2) (N := 4) hx hb hts inX2_has_X2 hown hK hP (0) rfl rfl 3 (by decide) (hts _ lkX2_has_26) (fun _ h9 => h9) rfl dX2_has_6 ?_
    refine lv_icmp_ge (tgt := 16) hx hb dX2_has_9 (by decide) (fun c_9 => ?_) (fun c_9 => ?_)
    · refine lv_iconst (v := nI 0) hx hb dX2_has_16 (by decide) ?_
      exact retSz hx hb hr hlk dX2_has_17 rfl ((if_neg (fun q => q.2 c_9)).symm)
    · refine lv_iconst (v := nI 1) hx hb dX2_has_12 (by decide) ?_
      refine lv_goto (tgt := 17) hx hb dX2_has_13 (by decide) ?_
      exact retSz hx hb hr hlk dX2_has_17 rfl ((if_pos ⟨c_1, c_9⟩).symm)
theorem lkX2_hasColumn_13 : Cond.fieldLink RX2 13 "QuorumRegister$Rows" "width" "I" ∈ wsX2_hasColumn := by decide +kernel
theorem inX2_hasColumn_X2 : ∀ w ∈ wsX20, w ∈ wsX2_hasColumn := by decide +kernel
set_option maxHeartbeats 4000000 in
set_option maxRecDepth 100000 in
/-- X2_hasColumn(i) -/
theorem k_X2_hasColumn (l : Launch) (dC : Nat → ClassId) (dI : Nat → Nat → Nat) (h hc : Nat) (kA : ClassId) (w mo n : Nat) (f : Nat → Int32) (i : Int32) : MetS l yX2_hasColumn wsX2_hasColumn ({ frames := 0, cells := 0, slots := 0, locals := 0 } : Room) (dC, dI) vwCl (wR h hc kA w mo n f) ([(kA, .int)]) [.ref h, .int i] (if okI i w then 1 else 0) := by
  refine MetS.of (cc := cX2_hasColumn) (maxL := 2) (ret := (some .boolean)) (by decide) rfl (Nat.le_of_ble_eq_true rfl) rfl ?_
  intro p e s m below meth cd ls hx hb hr hlk hml hown hts hK hP hl
  have hl : lv_has ls 2 [(0, .ref h), (1, .int i)] := hl
  refine lv_iload_n hx hb dX2_hasColumn_0 rfl (lv_at hl 1 rfl) ?_
  refine lv_if_lt (tgt := 16) hx hb dX2_hasColumn_1 (by decide) (fun c_1 => ?_) (fun c_1 => ?_)
  · refine lv_iconst (v := nI 0) hx hb dX2_hasColumn_16 (by decide) ?_
    exact retSz hx hb hr hlk dX2_hasColumn_17 rfl ((if_neg (fun q => q.1 c_1)).symm)
  · refine lv_iload_n hx hb dX2_hasColumn_4 rfl (lv_at hl 1 rfl) ?_
    refine lv_aload_n hx hb dX2_hasColumn_5 rfl (lv_at hl 0 rfl) ?_
    refine va_get (D := (dC, dI)) (ci := 2) (v := .int (nI w)) (C := RX2) (T := TX2) (N := 4) hx hb hts inX2_hasColumn_X2 hown hK hP (0) rfl rfl 0 (by decide) (hts _ lkX2_hasColumn_13) (fun _ h9 => h9) rfl dX2_hasColumn_6 ?_
    refine lv_icmp_ge (tgt := 16) hx hb dX2_hasColumn_9 (by decide) (fun c_9 => ?_) (fun c_9 => ?_)
    · refine lv_iconst (v := nI 0) hx hb dX2_hasColumn_16 (by decide) ?_
      exact retSz hx hb hr hlk dX2_hasColumn_17 rfl ((if_neg (fun q => q.2 c_9)).symm)
    · refine lv_iconst (v := nI 1) hx hb dX2_hasColumn_12 (by decide) ?_
      refine lv_goto (tgt := 17) hx hb dX2_hasColumn_13 (by decide) ?_
      exact retSz hx hb hr hlk dX2_hasColumn_17 rfl ((if_pos ⟨c_1, c_9⟩).symm)
theorem lkX2_cell_22 : Cond.fieldLink RX2 22 "QuorumRegister$Rows" "cells" "[I" ∈ wsX2_cell := by decide +kernel
theorem inX2_cell_X2 : ∀ w ∈ wsX20, w ∈ wsX2_cell := by decide +kernel
theorem lkX2_cell_13 : Cond.fieldLink RX2 13 "QuorumRegister$Rows" "width" "I" ∈ wsX2_cell := by decide +kernel
set_option maxHeartbeats 4000000 in
set_option maxRecDepth 100000 in
/-- Rows.cell(i, column) -/
theorem k_X2_cell (l : Launch) (dC : Nat → ClassId) (dI : Nat → Nat → Nat) (h hc : Nat) (kA : ClassId) (w mo n : Nat) (f : Nat → Int32) (hn : n ≤ mo) (hmo : mo < 2 ^ 31) (hw : w < 2 ^ 31) (hwm : w * mo < 2 ^ 31) (p0 p1 : Int32) : MetS l yX2_cell wsX2_cell ({ frames := 1, cells := 0, slots := 0, locals := 21 } : Room) (dC, dI) vwCl (wR h hc kA w mo n f) ([(kA, .int)]) [.ref h, .int p0, .int p1] (if okI p0 n then (if okI p1 w then f (p0.toNatClampNeg * w + p1.toNatClampNeg) else 0) else (-1)) := by
  refine MetS.of (cc := cX2_cell) (maxL := 3) (ret := (some .int)) (by decide) rfl (Nat.le_of_ble_eq_true rfl) rfl ?_
  intro p e s m below meth cd ls hx hb hr hlk hml hown hts hK hP hl
  have hl : lv_has ls 3 [(0, .ref h), (1, .int p0), (2, .int p1)] := hl
  refine lv_aload_n hx hb dX2_cell_0 rfl (lv_at hl 0 rfl) ?_
  refine lv_iload_n hx hb dX2_cell_1 rfl (lv_at hl 1 rfl) ?_
  refine goS (va_runV (rm := ({ frames := 0, cells := 0, slots := 0, locals := 0 } : Room)) (As := [.int p0]) (rest := []) ⟨hx, hb, hml, hown, hts⟩ (MetS.at (k_X2_has l dC dI h hc kA w mo n f p0)) (cwV 1 hts gX2_cell_X2_has rfl rfl rfl (by decide +kernel) ⟨Nat.le_of_ble_eq_true rfl, Nat.le_of_ble_eq_true rfl⟩) (preSV hK hP (va_recv hK hP (ci := 2) (q0 := 0) rfl rfl)) rfl rfl hl.1 rfl (lv_room (Nat.le_of_ble_eq_true rfl)) dX2_cell_2 ⟨Nat.le_of_ble_eq_true rfl, Nat.le_of_ble_eq_true rfl⟩) ?_
  refine lv_if_ne (tgt := 10) hx hb dX2_cell_5 (by decide) (fun c_5 => ?_) (fun c_5 => ?_)
  · have c_5 := it_yes c_5
    refine lv_aload_n hx hb dX2_cell_10 rfl (lv_at hl 0 rfl) ?_
    refine lv_iload_n hx hb dX2_cell_11 rfl (lv_at hl 2 rfl) ?_
    refine goS (va_runV (rm := ({ frames := 0, cells := 0, slots := 0, locals := 0 } : Room)) (As := [.int p1]) (rest := []) ⟨hx, hb, hml, hown, hts⟩ (MetS.at (k_X2_hasColumn l dC dI h hc kA w mo n f p1)) (cwV 1 hts gX2_cell_X2_hasColumn rfl rfl rfl (by decide +kernel) ⟨Nat.le_of_ble_eq_true rfl, Nat.le_of_ble_eq_true rfl⟩) (preSV hK hP (va_recv hK hP (ci := 2) (q0 := 0) rfl rfl)) rfl rfl hl.1 rfl (lv_room (Nat.le_of_ble_eq_true rfl)) dX2_cell_12 ⟨Nat.le_of_ble_eq_true rfl, Nat.le_of_ble_eq_true rfl⟩) ?_
    refine lv_if_eq (tgt := 34) hx hb dX2_cell_15 (by decide) (fun c_15 => ?_) (fun c_15 => ?_)
    · have c_15 := it_no c_15
      refine lv_iconst (v := nI 0) hx hb dX2_cell_34 (by decide) ?_
      exact retS hx hb hr hlk dX2_cell_35 (by rw [if_pos c_5, if_neg c_15]; rfl)
    · have c_15 := it_yes c_15
      obtain ⟨i, hi, rfl⟩ := okI_of c_5 (Nat.lt_of_le_of_lt hn hmo)
      obtain ⟨j, hj, rfl⟩ := okI_of c_15 hw
      refine lv_aload_n hx hb dX2_cell_18 rfl (lv_at hl 0 rfl) ?_
      refine va_get (D := (dC, dI)) (ci := 2) (v := .ref hc) (C := RX2) (T := TX2) (N := 4) hx hb hts inX2_cell_X2 hown hK hP (0) rfl rfl 2 (by decide) (hts _ lkX2_cell_22) (fun _ h9 => h9) rfl dX2_cell_19 ?_
      refine lv_iload_n hx hb dX2_cell_22 rfl (lv_at hl 1 rfl) ?_
      refine lv_aload_n hx hb dX2_cell_23 rfl (lv_at hl 0 rfl) ?_
      refine va_get (D := (dC, dI)) (ci := 2) (v := .int (nI w)) (C := RX2) (T := TX2) (N := 4) hx hb hts inX2_cell_X2 hown hK hP (0) rfl rfl 0 (by decide) (hts _ lkX2_cell_13) (fun _ h9 => h9) rfl dX2_cell_24 ?_
      refine lv_imul hx hb dX2_cell_27 ?_
      refine qtop (y := nI (i * w)) (pk_mul _ _) ?_
      refine lv_iload_n hx hb dX2_cell_28 rfl (lv_at hl 2 rfl) ?_
      refine lv_iadd hx hb dX2_cell_29 ?_
      refine qtop (y := nI ((i * w) + j)) (nI_add _ _) ?_
      refine q_iald hx hb hK hP (1) 0 (j := (i * w) + j) rfl rfl (rows_ix hi hn hj) hwm dX2_cell_30 ?_
      refine lv_goto (tgt := 35) hx hb dX2_cell_31 (by decide) ?_
      exact retS hx hb hr hlk dX2_cell_35 (by rw [if_pos c_5, if_pos c_15, nI_clamp (by omega), nI_clamp (by omega)])
  · have c_5 := it_no c_5
    refine lv_iconst (v := (-1)) hx hb dX2_cell_8 (by decide) ?_
    exact retS hx hb hr hlk dX2_cell_9 ((if_neg c_5).symm)
theorem lkX2_add_26 : Cond.fieldLink RX2 26 "QuorumRegister$Rows" "count" "I" ∈ wsX2_add := by decide +kernel
theorem inX2_add_X2 : ∀ w ∈ wsX20, w ∈ wsX2_add := by decide +kernel
theorem lkX2_add_19 : Cond.fieldLink RX2 19 "QuorumRegister$Rows" "most" "I" ∈ wsX2_add := by decide +kernel
set_option maxHeartbeats 4000000 in
set_option maxRecDepth 100000 in
/-- Rows.add(), with room left -/
theorem k_X2_add (l : Launch) (dC : Nat → ClassId) (dI : Nat → Nat → Nat) (h hc : Nat) (kA : ClassId) (w mo n : Nat) (f : Nat → Int32) (hn : n < mo) (hmo : mo < 2 ^ 31) : MetI l yX2_add wsX2_add ({ frames := 0, cells := 0, slots := 0, locals := 0 } : Room) (dC, dI) vwCl (wR h hc kA w mo n f) ([(kA, .int)]) [.ref h] (nI n) (wR h hc kA w mo (n + 1) f) := by
  refine MetI.of (cc := cX2_add) (maxL := 1) (ret := (some .int)) (by decide) rfl (Nat.le_of_ble_eq_true rfl) rfl ?_
  intro p e s m below meth cd ls A hx hb hr hlk hml hown hts hK hP hD hS hA hl
  have hl : lv_has ls 1 [(0, .ref h)] := hl
  refine lv_aload_n hx hb dX2_add_0 rfl (lv_at hl 0 rfl) ?_
  refine va_get (D := (dC, dI)) (ci := 2) (v := .int (nI n)) (C := RX2) (T := TX2) (N := 4) hx hb hts inX2_add_X2 hown hK hP (0) rfl rfl 3 (by decide) (hts _ lkX2_add_26) (fun _ h9 => h9) rfl dX2_add_1 ?_
  refine lv_aload_n hx hb dX2_add_4 rfl (lv_at hl 0 rfl) ?_
  refine va_get (D := (dC, dI)) (ci := 2) (v := .int (nI mo)) (C := RX2) (T := TX2) (N := 4) hx hb hts inX2_add_X2 hown hK hP (0) rfl rfl 1 (by decide) (hts _ lkX2_add_19) (fun _ h9 => h9) rfl dX2_add_5 ?_
  refine lv_icmp_lt (tgt := 13) hx hb dX2_add_8 (by decide) (fun c_8 => ?_) (fun c_8 => ?_)
  · refine lv_aload_n hx hb dX2_add_13 rfl (lv_at hl 0 rfl) ?_
    refine lv_dup hx hb dX2_add_14 rfl ?_
    refine va_get (D := (dC, dI)) (ci := 2) (v := .int (nI n)) (C := RX2) (T := TX2) (N := 4) hx hb hts inX2_add_X2 hown hK hP (0) rfl rfl 3 (by decide) (hts _ lkX2_add_26) (fun _ h9 => h9) rfl dX2_add_15 ?_
    refine lv_iconst (v := nI 1) hx hb dX2_add_18 (by decide) ?_
    refine lv_iadd hx hb dX2_add_19 ?_
    refine qtop (y := nI (n + 1)) (nI_add _ _) ?_
    refine q_put (D := (dC, dI)) (ci := 2) (v := .int (nI (n + 1))) (ty := .int) (C := RX2) (T := TX2) (N := 4) (ws' := (wR h hc kA w mo (n + 1) f)) hx hb hts inX2_add_X2 tyX2 tyX2_ok nmX2 hown hK hP hD hS (0) rfl rfl 3 (by decide) (hts _ lkX2_add_26) (fun _ h9 => h9) rfl (by decide +kernel) rfl rfl (Nat.le_of_ble_eq_true rfl) rfl dX2_add_20 (fun H locs hP hD hS => ?_)
    refine lv_aload_n hx hb dX2_add_23 rfl (lv_at hl 0 rfl) ?_
    refine va_get (D := (dC, dI)) (ci := 2) (v := .int (nI (n + 1))) (C := RX2) (T := TX2) (N := 4) hx hb hts inX2_add_X2 hown hK hP (0) rfl rfl 3 (by decide) (hts _ lkX2_add_26) (fun _ h9 => h9) rfl dX2_add_24 ?_
    refine lv_iconst (v := nI 1) hx hb dX2_add_27 (by decide) ?_
    refine lv_isub hx hb dX2_add_28 ?_
    exact retI hx hb hr hlk dX2_add_29 hS (hP) (nI_pred n)
  · exact absurd (nI_lt hn hmo) c_8
theorem lkX2_set_22 : Cond.fieldLink RX2 22 "QuorumRegister$Rows" "cells" "[I" ∈ wsX2_set := by decide +kernel
theorem inX2_set_X2 : ∀ w ∈ wsX20, w ∈ wsX2_set := by decide +kernel
theorem lkX2_set_13 : Cond.fieldLink RX2 13 "QuorumRegister$Rows" "width" "I" ∈ wsX2_set := by decide +kernel
set_option maxHeartbeats 4000000 in
set_option maxRecDepth 100000 in
/-- Rows.set(i, column, x), i and column in range -/
theorem k_X2_set (l : Launch) (dC : Nat → ClassId) (dI : Nat → Nat → Nat) (h hc : Nat) (kA : ClassId) (w mo n : Nat) (f : Nat → Int32) (hn : n ≤ mo) (hmo : mo < 2 ^ 31) (hw : w < 2 ^ 31) (hwm : w * mo < 2 ^ 31) (i j : Nat) (hi : i < n) (hj : j < w) (x : Int32) : MetV l yX2_set wsX2_set ({ frames := 1, cells := 0, slots := 0, locals := 21 } : Room) (dC, dI) vwCl (wR h hc kA w mo n f) ([(kA, .int)]) [.ref h, .int (nI i), .int (nI j), .int x] (wR h hc kA w mo n (upd f (i * w + j) x)) := by
  refine MetV.of (cc := cX2_set) (maxL := 4) (ret := none) (by decide) rfl (Nat.le_of_ble_eq_true rfl) rfl ?_
  intro p e s m below meth cd ls A hx hb hr hlk hml hown hts hK hP hD hS hA hl
  have hl : lv_has ls 4 [(0, .ref h), (1, .int (nI i)), (2, .int (nI j)), (3, .int x)] := hl
  refine lv_aload_n hx hb dX2_set_0 rfl (lv_at hl 0 rfl) ?_
  refine lv_iload_n hx hb dX2_set_1 rfl (lv_at hl 1 rfl) ?_
  refine goS (va_runV (rm := ({ frames := 0, cells := 0, slots := 0, locals := 0 } : Room)) (As := [.int (nI i)]) (rest := []) ⟨hx, hb, hml, hown, hts⟩ (MetS.at (k_X2_has l dC dI h hc kA w mo n f (nI i))) (cwV 1 hts gX2_set_X2_has rfl rfl rfl (by decide +kernel) ⟨Nat.le_of_ble_eq_true rfl, Nat.le_of_ble_eq_true rfl⟩) (preSV hK hP (va_recv hK hP (ci := 2) (q0 := 0) rfl rfl)) rfl rfl hl.1 rfl (lv_room (Nat.le_of_ble_eq_true rfl)) dX2_set_2 ⟨Nat.le_of_ble_eq_true rfl, Nat.le_of_ble_eq_true rfl⟩) ?_
  refine lv_if_eq (tgt := 30) hx hb dX2_set_5 (by decide) (fun c_5 => ?_) (fun c_5 => ?_)
  · have c_5 := it_no c_5
    exact absurd (okI_nI hi (by omega)) c_5
  · have c_5 := it_yes c_5
    refine lv_aload_n hx hb dX2_set_8 rfl (lv_at hl 0 rfl) ?_
    refine lv_iload_n hx hb dX2_set_9 rfl (lv_at hl 2 rfl) ?_
    refine goS (va_runV (rm := ({ frames := 0, cells := 0, slots := 0, locals := 0 } : Room)) (As := [.int (nI j)]) (rest := []) ⟨hx, hb, hml, hown, hts⟩ (MetS.at (k_X2_hasColumn l dC dI h hc kA w mo n f (nI j))) (cwV 1 hts gX2_set_X2_hasColumn rfl rfl rfl (by decide +kernel) ⟨Nat.le_of_ble_eq_true rfl, Nat.le_of_ble_eq_true rfl⟩) (preSV hK hP (va_recv hK hP (ci := 2) (q0 := 0) rfl rfl)) rfl rfl hl.1 rfl (lv_room (Nat.le_of_ble_eq_true rfl)) dX2_set_10 ⟨Nat.le_of_ble_eq_true rfl, Nat.le_of_ble_eq_true rfl⟩) ?_
    refine lv_if_eq (tgt := 30) hx hb dX2_set_13 (by decide) (fun c_13 => ?_) (fun c_13 => ?_)
    · have c_13 := it_no c_13
      exact absurd (okI_nI hj hw) c_13
    · have c_13 := it_yes c_13
      refine lv_aload_n hx hb dX2_set_16 rfl (lv_at hl 0 rfl) ?_
      refine va_get (D := (dC, dI)) (ci := 2) (v := .ref hc) (C := RX2) (T := TX2) (N := 4) hx hb hts inX2_set_X2 hown hK hP (0) rfl rfl 2 (by decide) (hts _ lkX2_set_22) (fun _ h9 => h9) rfl dX2_set_17 ?_
      refine lv_iload_n hx hb dX2_set_20 rfl (lv_at hl 1 rfl) ?_
      refine lv_aload_n hx hb dX2_set_21 rfl (lv_at hl 0 rfl) ?_
      refine va_get (D := (dC, dI)) (ci := 2) (v := .int (nI w)) (C := RX2) (T := TX2) (N := 4) hx hb hts inX2_set_X2 hown hK hP (0) rfl rfl 0 (by decide) (hts _ lkX2_set_13) (fun _ h9 => h9) rfl dX2_set_22 ?_
      refine lv_imul hx hb dX2_set_25 ?_
      refine qtop (y := nI (i * w)) (pk_mul _ _) ?_
      refine lv_iload_n hx hb dX2_set_26 rfl (lv_at hl 2 rfl) ?_
      refine lv_iadd hx hb dX2_set_27 ?_
      refine qtop (y := nI ((i * w) + j)) (nI_add _ _) ?_
      refine lv_iload_n hx hb dX2_set_28 rfl (lv_at hl 3 rfl) ?_
      refine q_iast (ws' := (wR h hc kA w mo n (upd f ((i * w) + j) x))) hx hb hK hP hD hS (1) 0 (j := (i * w) + j) rfl rfl (rows_ix hi hn hj) hwm rfl dX2_set_29 (fun H locs hP hD hS => ?_)
      exact retV hx hb hr hlk dX2_set_30 hS (hP)
theorem lkX2_addCopy_22 : Cond.fieldLink RX2 22 "QuorumRegister$Rows" "cells" "[I" ∈ wsX2_addCopy := by decide +kernel
theorem inX2_addCopy_X2 : ∀ w ∈ wsX20, w ∈ wsX2_addCopy := by decide +kernel
theorem lkX2_addCopy_13 : Cond.fieldLink RX2 13 "QuorumRegister$Rows" "width" "I" ∈ wsX2_addCopy := by decide +kernel
theorem wdX2_addCopy_ac1 : Cond.methodLink RX2 40 arraycopyName ∈ wsX2_addCopy := by decide +kernel
theorem wdX2_addCopy_ac2 : Cond.native arraycopyName ∈ wsX2_addCopy := by decide +kernel
theorem wdX2_addCopy_ac3 : Cond.static arraycopyName ∈ wsX2_addCopy := by decide +kernel
theorem wdX2_addCopy_ac4 : Cond.initialized "java/lang/System" ∈ wsX2_addCopy := by decide +kernel
set_option maxHeartbeats 4000000 in
set_option maxRecDepth 100000 in
/-- Rows.addCopy(i), i in range, with room left -/
theorem k_X2_addCopy (l : Launch) (dC : Nat → ClassId) (dI : Nat → Nat → Nat) (h hc : Nat) (kA : ClassId) (w mo n : Nat) (f : Nat → Int32) (hn : n < mo) (hmo : mo < 2 ^ 31) (hwm : w * mo < 2 ^ 31) (i : Nat) (hi : i < n) : MetV l yX2_addCopy wsX2_addCopy ({ frames := 1, cells := 0, slots := 0, locals := 21 } : Room) (dC, dI) vwCl (wR h hc kA w mo n f) ([(kA, .int)]) [.ref h, .int (nI i)] (wR h hc kA w mo (n + 1) (va_cpy f f (i * w) (n * w) w)) := by
  refine MetV.of (cc := cX2_addCopy) (maxL := 3) (ret := none) (by decide) rfl (Nat.le_of_ble_eq_true rfl) rfl ?_
  intro p e s m below meth cd ls A hx hb hr hlk hml hown hts hK hP hD hS hA hl
  have hl : lv_has ls 3 [(0, .ref h), (1, .int (nI i))] := hl
  refine lv_aload_n hx hb dX2_addCopy_0 rfl (lv_at hl 0 rfl) ?_
  refine lv_iload_n hx hb dX2_addCopy_1 rfl (lv_at hl 1 rfl) ?_
  refine goS (va_runV (rm := ({ frames := 0, cells := 0, slots := 0, locals := 0 } : Room)) (As := [.int (nI i)]) (rest := []) ⟨hx, hb, hml, hown, hts⟩ (MetS.at (k_X2_has l dC dI h hc kA w mo n f (nI i))) (cwV 1 hts gX2_addCopy_X2_has rfl rfl rfl (by decide +kernel) ⟨Nat.le_of_ble_eq_true rfl, Nat.le_of_ble_eq_true rfl⟩) (preSV hK hP (va_recv hK hP (ci := 2) (q0 := 0) rfl rfl)) rfl rfl hl.1 rfl (lv_room (Nat.le_of_ble_eq_true rfl)) dX2_addCopy_2 ⟨Nat.le_of_ble_eq_true rfl, Nat.le_of_ble_eq_true rfl⟩) ?_
  refine lv_if_ne (tgt := 9) hx hb dX2_addCopy_5 (by decide) (fun c_5 => ?_) (fun c_5 => ?_)
  · have c_5 := it_yes c_5
    refine lv_aload_n hx hb dX2_addCopy_9 rfl (lv_at hl 0 rfl) ?_
    refine goI (ws := (wR h hc kA w mo n f)) (ws' := (wR h hc kA w mo (n + 1) f)) (qFit_all rfl) hP hD hS hA (va_runV (rm := ({ frames := 0, cells := 0, slots := 0, locals := 0 } : Room)) (As := []) (rest := []) ⟨hx, hb, hml, hown, hts⟩ (MetI.at (k_X2_add l dC dI h hc kA w mo n f hn hmo) s.heap.size) (cwV 0 hts gX2_addCopy_X2_add rfl rfl rfl (by decide +kernel) ⟨Nat.le_of_ble_eq_true rfl, Nat.le_of_ble_eq_true rfl⟩) (preWV hK hP hD (va_recv hK hP (ci := 2) (q0 := 0) rfl rfl)) rfl rfl hl.1 rfl (lv_room (Nat.le_of_ble_eq_true rfl)) dX2_addCopy_10 ⟨Nat.le_of_ble_eq_true rfl, Nat.le_of_ble_eq_true rfl⟩) (fun H locs hP hD hS => ?_)
    refine lv_istore_n (lv' := [(2, .int (nI n)), (0, .ref h), (1, .int (nI i))]) hx hb dX2_addCopy_13 rfl hl (by decide) rfl (fun ls hl => ?_)
    refine lv_iload_n hx hb dX2_addCopy_14 rfl (lv_at hl 0 rfl) ?_
    refine lv_if_lt (tgt := 45) hx hb dX2_addCopy_15 (by decide) (fun c_15 => ?_) (fun c_15 => ?_)
    · exact absurd c_15 (nI_pos (by omega))
    · refine lv_aload_n hx hb dX2_addCopy_18 rfl (lv_at hl 1 rfl) ?_
      refine va_get (D := (dC, dI)) (ci := 2) (v := .ref hc) (C := RX2) (T := TX2) (N := 4) hx hb hts inX2_addCopy_X2 hown hK hP (0) rfl rfl 2 (by decide) (hts _ lkX2_addCopy_22) (fun _ h9 => h9) rfl dX2_addCopy_19 ?_
      refine lv_iload_n hx hb dX2_addCopy_22 rfl (lv_at hl 2 rfl) ?_
      refine lv_aload_n hx hb dX2_addCopy_23 rfl (lv_at hl 1 rfl) ?_
      refine va_get (D := (dC, dI)) (ci := 2) (v := .int (nI w)) (C := RX2) (T := TX2) (N := 4) hx hb hts inX2_addCopy_X2 hown hK hP (0) rfl rfl 0 (by decide) (hts _ lkX2_addCopy_13) (fun _ h9 => h9) rfl dX2_addCopy_24 ?_
      refine lv_imul hx hb dX2_addCopy_27 ?_
      refine qtop (y := nI (i * w)) (pk_mul _ _) ?_
      refine lv_aload_n hx hb dX2_addCopy_28 rfl (lv_at hl 1 rfl) ?_
      refine va_get (D := (dC, dI)) (ci := 2) (v := .ref hc) (C := RX2) (T := TX2) (N := 4) hx hb hts inX2_addCopy_X2 hown hK hP (0) rfl rfl 2 (by decide) (hts _ lkX2_addCopy_22) (fun _ h9 => h9) rfl dX2_addCopy_29 ?_
      refine lv_iload_n hx hb dX2_addCopy_32 rfl (lv_at hl 0 rfl) ?_
      refine lv_aload_n hx hb dX2_addCopy_33 rfl (lv_at hl 1 rfl) ?_
      refine va_get (D := (dC, dI)) (ci := 2) (v := .int (nI w)) (C := RX2) (T := TX2) (N := 4) hx hb hts inX2_addCopy_X2 hown hK hP (0) rfl rfl 0 (by decide) (hts _ lkX2_addCopy_13) (fun _ h9 => h9) rfl dX2_addCopy_34 ?_
      refine lv_imul hx hb dX2_addCopy_37 ?_
      refine qtop (y := nI (n * w)) (pk_mul _ _) ?_
      refine lv_aload_n hx hb dX2_addCopy_38 rfl (lv_at hl 1 rfl) ?_
      refine va_get (D := (dC, dI)) (ci := 2) (v := .int (nI w)) (C := RX2) (T := TX2) (N := 4) hx hb hts inX2_addCopy_X2 hown hK hP (0) rfl rfl 0 (by decide) (hts _ lkX2_addCopy_13) (fun _ h9 => h9) rfl dX2_addCopy_39 ?_
      refine q_copy (ws' := (wR h hc kA w mo (n + 1) (va_cpy f f (i * w) (n * w) w))) hx hb (hml.trans hl.1.symm) hown (hts _ wdX2_addCopy_ac1) (hts _ wdX2_addCopy_ac2) (hts _ wdX2_addCopy_ac3) (hts _ wdX2_addCopy_ac4) hK hP hD hS (1) (1) 0 0 (sp := i * w) (dp := n * w) (n := w) rfl rfl rfl rfl (cp_lt (by omega)) (cp_lt hn) hwm hwm (Nat.le_of_ble_eq_true rfl) (Nat.le_of_ble_eq_true rfl) rfl dX2_addCopy_42 (fun H locs hP hD hS => ?_)
      exact retV hx hb hr hlk dX2_addCopy_45 hS (hP)
  · have c_5 := it_no c_5
    exact absurd (okI_nI hi (by omega)) c_5
theorem lkX2_remove_13 : Cond.fieldLink RX2 13 "QuorumRegister$Rows" "width" "I" ∈ wsX2_remove := by decide +kernel
theorem inX2_remove_X2 : ∀ w ∈ wsX20, w ∈ wsX2_remove := by decide +kernel
theorem lkX2_remove_22 : Cond.fieldLink RX2 22 "QuorumRegister$Rows" "cells" "[I" ∈ wsX2_remove := by decide +kernel
theorem lkX2_remove_26 : Cond.fieldLink RX2 26 "QuorumRegister$Rows" "count" "I" ∈ wsX2_remove := by decide +kernel
theorem wdX2_remove_ac1 : Cond.methodLink RX2 40 arraycopyName ∈ wsX2_remove := by decide +kernel
theorem wdX2_remove_ac2 : Cond.native arraycopyName ∈ wsX2_remove := by decide +kernel
theorem wdX2_remove_ac3 : Cond.static arraycopyName ∈ wsX2_remove := by decide +kernel
theorem wdX2_remove_ac4 : Cond.initialized "java/lang/System" ∈ wsX2_remove := by decide +kernel
set_option maxHeartbeats 4000000 in
set_option maxRecDepth 100000 in
/-- Rows.remove(i), i in range -/
theorem k_X2_remove (l : Launch) (dC : Nat → ClassId) (dI : Nat → Nat → Nat) (h hc : Nat) (kA : ClassId) (w mo n : Nat) (f : Nat → Int32) (hn : n ≤ mo) (hmo : mo < 2 ^ 31) (hwm : w * mo < 2 ^ 31) (i : Nat) (hi : i < n) : MetV l yX2_remove wsX2_remove ({ frames := 1, cells := 0, slots := 0, locals := 21 } : Room) (dC, dI) vwCl (wR h hc kA w mo n f) ([(kA, .int)]) [.ref h, .int (nI i)] (wR h hc kA w mo (n - 1) (va_cpy f f ((i + 1) * w) (i * w) (n * w - (i + 1) * w))) := by
  refine MetV.of (cc := cX2_remove) (maxL := 3) (ret := none) (by decide) rfl (Nat.le_of_ble_eq_true rfl) rfl ?_
  intro p e s m below meth cd ls A hx hb hr hlk hml hown hts hK hP hD hS hA hl
  have hl : lv_has ls 3 [(0, .ref h), (1, .int (nI i))] := hl
  refine lv_aload_n hx hb dX2_remove_0 rfl (lv_at hl 0 rfl) ?_
  refine lv_iload_n hx hb dX2_remove_1 rfl (lv_at hl 1 rfl) ?_
  refine goS (va_runV (rm := ({ frames := 0, cells := 0, slots := 0, locals := 0 } : Room)) (As := [.int (nI i)]) (rest := []) ⟨hx, hb, hml, hown, hts⟩ (MetS.at (k_X2_has l dC dI h hc kA w mo n f (nI i))) (cwV 1 hts gX2_remove_X2_has rfl rfl rfl (by decide +kernel) ⟨Nat.le_of_ble_eq_true rfl, Nat.le_of_ble_eq_true rfl⟩) (preSV hK hP (va_recv hK hP (ci := 2) (q0 := 0) rfl rfl)) rfl rfl hl.1 rfl (lv_room (Nat.le_of_ble_eq_true rfl)) dX2_remove_2 ⟨Nat.le_of_ble_eq_true rfl, Nat.le_of_ble_eq_true rfl⟩) ?_
  refine lv_if_ne (tgt := 9) hx hb dX2_remove_5 (by decide) (fun c_5 => ?_) (fun c_5 => ?_)
  · have c_5 := it_yes c_5
    refine lv_iload_n hx hb dX2_remove_9 rfl (lv_at hl 1 rfl) ?_
    refine lv_iconst (v := nI 1) hx hb dX2_remove_10 (by decide) ?_
    refine lv_iadd hx hb dX2_remove_11 ?_
    refine qtop (y := nI (i + 1)) (nI_add _ _) ?_
    refine lv_aload_n hx hb dX2_remove_12 rfl (lv_at hl 0 rfl) ?_
    refine va_get (D := (dC, dI)) (ci := 2) (v := .int (nI w)) (C := RX2) (T := TX2) (N := 4) hx hb hts inX2_remove_X2 hown hK hP (0) rfl rfl 0 (by decide) (hts _ lkX2_remove_13) (fun _ h9 => h9) rfl dX2_remove_13 ?_
    refine lv_imul hx hb dX2_remove_16 ?_
    refine qtop (y := nI ((i + 1) * w)) (pk_mul _ _) ?_
    refine lv_istore_n (lv' := [(2, .int (nI ((i + 1) * w))), (0, .ref h), (1, .int (nI i))]) hx hb dX2_remove_17 rfl hl (by decide) rfl (fun ls hl => ?_)
    refine lv_aload_n hx hb dX2_remove_18 rfl (lv_at hl 1 rfl) ?_
    refine va_get (D := (dC, dI)) (ci := 2) (v := .ref hc) (C := RX2) (T := TX2) (N := 4) hx hb hts inX2_remove_X2 hown hK hP (0) rfl rfl 2 (by decide) (hts _ lkX2_remove_22) (fun _ h9 => h9) rfl dX2_remove_19 ?_
    refine lv_iload_n hx hb dX2_remove_22 rfl (lv_at hl 0 rfl) ?_
    refine lv_aload_n hx hb dX2_remove_23 rfl (lv_at hl 1 rfl) ?_
    refine va_get (D := (dC, dI)) (ci := 2) (v := .ref hc) (C := RX2) (T := TX2) (N := 4) hx hb hts inX2_remove_X2 hown hK hP (0) rfl rfl 2 (by decide) (hts _ lkX2_remove_22) (fun _ h9 => h9) rfl dX2_remove_24 ?_
    refine lv_iload_n hx hb dX2_remove_27 rfl (lv_at hl 2 rfl) ?_
    refine lv_aload_n hx hb dX2_remove_28 rfl (lv_at hl 1 rfl) ?_
    refine va_get (D := (dC, dI)) (ci := 2) (v := .int (nI w)) (C := RX2) (T := TX2) (N := 4) hx hb hts inX2_remove_X2 hown hK hP (0) rfl rfl 0 (by decide) (hts _ lkX2_remove_13) (fun _ h9 => h9) rfl dX2_remove_29 ?_
    refine lv_imul hx hb dX2_remove_32 ?_
    refine qtop (y := nI (i * w)) (pk_mul _ _) ?_
    refine lv_aload_n hx hb dX2_remove_33 rfl (lv_at hl 1 rfl) ?_
    refine va_get (D := (dC, dI)) (ci := 2) (v := .int (nI n)) (C := RX2) (T := TX2) (N := 4) hx hb hts inX2_remove_X2 hown hK hP (0) rfl rfl 3 (by decide) (hts _ lkX2_remove_26) (fun _ h9 => h9) rfl dX2_remove_34 ?_
    refine lv_aload_n hx hb dX2_remove_37 rfl (lv_at hl 1 rfl) ?_
    refine va_get (D := (dC, dI)) (ci := 2) (v := .int (nI w)) (C := RX2) (T := TX2) (N := 4) hx hb hts inX2_remove_X2 hown hK hP (0) rfl rfl 0 (by decide) (hts _ lkX2_remove_13) (fun _ h9 => h9) rfl dX2_remove_38 ?_
    refine lv_imul hx hb dX2_remove_41 ?_
    refine qtop (y := nI (n * w)) (pk_mul _ _) ?_
    refine lv_iload_n hx hb dX2_remove_42 rfl (lv_at hl 0 rfl) ?_
    refine lv_isub hx hb dX2_remove_43 ?_
    refine qtop (y := nI (n * w - (i + 1) * w)) (pk_sub (Nat.mul_le_mul_right w hi)) ?_
    refine q_copy (ws' := (wR h hc kA w mo n (va_cpy f f ((i + 1) * w) (i * w) (n * w - (i + 1) * w)))) hx hb (hml.trans hl.1.symm) hown (hts _ wdX2_remove_ac1) (hts _ wdX2_remove_ac2) (hts _ wdX2_remove_ac3) (hts _ wdX2_remove_ac4) hK hP hD hS (1) (1) 0 0 (sp := (i + 1) * w) (dp := i * w) (n := n * w - (i + 1) * w) rfl rfl rfl rfl (rm_a hi hn) (rm_b hi hn) hwm hwm (Nat.le_of_ble_eq_true rfl) (Nat.le_of_ble_eq_true rfl) rfl dX2_remove_44 (fun H locs hP hD hS => ?_)
    refine lv_aload_n hx hb dX2_remove_47 rfl (lv_at hl 1 rfl) ?_
    refine lv_dup hx hb dX2_remove_48 rfl ?_
    refine va_get (D := (dC, dI)) (ci := 2) (v := .int (nI n)) (C := RX2) (T := TX2) (N := 4) hx hb hts inX2_remove_X2 hown hK hP (0) rfl rfl 3 (by decide) (hts _ lkX2_remove_26) (fun _ h9 => h9) rfl dX2_remove_49 ?_
    refine lv_iconst (v := nI 1) hx hb dX2_remove_52 (by decide) ?_
    refine lv_isub hx hb dX2_remove_53 ?_
    refine qtop (y := nI (n - 1)) (pk_sub (by omega)) ?_
    refine q_put (D := (dC, dI)) (ci := 2) (v := .int (nI (n - 1))) (ty := .int) (C := RX2) (T := TX2) (N := 4) (ws' := (wR h hc kA w mo (n - 1) (va_cpy f f ((i + 1) * w) (i * w) (n * w - (i + 1) * w)))) hx hb hts inX2_remove_X2 tyX2 tyX2_ok nmX2 hown hK hP hD hS (0) rfl rfl 3 (by decide) (hts _ lkX2_remove_26) (fun _ h9 => h9) rfl (by decide +kernel) rfl rfl (Nat.le_of_ble_eq_true rfl) rfl dX2_remove_54 (fun H locs hP hD hS => ?_)
    exact retV hx hb hr hlk dX2_remove_57 hS (hP)
  · have c_5 := it_no c_5
    exact absurd (okI_nI hi (by omega)) c_5
end
section
/-! Client: contracts -/
theorem lkX0_enter_9 : Cond.fieldLink RX0 9 "QuorumRegister$Client" "phase" "I" ∈ wsX0_enter := by decide +kernel
theorem inX0_enter_X0 : ∀ w ∈ wsX00, w ∈ wsX0_enter := by decide +kernel
theorem lkX0_enter_15 : Cond.fieldLink RX0 15 "QuorumRegister$Client" "answers" "I" ∈ wsX0_enter := by decide +kernel
set_option maxHeartbeats 4000000 in
set_option maxRecDepth 100000 in
/-- Client.enter(v) -/
theorem k_X0_enter (l : Launch) (dC : Nat → ClassId) (dI : Nat → Nat → Nat) (h : Nat) (F : Nat → Int32) (v : Int32) : MetV l yX0_enter wsX0_enter ({ frames := 0, cells := 0, slots := 0, locals := 0 } : Room) (dC, dI) vwCl (wC h F) ([]) [.ref h, .int v] [(h, .inr (0, [.int v, .int (F 1), .int (F 2), .int (F 3), .int (nI 0), .int (F 5), .int (F 6), .int (F 7)]))] := by
  refine MetV.of (cc := cX0_enter) (maxL := 2) (ret := none) (by decide) rfl (Nat.le_of_ble_eq_true rfl) rfl ?_
  intro p e s m below meth cd ls A hx hb hr hlk hml hown hts hK hP hD hS hA hl
  have hl : lv_has ls 2 [(0, .ref h), (1, .int v)] := hl
  refine lv_aload_n hx hb dX0_enter_0 rfl (lv_at hl 0 rfl) ?_
  refine lv_iload_n hx hb dX0_enter_1 rfl (lv_at hl 1 rfl) ?_
  refine q_put (D := (dC, dI)) (ci := 0) (v := .int v) (ty := .int) (C := RX0) (T := TX0) (N := 8) (ws' := [(h, .inr (0, [.int v, .int (F 1), .int (F 2), .int (F 3), .int (F 4), .int (F 5), .int (F 6), .int (F 7)]))]) hx hb hts inX0_enter_X0 tyX0 tyX0_ok nmX0 hown hK hP hD hS (0) rfl rfl 0 (by decide) (hts _ lkX0_enter_9) (fun _ h9 => h9) rfl (by decide +kernel) rfl rfl (Nat.le_of_ble_eq_true rfl) rfl dX0_enter_2 (fun H locs hP hD hS => ?_)
  refine lv_aload_n hx hb dX0_enter_5 rfl (lv_at hl 0 rfl) ?_
  refine lv_iconst (v := nI 0) hx hb dX0_enter_6 (by decide) ?_
  refine q_put (D := (dC, dI)) (ci := 0) (v := .int (nI 0)) (ty := .int) (C := RX0) (T := TX0) (N := 8) (ws' := [(h, .inr (0, [.int v, .int (F 1), .int (F 2), .int (F 3), .int (nI 0), .int (F 5), .int (F 6), .int (F 7)]))]) hx hb hts inX0_enter_X0 tyX0 tyX0_ok nmX0 hown hK hP hD hS (0) rfl rfl 4 (by decide) (hts _ lkX0_enter_15) (fun _ h9 => h9) rfl (by decide +kernel) rfl rfl (Nat.le_of_ble_eq_true rfl) rfl dX0_enter_7 (fun H locs hP hD hS => ?_)
  exact retV hx hb hr hlk dX0_enter_10 hS (hP)
theorem lkX0_awaits_18 : Cond.fieldLink RX0 18 "QuorumRegister$Client" "serial" "I" ∈ wsX0_awaits := by decide +kernel
theorem inX0_awaits_X0 : ∀ w ∈ wsX00, w ∈ wsX0_awaits := by decide +kernel
theorem lkX0_awaits_9 : Cond.fieldLink RX0 9 "QuorumRegister$Client" "phase" "I" ∈ wsX0_awaits := by decide +kernel
theorem lkX0_awaits_15 : Cond.fieldLink RX0 15 "QuorumRegister$Client" "answers" "I" ∈ wsX0_awaits := by decide +kernel
set_option maxHeartbeats 4000000 in
set_option maxRecDepth 100000 in
/-- Client.awaits(phase, r, serial) -/
theorem k_X0_awaits (l : Launch) (dC : Nat → ClassId) (dI : Nat → Nat → Nat) (h : Nat) (F : Nat → Int32) (ph r q : Int32) : MetS l yX0_awaits wsX0_awaits ({ frames := 0, cells := 0, slots := 0, locals := 0 } : Room) (dC, dI) vwCl (wC h F) ([]) [.ref h, .int ph, .int r, .int q] (if aw F ph r q then 1 else 0) := by
  refine MetS.of (cc := cX0_awaits) (maxL := 4) (ret := (some .boolean)) (by decide) rfl (Nat.le_of_ble_eq_true rfl) rfl ?_
  intro p e s m below meth cd ls hx hb hr hlk hml hown hts hK hP hl
  have hl : lv_has ls 4 [(0, .ref h), (1, .int ph), (2, .int r), (3, .int q)] := hl
  refine lv_aload_n hx hb dX0_awaits_0 rfl (lv_at hl 0 rfl) ?_
  refine va_get (D := (dC, dI)) (ci := 0) (v := .int (F 1)) (C := RX0) (T := TX0) (N := 8) hx hb hts inX0_awaits_X0 hown hK hP (0) rfl rfl 1 (by decide) (hts _ lkX0_awaits_18) (fun _ h9 => h9) rfl dX0_awaits_1 ?_
  refine lv_iload_n hx hb dX0_awaits_4 rfl (lv_at hl 3 rfl) ?_
  refine lv_icmp_ne (tgt := 31) hx hb dX0_awaits_5 (by decide) (fun c_5 => ?_) (fun c_5 => ?_)
  · refine lv_iconst (v := nI 0) hx hb dX0_awaits_31 (by decide) ?_
    exact retSz hx hb hr hlk dX0_awaits_32 rfl ((if_neg (fun q => c_5 q.1)).symm)
  · refine lv_aload_n hx hb dX0_awaits_8 rfl (lv_at hl 0 rfl) ?_
    refine va_get (D := (dC, dI)) (ci := 0) (v := .int (F 0)) (C := RX0) (T := TX0) (N := 8) hx hb hts inX0_awaits_X0 hown hK hP (0) rfl rfl 0 (by decide) (hts _ lkX0_awaits_9) (fun _ h9 => h9) rfl dX0_awaits_9 ?_
    refine lv_iload_n hx hb dX0_awaits_12 rfl (lv_at hl 1 rfl) ?_
    refine lv_icmp_ne (tgt := 31) hx hb dX0_awaits_13 (by decide) (fun c_13 => ?_) (fun c_13 => ?_)
    · refine lv_iconst (v := nI 0) hx hb dX0_awaits_31 (by decide) ?_
      exact retSz hx hb hr hlk dX0_awaits_32 rfl ((if_neg (fun q => c_13 q.2.1)).symm)
    · refine lv_aload_n hx hb dX0_awaits_16 rfl (lv_at hl 0 rfl) ?_
      refine va_get (D := (dC, dI)) (ci := 0) (v := .int (F 4)) (C := RX0) (T := TX0) (N := 8) hx hb hts inX0_awaits_X0 hown hK hP (0) rfl rfl 4 (by decide) (hts _ lkX0_awaits_15) (fun _ h9 => h9) rfl dX0_awaits_17 ?_
      refine lv_iconst (v := nI 1) hx hb dX0_awaits_20 (by decide) ?_
      refine lv_iload_n hx hb dX0_awaits_21 rfl (lv_at hl 2 rfl) ?_
      refine lv_ishl hx hb dX0_awaits_22 ?_
      refine lv_iand hx hb dX0_awaits_23 ?_
      refine lv_if_ne (tgt := 31) hx hb dX0_awaits_24 (by decide) (fun c_24 => ?_) (fun c_24 => ?_)
      · refine lv_iconst (v := nI 0) hx hb dX0_awaits_31 (by decide) ?_
        exact retSz hx hb hr hlk dX0_awaits_32 rfl ((if_neg (fun q => c_24 q.2.2)).symm)
      · refine lv_iconst (v := nI 1) hx hb dX0_awaits_27 (by decide) ?_
        refine lv_goto (tgt := 32) hx hb dX0_awaits_28 (by decide) ?_
        exact retSz hx hb hr hlk dX0_awaits_32 rfl ((if_pos ⟨c_5, c_13, c_24⟩).symm)
theorem lkX0_hear_15 : Cond.fieldLink RX0 15 "QuorumRegister$Client" "answers" "I" ∈ wsX0_hear := by decide +kernel
theorem inX0_hear_X0 : ∀ w ∈ wsX00, w ∈ wsX0_hear := by decide +kernel
set_option maxHeartbeats 4000000 in
set_option maxRecDepth 100000 in
/-- Client.hear(r) -/
theorem k_X0_hear (l : Launch) (dC : Nat → ClassId) (dI : Nat → Nat → Nat) (h : Nat) (F : Nat → Int32) (r : Int32) : MetV l yX0_hear wsX0_hear ({ frames := 0, cells := 0, slots := 0, locals := 0 } : Room) (dC, dI) vwCl (wC h F) ([]) [.ref h, .int r] [(h, .inr (0, [.int (F 0), .int (F 1), .int (F 2), .int (F 3), .int (F 4 ||| (nI 1 <<< (r &&& 31))), .int (F 5), .int (F 6), .int (F 7)]))] := by
  refine MetV.of (cc := cX0_hear) (maxL := 2) (ret := none) (by decide) rfl (Nat.le_of_ble_eq_true rfl) rfl ?_
  intro p e s m below meth cd ls A hx hb hr hlk hml hown hts hK hP hD hS hA hl
  have hl : lv_has ls 2 [(0, .ref h), (1, .int r)] := hl
  refine lv_aload_n hx hb dX0_hear_0 rfl (lv_at hl 0 rfl) ?_
  refine lv_dup hx hb dX0_hear_1 rfl ?_
  refine va_get (D := (dC, dI)) (ci := 0) (v := .int (F 4)) (C := RX0) (T := TX0) (N := 8) hx hb hts inX0_hear_X0 hown hK hP (0) rfl rfl 4 (by decide) (hts _ lkX0_hear_15) (fun _ h9 => h9) rfl dX0_hear_2 ?_
  refine lv_iconst (v := nI 1) hx hb dX0_hear_5 (by decide) ?_
  refine lv_iload_n hx hb dX0_hear_6 rfl (lv_at hl 1 rfl) ?_
  refine lv_ishl hx hb dX0_hear_7 ?_
  refine lv_ior hx hb dX0_hear_8 ?_
  refine q_put (D := (dC, dI)) (ci := 0) (v := .int ((F 4) ||| ((nI 1) <<< (r &&& 31)))) (ty := .int) (C := RX0) (T := TX0) (N := 8) (ws' := [(h, .inr (0, [.int (F 0), .int (F 1), .int (F 2), .int (F 3), .int ((F 4) ||| ((nI 1) <<< (r &&& 31))), .int (F 5), .int (F 6), .int (F 7)]))]) hx hb hts inX0_hear_X0 tyX0 tyX0_ok nmX0 hown hK hP hD hS (0) rfl rfl 4 (by decide) (hts _ lkX0_hear_15) (fun _ h9 => h9) rfl (by decide +kernel) rfl rfl (Nat.le_of_ble_eq_true rfl) rfl dX0_hear_9 (fun H locs hP hD hS => ?_)
  exact retV hx hb hr hlk dX0_hear_12 hS (hP)
def bcnt (x : Int32) : Int32 := (((((((x - (((x.toUInt32 >>> ((nI 1).toUInt32 &&& Int32.toUInt32 31)).toInt32) &&& (1431655765))) &&& (858993459)) + ((((x - (((x.toUInt32 >>> ((nI 1).toUInt32 &&& Int32.toUInt32 31)).toInt32) &&& (1431655765))).toUInt32 >>> ((nI 2).toUInt32 &&& Int32.toUInt32 31)).toInt32) &&& (858993459))) + (((((x - (((x.toUInt32 >>> ((nI 1).toUInt32 &&& Int32.toUInt32 31)).toInt32) &&& (1431655765))) &&& (858993459)) + ((((x - (((x.toUInt32 >>> ((nI 1).toUInt32 &&& Int32.toUInt32 31)).toInt32) &&& (1431655765))).toUInt32 >>> ((nI 2).toUInt32 &&& Int32.toUInt32 31)).toInt32) &&& (858993459))).toUInt32 >>> ((nI 4).toUInt32 &&& Int32.toUInt32 31)).toInt32)) &&& (252645135)) + (((((((x - (((x.toUInt32 >>> ((nI 1).toUInt32 &&& Int32.toUInt32 31)).toInt32) &&& (1431655765))) &&& (858993459)) + ((((x - (((x.toUInt32 >>> ((nI 1).toUInt32 &&& Int32.toUInt32 31)).toInt32) &&& (1431655765))).toUInt32 >>> ((nI 2).toUInt32 &&& Int32.toUInt32 31)).toInt32) &&& (858993459))) + (((((x - (((x.toUInt32 >>> ((nI 1).toUInt32 &&& Int32.toUInt32 31)).toInt32) &&& (1431655765))) &&& (858993459)) + ((((x - (((x.toUInt32 >>> ((nI 1).toUInt32 &&& Int32.toUInt32 31)).toInt32) &&& (1431655765))).toUInt32 >>> ((nI 2).toUInt32 &&& Int32.toUInt32 31)).toInt32) &&& (858993459))).toUInt32 >>> ((nI 4).toUInt32 &&& Int32.toUInt32 31)).toInt32)) &&& (252645135)).toUInt32 >>> ((nI 8).toUInt32 &&& Int32.toUInt32 31)).toInt32)) + ((((((((x - (((x.toUInt32 >>> ((nI 1).toUInt32 &&& Int32.toUInt32 31)).toInt32) &&& (1431655765))) &&& (858993459)) + ((((x - (((x.toUInt32 >>> ((nI 1).toUInt32 &&& Int32.toUInt32 31)).toInt32) &&& (1431655765))).toUInt32 >>> ((nI 2).toUInt32 &&& Int32.toUInt32 31)).toInt32) &&& (858993459))) + (((((x - (((x.toUInt32 >>> ((nI 1).toUInt32 &&& Int32.toUInt32 31)).toInt32) &&& (1431655765))) &&& (858993459)) + ((((x - (((x.toUInt32 >>> ((nI 1).toUInt32 &&& Int32.toUInt32 31)).toInt32) &&& (1431655765))).toUInt32 >>> ((nI 2).toUInt32 &&& Int32.toUInt32 31)).toInt32) &&& (858993459))).toUInt32 >>> ((nI 4).toUInt32 &&& Int32.toUInt32 31)).toInt32)) &&& (252645135)) + (((((((x - (((x.toUInt32 >>> ((nI 1).toUInt32 &&& Int32.toUInt32 31)).toInt32) &&& (1431655765))) &&& (858993459)) + ((((x - (((x.toUInt32 >>> ((nI 1).toUInt32 &&& Int32.toUInt32 31)).toInt32) &&& (1431655765))).toUInt32 >>> ((nI 2).toUInt32 &&& Int32.toUInt32 31)).toInt32) &&& (858993459))) + (((((x - (((x.toUInt32 >>> ((nI 1).toUInt32 &&& Int32.toUInt32 31)).toInt32) &&& (1431655765))) &&& (858993459)) + ((((x - (((x.toUInt32 >>> ((nI 1).toUInt32 &&& Int32.toUInt32 31)).toInt32) &&& (1431655765))).toUInt32 >>> ((nI 2).toUInt32 &&& Int32.toUInt32 31)).toInt32) &&& (858993459))).toUInt32 >>> ((nI 4).toUInt32 &&& Int32.toUInt32 31)).toInt32)) &&& (252645135)).toUInt32 >>> ((nI 8).toUInt32 &&& Int32.toUInt32 31)).toInt32)).toUInt32 >>> ((nI 16).toUInt32 &&& Int32.toUInt32 31)).toInt32)) &&& (nI 63)
theorem bcnt_bits : ∀ a, a < 32 → bcnt (nI a) = nI (bits a) := by decide +kernel
theorem wdJ6_bitCount_0f7a4_c265 : Cond.constant RJ6 265 (1431655765) ∈ wsJ6_bitCount_0f7a4 := by decide +kernel
theorem wdJ6_bitCount_0f7a4_c266 : Cond.constant RJ6 266 (858993459) ∈ wsJ6_bitCount_0f7a4 := by decide +kernel
theorem wdJ6_bitCount_0f7a4_c267 : Cond.constant RJ6 267 (252645135) ∈ wsJ6_bitCount_0f7a4 := by decide +kernel
set_option maxHeartbeats 4000000 in
set_option maxRecDepth 100000 in
/-- Integer.bitCount(x) -/
theorem k_J6_bitCount_0f7a4 (l : Launch) (dC : Nat → ClassId) (dI : Nat → Nat → Nat) (x : Int32) : MetS l yJ6_bitCount_0f7a4 wsJ6_bitCount_0f7a4 ({ frames := 0, cells := 0, slots := 0, locals := 0 } : Room) (dC, dI) vwCl ([]) ([]) [.int x] (bcnt x) := by
  refine MetS.of (cc := cJ6_bitCount_0f7a4) (maxL := 1) (ret := (some .int)) (by decide) rfl (Nat.le_of_ble_eq_true rfl) rfl ?_
  intro p e s m below meth cd ls hx hb hr hlk hml hown hts hK hP hl
  have hl : lv_has ls 1 [(0, .int x)] := hl
  refine lv_iload_n hx hb dJ6_bitCount_0f7a4_0 rfl (lv_at hl 0 rfl) ?_
  refine lv_iload_n hx hb dJ6_bitCount_0f7a4_1 rfl (lv_at hl 0 rfl) ?_
  refine lv_iconst (v := nI 1) hx hb dJ6_bitCount_0f7a4_2 (by decide) ?_
  refine lv_iushr hx hb dJ6_bitCount_0f7a4_3 rfl ?_
  refine lv_ldcw hx hb hown (hts _ wdJ6_bitCount_0f7a4_c265) dJ6_bitCount_0f7a4_4 ?_
  refine lv_iand hx hb dJ6_bitCount_0f7a4_7 ?_
  refine lv_isub hx hb dJ6_bitCount_0f7a4_8 ?_
  refine lv_istore_n (lv' := [(0, .int (x - (((x.toUInt32 >>> ((nI 1).toUInt32 &&& Int32.toUInt32 31)).toInt32) &&& (1431655765))))]) hx hb dJ6_bitCount_0f7a4_9 rfl hl (by decide) rfl (fun ls hl => ?_)
  refine lv_iload_n hx hb dJ6_bitCount_0f7a4_10 rfl (lv_at hl 0 rfl) ?_
  refine lv_ldcw hx hb hown (hts _ wdJ6_bitCount_0f7a4_c266) dJ6_bitCount_0f7a4_11 ?_
  refine lv_iand hx hb dJ6_bitCount_0f7a4_14 ?_
  refine lv_iload_n hx hb dJ6_bitCount_0f7a4_15 rfl (lv_at hl 0 rfl) ?_
  refine lv_iconst (v := nI 2) hx hb dJ6_bitCount_0f7a4_16 (by decide) ?_
  refine lv_iushr hx hb dJ6_bitCount_0f7a4_17 rfl ?_
  refine lv_ldcw hx hb hown (hts _ wdJ6_bitCount_0f7a4_c266) dJ6_bitCount_0f7a4_18 ?_
  refine lv_iand hx hb dJ6_bitCount_0f7a4_21 ?_
  refine lv_iadd hx hb dJ6_bitCount_0f7a4_22 ?_
  refine lv_istore_n (lv' := [(0, .int (((x - (((x.toUInt32 >>> ((nI 1).toUInt32 &&& Int32.toUInt32 31)).toInt32) &&& (1431655765))) &&& (858993459)) + ((((x - (((x.toUInt32 >>> ((nI 1).toUInt32 &&& Int32.toUInt32 31)).toInt32) &&& (1431655765))).toUInt32 >>> ((nI 2).toUInt32 &&& Int32.toUInt32 31)).toInt32) &&& (858993459))))]) hx hb dJ6_bitCount_0f7a4_23 rfl hl (by decide) rfl (fun ls hl => ?_)
  refine lv_iload_n hx hb dJ6_bitCount_0f7a4_24 rfl (lv_at hl 0 rfl) ?_
  refine lv_iload_n hx hb dJ6_bitCount_0f7a4_25 rfl (lv_at hl 0 rfl) ?_
  refine lv_iconst (v := nI 4) hx hb dJ6_bitCount_0f7a4_26 (by decide) ?_
  refine lv_iushr hx hb dJ6_bitCount_0f7a4_27 rfl ?_
  refine lv_iadd hx hb dJ6_bitCount_0f7a4_28 ?_
  refine lv_ldcw hx hb hown (hts _ wdJ6_bitCount_0f7a4_c267) dJ6_bitCount_0f7a4_29 ?_
  refine lv_iand hx hb dJ6_bitCount_0f7a4_32 ?_
  refine lv_istore_n (lv' := [(0, .int (((((x - (((x.toUInt32 >>> ((nI 1).toUInt32 &&& Int32.toUInt32 31)).toInt32) &&& (1431655765))) &&& (858993459)) + ((((x - (((x.toUInt32 >>> ((nI 1).toUInt32 &&& Int32.toUInt32 31)).toInt32) &&& (1431655765))).toUInt32 >>> ((nI 2).toUInt32 &&& Int32.toUInt32 31)).toInt32) &&& (858993459))) + (((((x - (((x.toUInt32 >>> ((nI 1).toUInt32 &&& Int32.toUInt32 31)).toInt32) &&& (1431655765))) &&& (858993459)) + ((((x - (((x.toUInt32 >>> ((nI 1).toUInt32 &&& Int32.toUInt32 31)).toInt32) &&& (1431655765))).toUInt32 >>> ((nI 2).toUInt32 &&& Int32.toUInt32 31)).toInt32) &&& (858993459))).toUInt32 >>> ((nI 4).toUInt32 &&& Int32.toUInt32 31)).toInt32)) &&& (252645135)))]) hx hb dJ6_bitCount_0f7a4_33 rfl hl (by decide) rfl (fun ls hl => ?_)
  refine lv_iload_n hx hb dJ6_bitCount_0f7a4_34 rfl (lv_at hl 0 rfl) ?_
  refine lv_iload_n hx hb dJ6_bitCount_0f7a4_35 rfl (lv_at hl 0 rfl) ?_
  refine lv_bipush (v := nI 8) hx hb dJ6_bitCount_0f7a4_36 (by decide) ?_
  refine lv_iushr hx hb dJ6_bitCount_0f7a4_38 rfl ?_
  refine lv_iadd hx hb dJ6_bitCount_0f7a4_39 ?_
  refine lv_istore_n (lv' := [(0, .int ((((((x - (((x.toUInt32 >>> ((nI 1).toUInt32 &&& Int32.toUInt32 31)).toInt32) &&& (1431655765))) &&& (858993459)) + ((((x - (((x.toUInt32 >>> ((nI 1).toUInt32 &&& Int32.toUInt32 31)).toInt32) &&& (1431655765))).toUInt32 >>> ((nI 2).toUInt32 &&& Int32.toUInt32 31)).toInt32) &&& (858993459))) + (((((x - (((x.toUInt32 >>> ((nI 1).toUInt32 &&& Int32.toUInt32 31)).toInt32) &&& (1431655765))) &&& (858993459)) + ((((x - (((x.toUInt32 >>> ((nI 1).toUInt32 &&& Int32.toUInt32 31)).toInt32) &&& (1431655765))).toUInt32 >>> ((nI 2).toUInt32 &&& Int32.toUInt32 31)).toInt32) &&& (858993459))).toUInt32 >>> ((nI 4).toUInt32 &&& Int32.toUInt32 31)).toInt32)) &&& (252645135)) + (((((((x - (((x.toUInt32 >>> ((nI 1).toUInt32 &&& Int32.toUInt32 31)).toInt32) &&& (1431655765))) &&& (858993459)) + ((((x - (((x.toUInt32 >>> ((nI 1).toUInt32 &&& Int32.toUInt32 31)).toInt32) &&& (1431655765))).toUInt32 >>> ((nI 2).toUInt32 &&& Int32.toUInt32 31)).toInt32) &&& (858993459))) + (((((x - (((x.toUInt32 >>> ((nI 1).toUInt32 &&& Int32.toUInt32 31)).toInt32) &&& (1431655765))) &&& (858993459)) + ((((x - (((x.toUInt32 >>> ((nI 1).toUInt32 &&& Int32.toUInt32 31)).toInt32) &&& (1431655765))).toUInt32 >>> ((nI 2).toUInt32 &&& Int32.toUInt32 31)).toInt32) &&& (858993459))).toUInt32 >>> ((nI 4).toUInt32 &&& Int32.toUInt32 31)).toInt32)) &&& (252645135)).toUInt32 >>> ((nI 8).toUInt32 &&& Int32.toUInt32 31)).toInt32)))]) hx hb dJ6_bitCount_0f7a4_40 rfl hl (by decide) rfl (fun ls hl => ?_)
  refine lv_iload_n hx hb dJ6_bitCount_0f7a4_41 rfl (lv_at hl 0 rfl) ?_
  refine lv_iload_n hx hb dJ6_bitCount_0f7a4_42 rfl (lv_at hl 0 rfl) ?_
  refine lv_bipush (v := nI 16) hx hb dJ6_bitCount_0f7a4_43 (by decide) ?_
  refine lv_iushr hx hb dJ6_bitCount_0f7a4_45 rfl ?_
  refine lv_iadd hx hb dJ6_bitCount_0f7a4_46 ?_
  refine lv_istore_n (lv' := [(0, .int (((((((x - (((x.toUInt32 >>> ((nI 1).toUInt32 &&& Int32.toUInt32 31)).toInt32) &&& (1431655765))) &&& (858993459)) + ((((x - (((x.toUInt32 >>> ((nI 1).toUInt32 &&& Int32.toUInt32 31)).toInt32) &&& (1431655765))).toUInt32 >>> ((nI 2).toUInt32 &&& Int32.toUInt32 31)).toInt32) &&& (858993459))) + (((((x - (((x.toUInt32 >>> ((nI 1).toUInt32 &&& Int32.toUInt32 31)).toInt32) &&& (1431655765))) &&& (858993459)) + ((((x - (((x.toUInt32 >>> ((nI 1).toUInt32 &&& Int32.toUInt32 31)).toInt32) &&& (1431655765))).toUInt32 >>> ((nI 2).toUInt32 &&& Int32.toUInt32 31)).toInt32) &&& (858993459))).toUInt32 >>> ((nI 4).toUInt32 &&& Int32.toUInt32 31)).toInt32)) &&& (252645135)) + (((((((x - (((x.toUInt32 >>> ((nI 1).toUInt32 &&& Int32.toUInt32 31)).toInt32) &&& (1431655765))) &&& (858993459)) + ((((x - (((x.toUInt32 >>> ((nI 1).toUInt32 &&& Int32.toUInt32 31)).toInt32) &&& (1431655765))).toUInt32 >>> ((nI 2).toUInt32 &&& Int32.toUInt32 31)).toInt32) &&& (858993459))) + (((((x - (((x.toUInt32 >>> ((nI 1).toUInt32 &&& Int32.toUInt32 31)).toInt32) &&& (1431655765))) &&& (858993459)) + ((((x - (((x.toUInt32 >>> ((nI 1).toUInt32 &&& Int32.toUInt32 31)).toInt32) &&& (1431655765))).toUInt32 >>> ((nI 2).toUInt32 &&& Int32.toUInt32 31)).toInt32) &&& (858993459))).toUInt32 >>> ((nI 4).toUInt32 &&& Int32.toUInt32 31)).toInt32)) &&& (252645135)).toUInt32 >>> ((nI 8).toUInt32 &&& Int32.toUInt32 31)).toInt32)) + ((((((((x - (((x.toUInt32 >>> ((nI 1).toUInt32 &&& Int32.toUInt32 31)).toInt32) &&& (1431655765))) &&& (858993459)) + ((((x - (((x.toUInt32 >>> ((nI 1).toUInt32 &&& Int32.toUInt32 31)).toInt32) &&& (1431655765))).toUInt32 >>> ((nI 2).toUInt32 &&& Int32.toUInt32 31)).toInt32) &&& (858993459))) + (((((x - (((x.toUInt32 >>> ((nI 1).toUInt32 &&& Int32.toUInt32 31)).toInt32) &&& (1431655765))) &&& (858993459)) + ((((x - (((x.toUInt32 >>> ((nI 1).toUInt32 &&& Int32.toUInt32 31)).toInt32) &&& (1431655765))).toUInt32 >>> ((nI 2).toUInt32 &&& Int32.toUInt32 31)).toInt32) &&& (858993459))).toUInt32 >>> ((nI 4).toUInt32 &&& Int32.toUInt32 31)).toInt32)) &&& (252645135)) + (((((((x - (((x.toUInt32 >>> ((nI 1).toUInt32 &&& Int32.toUInt32 31)).toInt32) &&& (1431655765))) &&& (858993459)) + ((((x - (((x.toUInt32 >>> ((nI 1).toUInt32 &&& Int32.toUInt32 31)).toInt32) &&& (1431655765))).toUInt32 >>> ((nI 2).toUInt32 &&& Int32.toUInt32 31)).toInt32) &&& (858993459))) + (((((x - (((x.toUInt32 >>> ((nI 1).toUInt32 &&& Int32.toUInt32 31)).toInt32) &&& (1431655765))) &&& (858993459)) + ((((x - (((x.toUInt32 >>> ((nI 1).toUInt32 &&& Int32.toUInt32 31)).toInt32) &&& (1431655765))).toUInt32 >>> ((nI 2).toUInt32 &&& Int32.toUInt32 31)).toInt32) &&& (858993459))).toUInt32 >>> ((nI 4).toUInt32 &&& Int32.toUInt32 31)).toInt32)) &&& (252645135)).toUInt32 >>> ((nI 8).toUInt32 &&& Int32.toUInt32 31)).toInt32)).toUInt32 >>> ((nI 16).toUInt32 &&& Int32.toUInt32 31)).toInt32)))]) hx hb dJ6_bitCount_0f7a4_47 rfl hl (by decide) rfl (fun ls hl => ?_)
  refine lv_iload_n hx hb dJ6_bitCount_0f7a4_48 rfl (lv_at hl 0 rfl) ?_
  refine lv_bipush (v := nI 63) hx hb dJ6_bitCount_0f7a4_49 (by decide) ?_
  refine lv_iand hx hb dJ6_bitCount_0f7a4_51 ?_
  exact retS hx hb hr hlk dJ6_bitCount_0f7a4_52 rfl
theorem lkX0_hasQuorum_15 : Cond.fieldLink RX0 15 "QuorumRegister$Client" "answers" "I" ∈ wsX0_hasQuorum := by decide +kernel
theorem inX0_hasQuorum_X0 : ∀ w ∈ wsX00, w ∈ wsX0_hasQuorum := by decide +kernel
set_option maxHeartbeats 4000000 in
set_option maxRecDepth 100000 in
/-- Client.hasQuorum() -/
theorem k_X0_hasQuorum (l : Launch) (dC : Nat → ClassId) (dI : Nat → Nat → Nat) (h : Nat) (F : Nat → Int32) (a : Nat) (ha : a < 32) (hF : F 4 = nI a) : MetS l yX0_hasQuorum wsX0_hasQuorum ({ frames := 1, cells := 0, slots := 0, locals := 20 } : Room) (dC, dI) vwCl (wC h F) ([]) [.ref h] (if 3 ≤ bits a then 1 else 0) := by
  refine MetS.of (cc := cX0_hasQuorum) (maxL := 1) (ret := (some .boolean)) (by decide) rfl (Nat.le_of_ble_eq_true rfl) rfl ?_
  intro p e s m below meth cd ls hx hb hr hlk hml hown hts hK hP hl
  have hl : lv_has ls 1 [(0, .ref h)] := hl
  refine lv_aload_n hx hb dX0_hasQuorum_0 rfl (lv_at hl 0 rfl) ?_
  refine va_get (D := (dC, dI)) (ci := 0) (v := .int (F 4)) (C := RX0) (T := TX0) (N := 8) hx hb hts inX0_hasQuorum_X0 hown hK hP (0) rfl rfl 4 (by decide) (hts _ lkX0_hasQuorum_15) (fun _ h9 => h9) rfl dX0_hasQuorum_1 ?_
  refine goS (va_runS (rm := ({ frames := 0, cells := 0, slots := 0, locals := 0 } : Room)) (As := [.int (F 4)]) (rest := []) ⟨hx, hb, hml, hown, hts⟩ (MetS.at (k_J6_bitCount_0f7a4 l dC dI (F 4))) (va_cwS 1 hts gX0_hasQuorum_J6_bitCount_0f7a4 rfl rfl rfl (by decide +kernel) ⟨Nat.le_of_ble_eq_true rfl, Nat.le_of_ble_eq_true rfl⟩) (preSS (hK.sub [] rfl) va_P0) rfl rfl hl.1 rfl (lv_room (Nat.le_of_ble_eq_true rfl)) dX0_hasQuorum_4 ⟨Nat.le_of_ble_eq_true rfl, Nat.le_of_ble_eq_true rfl⟩) ?_
  refine qtop (y := nI (bits a)) (by rw [hF, bcnt_bits a ha]) ?_
  refine lv_iconst (v := nI 3) hx hb dX0_hasQuorum_7 (by decide) ?_
  refine lv_icmp_lt (tgt := 15) hx hb dX0_hasQuorum_8 (by decide) (fun c_8 => ?_) (fun c_8 => ?_)
  · refine lv_iconst (v := nI 0) hx hb dX0_hasQuorum_15 (by decide) ?_
    exact retSz hx hb hr hlk dX0_hasQuorum_16 rfl ((if_neg (fun q => absurd c_8 (nI_nlt q (by have := bits_le a; omega)))).symm)
  · refine lv_iconst (v := nI 1) hx hb dX0_hasQuorum_11 (by decide) ?_
    refine lv_goto (tgt := 16) hx hb dX0_hasQuorum_12 (by decide) ?_
    exact retSz hx hb hr hlk dX0_hasQuorum_16 rfl ((if_pos ((Nat.lt_or_ge (bits a) 3).elim (fun q => absurd (nI_lt q (by decide)) c_8) id)).symm)
end
section
/-! QuorumRegister: begin, leave and what they call -/
set_option maxHeartbeats 4000000 in
set_option maxRecDepth 100000 in
/-- X3_isClient -/
theorem k_X3_isClient (l : Launch) (dC : Nat → ClassId) (dI : Nat → Nat → Nat) (x : Int32) : MetS l yX3_isClient wsX3_isClient ({ frames := 0, cells := 0, slots := 0, locals := 0 } : Room) (dC, dI) vwCl ([]) ([]) [.int x] (if okI x 3 then 1 else 0) := by
  refine MetS.of (cc := cX3_isClient) (maxL := 1) (ret := (some .boolean)) (by decide) rfl (Nat.le_of_ble_eq_true rfl) rfl ?_
  intro p e s m below meth cd ls hx hb hr hlk hml hown hts hK hP hl
  have hl : lv_has ls 1 [(0, .int x)] := hl
  refine lv_iload_n hx hb dX3_isClient_0 rfl (lv_at hl 0 rfl) ?_
  refine lv_if_lt (tgt := 13) hx hb dX3_isClient_1 (by decide) (fun c_1 => ?_) (fun c_1 => ?_)
  · refine lv_iconst (v := nI 0) hx hb dX3_isClient_13 (by decide) ?_
    exact retSz hx hb hr hlk dX3_isClient_14 rfl ((if_neg (fun q => q.1 c_1)).symm)
  · refine lv_iload_n hx hb dX3_isClient_4 rfl (lv_at hl 0 rfl) ?_
    refine lv_iconst (v := nI 3) hx hb dX3_isClient_5 (by decide) ?_
    refine lv_icmp_ge (tgt := 13) hx hb dX3_isClient_6 (by decide) (fun c_6 => ?_) (fun c_6 => ?_)
    · refine lv_iconst (v := nI 0) hx hb dX3_isClient_13 (by decide) ?_
      exact retSz hx hb hr hlk dX3_isClient_14 rfl ((if_neg (fun q => q.2 c_6)).symm)
    · refine lv_iconst (v := nI 1) hx hb dX3_isClient_9 (by decide) ?_
      refine lv_goto (tgt := 14) hx hb dX3_isClient_10 (by decide) ?_
      exact retSz hx hb hr hlk dX3_isClient_14 rfl ((if_pos ⟨c_1, c_6⟩).symm)
set_option maxHeartbeats 4000000 in
set_option maxRecDepth 100000 in
/-- X3_isReplica -/
theorem k_X3_isReplica (l : Launch) (dC : Nat → ClassId) (dI : Nat → Nat → Nat) (x : Int32) : MetS l yX3_isReplica wsX3_isReplica ({ frames := 0, cells := 0, slots := 0, locals := 0 } : Room) (dC, dI) vwCl ([]) ([]) [.int x] (if okI x 5 then 1 else 0) := by
  refine MetS.of (cc := cX3_isReplica) (maxL := 1) (ret := (some .boolean)) (by decide) rfl (Nat.le_of_ble_eq_true rfl) rfl ?_
  intro p e s m below meth cd ls hx hb hr hlk hml hown hts hK hP hl
  have hl : lv_has ls 1 [(0, .int x)] := hl
  refine lv_iload_n hx hb dX3_isReplica_0 rfl (lv_at hl 0 rfl) ?_
  refine lv_if_lt (tgt := 13) hx hb dX3_isReplica_1 (by decide) (fun c_1 => ?_) (fun c_1 => ?_)
  · refine lv_iconst (v := nI 0) hx hb dX3_isReplica_13 (by decide) ?_
    exact retSz hx hb hr hlk dX3_isReplica_14 rfl ((if_neg (fun q => q.1 c_1)).symm)
  · refine lv_iload_n hx hb dX3_isReplica_4 rfl (lv_at hl 0 rfl) ?_
    refine lv_iconst (v := nI 5) hx hb dX3_isReplica_5 (by decide) ?_
    refine lv_icmp_ge (tgt := 13) hx hb dX3_isReplica_6 (by decide) (fun c_6 => ?_) (fun c_6 => ?_)
    · refine lv_iconst (v := nI 0) hx hb dX3_isReplica_13 (by decide) ?_
      exact retSz hx hb hr hlk dX3_isReplica_14 rfl ((if_neg (fun q => q.2 c_6)).symm)
    · refine lv_iconst (v := nI 1) hx hb dX3_isReplica_9 (by decide) ?_
      refine lv_goto (tgt := 14) hx hb dX3_isReplica_10 (by decide) ?_
      exact retSz hx hb hr hlk dX3_isReplica_14 rfl ((if_pos ⟨c_1, c_6⟩).symm)
theorem lkX3_isCrowded_28 : Cond.fieldLink RX3 28 "QuorumRegister" "pool" "LQuorumRegister$Rows;" ∈ wsX3_isCrowded := by decide +kernel
theorem inX3_isCrowded_X3 : ∀ w ∈ wsX30, w ∈ wsX3_isCrowded := by decide +kernel
theorem lkX3_isCrowded_61 : Cond.fieldLink RX3 61 "QuorumRegister$Rows" "count" "I" ∈ wsX3_isCrowded := by decide +kernel
theorem inX3_isCrowded_X2 : ∀ w ∈ wsX20, w ∈ wsX3_isCrowded := by decide +kernel
set_option maxHeartbeats 4000000 in
set_option maxRecDepth 100000 in
/-- isCrowded() -/
theorem k_X3_isCrowded (l : Launch) (dC : Nat → ClassId) (dI : Nat → Nat → Nat) (o : Nat → Nat) (k : Nat → ClassId) (R C : Nat → Nat → Int32) (n : Nat) (f : Nat → Int32) (d : Nat) (g : Nat → Int32) (hn : n ≤ 77) : MetS l yX3_isCrowded wsX3_isCrowded ({ frames := 0, cells := 0, slots := 0, locals := 0 } : Room) (dC, dI) vwCl (wX o k R C n f d g) (tyX k) [.ref (o 0)] (if 60 < n then 1 else 0) := by
  refine MetS.of (cc := cX3_isCrowded) (maxL := 1) (ret := (some .boolean)) (by decide) rfl (Nat.le_of_ble_eq_true rfl) rfl ?_
  intro p e s m below meth cd ls hx hb hr hlk hml hown hts hK hP hl
  have hl : lv_has ls 1 [(0, .ref (o 0))] := hl
  refine lv_aload_n hx hb dX3_isCrowded_0 rfl (lv_at hl 0 rfl) ?_
  refine va_get (D := (dC, dI)) (ci := 3) (v := .ref (o 3)) (C := RX3) (T := TX3) (N := 4) hx hb hts inX3_isCrowded_X3 hown hK hP (0) rfl rfl 2 (by decide) (hts _ lkX3_isCrowded_28) (fun _ h9 => h9) rfl dX3_isCrowded_1 ?_
  refine va_get (D := (dC, dI)) (ci := 2) (v := .int (nI n)) (C := RX2) (T := TX2) (N := 4) hx hb hts inX3_isCrowded_X2 hown hK hP (3) rfl rfl 3 (by decide) (hts _ lkX3_isCrowded_61) (fun _ h9 => h9) rfl dX3_isCrowded_4 ?_
  refine lv_bipush (v := nI 60) hx hb dX3_isCrowded_7 (by decide) ?_
  refine lv_icmp_le (tgt := 16) hx hb dX3_isCrowded_9 (by decide) (fun c_9 => ?_) (fun c_9 => ?_)
  · refine lv_iconst (v := nI 0) hx hb dX3_isCrowded_16 (by decide) ?_
    exact retSz hx hb hr hlk dX3_isCrowded_17 rfl ((if_neg (fun q => absurd c_9 (nI_ge q (by omega)))).symm)
  · refine lv_iconst (v := nI 1) hx hb dX3_isCrowded_12 (by decide) ?_
    refine lv_goto (tgt := 17) hx hb dX3_isCrowded_13 (by decide) ?_
    exact retSz hx hb hr hlk dX3_isCrowded_17 rfl ((if_pos ((Nat.lt_or_ge 60 n).elim id (fun q => absurd (nI_le q (by decide)) c_9))).symm)
theorem lkX3_send_28 : Cond.fieldLink RX3 28 "QuorumRegister" "pool" "LQuorumRegister$Rows;" ∈ wsX3_send := by decide +kernel
theorem inX3_send_X3 : ∀ w ∈ wsX30, w ∈ wsX3_send := by decide +kernel
set_option maxHeartbeats 4000000 in
set_option maxRecDepth 100000 in
/-- send(..), with room left -/
theorem k_X3_send (l : Launch) (dC : Nat → ClassId) (dI : Nat → Nat → Nat) (o : Nat → Nat) (k : Nat → ClassId) (R C : Nat → Nat → Int32) (n : Nat) (f : Nat → Int32) (d : Nat) (g : Nat → Int32) (hn : n < 77) (zk zc zr zs zt zv : Int32) : MetV l yX3_send wsX3_send ({ frames := 2, cells := 0, slots := 0, locals := 44 } : Room) (dC, dI) vwCl (wX o k R C n f d g) (tyX k) [.ref (o 0), .int zk, .int zc, .int zr, .int zs, .int zt, .int zv] (wX o k R C (n + 1) (snd6 f n zk zc zr zs zt zv) d g) := by
  refine MetV.of (cc := cX3_send) (maxL := 8) (ret := none) (by decide) rfl (Nat.le_of_ble_eq_true rfl) rfl ?_
  intro p e s m below meth cd ls A hx hb hr hlk hml hown hts hK hP hD hS hA hl
  have hl : lv_has ls 8 [(0, .ref (o 0)), (1, .int zk), (2, .int zc), (3, .int zr), (4, .int zs), (5, .int zt), (6, .int zv)] := hl
  refine lv_aload_n hx hb dX3_send_0 rfl (lv_at hl 0 rfl) ?_
  refine va_get (D := (dC, dI)) (ci := 3) (v := .ref (o 3)) (C := RX3) (T := TX3) (N := 4) hx hb hts inX3_send_X3 hown hK hP (0) rfl rfl 2 (by decide) (hts _ lkX3_send_28) (fun _ h9 => h9) rfl dX3_send_1 ?_
  refine goI (ws := (wX o k R C n f d g)) (ws' := (wX o k R C (n + 1) f d g)) (show qFit (wX o k R C n f d g) (wR (o 3) (o 4) (k 2) 6 77 n f) (wR (o 3) (o 4) (k 2) 6 77 (n + 1) f) (wX o k R C (n + 1) f d g) from qFit2 hD (k1 := 3) (k2 := 4) rfl rfl (by decide) rfl) hP hD hS hA (va_runV (rm := ({ frames := 0, cells := 0, slots := 0, locals := 0 } : Room)) (As := []) (rest := []) ⟨hx, hb, hml, hown, hts⟩ (MetI.at (k_X2_add l dC dI (o 3) (o 4) (k 2) 6 77 n f hn (Nat.le_of_ble_eq_true rfl)) s.heap.size) (cwV 0 hts gX3_send_X2_add rfl rfl rfl (by decide +kernel) ⟨Nat.le_of_ble_eq_true rfl, Nat.le_of_ble_eq_true rfl⟩) (preWV (show va_K (dC, dI) vwCl [(k 2, .int)] s from hK.sub [2] rfl) (show va_P (dC, dI) vwCl (wR (o 3) (o 4) (k 2) 6 77 n f) s.heap from hP.sub [3, 4] rfl) (show va_D A (wR (o 3) (o 4) (k 2) 6 77 n f) from hD.sub [3, 4] (by decide) rfl) (va_recv hK hP (ci := 2) (q0 := 3) rfl rfl)) rfl rfl hl.1 rfl (lv_room (Nat.le_of_ble_eq_true rfl)) dX3_send_4 ⟨Nat.le_of_ble_eq_true rfl, Nat.le_of_ble_eq_true rfl⟩) (fun H locs hP hD hS => ?_)
  refine lv_istore (lv' := [(7, .int (nI n)), (0, .ref (o 0)), (1, .int zk), (2, .int zc), (3, .int zr), (4, .int zs), (5, .int zt), (6, .int zv)]) hx hb dX3_send_7 hl (by decide) rfl (fun ls hl => ?_)
  refine lv_aload_n hx hb dX3_send_9 rfl (lv_at hl 1 rfl) ?_
  refine va_get (D := (dC, dI)) (ci := 3) (v := .ref (o 3)) (C := RX3) (T := TX3) (N := 4) hx hb hts inX3_send_X3 hown hK hP (0) rfl rfl 2 (by decide) (hts _ lkX3_send_28) (fun _ h9 => h9) rfl dX3_send_10 ?_
  refine lv_iload hx hb dX3_send_13 (lv_at hl 0 rfl) ?_
  refine lv_iconst (v := nI 0) hx hb dX3_send_15 (by decide) ?_
  refine lv_iload_n hx hb dX3_send_16 rfl (lv_at hl 2 rfl) ?_
  refine goV (ws := (wX o k R C (n + 1) f d g)) (ws' := (wX o k R C (n + 1) (upd f (n * 6 + 0) zk) d g)) (show qFit (wX o k R C (n + 1) f d g) (wR (o 3) (o 4) (k 2) 6 77 (n + 1) f) (wR (o 3) (o 4) (k 2) 6 77 (n + 1) (upd f (n * 6 + 0) zk)) (wX o k R C (n + 1) (upd f (n * 6 + 0) zk) d g) from qFit2 hD (k1 := 3) (k2 := 4) rfl rfl (by decide) rfl) hP hD hS hA (va_runV (rm := ({ frames := 1, cells := 0, slots := 0, locals := 21 } : Room)) (As := [.int (nI n), .int (nI 0), .int zk]) (rest := []) ⟨hx, hb, hml, hown, hts⟩ (MetV.at (k_X2_set l dC dI (o 3) (o 4) (k 2) 6 77 (n + 1) f (by omega) (Nat.le_of_ble_eq_true rfl) (Nat.le_of_ble_eq_true rfl) (Nat.le_of_ble_eq_true rfl) n 0 (Nat.lt_succ_self n) (by decide) zk) H.size) (cwV 3 hts gX3_send_X2_set rfl rfl rfl (by decide +kernel) ⟨Nat.le_of_ble_eq_true rfl, Nat.le_of_ble_eq_true rfl⟩) (preWV (show va_K (dC, dI) vwCl [(k 2, .int)] s from hK.sub [2] rfl) (show va_P (dC, dI) vwCl (wR (o 3) (o 4) (k 2) 6 77 (n + 1) f) H from hP.sub [3, 4] rfl) (show va_D A (wR (o 3) (o 4) (k 2) 6 77 (n + 1) f) from hD.sub [3, 4] (by decide) rfl) (va_recv hK hP (ci := 2) (q0 := 3) rfl rfl)) rfl rfl hl.1 rfl (lv_room (Nat.le_of_ble_eq_true rfl)) dX3_send_17 ⟨Nat.le_of_ble_eq_true rfl, Nat.le_of_ble_eq_true rfl⟩) (fun H locs hP hD hS => ?_)
  refine lv_aload_n hx hb dX3_send_20 rfl (lv_at hl 1 rfl) ?_
  refine va_get (D := (dC, dI)) (ci := 3) (v := .ref (o 3)) (C := RX3) (T := TX3) (N := 4) hx hb hts inX3_send_X3 hown hK hP (0) rfl rfl 2 (by decide) (hts _ lkX3_send_28) (fun _ h9 => h9) rfl dX3_send_21 ?_
  refine lv_iload hx hb dX3_send_24 (lv_at hl 0 rfl) ?_
  refine lv_iconst (v := nI 1) hx hb dX3_send_26 (by decide) ?_
  refine lv_iload_n hx hb dX3_send_27 rfl (lv_at hl 3 rfl) ?_
  refine goV (ws := (wX o k R C (n + 1) (upd f (n * 6 + 0) zk) d g)) (ws' := (wX o k R C (n + 1) (upd (upd f (n * 6 + 0) zk) (n * 6 + 1) zc) d g)) (show qFit (wX o k R C (n + 1) (upd f (n * 6 + 0) zk) d g) (wR (o 3) (o 4) (k 2) 6 77 (n + 1) (upd f (n * 6 + 0) zk)) (wR (o 3) (o 4) (k 2) 6 77 (n + 1) (upd (upd f (n * 6 + 0) zk) (n * 6 + 1) zc)) (wX o k R C (n + 1) (upd (upd f (n * 6 + 0) zk) (n * 6 + 1) zc) d g) from qFit2 hD (k1 := 3) (k2 := 4) rfl rfl (by decide) rfl) hP hD hS hA (va_runV (rm := ({ frames := 1, cells := 0, slots := 0, locals := 21 } : Room)) (As := [.int (nI n), .int (nI 1), .int zc]) (rest := []) ⟨hx, hb, hml, hown, hts⟩ (MetV.at (k_X2_set l dC dI (o 3) (o 4) (k 2) 6 77 (n + 1) (upd f (n * 6 + 0) zk) (by omega) (Nat.le_of_ble_eq_true rfl) (Nat.le_of_ble_eq_true rfl) (Nat.le_of_ble_eq_true rfl) n 1 (Nat.lt_succ_self n) (by decide) zc) H.size) (cwV 3 hts gX3_send_X2_set rfl rfl rfl (by decide +kernel) ⟨Nat.le_of_ble_eq_true rfl, Nat.le_of_ble_eq_true rfl⟩) (preWV (show va_K (dC, dI) vwCl [(k 2, .int)] s from hK.sub [2] rfl) (show va_P (dC, dI) vwCl (wR (o 3) (o 4) (k 2) 6 77 (n + 1) (upd f (n * 6 + 0) zk)) H from hP.sub [3, 4] rfl) (show va_D A (wR (o 3) (o 4) (k 2) 6 77 (n + 1) (upd f (n * 6 + 0) zk)) from hD.sub [3, 4] (by decide) rfl) (va_recv hK hP (ci := 2) (q0 := 3) rfl rfl)) rfl rfl hl.1 rfl (lv_room (Nat.le_of_ble_eq_true rfl)) dX3_send_28 ⟨Nat.le_of_ble_eq_true rfl, Nat.le_of_ble_eq_true rfl⟩) (fun H locs hP hD hS => ?_)
  refine lv_aload_n hx hb dX3_send_31 rfl (lv_at hl 1 rfl) ?_
  refine va_get (D := (dC, dI)) (ci := 3) (v := .ref (o 3)) (C := RX3) (T := TX3) (N := 4) hx hb hts inX3_send_X3 hown hK hP (0) rfl rfl 2 (by decide) (hts _ lkX3_send_28) (fun _ h9 => h9) rfl dX3_send_32 ?_
  refine lv_iload hx hb dX3_send_35 (lv_at hl 0 rfl) ?_
  refine lv_iconst (v := nI 2) hx hb dX3_send_37 (by decide) ?_
  refine lv_iload_n hx hb dX3_send_38 rfl (lv_at hl 4 rfl) ?_
  refine goV (ws := (wX o k R C (n + 1) (upd (upd f (n * 6 + 0) zk) (n * 6 + 1) zc) d g)) (ws' := (wX o k R C (n + 1) (upd (upd (upd f (n * 6 + 0) zk) (n * 6 + 1) zc) (n * 6 + 2) zr) d g)) (show qFit (wX o k R C (n + 1) (upd (upd f (n * 6 + 0) zk) (n * 6 + 1) zc) d g) (wR (o 3) (o 4) (k 2) 6 77 (n + 1) (upd (upd f (n * 6 + 0) zk) (n * 6 + 1) zc)) (wR (o 3) (o 4) (k 2) 6 77 (n + 1) (upd (upd (upd f (n * 6 + 0) zk) (n * 6 + 1) zc) (n * 6 + 2) zr)) (wX o k R C (n + 1) (upd (upd (upd f (n * 6 + 0) zk) (n * 6 + 1) zc) (n * 6 + 2) zr) d g) from qFit2 hD (k1 := 3) (k2 := 4) rfl rfl (by decide) rfl) hP hD hS hA (va_runV (rm := ({ frames := 1, cells := 0, slots := 0, locals := 21 } : Room)) (As := [.int (nI n), .int (nI 2), .int zr]) (rest := []) ⟨hx, hb, hml, hown, hts⟩ (MetV.at (k_X2_set l dC dI (o 3) (o 4) (k 2) 6 77 (n + 1) (upd (upd f (n * 6 + 0) zk) (n * 6 + 1) zc) (by omega) (Nat.le_of_ble_eq_true rfl) (Nat.le_of_ble_eq_true rfl) (Nat.le_of_ble_eq_true rfl) n 2 (Nat.lt_succ_self n) (by decide) zr) H.size) (cwV 3 hts gX3_send_X2_set rfl rfl rfl (by decide +kernel) ⟨Nat.le_of_ble_eq_true rfl, Nat.le_of_ble_eq_true rfl⟩) (preWV (show va_K (dC, dI) vwCl [(k 2, .int)] s from hK.sub [2] rfl) (show va_P (dC, dI) vwCl (wR (o 3) (o 4) (k 2) 6 77 (n + 1) (upd (upd f (n * 6 + 0) zk) (n * 6 + 1) zc)) H from hP.sub [3, 4] rfl) (show va_D A (wR (o 3) (o 4) (k 2) 6 77 (n + 1) (upd (upd f (n * 6 + 0) zk) (n * 6 + 1) zc)) from hD.sub [3, 4] (by decide) rfl) (va_recv hK hP (ci := 2) (q0 := 3) rfl rfl)) rfl rfl hl.1 rfl (lv_room (Nat.le_of_ble_eq_true rfl)) dX3_send_39 ⟨Nat.le_of_ble_eq_true rfl, Nat.le_of_ble_eq_true rfl⟩) (fun H locs hP hD hS => ?_)
  refine lv_aload_n hx hb dX3_send_42 rfl (lv_at hl 1 rfl) ?_
  refine va_get (D := (dC, dI)) (ci := 3) (v := .ref (o 3)) (C := RX3) (T := TX3) (N := 4) hx hb hts inX3_send_X3 hown hK hP (0) rfl rfl 2 (by decide) (hts _ lkX3_send_28) (fun _ h9 => h9) rfl dX3_send_43 ?_
  refine lv_iload hx hb dX3_send_46 (lv_at hl 0 rfl) ?_
  refine lv_iconst (v := nI 3) hx hb dX3_send_48 (by decide) ?_
  refine lv_iload hx hb dX3_send_49 (lv_at hl 5 rfl) ?_
  refine goV (ws := (wX o k R C (n + 1) (upd (upd (upd f (n * 6 + 0) zk) (n * 6 + 1) zc) (n * 6 + 2) zr) d g)) (ws' := (wX o k R C (n + 1) (upd (upd (upd (upd f (n * 6 + 0) zk) (n * 6 + 1) zc) (n * 6 + 2) zr) (n * 6 + 3) zs) d g)) (show qFit (wX o k R C (n + 1) (upd (upd (upd f (n * 6 + 0) zk) (n * 6 + 1) zc) (n * 6 + 2) zr) d g) (wR (o 3) (o 4) (k 2) 6 77 (n + 1) (upd (upd (upd f (n * 6 + 0) zk) (n * 6 + 1) zc) (n * 6 + 2) zr)) (wR (o 3) (o 4) (k 2) 6 77 (n + 1) (upd (upd (upd (upd f (n * 6 + 0) zk) (n * 6 + 1) zc) (n * 6 + 2) zr) (n * 6 + 3) zs)) (wX o k R C (n + 1) (upd (upd (upd (upd f (n * 6 + 0) zk) (n * 6 + 1) zc) (n * 6 + 2) zr) (n * 6 + 3) zs) d g) from qFit2 hD (k1 := 3) (k2 := 4) rfl rfl (by decide) rfl) hP hD hS hA (va_runV (rm := ({ frames := 1, cells := 0, slots := 0, locals := 21 } : Room)) (As := [.int (nI n), .int (nI 3), .int zs]) (rest := []) ⟨hx, hb, hml, hown, hts⟩ (MetV.at (k_X2_set l dC dI (o 3) (o 4) (k 2) 6 77 (n + 1) (upd (upd (upd f (n * 6 + 0) zk) (n * 6 + 1) zc) (n * 6 + 2) zr) (by omega) (Nat.le_of_ble_eq_true rfl) (Nat.le_of_ble_eq_true rfl) (Nat.le_of_ble_eq_true rfl) n 3 (Nat.lt_succ_self n) (by decide) zs) H.size) (cwV 3 hts gX3_send_X2_set rfl rfl rfl (by decide +kernel) ⟨Nat.le_of_ble_eq_true rfl, Nat.le_of_ble_eq_true rfl⟩) (preWV (show va_K (dC, dI) vwCl [(k 2, .int)] s from hK.sub [2] rfl) (show va_P (dC, dI) vwCl (wR (o 3) (o 4) (k 2) 6 77 (n + 1) (upd (upd (upd f (n * 6 + 0) zk) (n * 6 + 1) zc) (n * 6 + 2) zr)) H from hP.sub [3, 4] rfl) (show va_D A (wR (o 3) (o 4) (k 2) 6 77 (n + 1) (upd (upd (upd f (n * 6 + 0) zk) (n * 6 + 1) zc) (n * 6 + 2) zr)) from hD.sub [3, 4] (by decide) rfl) (va_recv hK hP (ci := 2) (q0 := 3) rfl rfl)) rfl rfl hl.1 rfl (lv_room (Nat.le_of_ble_eq_true rfl)) dX3_send_51 ⟨Nat.le_of_ble_eq_true rfl, Nat.le_of_ble_eq_true rfl⟩) (fun H locs hP hD hS => ?_)
  refine lv_aload_n hx hb dX3_send_54 rfl (lv_at hl 1 rfl) ?_
  refine va_get (D := (dC, dI)) (ci := 3) (v := .ref (o 3)) (C := RX3) (T := TX3) (N := 4) hx hb hts inX3_send_X3 hown hK hP (0) rfl rfl 2 (by decide) (hts _ lkX3_send_28) (fun _ h9 => h9) rfl dX3_send_55 ?_
  refine lv_iload hx hb dX3_send_58 (lv_at hl 0 rfl) ?_
  refine lv_iconst (v := nI 4) hx hb dX3_send_60 (by decide) ?_
  refine lv_iload hx hb dX3_send_61 (lv_at hl 6 rfl) ?_
  refine goV (ws := (wX o k R C (n + 1) (upd (upd (upd (upd f (n * 6 + 0) zk) (n * 6 + 1) zc) (n * 6 + 2) zr) (n * 6 + 3) zs) d g)) (ws' := (wX o k R C (n + 1) (upd (upd (upd (upd (upd f (n * 6 + 0) zk) (n * 6 + 1) zc) (n * 6 + 2) zr) (n * 6 + 3) zs) (n * 6 + 4) zt) d g)) (show qFit (wX o k R C (n + 1) (upd (upd (upd (upd f (n * 6 + 0) zk) (n * 6 + 1) zc) (n * 6 + 2) zr) (n * 6 + 3) zs) d g) (wR (o 3) (o 4) (k 2) 6 77 (n + 1) (upd (upd (upd (upd f (n * 6 + 0) zk) (n * 6 + 1) zc) (n * 6 + 2) zr) (n * 6 + 3) zs)) (wR (o 3) (o 4) (k 2) 6 77 (n + 1) (upd (upd (upd (upd (upd f (n * 6 + 0) zk) (n * 6 + 1) zc) (n * 6 + 2) zr) (n * 6 + 3) zs) (n * 6 + 4) zt)) (wX o k R C (n + 1) (upd (upd (upd (upd (upd f (n * 6 + 0) zk) (n * 6 + 1) zc) (n * 6 + 2) zr) (n * 6 + 3) zs) (n * 6 + 4) zt) d g) from qFit2 hD (k1 := 3) (k2 := 4) rfl rfl (by decide) rfl) hP hD hS hA (va_runV (rm := ({ frames := 1, cells := 0, slots := 0, locals := 21 } : Room)) (As := [.int (nI n), .int (nI 4), .int zt]) (rest := []) ⟨hx, hb, hml, hown, hts⟩ (MetV.at (k_X2_set l dC dI (o 3) (o 4) (k 2) 6 77 (n + 1) (upd (upd (upd (upd f (n * 6 + 0) zk) (n * 6 + 1) zc) (n * 6 + 2) zr) (n * 6 + 3) zs) (by omega) (Nat.le_of_ble_eq_true rfl) (Nat.le_of_ble_eq_true rfl) (Nat.le_of_ble_eq_true rfl) n 4 (Nat.lt_succ_self n) (by decide) zt) H.size) (cwV 3 hts gX3_send_X2_set rfl rfl rfl (by decide +kernel) ⟨Nat.le_of_ble_eq_true rfl, Nat.le_of_ble_eq_true rfl⟩) (preWV (show va_K (dC, dI) vwCl [(k 2, .int)] s from hK.sub [2] rfl) (show va_P (dC, dI) vwCl (wR (o 3) (o 4) (k 2) 6 77 (n + 1) (upd (upd (upd (upd f (n * 6 + 0) zk) (n * 6 + 1) zc) (n * 6 + 2) zr) (n * 6 + 3) zs)) H from hP.sub [3, 4] rfl) (show va_D A (wR (o 3) (o 4) (k 2) 6 77 (n + 1) (upd (upd (upd (upd f (n * 6 + 0) zk) (n * 6 + 1) zc) (n * 6 + 2) zr) (n * 6 + 3) zs)) from hD.sub [3, 4] (by decide) rfl) (va_recv hK hP (ci := 2) (q0 := 3) rfl rfl)) rfl rfl hl.1 rfl (lv_room (Nat.le_of_ble_eq_true rfl)) dX3_send_63 ⟨Nat.le_of_ble_eq_true rfl, Nat.le_of_ble_eq_true rfl⟩) (fun H locs hP hD hS => ?_)
  refine lv_aload_n hx hb dX3_send_66 rfl (lv_at hl 1 rfl) ?_
  refine va_get (D := (dC, dI)) (ci := 3) (v := .ref (o 3)) (C := RX3) (T := TX3) (N := 4) hx hb hts inX3_send_X3 hown hK hP (0) rfl rfl 2 (by decide) (hts _ lkX3_send_28) (fun _ h9 => h9) rfl dX3_send_67 ?_
  refine lv_iload hx hb dX3_send_70 (lv_at hl 0 rfl) ?_
  refine lv_iconst (v := nI 5) hx hb dX3_send_72 (by decide) ?_
  refine lv_iload hx hb dX3_send_73 (lv_at hl 7 rfl) ?_
  refine goV (ws := (wX o k R C (n + 1) (upd (upd (upd (upd (upd f (n * 6 + 0) zk) (n * 6 + 1) zc) (n * 6 + 2) zr) (n * 6 + 3) zs) (n * 6 + 4) zt) d g)) (ws' := (wX o k R C (n + 1) (upd (upd (upd (upd (upd (upd f (n * 6 + 0) zk) (n * 6 + 1) zc) (n * 6 + 2) zr) (n * 6 + 3) zs) (n * 6 + 4) zt) (n * 6 + 5) zv) d g)) (show qFit (wX o k R C (n + 1) (upd (upd (upd (upd (upd f (n * 6 + 0) zk) (n * 6 + 1) zc) (n * 6 + 2) zr) (n * 6 + 3) zs) (n * 6 + 4) zt) d g) (wR (o 3) (o 4) (k 2) 6 77 (n + 1) (upd (upd (upd (upd (upd f (n * 6 + 0) zk) (n * 6 + 1) zc) (n * 6 + 2) zr) (n * 6 + 3) zs) (n * 6 + 4) zt)) (wR (o 3) (o 4) (k 2) 6 77 (n + 1) (upd (upd (upd (upd (upd (upd f (n * 6 + 0) zk) (n * 6 + 1) zc) (n * 6 + 2) zr) (n * 6 + 3) zs) (n * 6 + 4) zt) (n * 6 + 5) zv)) (wX o k R C (n + 1) (upd (upd (upd (upd (upd (upd f (n * 6 + 0) zk) (n * 6 + 1) zc) (n * 6 + 2) zr) (n * 6 + 3) zs) (n * 6 + 4) zt) (n * 6 + 5) zv) d g) from qFit2 hD (k1 := 3) (k2 := 4) rfl rfl (by decide) rfl) hP hD hS hA (va_runV (rm := ({ frames := 1, cells := 0, slots := 0, locals := 21 } : Room)) (As := [.int (nI n), .int (nI 5), .int zv]) (rest := []) ⟨hx, hb, hml, hown, hts⟩ (MetV.at (k_X2_set l dC dI (o 3) (o 4) (k 2) 6 77 (n + 1) (upd (upd (upd (upd (upd f (n * 6 + 0) zk) (n * 6 + 1) zc) (n * 6 + 2) zr) (n * 6 + 3) zs) (n * 6 + 4) zt) (by omega) (Nat.le_of_ble_eq_true rfl) (Nat.le_of_ble_eq_true rfl) (Nat.le_of_ble_eq_true rfl) n 5 (Nat.lt_succ_self n) (by decide) zv) H.size) (cwV 3 hts gX3_send_X2_set rfl rfl rfl (by decide +kernel) ⟨Nat.le_of_ble_eq_true rfl, Nat.le_of_ble_eq_true rfl⟩) (preWV (show va_K (dC, dI) vwCl [(k 2, .int)] s from hK.sub [2] rfl) (show va_P (dC, dI) vwCl (wR (o 3) (o 4) (k 2) 6 77 (n + 1) (upd (upd (upd (upd (upd f (n * 6 + 0) zk) (n * 6 + 1) zc) (n * 6 + 2) zr) (n * 6 + 3) zs) (n * 6 + 4) zt)) H from hP.sub [3, 4] rfl) (show va_D A (wR (o 3) (o 4) (k 2) 6 77 (n + 1) (upd (upd (upd (upd (upd f (n * 6 + 0) zk) (n * 6 + 1) zc) (n * 6 + 2) zr) (n * 6 + 3) zs) (n * 6 + 4) zt)) from hD.sub [3, 4] (by decide) rfl) (va_recv hK hP (ci := 2) (q0 := 3) rfl rfl)) rfl rfl hl.1 rfl (lv_room (Nat.le_of_ble_eq_true rfl)) dX3_send_75 ⟨Nat.le_of_ble_eq_true rfl, Nat.le_of_ble_eq_true rfl⟩) (fun H locs hP hD hS => ?_)
  exact retV hx hb hr hlk dX3_send_78 hS (hP)
theorem lkX3_sendToAll_18 : Cond.fieldLink RX3 18 "QuorumRegister" "clients" "[LQuorumRegister$Client;" ∈ wsX3_sendToAll := by decide +kernel
theorem inX3_sendToAll_X3 : ∀ w ∈ wsX30, w ∈ wsX3_sendToAll := by decide +kernel
theorem lkX3_sendToAll_105 : Cond.fieldLink RX3 105 "QuorumRegister$Client" "serial" "I" ∈ wsX3_sendToAll := by decide +kernel
theorem inX3_sendToAll_X0 : ∀ w ∈ wsX00, w ∈ wsX3_sendToAll := by decide +kernel
set_option maxHeartbeats 4000000 in
set_option maxRecDepth 100000 in
/-- sendToAll(..), with room left -/
theorem k_X3_sendToAll (l : Launch) (dC : Nat → ClassId) (dI : Nat → Nat → Nat) (o : Nat → Nat) (k : Nat → ClassId) (R C : Nat → Nat → Int32) (n : Nat) (f : Nat → Int32) (d : Nat) (g : Nat → Int32) (hn : n + 5 ≤ 77) (c : Nat) (lt_c : c < 3) (zk zt zv : Int32) : MetV l yX3_sendToAll wsX3_sendToAll ({ frames := 3, cells := 0, slots := 0, locals := 71 } : Room) (dC, dI) vwCl (wX o k R C n f d g) (tyX k) [.ref (o 0), .int zk, .int (nI c), .int zt, .int zv] (wX o k R C (n + 5) (sndN zk (nI c) (C c 1) zt zv f n 5) d g) := by
  refine MetV.of (cc := cX3_sendToAll) (maxL := 6) (ret := none) (by decide) rfl (Nat.le_of_ble_eq_true rfl) rfl ?_
  intro p e s m below meth cd ls A hx hb hr hlk hml hown hts hK hP hD hS hA hl
  have hl : lv_has ls 6 [(0, .ref (o 0)), (1, .int zk), (2, .int (nI c)), (3, .int zt), (4, .int zv)] := hl
  refine lv_iconst (v := nI 0) hx hb dX3_sendToAll_0 (by decide) ?_
  refine lv_istore (lv' := [(5, .int (nI 0)), (0, .ref (o 0)), (1, .int zk), (2, .int (nI c)), (3, .int zt), (4, .int zv)]) hx hb dX3_sendToAll_1 hl (by decide) rfl (fun ls hl => ?_)
  refine lv_iload hx hb dX3_sendToAll_3 (lv_at hl 0 rfl) ?_
  refine lv_iconst (v := nI 5) hx hb dX3_sendToAll_5 (by decide) ?_
  refine lv_icmp_ge (tgt := 35) hx hb dX3_sendToAll_6 (by decide) (fun c9 => absurd c9 (by decide +kernel)) (fun _ => ?_)
  refine lv_aload_n hx hb dX3_sendToAll_9 rfl (lv_at hl 1 rfl) ?_
  refine lv_iload_n hx hb dX3_sendToAll_10 rfl (lv_at hl 2 rfl) ?_
  refine lv_iload_n hx hb dX3_sendToAll_11 rfl (lv_at hl 3 rfl) ?_
  refine lv_iload hx hb dX3_sendToAll_12 (lv_at hl 0 rfl) ?_
  refine lv_aload_n hx hb dX3_sendToAll_14 rfl (lv_at hl 1 rfl) ?_
  refine va_get (D := (dC, dI)) (ci := 3) (v := .ref (o 2)) (C := RX3) (T := TX3) (N := 4) hx hb hts inX3_sendToAll_X3 hown hK hP (0) rfl rfl 1 (by decide) (hts _ lkX3_sendToAll_18) (fun _ h9 => h9) rfl dX3_sendToAll_15 ?_
  refine lv_iload_n hx hb dX3_sendToAll_18 rfl (lv_at hl 3 rfl) ?_
  refine q_aald hx hb hK hP (2) 1 (j := c) rfl rfl lt_c (Nat.le_of_ble_eq_true rfl) dX3_sendToAll_19 ?_
  refine va_get (D := (dC, dI)) (ci := 0) (v := .int (C c 1)) (C := RX0) (T := TX0) (N := 8) hx hb hts inX3_sendToAll_X0 hown hK hP (12 + c) (wX_C lt_c) rfl 1 (by decide) (hts _ lkX3_sendToAll_105) (fun _ h9 => h9) rfl dX3_sendToAll_20 ?_
  refine lv_iload_n hx hb dX3_sendToAll_23 rfl (lv_at hl 4 rfl) ?_
  refine lv_iload hx hb dX3_sendToAll_24 (lv_at hl 5 rfl) ?_
  refine goV (ws := (wX o k R C n f d g)) (ws' := (wX o k R C (n + 1) (sndN zk (nI c) (C c 1) zt zv f n 1) d g)) (qFit_all rfl) hP hD hS hA (va_runV (rm := ({ frames := 2, cells := 0, slots := 0, locals := 44 } : Room)) (As := [.int zk, .int (nI c), .int (nI 0), .int (C c 1), .int zt, .int zv]) (rest := []) ⟨hx, hb, hml, hown, hts⟩ (MetV.at (k_X3_send l dC dI o k R C n f d g (by omega) zk (nI c) (nI 0) (C c 1) zt zv) s.heap.size) (cwV 6 hts gX3_sendToAll_X3_send rfl rfl rfl (by decide +kernel) ⟨Nat.le_of_ble_eq_true rfl, Nat.le_of_ble_eq_true rfl⟩) (preWV hK hP hD (va_recv hK hP (ci := 3) (q0 := 0) rfl rfl)) rfl rfl hl.1 rfl (lv_room (Nat.le_of_ble_eq_true rfl)) dX3_sendToAll_26 ⟨Nat.le_of_ble_eq_true rfl, Nat.le_of_ble_eq_true rfl⟩) (fun H locs hP hD hS => ?_)
  refine lv_iinc (v := nI 1) (lv' := [(5, .int (nI 1)), (0, .ref (o 0)), (1, .int zk), (2, .int (nI c)), (3, .int zt), (4, .int zv)]) hx hb dX3_sendToAll_29 hl (k := 0) rfl (nI_add _ 1) (by decide) rfl (fun ls hl => ?_)
  refine lv_goto (tgt := 3) hx hb dX3_sendToAll_32 (by decide) ?_
  refine lv_iload hx hb dX3_sendToAll_3 (lv_at hl 0 rfl) ?_
  refine lv_iconst (v := nI 5) hx hb dX3_sendToAll_5 (by decide) ?_
  refine lv_icmp_ge (tgt := 35) hx hb dX3_sendToAll_6 (by decide) (fun c9 => absurd c9 (by decide +kernel)) (fun _ => ?_)
  refine lv_aload_n hx hb dX3_sendToAll_9 rfl (lv_at hl 1 rfl) ?_
  refine lv_iload_n hx hb dX3_sendToAll_10 rfl (lv_at hl 2 rfl) ?_
  refine lv_iload_n hx hb dX3_sendToAll_11 rfl (lv_at hl 3 rfl) ?_
  refine lv_iload hx hb dX3_sendToAll_12 (lv_at hl 0 rfl) ?_
  refine lv_aload_n hx hb dX3_sendToAll_14 rfl (lv_at hl 1 rfl) ?_
  refine va_get (D := (dC, dI)) (ci := 3) (v := .ref (o 2)) (C := RX3) (T := TX3) (N := 4) hx hb hts inX3_sendToAll_X3 hown hK hP (0) rfl rfl 1 (by decide) (hts _ lkX3_sendToAll_18) (fun _ h9 => h9) rfl dX3_sendToAll_15 ?_
  refine lv_iload_n hx hb dX3_sendToAll_18 rfl (lv_at hl 3 rfl) ?_
  refine q_aald hx hb hK hP (2) 1 (j := c) rfl rfl lt_c (Nat.le_of_ble_eq_true rfl) dX3_sendToAll_19 ?_
  refine va_get (D := (dC, dI)) (ci := 0) (v := .int (C c 1)) (C := RX0) (T := TX0) (N := 8) hx hb hts inX3_sendToAll_X0 hown hK hP (12 + c) (wX_C lt_c) rfl 1 (by decide) (hts _ lkX3_sendToAll_105) (fun _ h9 => h9) rfl dX3_sendToAll_20 ?_
  refine lv_iload_n hx hb dX3_sendToAll_23 rfl (lv_at hl 4 rfl) ?_
  refine lv_iload hx hb dX3_sendToAll_24 (lv_at hl 5 rfl) ?_
  refine goV (ws := (wX o k R C (n + 1) (sndN zk (nI c) (C c 1) zt zv f n 1) d g)) (ws' := (wX o k R C (n + 2) (sndN zk (nI c) (C c 1) zt zv f n 2) d g)) (qFit_all rfl) hP hD hS hA (va_runV (rm := ({ frames := 2, cells := 0, slots := 0, locals := 44 } : Room)) (As := [.int zk, .int (nI c), .int (nI 1), .int (C c 1), .int zt, .int zv]) (rest := []) ⟨hx, hb, hml, hown, hts⟩ (MetV.at (k_X3_send l dC dI o k R C (n + 1) (sndN zk (nI c) (C c 1) zt zv f n 1) d g (by omega) zk (nI c) (nI 1) (C c 1) zt zv) H.size) (cwV 6 hts gX3_sendToAll_X3_send rfl rfl rfl (by decide +kernel) ⟨Nat.le_of_ble_eq_true rfl, Nat.le_of_ble_eq_true rfl⟩) (preWV hK hP hD (va_recv hK hP (ci := 3) (q0 := 0) rfl rfl)) rfl rfl hl.1 rfl (lv_room (Nat.le_of_ble_eq_true rfl)) dX3_sendToAll_26 ⟨Nat.le_of_ble_eq_true rfl, Nat.le_of_ble_eq_true rfl⟩) (fun H locs hP hD hS => ?_)
  refine lv_iinc (v := nI 2) (lv' := [(5, .int (nI 2)), (0, .ref (o 0)), (1, .int zk), (2, .int (nI c)), (3, .int zt), (4, .int zv)]) hx hb dX3_sendToAll_29 hl (k := 0) rfl (nI_add _ 1) (by decide) rfl (fun ls hl => ?_)
  refine lv_goto (tgt := 3) hx hb dX3_sendToAll_32 (by decide) ?_
  refine lv_iload hx hb dX3_sendToAll_3 (lv_at hl 0 rfl) ?_
  refine lv_iconst (v := nI 5) hx hb dX3_sendToAll_5 (by decide) ?_
  refine lv_icmp_ge (tgt := 35) hx hb dX3_sendToAll_6 (by decide) (fun c9 => absurd c9 (by decide +kernel)) (fun _ => ?_)
  refine lv_aload_n hx hb dX3_sendToAll_9 rfl (lv_at hl 1 rfl) ?_
  refine lv_iload_n hx hb dX3_sendToAll_10 rfl (lv_at hl 2 rfl) ?_
  refine lv_iload_n hx hb dX3_sendToAll_11 rfl (lv_at hl 3 rfl) ?_
  refine lv_iload hx hb dX3_sendToAll_12 (lv_at hl 0 rfl) ?_
  refine lv_aload_n hx hb dX3_sendToAll_14 rfl (lv_at hl 1 rfl) ?_
  refine va_get (D := (dC, dI)) (ci := 3) (v := .ref (o 2)) (C := RX3) (T := TX3) (N := 4) hx hb hts inX3_sendToAll_X3 hown hK hP (0) rfl rfl 1 (by decide) (hts _ lkX3_sendToAll_18) (fun _ h9 => h9) rfl dX3_sendToAll_15 ?_
  refine lv_iload_n hx hb dX3_sendToAll_18 rfl (lv_at hl 3 rfl) ?_
  refine q_aald hx hb hK hP (2) 1 (j := c) rfl rfl lt_c (Nat.le_of_ble_eq_true rfl) dX3_sendToAll_19 ?_
  refine va_get (D := (dC, dI)) (ci := 0) (v := .int (C c 1)) (C := RX0) (T := TX0) (N := 8) hx hb hts inX3_sendToAll_X0 hown hK hP (12 + c) (wX_C lt_c) rfl 1 (by decide) (hts _ lkX3_sendToAll_105) (fun _ h9 => h9) rfl dX3_sendToAll_20 ?_
  refine lv_iload_n hx hb dX3_sendToAll_23 rfl (lv_at hl 4 rfl) ?_
  refine lv_iload hx hb dX3_sendToAll_24 (lv_at hl 5 rfl) ?_
  refine goV (ws := (wX o k R C (n + 2) (sndN zk (nI c) (C c 1) zt zv f n 2) d g)) (ws' := (wX o k R C (n + 3) (sndN zk (nI c) (C c 1) zt zv f n 3) d g)) (qFit_all rfl) hP hD hS hA (va_runV (rm := ({ frames := 2, cells := 0, slots := 0, locals := 44 } : Room)) (As := [.int zk, .int (nI c), .int (nI 2), .int (C c 1), .int zt, .int zv]) (rest := []) ⟨hx, hb, hml, hown, hts⟩ (MetV.at (k_X3_send l dC dI o k R C (n + 2) (sndN zk (nI c) (C c 1) zt zv f n 2) d g (by omega) zk (nI c) (nI 2) (C c 1) zt zv) H.size) (cwV 6 hts gX3_sendToAll_X3_send rfl rfl rfl (by decide +kernel) ⟨Nat.le_of_ble_eq_true rfl, Nat.le_of_ble_eq_true rfl⟩) (preWV hK hP hD (va_recv hK hP (ci := 3) (q0 := 0) rfl rfl)) rfl rfl hl.1 rfl (lv_room (Nat.le_of_ble_eq_true rfl)) dX3_sendToAll_26 ⟨Nat.le_of_ble_eq_true rfl, Nat.le_of_ble_eq_true rfl⟩) (fun H locs hP hD hS => ?_)
  refine lv_iinc (v := nI 3) (lv' := [(5, .int (nI 3)), (0, .ref (o 0)), (1, .int zk), (2, .int (nI c)), (3, .int zt), (4, .int zv)]) hx hb dX3_sendToAll_29 hl (k := 0) rfl (nI_add _ 1) (by decide) rfl (fun ls hl => ?_)
  refine lv_goto (tgt := 3) hx hb dX3_sendToAll_32 (by decide) ?_
  refine lv_iload hx hb dX3_sendToAll_3 (lv_at hl 0 rfl) ?_
  refine lv_iconst (v := nI 5) hx hb dX3_sendToAll_5 (by decide) ?_
  refine lv_icmp_ge (tgt := 35) hx hb dX3_sendToAll_6 (by decide) (fun c9 => absurd c9 (by decide +kernel)) (fun _ => ?_)
  refine lv_aload_n hx hb dX3_sendToAll_9 rfl (lv_at hl 1 rfl) ?_
  refine lv_iload_n hx hb dX3_sendToAll_10 rfl (lv_at hl 2 rfl) ?_
  refine lv_iload_n hx hb dX3_sendToAll_11 rfl (lv_at hl 3 rfl) ?_
  refine lv_iload hx hb dX3_sendToAll_12 (lv_at hl 0 rfl) ?_
  refine lv_aload_n hx hb dX3_sendToAll_14 rfl (lv_at hl 1 rfl) ?_
  refine va_get (D := (dC, dI)) (ci := 3) (v := .ref (o 2)) (C := RX3) (T := TX3) (N := 4) hx hb hts inX3_sendToAll_X3 hown hK hP (0) rfl rfl 1 (by decide) (hts _ lkX3_sendToAll_18) (fun _ h9 => h9) rfl dX3_sendToAll_15 ?_
  refine lv_iload_n hx hb dX3_sendToAll_18 rfl (lv_at hl 3 rfl) ?_
  refine q_aald hx hb hK hP (2) 1 (j := c) rfl rfl lt_c (Nat.le_of_ble_eq_true rfl) dX3_sendToAll_19 ?_
  refine va_get (D := (dC, dI)) (ci := 0) (v := .int (C c 1)) (C := RX0) (T := TX0) (N := 8) hx hb hts inX3_sendToAll_X0 hown hK hP (12 + c) (wX_C lt_c) rfl 1 (by decide) (hts _ lkX3_sendToAll_105) (fun _ h9 => h9) rfl dX3_sendToAll_20 ?_
  refine lv_iload_n hx hb dX3_sendToAll_23 rfl (lv_at hl 4 rfl) ?_
  refine lv_iload hx hb dX3_sendToAll_24 (lv_at hl 5 rfl) ?_
  refine goV (ws := (wX o k R C (n + 3) (sndN zk (nI c) (C c 1) zt zv f n 3) d g)) (ws' := (wX o k R C (n + 4) (sndN zk (nI c) (C c 1) zt zv f n 4) d g)) (qFit_all rfl) hP hD hS hA (va_runV (rm := ({ frames := 2, cells := 0, slots := 0, locals := 44 } : Room)) (As := [.int zk, .int (nI c), .int (nI 3), .int (C c 1), .int zt, .int zv]) (rest := []) ⟨hx, hb, hml, hown, hts⟩ (MetV.at (k_X3_send l dC dI o k R C (n + 3) (sndN zk (nI c) (C c 1) zt zv f n 3) d g (by omega) zk (nI c) (nI 3) (C c 1) zt zv) H.size) (cwV 6 hts gX3_sendToAll_X3_send rfl rfl rfl (by decide +kernel) ⟨Nat.le_of_ble_eq_true rfl, Nat.le_of_ble_eq_true rfl⟩) (preWV hK hP hD (va_recv hK hP (ci := 3) (q0 := 0) rfl rfl)) rfl rfl hl.1 rfl (lv_room (Nat.le_of_ble_eq_true rfl)) dX3_sendToAll_26 ⟨Nat.le_of_ble_eq_true rfl, Nat.le_of_ble_eq_true rfl⟩) (fun H locs hP hD hS => ?_)
  refine lv_iinc (v := nI 4) (lv' := [(5, .int (nI 4)), (0, .ref (o 0)), (1, .int zk), (2, .int (nI c)), (3, .int zt), (4, .int zv)]) hx hb dX3_sendToAll_29 hl (k := 0) rfl (nI_add _ 1) (by decide) rfl (fun ls hl => ?_)
  refine lv_goto (tgt := 3) hx hb dX3_sendToAll_32 (by decide) ?_
  refine lv_iload hx hb dX3_sendToAll_3 (lv_at hl 0 rfl) ?_
  refine lv_iconst (v := nI 5) hx hb dX3_sendToAll_5 (by decide) ?_
  refine lv_icmp_ge (tgt := 35) hx hb dX3_sendToAll_6 (by decide) (fun c9 => absurd c9 (by decide +kernel)) (fun _ => ?_)
  refine lv_aload_n hx hb dX3_sendToAll_9 rfl (lv_at hl 1 rfl) ?_
  refine lv_iload_n hx hb dX3_sendToAll_10 rfl (lv_at hl 2 rfl) ?_
  refine lv_iload_n hx hb dX3_sendToAll_11 rfl (lv_at hl 3 rfl) ?_
  refine lv_iload hx hb dX3_sendToAll_12 (lv_at hl 0 rfl) ?_
  refine lv_aload_n hx hb dX3_sendToAll_14 rfl (lv_at hl 1 rfl) ?_
  refine va_get (D := (dC, dI)) (ci := 3) (v := .ref (o 2)) (C := RX3) (T := TX3) (N := 4) hx hb hts inX3_sendToAll_X3 hown hK hP (0) rfl rfl 1 (by decide) (hts _ lkX3_sendToAll_18) (fun _ h9 => h9) rfl dX3_sendToAll_15 ?_
  refine lv_iload_n hx hb dX3_sendToAll_18 rfl (lv_at hl 3 rfl) ?_
  refine q_aald hx hb hK hP (2) 1 (j := c) rfl rfl lt_c (Nat.le_of_ble_eq_true rfl) dX3_sendToAll_19 ?_
  refine va_get (D := (dC, dI)) (ci := 0) (v := .int (C c 1)) (C := RX0) (T := TX0) (N := 8) hx hb hts inX3_sendToAll_X0 hown hK hP (12 + c) (wX_C lt_c) rfl 1 (by decide) (hts _ lkX3_sendToAll_105) (fun _ h9 => h9) rfl dX3_sendToAll_20 ?_
  refine lv_iload_n hx hb dX3_sendToAll_23 rfl (lv_at hl 4 rfl) ?_
  refine lv_iload hx hb dX3_sendToAll_24 (lv_at hl 5 rfl) ?_
  refine goV (ws := (wX o k R C (n + 4) (sndN zk (nI c) (C c 1) zt zv f n 4) d g)) (ws' := (wX o k R C (n + 5) (sndN zk (nI c) (C c 1) zt zv f n 5) d g)) (qFit_all rfl) hP hD hS hA (va_runV (rm := ({ frames := 2, cells := 0, slots := 0, locals := 44 } : Room)) (As := [.int zk, .int (nI c), .int (nI 4), .int (C c 1), .int zt, .int zv]) (rest := []) ⟨hx, hb, hml, hown, hts⟩ (MetV.at (k_X3_send l dC dI o k R C (n + 4) (sndN zk (nI c) (C c 1) zt zv f n 4) d g (by omega) zk (nI c) (nI 4) (C c 1) zt zv) H.size) (cwV 6 hts gX3_sendToAll_X3_send rfl rfl rfl (by decide +kernel) ⟨Nat.le_of_ble_eq_true rfl, Nat.le_of_ble_eq_true rfl⟩) (preWV hK hP hD (va_recv hK hP (ci := 3) (q0 := 0) rfl rfl)) rfl rfl hl.1 rfl (lv_room (Nat.le_of_ble_eq_true rfl)) dX3_sendToAll_26 ⟨Nat.le_of_ble_eq_true rfl, Nat.le_of_ble_eq_true rfl⟩) (fun H locs hP hD hS => ?_)
  refine lv_iinc (v := nI 5) (lv' := [(5, .int (nI 5)), (0, .ref (o 0)), (1, .int zk), (2, .int (nI c)), (3, .int zt), (4, .int zv)]) hx hb dX3_sendToAll_29 hl (k := 0) rfl (nI_add _ 1) (by decide) rfl (fun ls hl => ?_)
  refine lv_goto (tgt := 3) hx hb dX3_sendToAll_32 (by decide) ?_
  refine lv_iload hx hb dX3_sendToAll_3 (lv_at hl 0 rfl) ?_
  refine lv_iconst (v := nI 5) hx hb dX3_sendToAll_5 (by decide) ?_
  refine lv_icmp_ge (tgt := 35) hx hb dX3_sendToAll_6 (by decide) (fun _ => ?_) (fun c9 => absurd (by decide +kernel) c9)
  exact retV hx hb hr hlk dX3_sendToAll_35 hS (hP)
theorem begC1 {C : Nat → Nat → Int32} {c : Nat} {w v : Int32} : begC C c w v c 1 = C c 1 + nI 1 := by simp [begC, up2]
theorem lkX3_begin_18 : Cond.fieldLink RX3 18 "QuorumRegister" "clients" "[LQuorumRegister$Client;" ∈ wsX3_begin := by decide +kernel
theorem inX3_begin_X3 : ∀ w ∈ wsX30, w ∈ wsX3_begin := by decide +kernel
theorem lkX3_begin_43 : Cond.fieldLink RX3 43 "QuorumRegister$Client" "phase" "I" ∈ wsX3_begin := by decide +kernel
theorem inX3_begin_X0 : ∀ w ∈ wsX00, w ∈ wsX3_begin := by decide +kernel
theorem lkX3_begin_105 : Cond.fieldLink RX3 105 "QuorumRegister$Client" "serial" "I" ∈ wsX3_begin := by decide +kernel
theorem lkX3_begin_108 : Cond.fieldLink RX3 108 "QuorumRegister$Client" "writes" "Z" ∈ wsX3_begin := by decide +kernel
theorem lkX3_begin_111 : Cond.fieldLink RX3 111 "QuorumRegister$Client" "toWrite" "I" ∈ wsX3_begin := by decide +kernel
theorem lkX3_begin_114 : Cond.fieldLink RX3 114 "QuorumRegister$Client" "tag" "I" ∈ wsX3_begin := by decide +kernel
theorem lkX3_begin_115 : Cond.fieldLink RX3 115 "QuorumRegister$Client" "value" "I" ∈ wsX3_begin := by decide +kernel
set_option maxHeartbeats 4000000 in
set_option maxRecDepth 100000 in
/-- begin(c, writes, toWrite) -/
theorem k_X3_begin (l : Launch) (dC : Nat → ClassId) (dI : Nat → Nat → Nat) (o : Nat → Nat) (k : Nat → ClassId) (R C : Nat → Nat → Int32) (n : Nat) (f : Nat → Int32) (d : Nat) (g : Nat → Int32) (hn : n ≤ 77) (p0 zw zv : Int32) (hw : zw = 0 ∨ zw = 1) : MetI l yX3_begin wsX3_begin ({ frames := 4, cells := 0, slots := 0, locals := 96 } : Room) (dC, dI) vwCl (wX o k R C n f d g) (tyX k) [.ref (o 0), .int p0, .int zw, .int zv] (bgX C n p0) (wS o k (bgS (R, C, n, f, d, g) p0 zw zv)) := by
  refine MetI.of (cc := cX3_begin) (maxL := 5) (ret := (some .int)) (by decide) rfl (Nat.le_of_ble_eq_true rfl) rfl ?_
  intro p e s m below meth cd ls A hx hb hr hlk hml hown hts hK hP hD hS hA hl
  have hl : lv_has ls 5 [(0, .ref (o 0)), (1, .int p0), (2, .int zw), (3, .int zv)] := hl
  refine lv_iload_n hx hb dX3_begin_0 rfl (lv_at hl 1 rfl) ?_
  refine goS (va_runS (rm := ({ frames := 0, cells := 0, slots := 0, locals := 0 } : Room)) (As := [.int p0]) (rest := []) ⟨hx, hb, hml, hown, hts⟩ (MetS.at (k_X3_isClient l dC dI p0)) (va_cwS 1 hts gX3_begin_X3_isClient rfl rfl rfl (by decide +kernel) ⟨Nat.le_of_ble_eq_true rfl, Nat.le_of_ble_eq_true rfl⟩) (preSS (hK.sub [] rfl) va_P0) rfl rfl hl.1 rfl (lv_room (Nat.le_of_ble_eq_true rfl)) dX3_begin_1 ⟨Nat.le_of_ble_eq_true rfl, Nat.le_of_ble_eq_true rfl⟩) ?_
  refine lv_if_ne (tgt := 9) hx hb dX3_begin_4 (by decide) (fun c_4 => ?_) (fun c_4 => ?_)
  · have c_4 := it_yes c_4
    obtain ⟨j, lt_j, rfl⟩ := okI_of c_4 (Nat.le_of_ble_eq_true rfl)
    have e_j : (nI j).toNatClampNeg = j := nI_clamp (by omega)
    refine lv_aload_n hx hb dX3_begin_9 rfl (lv_at hl 0 rfl) ?_
    refine va_get (D := (dC, dI)) (ci := 3) (v := .ref (o 2)) (C := RX3) (T := TX3) (N := 4) hx hb hts inX3_begin_X3 hown hK hP (0) rfl rfl 1 (by decide) (hts _ lkX3_begin_18) (fun _ h9 => h9) rfl dX3_begin_10 ?_
    refine lv_iload_n hx hb dX3_begin_13 rfl (lv_at hl 1 rfl) ?_
    refine q_aald hx hb hK hP (2) 1 (j := j) rfl rfl lt_j (Nat.le_of_ble_eq_true rfl) dX3_begin_14 ?_
    refine lv_astore (lv' := [(4, .ref (o (12 + j))), (0, .ref (o 0)), (1, .int (nI j)), (2, .int zw), (3, .int zv)]) hx hb dX3_begin_15 hl (by decide) rfl (fun ls hl => ?_)
    refine lv_aload hx hb dX3_begin_17 (lv_at hl 0 rfl) ?_
    refine va_get (D := (dC, dI)) (ci := 0) (v := .int (C j 0)) (C := RX0) (T := TX0) (N := 8) hx hb hts inX3_begin_X0 hown hK hP (12 + j) (wX_C lt_j) rfl 0 (by decide) (hts _ lkX3_begin_43) (fun _ h9 => h9) rfl dX3_begin_19 ?_
    refine lv_if_eq (tgt := 28) hx hb dX3_begin_22 (by decide) (fun c_22 => ?_) (fun c_22 => ?_)
    · refine lv_aload_n hx hb dX3_begin_28 rfl (lv_at hl 1 rfl) ?_
      refine goS (va_runV (rm := ({ frames := 0, cells := 0, slots := 0, locals := 0 } : Room)) (As := []) (rest := []) ⟨hx, hb, hml, hown, hts⟩ (MetS.at (k_X3_isCrowded l dC dI o k R C n f d g hn)) (cwV 0 hts gX3_begin_X3_isCrowded rfl rfl rfl (by decide +kernel) ⟨Nat.le_of_ble_eq_true rfl, Nat.le_of_ble_eq_true rfl⟩) (preSV hK hP (va_recv hK hP (ci := 3) (q0 := 0) rfl rfl)) rfl rfl hl.1 rfl (lv_room (Nat.le_of_ble_eq_true rfl)) dX3_begin_29 ⟨Nat.le_of_ble_eq_true rfl, Nat.le_of_ble_eq_true rfl⟩) ?_
      refine lv_if_eq (tgt := 38) hx hb dX3_begin_32 (by decide) (fun c_32 => ?_) (fun c_32 => ?_)
      · have c_32 := it_no c_32
        refine lv_aload hx hb dX3_begin_38 (lv_at hl 0 rfl) ?_
        refine lv_dup hx hb dX3_begin_40 rfl ?_
        refine va_get (D := (dC, dI)) (ci := 0) (v := .int (C j 1)) (C := RX0) (T := TX0) (N := 8) hx hb hts inX3_begin_X0 hown hK hP (12 + j) (wX_C lt_j) rfl 1 (by decide) (hts _ lkX3_begin_105) (fun _ h9 => h9) rfl dX3_begin_41 ?_
        refine lv_iconst (v := nI 1) hx hb dX3_begin_44 (by decide) ?_
        refine lv_iadd hx hb dX3_begin_45 ?_
        refine q_put (D := (dC, dI)) (ci := 0) (v := .int ((C j 1) + (nI 1))) (ty := .int) (C := RX0) (T := TX0) (N := 8) (ws' := (wX o k R (up2 C j 1 ((C j 1) + (nI 1))) n f d g)) hx hb hts inX3_begin_X0 tyX0 tyX0_ok nmX0 hown hK hP hD hS (12 + j) (wX_C lt_j) rfl 1 (by decide) (hts _ lkX3_begin_105) (fun _ h9 => h9) rfl (by decide +kernel) rfl rfl (Nat.le_of_ble_eq_true rfl) (wX_setC lt_j _ _ _ _ _ _ _ _ (by simp [up2]) (by intro a b h; simp [up2, h])) dX3_begin_46 (fun H locs hP hD hS => ?_)
        refine lv_aload hx hb dX3_begin_49 (lv_at hl 0 rfl) ?_
        refine lv_iload_n hx hb dX3_begin_51 rfl (lv_at hl 3 rfl) ?_
        refine q_put (D := (dC, dI)) (ci := 0) (v := .int zw) (ty := .boolean) (C := RX0) (T := TX0) (N := 8) (ws' := (wX o k R (up2 (up2 C j 1 ((C j 1) + (nI 1))) j 2 zw) n f d g)) hx hb hts inX3_begin_X0 tyX0 tyX0_ok nmX0 hown hK hP hD hS (12 + j) (wX_C lt_j) rfl 2 (by decide) (hts _ lkX3_begin_108) (fun _ h9 => h9) rfl (by decide +kernel) (bz hw) (bf hw) (Nat.le_of_ble_eq_true rfl) (wX_setC lt_j _ _ _ _ _ _ _ _ (by simp [up2]) (by intro a b h; simp [up2, h])) dX3_begin_52 (fun H locs hP hD hS => ?_)
        refine lv_aload hx hb dX3_begin_55 (lv_at hl 0 rfl) ?_
        refine lv_iload_n hx hb dX3_begin_57 rfl (lv_at hl 4 rfl) ?_
        refine q_put (D := (dC, dI)) (ci := 0) (v := .int zv) (ty := .int) (C := RX0) (T := TX0) (N := 8) (ws' := (wX o k R (up2 (up2 (up2 C j 1 ((C j 1) + (nI 1))) j 2 zw) j 3 zv) n f d g)) hx hb hts inX3_begin_X0 tyX0 tyX0_ok nmX0 hown hK hP hD hS (12 + j) (wX_C lt_j) rfl 3 (by decide) (hts _ lkX3_begin_111) (fun _ h9 => h9) rfl (by decide +kernel) rfl rfl (Nat.le_of_ble_eq_true rfl) (wX_setC lt_j _ _ _ _ _ _ _ _ (by simp [up2]) (by intro a b h; simp [up2, h])) dX3_begin_58 (fun H locs hP hD hS => ?_)
        refine lv_aload hx hb dX3_begin_61 (lv_at hl 0 rfl) ?_
        refine lv_iconst (v := nI 0) hx hb dX3_begin_63 (by decide) ?_
        refine q_put (D := (dC, dI)) (ci := 0) (v := .int (nI 0)) (ty := .int) (C := RX0) (T := TX0) (N := 8) (ws' := (wX o k R (up2 (up2 (up2 (up2 C j 1 ((C j 1) + (nI 1))) j 2 zw) j 3 zv) j 5 (nI 0)) n f d g)) hx hb hts inX3_begin_X0 tyX0 tyX0_ok nmX0 hown hK hP hD hS (12 + j) (wX_C lt_j) rfl 5 (by decide) (hts _ lkX3_begin_114) (fun _ h9 => h9) rfl (by decide +kernel) rfl rfl (Nat.le_of_ble_eq_true rfl) (wX_setC lt_j _ _ _ _ _ _ _ _ (by simp [up2]) (by intro a b h; simp [up2, h])) dX3_begin_64 (fun H locs hP hD hS => ?_)
        refine lv_aload hx hb dX3_begin_67 (lv_at hl 0 rfl) ?_
        refine lv_iconst (v := nI 0) hx hb dX3_begin_69 (by decide) ?_
        refine q_put (D := (dC, dI)) (ci := 0) (v := .int (nI 0)) (ty := .int) (C := RX0) (T := TX0) (N := 8) (ws' := (wX o k R (up2 (up2 (up2 (up2 (up2 C j 1 ((C j 1) + (nI 1))) j 2 zw) j 3 zv) j 5 (nI 0)) j 6 (nI 0)) n f d g)) hx hb hts inX3_begin_X0 tyX0 tyX0_ok nmX0 hown hK hP hD hS (12 + j) (wX_C lt_j) rfl 6 (by decide) (hts _ lkX3_begin_115) (fun _ h9 => h9) rfl (by decide +kernel) rfl rfl (Nat.le_of_ble_eq_true rfl) (wX_setC lt_j _ _ _ _ _ _ _ _ (by simp [up2]) (by intro a b h; simp [up2, h])) dX3_begin_70 (fun H locs hP hD hS => ?_)
        refine lv_aload hx hb dX3_begin_73 (lv_at hl 0 rfl) ?_
        refine lv_iconst (v := nI 1) hx hb dX3_begin_75 (by decide) ?_
        refine goV (ws := (wX o k R (up2 (up2 (up2 (up2 (up2 C j 1 ((C j 1) + (nI 1))) j 2 zw) j 3 zv) j 5 (nI 0)) j 6 (nI 0)) n f d g)) (ws' := (wX o k R (up2 (up2 (up2 (up2 (up2 (up2 (up2 C j 1 ((C j 1) + (nI 1))) j 2 zw) j 3 zv) j 5 (nI 0)) j 6 (nI 0)) j 0 (nI 1)) j 4 (nI 0)) n f d g)) (show qFit (wX o k R (up2 (up2 (up2 (up2 (up2 C j 1 ((C j 1) + (nI 1))) j 2 zw) j 3 zv) j 5 (nI 0)) j 6 (nI 0)) n f d g) (wC (o (12 + j)) ((up2 (up2 (up2 (up2 (up2 C j 1 ((C j 1) + (nI 1))) j 2 zw) j 3 zv) j 5 (nI 0)) j 6 (nI 0)) j)) [(o (12 + j), .inr (0, [.int (nI 1), .int ((up2 (up2 (up2 (up2 (up2 C j 1 ((C j 1) + (nI 1))) j 2 zw) j 3 zv) j 5 (nI 0)) j 6 (nI 0)) j 1), .int ((up2 (up2 (up2 (up2 (up2 C j 1 ((C j 1) + (nI 1))) j 2 zw) j 3 zv) j 5 (nI 0)) j 6 (nI 0)) j 2), .int ((up2 (up2 (up2 (up2 (up2 C j 1 ((C j 1) + (nI 1))) j 2 zw) j 3 zv) j 5 (nI 0)) j 6 (nI 0)) j 3), .int (nI 0), .int ((up2 (up2 (up2 (up2 (up2 C j 1 ((C j 1) + (nI 1))) j 2 zw) j 3 zv) j 5 (nI 0)) j 6 (nI 0)) j 5), .int ((up2 (up2 (up2 (up2 (up2 C j 1 ((C j 1) + (nI 1))) j 2 zw) j 3 zv) j 5 (nI 0)) j 6 (nI 0)) j 6), .int ((up2 (up2 (up2 (up2 (up2 C j 1 ((C j 1) + (nI 1))) j 2 zw) j 3 zv) j 5 (nI 0)) j 6 (nI 0)) j 7)]))] (wX o k R (up2 (up2 (up2 (up2 (up2 (up2 (up2 C j 1 ((C j 1) + (nI 1))) j 2 zw) j 3 zv) j 5 (nI 0)) j 6 (nI 0)) j 0 (nI 1)) j 4 (nI 0)) n f d g) from qFit1 hD (wX_C lt_j) (wX_setC lt_j _ _ _ _ _ _ _ _ (by simp [up2]) (by intro a b h; simp [up2, h]))) hP hD hS hA (va_runV (rm := ({ frames := 0, cells := 0, slots := 0, locals := 0 } : Room)) (As := [.int (nI 1)]) (rest := []) ⟨hx, hb, hml, hown, hts⟩ (MetV.at (k_X0_enter l dC dI (o (12 + j)) ((up2 (up2 (up2 (up2 (up2 C j 1 ((C j 1) + (nI 1))) j 2 zw) j 3 zv) j 5 (nI 0)) j 6 (nI 0)) j) (nI 1)) H.size) (cwV 1 hts gX3_begin_X0_enter rfl rfl rfl (by decide +kernel) ⟨Nat.le_of_ble_eq_true rfl, Nat.le_of_ble_eq_true rfl⟩) (preWV (hK.sub [] rfl) (va_P1 hP (wX_C lt_j)) va_D1 (va_recv hK hP (ci := 0) (q0 := 12 + j) rfl (wX_C lt_j))) rfl rfl hl.1 rfl (lv_room (Nat.le_of_ble_eq_true rfl)) dX3_begin_76 ⟨Nat.le_of_ble_eq_true rfl, Nat.le_of_ble_eq_true rfl⟩) (fun H locs hP hD hS => ?_)
        have hP : va_P (dC, dI) vwCl (wX o k R (begC C j zw zv) n f d g) H := hP
        have hD : va_D A (wX o k R (begC C j zw zv) n f d g) := hD
        refine lv_aload_n hx hb dX3_begin_79 rfl (lv_at hl 1 rfl) ?_
        refine lv_iconst (v := nI 0) hx hb dX3_begin_80 (by decide) ?_
        refine lv_iload_n hx hb dX3_begin_81 rfl (lv_at hl 2 rfl) ?_
        refine lv_iconst (v := nI 0) hx hb dX3_begin_82 (by decide) ?_
        refine lv_iconst (v := nI 0) hx hb dX3_begin_83 (by decide) ?_
        refine goV (ws := (wX o k R (begC C j zw zv) n f d g)) (ws' := (wX o k R (begC C j zw zv) (n + 5) (sndN (nI 0) (nI j) ((begC C j zw zv) j 1) (nI 0) (nI 0) f n 5) d g)) (qFit_all rfl) hP hD hS hA (va_runV (rm := ({ frames := 3, cells := 0, slots := 0, locals := 71 } : Room)) (As := [.int (nI 0), .int (nI j), .int (nI 0), .int (nI 0)]) (rest := []) ⟨hx, hb, hml, hown, hts⟩ (MetV.at (k_X3_sendToAll l dC dI o k R (begC C j zw zv) n f d g (by omega) j lt_j (nI 0) (nI 0) (nI 0)) H.size) (cwV 4 hts gX3_begin_X3_sendToAll rfl rfl rfl (by decide +kernel) ⟨Nat.le_of_ble_eq_true rfl, Nat.le_of_ble_eq_true rfl⟩) (preWV hK hP hD (va_recv hK hP (ci := 3) (q0 := 0) rfl rfl)) rfl rfl hl.1 rfl (lv_room (Nat.le_of_ble_eq_true rfl)) dX3_begin_84 ⟨Nat.le_of_ble_eq_true rfl, Nat.le_of_ble_eq_true rfl⟩) (fun H locs hP hD hS => ?_)
        refine lv_aload hx hb dX3_begin_87 (lv_at hl 0 rfl) ?_
        refine va_get (D := (dC, dI)) (ci := 0) (v := .int ((begC C j zw zv) j 1)) (C := RX0) (T := TX0) (N := 8) hx hb hts inX3_begin_X0 hown hK hP (12 + j) (wX_C lt_j) rfl 1 (by decide) (hts _ lkX3_begin_105) (fun _ h9 => h9) rfl dX3_begin_89 ?_
        exact retI hx hb hr hlk dX3_begin_92 hS (by rw [bgS, if_pos ⟨c_4, by rw [e_j]; exact c_22, c_32⟩, e_j]; simpa only [wS, begC1] using hP) (by rw [bgX, if_pos c_4, e_j, if_pos c_22, if_neg c_32, begC1])
      · have c_32 := it_yes c_32
        refine lv_bipush (v := (-3)) hx hb dX3_begin_35 (by decide) ?_
        exact retI hx hb hr hlk dX3_begin_37 hS (by rw [bgS, if_neg (fun q => q.2.2 c_32)]; exact hP) (by rw [bgX, if_pos c_4, e_j, if_pos c_22, if_pos c_32])
    · refine lv_bipush (v := (-2)) hx hb dX3_begin_25 (by decide) ?_
      exact retI hx hb hr hlk dX3_begin_27 hS (by rw [bgS, if_neg (fun q => c_22 (by have := q.2.1; rw [e_j] at this; exact this))]; exact hP) (by rw [bgX, if_pos c_4, e_j, if_neg c_22])
  · have c_4 := it_no c_4
    refine lv_iconst (v := (-1)) hx hb dX3_begin_7 (by decide) ?_
    exact retI hx hb hr hlk dX3_begin_8 hS (by rw [bgS, if_neg (fun q => c_4 q.1)]; exact hP) ((by rw [bgX, if_neg c_4]))
set_option maxHeartbeats 4000000 in
set_option maxRecDepth 100000 in
/-- X3_write -/
theorem k_X3_write (l : Launch) (dC : Nat → ClassId) (dI : Nat → Nat → Nat) (o : Nat → Nat) (k : Nat → ClassId) (R C : Nat → Nat → Int32) (n : Nat) (f : Nat → Int32) (d : Nat) (g : Nat → Int32) (hn : n ≤ 77) (p0 p1 : Int32) : MetI l yX3_write wsX3_write ({ frames := 5, cells := 0, slots := 0, locals := 120 } : Room) (dC, dI) vwCl (wX o k R C n f d g) (tyX k) [.ref (o 0), .int p0, .int p1] (bgX C n p0) (wS o k (bgS (R, C, n, f, d, g) p0 (nI 1) (p1))) := by
  refine MetI.of (cc := cX3_write) (maxL := 3) (ret := (some .int)) (by decide) rfl (Nat.le_of_ble_eq_true rfl) rfl ?_
  intro p e s m below meth cd ls A hx hb hr hlk hml hown hts hK hP hD hS hA hl
  have hl : lv_has ls 3 [(0, .ref (o 0)), (1, .int p0), (2, .int p1)] := hl
  refine lv_aload_n hx hb dX3_write_0 rfl (lv_at hl 0 rfl) ?_
  refine lv_iload_n hx hb dX3_write_1 rfl (lv_at hl 1 rfl) ?_
  refine lv_iconst (v := nI 1) hx hb dX3_write_2 (by decide) ?_
  refine lv_iload_n hx hb dX3_write_3 rfl (lv_at hl 2 rfl) ?_
  refine goI (ws := (wX o k R C n f d g)) (ws' := (wS o k (bgS (R, C, n, f, d, g) p0 (nI 1) p1))) (qFit_all rfl) hP hD hS hA (va_runV (rm := ({ frames := 4, cells := 0, slots := 0, locals := 96 } : Room)) (As := [.int p0, .int (nI 1), .int p1]) (rest := []) ⟨hx, hb, hml, hown, hts⟩ (MetI.at (k_X3_begin l dC dI o k R C n f d g hn p0 (nI 1) p1 (Or.inr rfl)) s.heap.size) (cwV 3 hts gX3_write_X3_begin rfl rfl rfl (by decide +kernel) ⟨Nat.le_of_ble_eq_true rfl, Nat.le_of_ble_eq_true rfl⟩) (preWV hK hP hD (va_recv hK hP (ci := 3) (q0 := 0) rfl rfl)) rfl rfl hl.1 rfl (lv_room (Nat.le_of_ble_eq_true rfl)) dX3_write_4 ⟨Nat.le_of_ble_eq_true rfl, Nat.le_of_ble_eq_true rfl⟩) (fun H locs hP hD hS => ?_)
  exact retI hx hb hr hlk dX3_write_7 hS (hP) (rfl)
set_option maxHeartbeats 4000000 in
set_option maxRecDepth 100000 in
/-- X3_read -/
theorem k_X3_read (l : Launch) (dC : Nat → ClassId) (dI : Nat → Nat → Nat) (o : Nat → Nat) (k : Nat → ClassId) (R C : Nat → Nat → Int32) (n : Nat) (f : Nat → Int32) (d : Nat) (g : Nat → Int32) (hn : n ≤ 77) (p0 : Int32) : MetI l yX3_read wsX3_read ({ frames := 5, cells := 0, slots := 0, locals := 120 } : Room) (dC, dI) vwCl (wX o k R C n f d g) (tyX k) [.ref (o 0), .int p0] (bgX C n p0) (wS o k (bgS (R, C, n, f, d, g) p0 (nI 0) (nI 0))) := by
  refine MetI.of (cc := cX3_read) (maxL := 2) (ret := (some .int)) (by decide) rfl (Nat.le_of_ble_eq_true rfl) rfl ?_
  intro p e s m below meth cd ls A hx hb hr hlk hml hown hts hK hP hD hS hA hl
  have hl : lv_has ls 2 [(0, .ref (o 0)), (1, .int p0)] := hl
  refine lv_aload_n hx hb dX3_read_0 rfl (lv_at hl 0 rfl) ?_
  refine lv_iload_n hx hb dX3_read_1 rfl (lv_at hl 1 rfl) ?_
  refine lv_iconst (v := nI 0) hx hb dX3_read_2 (by decide) ?_
  refine lv_iconst (v := nI 0) hx hb dX3_read_3 (by decide) ?_
  refine goI (ws := (wX o k R C n f d g)) (ws' := (wS o k (bgS (R, C, n, f, d, g) p0 (nI 0) (nI 0)))) (qFit_all rfl) hP hD hS hA (va_runV (rm := ({ frames := 4, cells := 0, slots := 0, locals := 96 } : Room)) (As := [.int p0, .int (nI 0), .int (nI 0)]) (rest := []) ⟨hx, hb, hml, hown, hts⟩ (MetI.at (k_X3_begin l dC dI o k R C n f d g hn p0 (nI 0) (nI 0) (Or.inl rfl)) s.heap.size) (cwV 3 hts gX3_read_X3_begin rfl rfl rfl (by decide +kernel) ⟨Nat.le_of_ble_eq_true rfl, Nat.le_of_ble_eq_true rfl⟩) (preWV hK hP hD (va_recv hK hP (ci := 3) (q0 := 0) rfl rfl)) rfl rfl hl.1 rfl (lv_room (Nat.le_of_ble_eq_true rfl)) dX3_read_4 ⟨Nat.le_of_ble_eq_true rfl, Nat.le_of_ble_eq_true rfl⟩) (fun H locs hP hD hS => ?_)
  exact retI hx hb hr hlk dX3_read_7 hS (hP) (rfl)
theorem lkX3_leave_18 : Cond.fieldLink RX3 18 "QuorumRegister" "clients" "[LQuorumRegister$Client;" ∈ wsX3_leave := by decide +kernel
theorem inX3_leave_X3 : ∀ w ∈ wsX30, w ∈ wsX3_leave := by decide +kernel
theorem lkX3_leave_43 : Cond.fieldLink RX3 43 "QuorumRegister$Client" "phase" "I" ∈ wsX3_leave := by decide +kernel
theorem inX3_leave_X0 : ∀ w ∈ wsX00, w ∈ wsX3_leave := by decide +kernel
set_option maxHeartbeats 4000000 in
set_option maxRecDepth 100000 in
/-- leave(c) -/
theorem k_X3_leave (l : Launch) (dC : Nat → ClassId) (dI : Nat → Nat → Nat) (o : Nat → Nat) (k : Nat → ClassId) (R C : Nat → Nat → Int32) (n : Nat) (f : Nat → Int32) (d : Nat) (g : Nat → Int32) (p0 : Int32) : MetI l yX3_leave wsX3_leave ({ frames := 1, cells := 0, slots := 0, locals := 21 } : Room) (dC, dI) vwCl (wX o k R C n f d g) (tyX k) [.ref (o 0), .int p0] (lvX C p0) (wS o k (lvS (R, C, n, f, d, g) p0)) := by
  refine MetI.of (cc := cX3_leave) (maxL := 2) (ret := (some .boolean)) (by decide) rfl (Nat.le_of_ble_eq_true rfl) rfl ?_
  intro p e s m below meth cd ls A hx hb hr hlk hml hown hts hK hP hD hS hA hl
  have hl : lv_has ls 2 [(0, .ref (o 0)), (1, .int p0)] := hl
  refine lv_iload_n hx hb dX3_leave_0 rfl (lv_at hl 1 rfl) ?_
  refine goS (va_runS (rm := ({ frames := 0, cells := 0, slots := 0, locals := 0 } : Room)) (As := [.int p0]) (rest := []) ⟨hx, hb, hml, hown, hts⟩ (MetS.at (k_X3_isClient l dC dI p0)) (va_cwS 1 hts gX3_leave_X3_isClient rfl rfl rfl (by decide +kernel) ⟨Nat.le_of_ble_eq_true rfl, Nat.le_of_ble_eq_true rfl⟩) (preSS (hK.sub [] rfl) va_P0) rfl rfl hl.1 rfl (lv_room (Nat.le_of_ble_eq_true rfl)) dX3_leave_1 ⟨Nat.le_of_ble_eq_true rfl, Nat.le_of_ble_eq_true rfl⟩) ?_
  refine lv_if_eq (tgt := 19) hx hb dX3_leave_4 (by decide) (fun c_4 => ?_) (fun c_4 => ?_)
  · have c_4 := it_no c_4
    refine lv_iconst (v := nI 0) hx hb dX3_leave_19 (by decide) ?_
    exact retIz hx hb hr hlk dX3_leave_20 rfl hS (by rw [lvS, if_neg (fun q => c_4 q.1)]; exact hP) (by rw [lvX, if_neg (fun q => c_4 q.1)]; rfl)
  · have c_4 := it_yes c_4
    obtain ⟨j, lt_j, rfl⟩ := okI_of c_4 (Nat.le_of_ble_eq_true rfl)
    have e_j : (nI j).toNatClampNeg = j := nI_clamp (by omega)
    refine lv_aload_n hx hb dX3_leave_7 rfl (lv_at hl 0 rfl) ?_
    refine va_get (D := (dC, dI)) (ci := 3) (v := .ref (o 2)) (C := RX3) (T := TX3) (N := 4) hx hb hts inX3_leave_X3 hown hK hP (0) rfl rfl 1 (by decide) (hts _ lkX3_leave_18) (fun _ h9 => h9) rfl dX3_leave_8 ?_
    refine lv_iload_n hx hb dX3_leave_11 rfl (lv_at hl 1 rfl) ?_
    refine q_aald hx hb hK hP (2) 1 (j := j) rfl rfl lt_j (Nat.le_of_ble_eq_true rfl) dX3_leave_12 ?_
    refine va_get (D := (dC, dI)) (ci := 0) (v := .int (C j 0)) (C := RX0) (T := TX0) (N := 8) hx hb hts inX3_leave_X0 hown hK hP (12 + j) (wX_C lt_j) rfl 0 (by decide) (hts _ lkX3_leave_43) (fun _ h9 => h9) rfl dX3_leave_13 ?_
    refine lv_if_ne (tgt := 21) hx hb dX3_leave_16 (by decide) (fun c_16 => ?_) (fun c_16 => ?_)
    · refine lv_aload_n hx hb dX3_leave_21 rfl (lv_at hl 0 rfl) ?_
      refine va_get (D := (dC, dI)) (ci := 3) (v := .ref (o 2)) (C := RX3) (T := TX3) (N := 4) hx hb hts inX3_leave_X3 hown hK hP (0) rfl rfl 1 (by decide) (hts _ lkX3_leave_18) (fun _ h9 => h9) rfl dX3_leave_22 ?_
      refine lv_iload_n hx hb dX3_leave_25 rfl (lv_at hl 1 rfl) ?_
      refine q_aald hx hb hK hP (2) 1 (j := j) rfl rfl lt_j (Nat.le_of_ble_eq_true rfl) dX3_leave_26 ?_
      refine lv_iconst (v := nI 0) hx hb dX3_leave_27 (by decide) ?_
      refine goV (ws := (wX o k R C n f d g)) (ws' := (wX o k R (up2 (up2 C j 0 (nI 0)) j 4 (nI 0)) n f d g)) (show qFit (wX o k R C n f d g) (wC (o (12 + j)) (C j)) [(o (12 + j), .inr (0, [.int (nI 0), .int (C j 1), .int (C j 2), .int (C j 3), .int (nI 0), .int (C j 5), .int (C j 6), .int (C j 7)]))] (wX o k R (up2 (up2 C j 0 (nI 0)) j 4 (nI 0)) n f d g) from qFit1 hD (wX_C lt_j) (wX_setC lt_j _ _ _ _ _ _ _ _ (by simp [up2]) (by intro a b h; simp [up2, h]))) hP hD hS hA (va_runV (rm := ({ frames := 0, cells := 0, slots := 0, locals := 0 } : Room)) (As := [.int (nI 0)]) (rest := []) ⟨hx, hb, hml, hown, hts⟩ (MetV.at (k_X0_enter l dC dI (o (12 + j)) (C j) (nI 0)) s.heap.size) (cwV 1 hts gX3_leave_X0_enter rfl rfl rfl (by decide +kernel) ⟨Nat.le_of_ble_eq_true rfl, Nat.le_of_ble_eq_true rfl⟩) (preWV (hK.sub [] rfl) (va_P1 hP (wX_C lt_j)) va_D1 (va_recv hK hP (ci := 0) (q0 := 12 + j) rfl (wX_C lt_j))) rfl rfl hl.1 rfl (lv_room (Nat.le_of_ble_eq_true rfl)) dX3_leave_28 ⟨Nat.le_of_ble_eq_true rfl, Nat.le_of_ble_eq_true rfl⟩) (fun H locs hP hD hS => ?_)
      have hP : va_P (dC, dI) vwCl (wX o k R (idlC C j) n f d g) H := hP
      have hD : va_D A (wX o k R (idlC C j) n f d g) := hD
      refine lv_iconst (v := nI 1) hx hb dX3_leave_31 (by decide) ?_
      exact retIz hx hb hr hlk dX3_leave_32 rfl hS (by rw [lvS, if_pos ⟨c_4, by rw [e_j]; exact c_16⟩, e_j]; exact hP) (by rw [lvX, if_pos ⟨c_4, by rw [e_j]; exact c_16⟩]; rfl)
    · refine lv_iconst (v := nI 0) hx hb dX3_leave_19 (by decide) ?_
      exact retIz hx hb hr hlk dX3_leave_20 rfl hS (by rw [lvS, if_neg (fun q => q.2 (by rw [e_j]; exact c_16))]; exact hP) (by rw [lvX, if_neg (fun q => q.2 (by rw [e_j]; exact c_16))]; rfl)
end
section
/-! QuorumRegister: the answers to messages -/
theorem stoC1 {C : Nat → Nat → Int32} {c : Nat} : stoC C c c 1 = C c 1 := by
  unfold stoC wriC
  split <;> simp [up2]
theorem telC4 {C : Nat → Nat → Int32} {c : Nat} {r t v : Int32} : telC C c r t v c 4 = C c 4 ||| (nI 1 <<< (r &&& 31)) := by
  unfold telC heaC
  split <;> simp [up2]
theorem telC1 {C : Nat → Nat → Int32} {c : Nat} {r t v : Int32} : telC C c r t v c 1 = C c 1 := by
  unfold telC heaC
  split <;> simp [up2]
theorem heaC4 {C : Nat → Nat → Int32} {c : Nat} {r : Int32} : heaC C c r c 4 = C c 4 ||| (nI 1 <<< (r &&& 31)) := by simp [heaC, up2]
theorem tb_out {x : Int32} (h0 : ¬ x = nI 0) (h1 : ¬ x = nI 1) (h2 : ¬ x = nI 2) : x.toInt < 0 ∨ 2 < x.toInt := by
  have e0 : ¬ x.toInt = 0 := fun q => h0 (Int32.toInt_inj.mp (by rw [q]; rfl))
  have e1 : ¬ x.toInt = 1 := fun q => h1 (Int32.toInt_inj.mp (by rw [q]; rfl))
  have e2 : ¬ x.toInt = 2 := fun q => h2 (Int32.toInt_inj.mp (by rw [q]; rfl))
  omega
/-- deliver, lose, repeat, fail: answers and states -/
def dlM (σ : St) (kd : Int32) (c r : Nat) (s t v : Int32) : St := if kd = nI 0 then stAsk σ c r s else if kd = nI 1 then stTel σ c r s t v else if kd = nI 2 then stStr σ c r s t v else stStd σ c r s
def dlI (σ : St) (i : Nat) : St := dlM (σ.1, σ.2.1, σ.2.2.1 - 1, drp σ.2.2.2.1 σ.2.2.1 i, σ.2.2.2.2.1, σ.2.2.2.2.2) (σ.2.2.2.1 (i * 6 + 0)) (σ.2.2.2.1 (i * 6 + 1)).toNatClampNeg (σ.2.2.2.1 (i * 6 + 2)).toNatClampNeg (σ.2.2.2.1 (i * 6 + 3)) (σ.2.2.2.1 (i * 6 + 4)) (σ.2.2.2.1 (i * 6 + 5))
def dlS (σ : St) (p0 : Int32) : St := if okI p0 σ.2.2.1 then dlI σ p0.toNatClampNeg else σ
def dlX (σ : St) (p0 : Int32) : Int32 := if okI p0 σ.2.2.1 then nI (dlS σ p0).2.2.1 - nI (σ.2.2.1 - 1) else (-1)
def lsX (σ : St) (p0 : Int32) : Int32 := if okI p0 σ.2.2.1 then 1 else 0
def lsS (σ : St) (p0 : Int32) : St := if okI p0 σ.2.2.1 then (σ.1, σ.2.1, σ.2.2.1 - 1, drp σ.2.2.2.1 σ.2.2.1 p0.toNatClampNeg, σ.2.2.2.2.1, σ.2.2.2.2.2) else σ
def rpX (σ : St) (p0 : Int32) : Int32 := if okI p0 σ.2.2.1 ∧ ¬ 60 < σ.2.2.1 then 1 else 0
def rpS (σ : St) (p0 : Int32) : St := if okI p0 σ.2.2.1 ∧ ¬ 60 < σ.2.2.1 then (σ.1, σ.2.1, σ.2.2.1 + 1, va_cpy σ.2.2.2.1 σ.2.2.2.1 (p0.toNatClampNeg * 6) (σ.2.2.1 * 6) 6, σ.2.2.2.2.1, σ.2.2.2.2.2) else σ
def flX (σ : St) (p0 : Int32) : Int32 := if okI p0 5 ∧ σ.1 p0.toNatClampNeg 2 = 0 ∧ cnF σ.1 5 < 2 then 1 else 0
def flS (σ : St) (p0 : Int32) : St := if okI p0 5 ∧ σ.1 p0.toNatClampNeg 2 = 0 ∧ cnF σ.1 5 < 2 then (up2 σ.1 p0.toNatClampNeg 2 (nI 1), σ.2.1, σ.2.2.1, σ.2.2.2.1, σ.2.2.2.2.1, σ.2.2.2.2.2) else σ
theorem dlS_at {R C : Nat → Nat → Int32} {n : Nat} {f : Nat → Int32} {d : Nat} {g : Nat → Int32} {i c r : Nat} (hi : i < n) (hn : n < 2 ^ 31) (hc : c < 3) (hr : r < 5) (ec : f (i * 6 + 1) = nI c) (er : f (i * 6 + 2) = nI r) : dlS (R, C, n, f, d, g) (nI i) = dlM (R, C, n - 1, drp f n i, d, g) (f (i * 6 + 0)) c r (f (i * 6 + 3)) (f (i * 6 + 4)) (f (i * 6 + 5)) := by
  unfold dlS
  rw [if_pos (show okI (nI i) (R, C, n, f, d, g).2.2.1 from okI_nI hi hn), nI_clamp (by omega)]
  show dlM (R, C, n - 1, drp f n i, d, g) (f (i * 6 + 0)) (f (i * 6 + 1)).toNatClampNeg (f (i * 6 + 2)).toNatClampNeg (f (i * 6 + 3)) (f (i * 6 + 4)) (f (i * 6 + 5)) = _
  rw [ec, er, nI_clamp (by omega), nI_clamp (by omega)]
theorem dlM_0 {σ : St} {kd : Int32} {c r : Nat} {s t v : Int32} (h : kd = nI 0) : dlM σ kd c r s t v = stAsk σ c r s := if_pos h
theorem dlM_1 {σ : St} {kd : Int32} {c r : Nat} {s t v : Int32} (h : kd = nI 1) : dlM σ kd c r s t v = stTel σ c r s t v := by
  unfold dlM
  rw [if_neg (by rw [h]; decide +kernel), if_pos h]
theorem dlM_2 {σ : St} {kd : Int32} {c r : Nat} {s t v : Int32} (h : kd = nI 2) : dlM σ kd c r s t v = stStr σ c r s t v := by
  unfold dlM
  rw [if_neg (by rw [h]; decide +kernel), if_neg (by rw [h]; decide +kernel), if_pos h]
theorem dlM_3 {σ : St} {kd : Int32} {c r : Nat} {s t v : Int32} (h0 : ¬ kd = nI 0) (h1 : ¬ kd = nI 1) (h2 : ¬ kd = nI 2) : dlM σ kd c r s t v = stStd σ c r s := by
  unfold dlM
  rw [if_neg h0, if_neg h1, if_neg h2]
theorem lkX3_store_18 : Cond.fieldLink RX3 18 "QuorumRegister" "clients" "[LQuorumRegister$Client;" ∈ wsX3_store := by decide +kernel
theorem inX3_store_X3 : ∀ w ∈ wsX30, w ∈ wsX3_store := by decide +kernel
theorem lkX3_store_108 : Cond.fieldLink RX3 108 "QuorumRegister$Client" "writes" "Z" ∈ wsX3_store := by decide +kernel
theorem inX3_store_X0 : ∀ w ∈ wsX00, w ∈ wsX3_store := by decide +kernel
theorem lkX3_store_114 : Cond.fieldLink RX3 114 "QuorumRegister$Client" "tag" "I" ∈ wsX3_store := by decide +kernel
theorem lkX3_store_115 : Cond.fieldLink RX3 115 "QuorumRegister$Client" "value" "I" ∈ wsX3_store := by decide +kernel
theorem lkX3_store_137 : Cond.fieldLink RX3 137 "QuorumRegister$Client" "lastNumber" "I" ∈ wsX3_store := by decide +kernel
theorem wdX3_store_mx1 : Cond.methodLink RX3 140 Lib.Math.max.name ∈ wsX3_store := by decide +kernel
theorem wdX3_store_mx2 : Cond.static Lib.Math.max.name ∈ wsX3_store := by decide +kernel
theorem wdX3_store_mx3 : Cond.initialized "java/lang/Math" ∈ wsX3_store := by decide +kernel
theorem wdX3_store_mx4 : Cond.code Lib.Math.max.name Lib.Math.max.code 2 (some .int) ∈ wsX3_store := by decide +kernel
theorem lkX3_store_111 : Cond.fieldLink RX3 111 "QuorumRegister$Client" "toWrite" "I" ∈ wsX3_store := by decide +kernel
set_option maxHeartbeats 4000000 in
set_option maxRecDepth 100000 in
/-- store(c) -/
theorem k_X3_store (l : Launch) (dC : Nat → ClassId) (dI : Nat → Nat → Nat) (o : Nat → Nat) (k : Nat → ClassId) (R C : Nat → Nat → Int32) (n : Nat) (f : Nat → Int32) (d : Nat) (g : Nat → Int32) (hn : n + 5 ≤ 77) (c : Nat) (lt_c : c < 3) : MetV l yX3_store wsX3_store ({ frames := 4, cells := 0, slots := 0, locals := 96 } : Room) (dC, dI) vwCl (wX o k R C n f d g) (tyX k) [.ref (o 0), .int (nI c)] (wS o k (stSto (R, C, n, f, d, g) c)) := by
  refine MetV.of (cc := cX3_store) (maxL := 4) (ret := none) (by decide) rfl (Nat.le_of_ble_eq_true rfl) rfl ?_
  intro p e s m below meth cd ls A hx hb hr hlk hml hown hts hK hP hD hS hA hl
  have hl : lv_has ls 4 [(0, .ref (o 0)), (1, .int (nI c))] := hl
  refine lv_aload_n hx hb dX3_store_0 rfl (lv_at hl 0 rfl) ?_
  refine va_get (D := (dC, dI)) (ci := 3) (v := .ref (o 2)) (C := RX3) (T := TX3) (N := 4) hx hb hts inX3_store_X3 hown hK hP (0) rfl rfl 1 (by decide) (hts _ lkX3_store_18) (fun _ h9 => h9) rfl dX3_store_1 ?_
  refine lv_iload_n hx hb dX3_store_4 rfl (lv_at hl 1 rfl) ?_
  refine q_aald hx hb hK hP (2) 1 (j := c) rfl rfl lt_c (Nat.le_of_ble_eq_true rfl) dX3_store_5 ?_
  refine lv_astore_n (lv' := [(2, .ref (o (12 + c))), (0, .ref (o 0)), (1, .int (nI c))]) hx hb dX3_store_6 rfl hl (by decide) rfl (fun ls hl => ?_)
  refine lv_aload_n hx hb dX3_store_7 rfl (lv_at hl 0 rfl) ?_
  refine va_get (D := (dC, dI)) (ci := 0) (v := .int (C c 2)) (C := RX0) (T := TX0) (N := 8) hx hb hts inX3_store_X0 hown hK hP (12 + c) (wX_C lt_c) rfl 2 (by decide) (hts _ lkX3_store_108) (fun _ h9 => h9) rfl dX3_store_8 ?_
  refine lv_if_eq (tgt := 52) hx hb dX3_store_11 (by decide) (fun c_11 => ?_) (fun c_11 => ?_)
  · refine lv_aload_n hx hb dX3_store_52 rfl (lv_at hl 0 rfl) ?_
    refine lv_iconst (v := nI 2) hx hb dX3_store_53 (by decide) ?_
    refine goV (ws := (wX o k R C n f d g)) (ws' := (wX o k R (up2 (up2 C c 0 (nI 2)) c 4 (nI 0)) n f d g)) (show qFit (wX o k R C n f d g) (wC (o (12 + c)) (C c)) [(o (12 + c), .inr (0, [.int (nI 2), .int (C c 1), .int (C c 2), .int (C c 3), .int (nI 0), .int (C c 5), .int (C c 6), .int (C c 7)]))] (wX o k R (up2 (up2 C c 0 (nI 2)) c 4 (nI 0)) n f d g) from qFit1 hD (wX_C lt_c) (wX_setC lt_c _ _ _ _ _ _ _ _ (by simp [up2]) (by intro a b h; simp [up2, h]))) hP hD hS hA (va_runV (rm := ({ frames := 0, cells := 0, slots := 0, locals := 0 } : Room)) (As := [.int (nI 2)]) (rest := []) ⟨hx, hb, hml, hown, hts⟩ (MetV.at (k_X0_enter l dC dI (o (12 + c)) (C c) (nI 2)) s.heap.size) (cwV 1 hts gX3_store_X0_enter rfl rfl rfl (by decide +kernel) ⟨Nat.le_of_ble_eq_true rfl, Nat.le_of_ble_eq_true rfl⟩) (preWV (hK.sub [] rfl) (va_P1 hP (wX_C lt_c)) va_D1 (va_recv hK hP (ci := 0) (q0 := 12 + c) rfl (wX_C lt_c))) rfl rfl hl.1 rfl (lv_room (Nat.le_of_ble_eq_true rfl)) dX3_store_54 ⟨Nat.le_of_ble_eq_true rfl, Nat.le_of_ble_eq_true rfl⟩) (fun H locs hP hD hS => ?_)
    rw [show up2 (up2 C c 0 (nI 2)) c 4 (nI 0) = stoC C c from by rw [stoC, if_pos c_11]] at hP hD
    refine lv_aload_n hx hb dX3_store_57 rfl (lv_at hl 1 rfl) ?_
    refine lv_iconst (v := nI 2) hx hb dX3_store_58 (by decide) ?_
    refine lv_iload_n hx hb dX3_store_59 rfl (lv_at hl 2 rfl) ?_
    refine lv_aload_n hx hb dX3_store_60 rfl (lv_at hl 0 rfl) ?_
    refine va_get (D := (dC, dI)) (ci := 0) (v := .int ((stoC C c) c 5)) (C := RX0) (T := TX0) (N := 8) hx hb hts inX3_store_X0 hown hK hP (12 + c) (wX_C lt_c) rfl 5 (by decide) (hts _ lkX3_store_114) (fun _ h9 => h9) rfl dX3_store_61 ?_
    refine lv_aload_n hx hb dX3_store_64 rfl (lv_at hl 0 rfl) ?_
    refine va_get (D := (dC, dI)) (ci := 0) (v := .int ((stoC C c) c 6)) (C := RX0) (T := TX0) (N := 8) hx hb hts inX3_store_X0 hown hK hP (12 + c) (wX_C lt_c) rfl 6 (by decide) (hts _ lkX3_store_115) (fun _ h9 => h9) rfl dX3_store_65 ?_
    refine goV (ws := (wX o k R (stoC C c) n f d g)) (ws' := (wX o k R (stoC C c) (n + 5) (sndN (nI 2) (nI c) ((stoC C c) c 1) ((stoC C c) c 5) ((stoC C c) c 6) f n 5) d g)) (qFit_all rfl) hP hD hS hA (va_runV (rm := ({ frames := 3, cells := 0, slots := 0, locals := 71 } : Room)) (As := [.int (nI 2), .int (nI c), .int ((stoC C c) c 5), .int ((stoC C c) c 6)]) (rest := []) ⟨hx, hb, hml, hown, hts⟩ (MetV.at (k_X3_sendToAll l dC dI o k R (stoC C c) n f d g hn c lt_c (nI 2) ((stoC C c) c 5) ((stoC C c) c 6)) H.size) (cwV 4 hts gX3_store_X3_sendToAll rfl rfl rfl (by decide +kernel) ⟨Nat.le_of_ble_eq_true rfl, Nat.le_of_ble_eq_true rfl⟩) (preWV hK hP hD (va_recv hK hP (ci := 3) (q0 := 0) rfl rfl)) rfl rfl hl.1 rfl (lv_room (Nat.le_of_ble_eq_true rfl)) dX3_store_68 ⟨Nat.le_of_ble_eq_true rfl, Nat.le_of_ble_eq_true rfl⟩) (fun H locs hP hD hS => ?_)
    exact retV hx hb hr hlk dX3_store_71 hS (by rw [stoC1] at hP; exact hP)
  · refine lv_iconst (v := nI 1) hx hb dX3_store_14 (by decide) ?_
    refine lv_aload_n hx hb dX3_store_15 rfl (lv_at hl 0 rfl) ?_
    refine va_get (D := (dC, dI)) (ci := 0) (v := .int (C c 5)) (C := RX0) (T := TX0) (N := 8) hx hb hts inX3_store_X0 hown hK hP (12 + c) (wX_C lt_c) rfl 5 (by decide) (hts _ lkX3_store_114) (fun _ h9 => h9) rfl dX3_store_16 ?_
    refine lv_iconst (v := nI 4) hx hb dX3_store_19 (by decide) ?_
    refine lv_idiv hx hb dX3_store_20 (by decide) ?_
    refine lv_aload_n hx hb dX3_store_21 rfl (lv_at hl 0 rfl) ?_
    refine va_get (D := (dC, dI)) (ci := 0) (v := .int (C c 7)) (C := RX0) (T := TX0) (N := 8) hx hb hts inX3_store_X0 hown hK hP (12 + c) (wX_C lt_c) rfl 7 (by decide) (hts _ lkX3_store_137) (fun _ h9 => h9) rfl dX3_store_22 ?_
    refine va_mmax hx hb (hml.trans hl.1.symm) hown (hts _ wdX3_store_mx1) (hts _ wdX3_store_mx2) (hts _ wdX3_store_mx3) (hts _ wdX3_store_mx4) (Nat.le_of_ble_eq_true rfl) (Nat.le_of_ble_eq_true rfl) (Nat.le_of_ble_eq_true rfl) (Nat.le_of_ble_eq_true rfl) dX3_store_25 ?_
    refine lv_iadd hx hb dX3_store_28 ?_
    refine qtop (y := numC C c) rfl ?_
    refine lv_istore_n (lv' := [(3, .int (numC C c)), (2, .ref (o (12 + c))), (0, .ref (o 0)), (1, .int (nI c))]) hx hb dX3_store_29 rfl hl (by decide) rfl (fun ls hl => ?_)
    refine lv_aload_n hx hb dX3_store_30 rfl (lv_at hl 1 rfl) ?_
    refine lv_iload_n hx hb dX3_store_31 rfl (lv_at hl 0 rfl) ?_
    refine q_put (D := (dC, dI)) (ci := 0) (v := .int (numC C c)) (ty := .int) (C := RX0) (T := TX0) (N := 8) (ws' := (wX o k R (up2 C c 7 (numC C c)) n f d g)) hx hb hts inX3_store_X0 tyX0 tyX0_ok nmX0 hown hK hP hD hS (12 + c) (wX_C lt_c) rfl 7 (by decide) (hts _ lkX3_store_137) (fun _ h9 => h9) rfl (by decide +kernel) rfl rfl (Nat.le_of_ble_eq_true rfl) (wX_setC lt_c _ _ _ _ _ _ _ _ (by simp [up2]) (by intro a b h; simp [up2, h])) dX3_store_32 (fun H locs hP hD hS => ?_)
    refine lv_aload_n hx hb dX3_store_35 rfl (lv_at hl 1 rfl) ?_
    refine lv_iconst (v := nI 4) hx hb dX3_store_36 (by decide) ?_
    refine lv_iload_n hx hb dX3_store_37 rfl (lv_at hl 0 rfl) ?_
    refine lv_imul hx hb dX3_store_38 ?_
    refine lv_iload_n hx hb dX3_store_39 rfl (lv_at hl 3 rfl) ?_
    refine lv_iadd hx hb dX3_store_40 ?_
    refine q_put (D := (dC, dI)) (ci := 0) (v := .int (((nI 4) * (numC C c)) + (nI c))) (ty := .int) (C := RX0) (T := TX0) (N := 8) (ws' := (wX o k R (up2 (up2 C c 7 (numC C c)) c 5 (((nI 4) * (numC C c)) + (nI c))) n f d g)) hx hb hts inX3_store_X0 tyX0 tyX0_ok nmX0 hown hK hP hD hS (12 + c) (wX_C lt_c) rfl 5 (by decide) (hts _ lkX3_store_114) (fun _ h9 => h9) rfl (by decide +kernel) rfl rfl (Nat.le_of_ble_eq_true rfl) (wX_setC lt_c _ _ _ _ _ _ _ _ (by simp [up2]) (by intro a b h; simp [up2, h])) dX3_store_41 (fun H locs hP hD hS => ?_)
    refine lv_aload_n hx hb dX3_store_44 rfl (lv_at hl 1 rfl) ?_
    refine lv_aload_n hx hb dX3_store_45 rfl (lv_at hl 1 rfl) ?_
    refine va_get (D := (dC, dI)) (ci := 0) (v := .int ((up2 (up2 C c 7 (numC C c)) c 5 (((nI 4) * (numC C c)) + (nI c))) c 3)) (C := RX0) (T := TX0) (N := 8) hx hb hts inX3_store_X0 hown hK hP (12 + c) (wX_C lt_c) rfl 3 (by decide) (hts _ lkX3_store_111) (fun _ h9 => h9) rfl dX3_store_46 ?_
    refine qtop (y := C c 3) (by simp [up2]) ?_
    refine q_put (D := (dC, dI)) (ci := 0) (v := .int (C c 3)) (ty := .int) (C := RX0) (T := TX0) (N := 8) (ws' := (wX o k R (up2 (up2 (up2 C c 7 (numC C c)) c 5 (((nI 4) * (numC C c)) + (nI c))) c 6 (C c 3)) n f d g)) hx hb hts inX3_store_X0 tyX0 tyX0_ok nmX0 hown hK hP hD hS (12 + c) (wX_C lt_c) rfl 6 (by decide) (hts _ lkX3_store_115) (fun _ h9 => h9) rfl (by decide +kernel) rfl rfl (Nat.le_of_ble_eq_true rfl) (wX_setC lt_c _ _ _ _ _ _ _ _ (by simp [up2]) (by intro a b h; simp [up2, h])) dX3_store_49 (fun H locs hP hD hS => ?_)
    have hP : va_P (dC, dI) vwCl (wX o k R (wriC C c) n f d g) H := hP
    have hD : va_D A (wX o k R (wriC C c) n f d g) := hD
    refine lv_aload_n hx hb dX3_store_52 rfl (lv_at hl 1 rfl) ?_
    refine lv_iconst (v := nI 2) hx hb dX3_store_53 (by decide) ?_
    refine goV (ws := (wX o k R (wriC C c) n f d g)) (ws' := (wX o k R (up2 (up2 (wriC C c) c 0 (nI 2)) c 4 (nI 0)) n f d g)) (show qFit (wX o k R (wriC C c) n f d g) (wC (o (12 + c)) ((wriC C c) c)) [(o (12 + c), .inr (0, [.int (nI 2), .int ((wriC C c) c 1), .int ((wriC C c) c 2), .int ((wriC C c) c 3), .int (nI 0), .int ((wriC C c) c 5), .int ((wriC C c) c 6), .int ((wriC C c) c 7)]))] (wX o k R (up2 (up2 (wriC C c) c 0 (nI 2)) c 4 (nI 0)) n f d g) from qFit1 hD (wX_C lt_c) (wX_setC lt_c _ _ _ _ _ _ _ _ (by simp [up2]) (by intro a b h; simp [up2, h]))) hP hD hS hA (va_runV (rm := ({ frames := 0, cells := 0, slots := 0, locals := 0 } : Room)) (As := [.int (nI 2)]) (rest := []) ⟨hx, hb, hml, hown, hts⟩ (MetV.at (k_X0_enter l dC dI (o (12 + c)) ((wriC C c) c) (nI 2)) H.size) (cwV 1 hts gX3_store_X0_enter rfl rfl rfl (by decide +kernel) ⟨Nat.le_of_ble_eq_true rfl, Nat.le_of_ble_eq_true rfl⟩) (preWV (hK.sub [] rfl) (va_P1 hP (wX_C lt_c)) va_D1 (va_recv hK hP (ci := 0) (q0 := 12 + c) rfl (wX_C lt_c))) rfl rfl hl.1 rfl (lv_room (Nat.le_of_ble_eq_true rfl)) dX3_store_54 ⟨Nat.le_of_ble_eq_true rfl, Nat.le_of_ble_eq_true rfl⟩) (fun H locs hP hD hS => ?_)
    rw [show up2 (up2 (wriC C c) c 0 (nI 2)) c 4 (nI 0) = stoC C c from by rw [stoC, if_neg c_11]] at hP hD
    refine lv_aload_n hx hb dX3_store_57 rfl (lv_at hl 2 rfl) ?_
    refine lv_iconst (v := nI 2) hx hb dX3_store_58 (by decide) ?_
    refine lv_iload_n hx hb dX3_store_59 rfl (lv_at hl 3 rfl) ?_
    refine lv_aload_n hx hb dX3_store_60 rfl (lv_at hl 1 rfl) ?_
    refine va_get (D := (dC, dI)) (ci := 0) (v := .int ((stoC C c) c 5)) (C := RX0) (T := TX0) (N := 8) hx hb hts inX3_store_X0 hown hK hP (12 + c) (wX_C lt_c) rfl 5 (by decide) (hts _ lkX3_store_114) (fun _ h9 => h9) rfl dX3_store_61 ?_
    refine lv_aload_n hx hb dX3_store_64 rfl (lv_at hl 1 rfl) ?_
    refine va_get (D := (dC, dI)) (ci := 0) (v := .int ((stoC C c) c 6)) (C := RX0) (T := TX0) (N := 8) hx hb hts inX3_store_X0 hown hK hP (12 + c) (wX_C lt_c) rfl 6 (by decide) (hts _ lkX3_store_115) (fun _ h9 => h9) rfl dX3_store_65 ?_
    refine goV (ws := (wX o k R (stoC C c) n f d g)) (ws' := (wX o k R (stoC C c) (n + 5) (sndN (nI 2) (nI c) ((stoC C c) c 1) ((stoC C c) c 5) ((stoC C c) c 6) f n 5) d g)) (qFit_all rfl) hP hD hS hA (va_runV (rm := ({ frames := 3, cells := 0, slots := 0, locals := 71 } : Room)) (As := [.int (nI 2), .int (nI c), .int ((stoC C c) c 5), .int ((stoC C c) c 6)]) (rest := []) ⟨hx, hb, hml, hown, hts⟩ (MetV.at (k_X3_sendToAll l dC dI o k R (stoC C c) n f d g hn c lt_c (nI 2) ((stoC C c) c 5) ((stoC C c) c 6)) H.size) (cwV 4 hts gX3_store_X3_sendToAll rfl rfl rfl (by decide +kernel) ⟨Nat.le_of_ble_eq_true rfl, Nat.le_of_ble_eq_true rfl⟩) (preWV hK hP hD (va_recv hK hP (ci := 3) (q0 := 0) rfl rfl)) rfl rfl hl.1 rfl (lv_room (Nat.le_of_ble_eq_true rfl)) dX3_store_68 ⟨Nat.le_of_ble_eq_true rfl, Nat.le_of_ble_eq_true rfl⟩) (fun H locs hP hD hS => ?_)
    exact retV hx hb hr hlk dX3_store_71 hS (by rw [stoC1] at hP; exact hP)
theorem lkX3_finish_18 : Cond.fieldLink RX3 18 "QuorumRegister" "clients" "[LQuorumRegister$Client;" ∈ wsX3_finish := by decide +kernel
theorem inX3_finish_X3 : ∀ w ∈ wsX30, w ∈ wsX3_finish := by decide +kernel
theorem lkX3_finish_32 : Cond.fieldLink RX3 32 "QuorumRegister" "done" "LQuorumRegister$Rows;" ∈ wsX3_finish := by decide +kernel
theorem lkX3_finish_105 : Cond.fieldLink RX3 105 "QuorumRegister$Client" "serial" "I" ∈ wsX3_finish := by decide +kernel
theorem inX3_finish_X0 : ∀ w ∈ wsX00, w ∈ wsX3_finish := by decide +kernel
theorem lkX3_finish_108 : Cond.fieldLink RX3 108 "QuorumRegister$Client" "writes" "Z" ∈ wsX3_finish := by decide +kernel
theorem lkX3_finish_115 : Cond.fieldLink RX3 115 "QuorumRegister$Client" "value" "I" ∈ wsX3_finish := by decide +kernel
theorem lkX3_finish_114 : Cond.fieldLink RX3 114 "QuorumRegister$Client" "tag" "I" ∈ wsX3_finish := by decide +kernel
set_option maxHeartbeats 4000000 in
set_option maxRecDepth 100000 in
/-- finish(c) -/
theorem k_X3_finish (l : Launch) (dC : Nat → ClassId) (dI : Nat → Nat → Nat) (o : Nat → Nat) (k : Nat → ClassId) (R C : Nat → Nat → Int32) (n : Nat) (f : Nat → Int32) (d : Nat) (g : Nat → Int32) (hd : d < 39) (c : Nat) (lt_c : c < 3) : MetV l yX3_finish wsX3_finish ({ frames := 2, cells := 0, slots := 0, locals := 44 } : Room) (dC, dI) vwCl (wX o k R C n f d g) (tyX k) [.ref (o 0), .int (nI c)] (wS o k (stFin (R, C, n, f, d, g) c)) := by
  refine MetV.of (cc := cX3_finish) (maxL := 4) (ret := none) (by decide) rfl (Nat.le_of_ble_eq_true rfl) rfl ?_
  intro p e s m below meth cd ls A hx hb hr hlk hml hown hts hK hP hD hS hA hl
  have hl : lv_has ls 4 [(0, .ref (o 0)), (1, .int (nI c))] := hl
  refine lv_aload_n hx hb dX3_finish_0 rfl (lv_at hl 0 rfl) ?_
  refine va_get (D := (dC, dI)) (ci := 3) (v := .ref (o 2)) (C := RX3) (T := TX3) (N := 4) hx hb hts inX3_finish_X3 hown hK hP (0) rfl rfl 1 (by decide) (hts _ lkX3_finish_18) (fun _ h9 => h9) rfl dX3_finish_1 ?_
  refine lv_iload_n hx hb dX3_finish_4 rfl (lv_at hl 1 rfl) ?_
  refine q_aald hx hb hK hP (2) 1 (j := c) rfl rfl lt_c (Nat.le_of_ble_eq_true rfl) dX3_finish_5 ?_
  refine lv_astore_n (lv' := [(2, .ref (o (12 + c))), (0, .ref (o 0)), (1, .int (nI c))]) hx hb dX3_finish_6 rfl hl (by decide) rfl (fun ls hl => ?_)
  refine lv_aload_n hx hb dX3_finish_7 rfl (lv_at hl 1 rfl) ?_
  refine va_get (D := (dC, dI)) (ci := 3) (v := .ref (o 5)) (C := RX3) (T := TX3) (N := 4) hx hb hts inX3_finish_X3 hown hK hP (0) rfl rfl 3 (by decide) (hts _ lkX3_finish_32) (fun _ h9 => h9) rfl dX3_finish_8 ?_
  refine goI (ws := (wX o k R C n f d g)) (ws' := (wX o k R C n f (d + 1) g)) (show qFit (wX o k R C n f d g) (wR (o 5) (o 6) (k 3) 5 39 d g) (wR (o 5) (o 6) (k 3) 5 39 (d + 1) g) (wX o k R C n f (d + 1) g) from qFit2 hD (k1 := 5) (k2 := 6) rfl rfl (by decide) rfl) hP hD hS hA (va_runV (rm := ({ frames := 0, cells := 0, slots := 0, locals := 0 } : Room)) (As := []) (rest := []) ⟨hx, hb, hml, hown, hts⟩ (MetI.at (k_X2_add l dC dI (o 5) (o 6) (k 3) 5 39 d g hd (Nat.le_of_ble_eq_true rfl)) s.heap.size) (cwV 0 hts gX3_finish_X2_add rfl rfl rfl (by decide +kernel) ⟨Nat.le_of_ble_eq_true rfl, Nat.le_of_ble_eq_true rfl⟩) (preWV (show va_K (dC, dI) vwCl [(k 3, .int)] s from hK.sub [3] rfl) (show va_P (dC, dI) vwCl (wR (o 5) (o 6) (k 3) 5 39 d g) s.heap from hP.sub [5, 6] rfl) (show va_D A (wR (o 5) (o 6) (k 3) 5 39 d g) from hD.sub [5, 6] (by decide) rfl) (va_recv hK hP (ci := 2) (q0 := 5) rfl rfl)) rfl rfl hl.1 rfl (lv_room (Nat.le_of_ble_eq_true rfl)) dX3_finish_11 ⟨Nat.le_of_ble_eq_true rfl, Nat.le_of_ble_eq_true rfl⟩) (fun H locs hP hD hS => ?_)
  refine lv_istore_n (lv' := [(3, .int (nI d)), (2, .ref (o (12 + c))), (0, .ref (o 0)), (1, .int (nI c))]) hx hb dX3_finish_14 rfl hl (by decide) rfl (fun ls hl => ?_)
  refine lv_aload_n hx hb dX3_finish_15 rfl (lv_at hl 2 rfl) ?_
  refine va_get (D := (dC, dI)) (ci := 3) (v := .ref (o 5)) (C := RX3) (T := TX3) (N := 4) hx hb hts inX3_finish_X3 hown hK hP (0) rfl rfl 3 (by decide) (hts _ lkX3_finish_32) (fun _ h9 => h9) rfl dX3_finish_16 ?_
  refine lv_iload_n hx hb dX3_finish_19 rfl (lv_at hl 0 rfl) ?_
  refine lv_iconst (v := nI 0) hx hb dX3_finish_20 (by decide) ?_
  refine lv_iload_n hx hb dX3_finish_21 rfl (lv_at hl 3 rfl) ?_
  refine goV (ws := (wX o k R C n f (d + 1) g)) (ws' := (wX o k R C n f (d + 1) (upd g (d * 5 + 0) (nI c)))) (show qFit (wX o k R C n f (d + 1) g) (wR (o 5) (o 6) (k 3) 5 39 (d + 1) g) (wR (o 5) (o 6) (k 3) 5 39 (d + 1) (upd g (d * 5 + 0) (nI c))) (wX o k R C n f (d + 1) (upd g (d * 5 + 0) (nI c))) from qFit2 hD (k1 := 5) (k2 := 6) rfl rfl (by decide) rfl) hP hD hS hA (va_runV (rm := ({ frames := 1, cells := 0, slots := 0, locals := 21 } : Room)) (As := [.int (nI d), .int (nI 0), .int (nI c)]) (rest := []) ⟨hx, hb, hml, hown, hts⟩ (MetV.at (k_X2_set l dC dI (o 5) (o 6) (k 3) 5 39 (d + 1) g (by omega) (Nat.le_of_ble_eq_true rfl) (Nat.le_of_ble_eq_true rfl) (Nat.le_of_ble_eq_true rfl) d 0 (Nat.lt_succ_self d) (by decide) (nI c)) H.size) (cwV 3 hts gX3_finish_X2_set rfl rfl rfl (by decide +kernel) ⟨Nat.le_of_ble_eq_true rfl, Nat.le_of_ble_eq_true rfl⟩) (preWV (show va_K (dC, dI) vwCl [(k 3, .int)] s from hK.sub [3] rfl) (show va_P (dC, dI) vwCl (wR (o 5) (o 6) (k 3) 5 39 (d + 1) g) H from hP.sub [5, 6] rfl) (show va_D A (wR (o 5) (o 6) (k 3) 5 39 (d + 1) g) from hD.sub [5, 6] (by decide) rfl) (va_recv hK hP (ci := 2) (q0 := 5) rfl rfl)) rfl rfl hl.1 rfl (lv_room (Nat.le_of_ble_eq_true rfl)) dX3_finish_22 ⟨Nat.le_of_ble_eq_true rfl, Nat.le_of_ble_eq_true rfl⟩) (fun H locs hP hD hS => ?_)
  refine lv_aload_n hx hb dX3_finish_25 rfl (lv_at hl 2 rfl) ?_
  refine va_get (D := (dC, dI)) (ci := 3) (v := .ref (o 5)) (C := RX3) (T := TX3) (N := 4) hx hb hts inX3_finish_X3 hown hK hP (0) rfl rfl 3 (by decide) (hts _ lkX3_finish_32) (fun _ h9 => h9) rfl dX3_finish_26 ?_
  refine lv_iload_n hx hb dX3_finish_29 rfl (lv_at hl 0 rfl) ?_
  refine lv_iconst (v := nI 1) hx hb dX3_finish_30 (by decide) ?_
  refine lv_aload_n hx hb dX3_finish_31 rfl (lv_at hl 1 rfl) ?_
  refine va_get (D := (dC, dI)) (ci := 0) (v := .int (C c 1)) (C := RX0) (T := TX0) (N := 8) hx hb hts inX3_finish_X0 hown hK hP (12 + c) (wX_C lt_c) rfl 1 (by decide) (hts _ lkX3_finish_105) (fun _ h9 => h9) rfl dX3_finish_32 ?_
  refine goV (ws := (wX o k R C n f (d + 1) (upd g (d * 5 + 0) (nI c)))) (ws' := (wX o k R C n f (d + 1) (upd (upd g (d * 5 + 0) (nI c)) (d * 5 + 1) (C c 1)))) (show qFit (wX o k R C n f (d + 1) (upd g (d * 5 + 0) (nI c))) (wR (o 5) (o 6) (k 3) 5 39 (d + 1) (upd g (d * 5 + 0) (nI c))) (wR (o 5) (o 6) (k 3) 5 39 (d + 1) (upd (upd g (d * 5 + 0) (nI c)) (d * 5 + 1) (C c 1))) (wX o k R C n f (d + 1) (upd (upd g (d * 5 + 0) (nI c)) (d * 5 + 1) (C c 1))) from qFit2 hD (k1 := 5) (k2 := 6) rfl rfl (by decide) rfl) hP hD hS hA (va_runV (rm := ({ frames := 1, cells := 0, slots := 0, locals := 21 } : Room)) (As := [.int (nI d), .int (nI 1), .int (C c 1)]) (rest := []) ⟨hx, hb, hml, hown, hts⟩ (MetV.at (k_X2_set l dC dI (o 5) (o 6) (k 3) 5 39 (d + 1) (upd g (d * 5 + 0) (nI c)) (by omega) (Nat.le_of_ble_eq_true rfl) (Nat.le_of_ble_eq_true rfl) (Nat.le_of_ble_eq_true rfl) d 1 (Nat.lt_succ_self d) (by decide) (C c 1)) H.size) (cwV 3 hts gX3_finish_X2_set rfl rfl rfl (by decide +kernel) ⟨Nat.le_of_ble_eq_true rfl, Nat.le_of_ble_eq_true rfl⟩) (preWV (show va_K (dC, dI) vwCl [(k 3, .int)] s from hK.sub [3] rfl) (show va_P (dC, dI) vwCl (wR (o 5) (o 6) (k 3) 5 39 (d + 1) (upd g (d * 5 + 0) (nI c))) H from hP.sub [5, 6] rfl) (show va_D A (wR (o 5) (o 6) (k 3) 5 39 (d + 1) (upd g (d * 5 + 0) (nI c))) from hD.sub [5, 6] (by decide) rfl) (va_recv hK hP (ci := 2) (q0 := 5) rfl rfl)) rfl rfl hl.1 rfl (lv_room (Nat.le_of_ble_eq_true rfl)) dX3_finish_35 ⟨Nat.le_of_ble_eq_true rfl, Nat.le_of_ble_eq_true rfl⟩) (fun H locs hP hD hS => ?_)
  refine lv_aload_n hx hb dX3_finish_38 rfl (lv_at hl 2 rfl) ?_
  refine va_get (D := (dC, dI)) (ci := 3) (v := .ref (o 5)) (C := RX3) (T := TX3) (N := 4) hx hb hts inX3_finish_X3 hown hK hP (0) rfl rfl 3 (by decide) (hts _ lkX3_finish_32) (fun _ h9 => h9) rfl dX3_finish_39 ?_
  refine lv_iload_n hx hb dX3_finish_42 rfl (lv_at hl 0 rfl) ?_
  refine lv_iconst (v := nI 2) hx hb dX3_finish_43 (by decide) ?_
  refine lv_aload_n hx hb dX3_finish_44 rfl (lv_at hl 1 rfl) ?_
  refine va_get (D := (dC, dI)) (ci := 0) (v := .int (C c 2)) (C := RX0) (T := TX0) (N := 8) hx hb hts inX3_finish_X0 hown hK hP (12 + c) (wX_C lt_c) rfl 2 (by decide) (hts _ lkX3_finish_108) (fun _ h9 => h9) rfl dX3_finish_45 ?_
  refine lv_if_eq (tgt := 55) hx hb dX3_finish_48 (by decide) (fun c_48 => ?_) (fun c_48 => ?_)
  · refine lv_iconst (v := nI 0) hx hb dX3_finish_55 (by decide) ?_
    refine goV (ws := (wX o k R C n f (d + 1) (upd (upd g (d * 5 + 0) (nI c)) (d * 5 + 1) (C c 1)))) (ws' := (wX o k R C n f (d + 1) (upd (upd (upd g (d * 5 + 0) (nI c)) (d * 5 + 1) (C c 1)) (d * 5 + 2) (nI 0)))) (show qFit (wX o k R C n f (d + 1) (upd (upd g (d * 5 + 0) (nI c)) (d * 5 + 1) (C c 1))) (wR (o 5) (o 6) (k 3) 5 39 (d + 1) (upd (upd g (d * 5 + 0) (nI c)) (d * 5 + 1) (C c 1))) (wR (o 5) (o 6) (k 3) 5 39 (d + 1) (upd (upd (upd g (d * 5 + 0) (nI c)) (d * 5 + 1) (C c 1)) (d * 5 + 2) (nI 0))) (wX o k R C n f (d + 1) (upd (upd (upd g (d * 5 + 0) (nI c)) (d * 5 + 1) (C c 1)) (d * 5 + 2) (nI 0))) from qFit2 hD (k1 := 5) (k2 := 6) rfl rfl (by decide) rfl) hP hD hS hA (va_runV (rm := ({ frames := 1, cells := 0, slots := 0, locals := 21 } : Room)) (As := [.int (nI d), .int (nI 2), .int (nI 0)]) (rest := []) ⟨hx, hb, hml, hown, hts⟩ (MetV.at (k_X2_set l dC dI (o 5) (o 6) (k 3) 5 39 (d + 1) (upd (upd g (d * 5 + 0) (nI c)) (d * 5 + 1) (C c 1)) (by omega) (Nat.le_of_ble_eq_true rfl) (Nat.le_of_ble_eq_true rfl) (Nat.le_of_ble_eq_true rfl) d 2 (Nat.lt_succ_self d) (by decide) (nI 0)) H.size) (cwV 3 hts gX3_finish_X2_set rfl rfl rfl (by decide +kernel) ⟨Nat.le_of_ble_eq_true rfl, Nat.le_of_ble_eq_true rfl⟩) (preWV (show va_K (dC, dI) vwCl [(k 3, .int)] s from hK.sub [3] rfl) (show va_P (dC, dI) vwCl (wR (o 5) (o 6) (k 3) 5 39 (d + 1) (upd (upd g (d * 5 + 0) (nI c)) (d * 5 + 1) (C c 1))) H from hP.sub [5, 6] rfl) (show va_D A (wR (o 5) (o 6) (k 3) 5 39 (d + 1) (upd (upd g (d * 5 + 0) (nI c)) (d * 5 + 1) (C c 1))) from hD.sub [5, 6] (by decide) rfl) (va_recv hK hP (ci := 2) (q0 := 5) rfl rfl)) rfl rfl hl.1 rfl (lv_room (Nat.le_of_ble_eq_true rfl)) dX3_finish_56 ⟨Nat.le_of_ble_eq_true rfl, Nat.le_of_ble_eq_true rfl⟩) (fun H locs hP hD hS => ?_)
    refine lv_aload_n hx hb dX3_finish_59 rfl (lv_at hl 2 rfl) ?_
    refine va_get (D := (dC, dI)) (ci := 3) (v := .ref (o 5)) (C := RX3) (T := TX3) (N := 4) hx hb hts inX3_finish_X3 hown hK hP (0) rfl rfl 3 (by decide) (hts _ lkX3_finish_32) (fun _ h9 => h9) rfl dX3_finish_60 ?_
    refine lv_iload_n hx hb dX3_finish_63 rfl (lv_at hl 0 rfl) ?_
    refine lv_iconst (v := nI 3) hx hb dX3_finish_64 (by decide) ?_
    refine lv_aload_n hx hb dX3_finish_65 rfl (lv_at hl 1 rfl) ?_
    refine va_get (D := (dC, dI)) (ci := 0) (v := .int (C c 6)) (C := RX0) (T := TX0) (N := 8) hx hb hts inX3_finish_X0 hown hK hP (12 + c) (wX_C lt_c) rfl 6 (by decide) (hts _ lkX3_finish_115) (fun _ h9 => h9) rfl dX3_finish_66 ?_
    refine goV (ws := (wX o k R C n f (d + 1) (upd (upd (upd g (d * 5 + 0) (nI c)) (d * 5 + 1) (C c 1)) (d * 5 + 2) (nI 0)))) (ws' := (wX o k R C n f (d + 1) (upd (upd (upd (upd g (d * 5 + 0) (nI c)) (d * 5 + 1) (C c 1)) (d * 5 + 2) (nI 0)) (d * 5 + 3) (C c 6)))) (show qFit (wX o k R C n f (d + 1) (upd (upd (upd g (d * 5 + 0) (nI c)) (d * 5 + 1) (C c 1)) (d * 5 + 2) (nI 0))) (wR (o 5) (o 6) (k 3) 5 39 (d + 1) (upd (upd (upd g (d * 5 + 0) (nI c)) (d * 5 + 1) (C c 1)) (d * 5 + 2) (nI 0))) (wR (o 5) (o 6) (k 3) 5 39 (d + 1) (upd (upd (upd (upd g (d * 5 + 0) (nI c)) (d * 5 + 1) (C c 1)) (d * 5 + 2) (nI 0)) (d * 5 + 3) (C c 6))) (wX o k R C n f (d + 1) (upd (upd (upd (upd g (d * 5 + 0) (nI c)) (d * 5 + 1) (C c 1)) (d * 5 + 2) (nI 0)) (d * 5 + 3) (C c 6))) from qFit2 hD (k1 := 5) (k2 := 6) rfl rfl (by decide) rfl) hP hD hS hA (va_runV (rm := ({ frames := 1, cells := 0, slots := 0, locals := 21 } : Room)) (As := [.int (nI d), .int (nI 3), .int (C c 6)]) (rest := []) ⟨hx, hb, hml, hown, hts⟩ (MetV.at (k_X2_set l dC dI (o 5) (o 6) (k 3) 5 39 (d + 1) (upd (upd (upd g (d * 5 + 0) (nI c)) (d * 5 + 1) (C c 1)) (d * 5 + 2) (nI 0)) (by omega) (Nat.le_of_ble_eq_true rfl) (Nat.le_of_ble_eq_true rfl) (Nat.le_of_ble_eq_true rfl) d 3 (Nat.lt_succ_self d) (by decide) (C c 6)) H.size) (cwV 3 hts gX3_finish_X2_set rfl rfl rfl (by decide +kernel) ⟨Nat.le_of_ble_eq_true rfl, Nat.le_of_ble_eq_true rfl⟩) (preWV (show va_K (dC, dI) vwCl [(k 3, .int)] s from hK.sub [3] rfl) (show va_P (dC, dI) vwCl (wR (o 5) (o 6) (k 3) 5 39 (d + 1) (upd (upd (upd g (d * 5 + 0) (nI c)) (d * 5 + 1) (C c 1)) (d * 5 + 2) (nI 0))) H from hP.sub [5, 6] rfl) (show va_D A (wR (o 5) (o 6) (k 3) 5 39 (d + 1) (upd (upd (upd g (d * 5 + 0) (nI c)) (d * 5 + 1) (C c 1)) (d * 5 + 2) (nI 0))) from hD.sub [5, 6] (by decide) rfl) (va_recv hK hP (ci := 2) (q0 := 5) rfl rfl)) rfl rfl hl.1 rfl (lv_room (Nat.le_of_ble_eq_true rfl)) dX3_finish_69 ⟨Nat.le_of_ble_eq_true rfl, Nat.le_of_ble_eq_true rfl⟩) (fun H locs hP hD hS => ?_)
    refine lv_aload_n hx hb dX3_finish_72 rfl (lv_at hl 2 rfl) ?_
    refine va_get (D := (dC, dI)) (ci := 3) (v := .ref (o 5)) (C := RX3) (T := TX3) (N := 4) hx hb hts inX3_finish_X3 hown hK hP (0) rfl rfl 3 (by decide) (hts _ lkX3_finish_32) (fun _ h9 => h9) rfl dX3_finish_73 ?_
    refine lv_iload_n hx hb dX3_finish_76 rfl (lv_at hl 0 rfl) ?_
    refine lv_iconst (v := nI 4) hx hb dX3_finish_77 (by decide) ?_
    refine lv_aload_n hx hb dX3_finish_78 rfl (lv_at hl 1 rfl) ?_
    refine va_get (D := (dC, dI)) (ci := 0) (v := .int (C c 5)) (C := RX0) (T := TX0) (N := 8) hx hb hts inX3_finish_X0 hown hK hP (12 + c) (wX_C lt_c) rfl 5 (by decide) (hts _ lkX3_finish_114) (fun _ h9 => h9) rfl dX3_finish_79 ?_
    refine goV (ws := (wX o k R C n f (d + 1) (upd (upd (upd (upd g (d * 5 + 0) (nI c)) (d * 5 + 1) (C c 1)) (d * 5 + 2) (nI 0)) (d * 5 + 3) (C c 6)))) (ws' := (wX o k R C n f (d + 1) (upd (upd (upd (upd (upd g (d * 5 + 0) (nI c)) (d * 5 + 1) (C c 1)) (d * 5 + 2) (nI 0)) (d * 5 + 3) (C c 6)) (d * 5 + 4) (C c 5)))) (show qFit (wX o k R C n f (d + 1) (upd (upd (upd (upd g (d * 5 + 0) (nI c)) (d * 5 + 1) (C c 1)) (d * 5 + 2) (nI 0)) (d * 5 + 3) (C c 6))) (wR (o 5) (o 6) (k 3) 5 39 (d + 1) (upd (upd (upd (upd g (d * 5 + 0) (nI c)) (d * 5 + 1) (C c 1)) (d * 5 + 2) (nI 0)) (d * 5 + 3) (C c 6))) (wR (o 5) (o 6) (k 3) 5 39 (d + 1) (upd (upd (upd (upd (upd g (d * 5 + 0) (nI c)) (d * 5 + 1) (C c 1)) (d * 5 + 2) (nI 0)) (d * 5 + 3) (C c 6)) (d * 5 + 4) (C c 5))) (wX o k R C n f (d + 1) (upd (upd (upd (upd (upd g (d * 5 + 0) (nI c)) (d * 5 + 1) (C c 1)) (d * 5 + 2) (nI 0)) (d * 5 + 3) (C c 6)) (d * 5 + 4) (C c 5))) from qFit2 hD (k1 := 5) (k2 := 6) rfl rfl (by decide) rfl) hP hD hS hA (va_runV (rm := ({ frames := 1, cells := 0, slots := 0, locals := 21 } : Room)) (As := [.int (nI d), .int (nI 4), .int (C c 5)]) (rest := []) ⟨hx, hb, hml, hown, hts⟩ (MetV.at (k_X2_set l dC dI (o 5) (o 6) (k 3) 5 39 (d + 1) (upd (upd (upd (upd g (d * 5 + 0) (nI c)) (d * 5 + 1) (C c 1)) (d * 5 + 2) (nI 0)) (d * 5 + 3) (C c 6)) (by omega) (Nat.le_of_ble_eq_true rfl) (Nat.le_of_ble_eq_true rfl) (Nat.le_of_ble_eq_true rfl) d 4 (Nat.lt_succ_self d) (by decide) (C c 5)) H.size) (cwV 3 hts gX3_finish_X2_set rfl rfl rfl (by decide +kernel) ⟨Nat.le_of_ble_eq_true rfl, Nat.le_of_ble_eq_true rfl⟩) (preWV (show va_K (dC, dI) vwCl [(k 3, .int)] s from hK.sub [3] rfl) (show va_P (dC, dI) vwCl (wR (o 5) (o 6) (k 3) 5 39 (d + 1) (upd (upd (upd (upd g (d * 5 + 0) (nI c)) (d * 5 + 1) (C c 1)) (d * 5 + 2) (nI 0)) (d * 5 + 3) (C c 6))) H from hP.sub [5, 6] rfl) (show va_D A (wR (o 5) (o 6) (k 3) 5 39 (d + 1) (upd (upd (upd (upd g (d * 5 + 0) (nI c)) (d * 5 + 1) (C c 1)) (d * 5 + 2) (nI 0)) (d * 5 + 3) (C c 6))) from hD.sub [5, 6] (by decide) rfl) (va_recv hK hP (ci := 2) (q0 := 5) rfl rfl)) rfl rfl hl.1 rfl (lv_room (Nat.le_of_ble_eq_true rfl)) dX3_finish_82 ⟨Nat.le_of_ble_eq_true rfl, Nat.le_of_ble_eq_true rfl⟩) (fun H locs hP hD hS => ?_)
    refine lv_aload_n hx hb dX3_finish_85 rfl (lv_at hl 1 rfl) ?_
    refine lv_iconst (v := nI 0) hx hb dX3_finish_86 (by decide) ?_
    refine goV (ws := (wX o k R C n f (d + 1) (upd (upd (upd (upd (upd g (d * 5 + 0) (nI c)) (d * 5 + 1) (C c 1)) (d * 5 + 2) (nI 0)) (d * 5 + 3) (C c 6)) (d * 5 + 4) (C c 5)))) (ws' := (wX o k R (up2 (up2 C c 0 (nI 0)) c 4 (nI 0)) n f (d + 1) (upd (upd (upd (upd (upd g (d * 5 + 0) (nI c)) (d * 5 + 1) (C c 1)) (d * 5 + 2) (nI 0)) (d * 5 + 3) (C c 6)) (d * 5 + 4) (C c 5)))) (show qFit (wX o k R C n f (d + 1) (upd (upd (upd (upd (upd g (d * 5 + 0) (nI c)) (d * 5 + 1) (C c 1)) (d * 5 + 2) (nI 0)) (d * 5 + 3) (C c 6)) (d * 5 + 4) (C c 5))) (wC (o (12 + c)) (C c)) [(o (12 + c), .inr (0, [.int (nI 0), .int (C c 1), .int (C c 2), .int (C c 3), .int (nI 0), .int (C c 5), .int (C c 6), .int (C c 7)]))] (wX o k R (up2 (up2 C c 0 (nI 0)) c 4 (nI 0)) n f (d + 1) (upd (upd (upd (upd (upd g (d * 5 + 0) (nI c)) (d * 5 + 1) (C c 1)) (d * 5 + 2) (nI 0)) (d * 5 + 3) (C c 6)) (d * 5 + 4) (C c 5))) from qFit1 hD (wX_C lt_c) (wX_setC lt_c _ _ _ _ _ _ _ _ (by simp [up2]) (by intro a b h; simp [up2, h]))) hP hD hS hA (va_runV (rm := ({ frames := 0, cells := 0, slots := 0, locals := 0 } : Room)) (As := [.int (nI 0)]) (rest := []) ⟨hx, hb, hml, hown, hts⟩ (MetV.at (k_X0_enter l dC dI (o (12 + c)) (C c) (nI 0)) H.size) (cwV 1 hts gX3_finish_X0_enter rfl rfl rfl (by decide +kernel) ⟨Nat.le_of_ble_eq_true rfl, Nat.le_of_ble_eq_true rfl⟩) (preWV (hK.sub [] rfl) (va_P1 hP (wX_C lt_c)) va_D1 (va_recv hK hP (ci := 0) (q0 := 12 + c) rfl (wX_C lt_c))) rfl rfl hl.1 rfl (lv_room (Nat.le_of_ble_eq_true rfl)) dX3_finish_87 ⟨Nat.le_of_ble_eq_true rfl, Nat.le_of_ble_eq_true rfl⟩) (fun H locs hP hD hS => ?_)
    exact retV hx hb hr hlk dX3_finish_90 hS (by show va_P _ _ (wX o k R (idlC C c) n f (d + 1) (fin5 g d (nI c) (C c 1) (if C c 2 = 0 then nI 0 else nI 1) (C c 6) (C c 5))) _; rw [if_pos c_48]; exact hP)
  · refine lv_iconst (v := nI 1) hx hb dX3_finish_51 (by decide) ?_
    refine lv_goto (tgt := 56) hx hb dX3_finish_52 (by decide) ?_
    refine goV (ws := (wX o k R C n f (d + 1) (upd (upd g (d * 5 + 0) (nI c)) (d * 5 + 1) (C c 1)))) (ws' := (wX o k R C n f (d + 1) (upd (upd (upd g (d * 5 + 0) (nI c)) (d * 5 + 1) (C c 1)) (d * 5 + 2) (nI 1)))) (show qFit (wX o k R C n f (d + 1) (upd (upd g (d * 5 + 0) (nI c)) (d * 5 + 1) (C c 1))) (wR (o 5) (o 6) (k 3) 5 39 (d + 1) (upd (upd g (d * 5 + 0) (nI c)) (d * 5 + 1) (C c 1))) (wR (o 5) (o 6) (k 3) 5 39 (d + 1) (upd (upd (upd g (d * 5 + 0) (nI c)) (d * 5 + 1) (C c 1)) (d * 5 + 2) (nI 1))) (wX o k R C n f (d + 1) (upd (upd (upd g (d * 5 + 0) (nI c)) (d * 5 + 1) (C c 1)) (d * 5 + 2) (nI 1))) from qFit2 hD (k1 := 5) (k2 := 6) rfl rfl (by decide) rfl) hP hD hS hA (va_runV (rm := ({ frames := 1, cells := 0, slots := 0, locals := 21 } : Room)) (As := [.int (nI d), .int (nI 2), .int (nI 1)]) (rest := []) ⟨hx, hb, hml, hown, hts⟩ (MetV.at (k_X2_set l dC dI (o 5) (o 6) (k 3) 5 39 (d + 1) (upd (upd g (d * 5 + 0) (nI c)) (d * 5 + 1) (C c 1)) (by omega) (Nat.le_of_ble_eq_true rfl) (Nat.le_of_ble_eq_true rfl) (Nat.le_of_ble_eq_true rfl) d 2 (Nat.lt_succ_self d) (by decide) (nI 1)) H.size) (cwV 3 hts gX3_finish_X2_set rfl rfl rfl (by decide +kernel) ⟨Nat.le_of_ble_eq_true rfl, Nat.le_of_ble_eq_true rfl⟩) (preWV (show va_K (dC, dI) vwCl [(k 3, .int)] s from hK.sub [3] rfl) (show va_P (dC, dI) vwCl (wR (o 5) (o 6) (k 3) 5 39 (d + 1) (upd (upd g (d * 5 + 0) (nI c)) (d * 5 + 1) (C c 1))) H from hP.sub [5, 6] rfl) (show va_D A (wR (o 5) (o 6) (k 3) 5 39 (d + 1) (upd (upd g (d * 5 + 0) (nI c)) (d * 5 + 1) (C c 1))) from hD.sub [5, 6] (by decide) rfl) (va_recv hK hP (ci := 2) (q0 := 5) rfl rfl)) rfl rfl hl.1 rfl (lv_room (Nat.le_of_ble_eq_true rfl)) dX3_finish_56 ⟨Nat.le_of_ble_eq_true rfl, Nat.le_of_ble_eq_true rfl⟩) (fun H locs hP hD hS => ?_)
    refine lv_aload_n hx hb dX3_finish_59 rfl (lv_at hl 2 rfl) ?_
    refine va_get (D := (dC, dI)) (ci := 3) (v := .ref (o 5)) (C := RX3) (T := TX3) (N := 4) hx hb hts inX3_finish_X3 hown hK hP (0) rfl rfl 3 (by decide) (hts _ lkX3_finish_32) (fun _ h9 => h9) rfl dX3_finish_60 ?_
    refine lv_iload_n hx hb dX3_finish_63 rfl (lv_at hl 0 rfl) ?_
    refine lv_iconst (v := nI 3) hx hb dX3_finish_64 (by decide) ?_
    refine lv_aload_n hx hb dX3_finish_65 rfl (lv_at hl 1 rfl) ?_
    refine va_get (D := (dC, dI)) (ci := 0) (v := .int (C c 6)) (C := RX0) (T := TX0) (N := 8) hx hb hts inX3_finish_X0 hown hK hP (12 + c) (wX_C lt_c) rfl 6 (by decide) (hts _ lkX3_finish_115) (fun _ h9 => h9) rfl dX3_finish_66 ?_
    refine goV (ws := (wX o k R C n f (d + 1) (upd (upd (upd g (d * 5 + 0) (nI c)) (d * 5 + 1) (C c 1)) (d * 5 + 2) (nI 1)))) (ws' := (wX o k R C n f (d + 1) (upd (upd (upd (upd g (d * 5 + 0) (nI c)) (d * 5 + 1) (C c 1)) (d * 5 + 2) (nI 1)) (d * 5 + 3) (C c 6)))) (show qFit (wX o k R C n f (d + 1) (upd (upd (upd g (d * 5 + 0) (nI c)) (d * 5 + 1) (C c 1)) (d * 5 + 2) (nI 1))) (wR (o 5) (o 6) (k 3) 5 39 (d + 1) (upd (upd (upd g (d * 5 + 0) (nI c)) (d * 5 + 1) (C c 1)) (d * 5 + 2) (nI 1))) (wR (o 5) (o 6) (k 3) 5 39 (d + 1) (upd (upd (upd (upd g (d * 5 + 0) (nI c)) (d * 5 + 1) (C c 1)) (d * 5 + 2) (nI 1)) (d * 5 + 3) (C c 6))) (wX o k R C n f (d + 1) (upd (upd (upd (upd g (d * 5 + 0) (nI c)) (d * 5 + 1) (C c 1)) (d * 5 + 2) (nI 1)) (d * 5 + 3) (C c 6))) from qFit2 hD (k1 := 5) (k2 := 6) rfl rfl (by decide) rfl) hP hD hS hA (va_runV (rm := ({ frames := 1, cells := 0, slots := 0, locals := 21 } : Room)) (As := [.int (nI d), .int (nI 3), .int (C c 6)]) (rest := []) ⟨hx, hb, hml, hown, hts⟩ (MetV.at (k_X2_set l dC dI (o 5) (o 6) (k 3) 5 39 (d + 1) (upd (upd (upd g (d * 5 + 0) (nI c)) (d * 5 + 1) (C c 1)) (d * 5 + 2) (nI 1)) (by omega) (Nat.le_of_ble_eq_true rfl) (Nat.le_of_ble_eq_true rfl) (Nat.le_of_ble_eq_true rfl) d 3 (Nat.lt_succ_self d) (by decide) (C c 6)) H.size) (cwV 3 hts gX3_finish_X2_set rfl rfl rfl (by decide +kernel) ⟨Nat.le_of_ble_eq_true rfl, Nat.le_of_ble_eq_true rfl⟩) (preWV (show va_K (dC, dI) vwCl [(k 3, .int)] s from hK.sub [3] rfl) (show va_P (dC, dI) vwCl (wR (o 5) (o 6) (k 3) 5 39 (d + 1) (upd (upd (upd g (d * 5 + 0) (nI c)) (d * 5 + 1) (C c 1)) (d * 5 + 2) (nI 1))) H from hP.sub [5, 6] rfl) (show va_D A (wR (o 5) (o 6) (k 3) 5 39 (d + 1) (upd (upd (upd g (d * 5 + 0) (nI c)) (d * 5 + 1) (C c 1)) (d * 5 + 2) (nI 1))) from hD.sub [5, 6] (by decide) rfl) (va_recv hK hP (ci := 2) (q0 := 5) rfl rfl)) rfl rfl hl.1 rfl (lv_room (Nat.le_of_ble_eq_true rfl)) dX3_finish_69 ⟨Nat.le_of_ble_eq_true rfl, Nat.le_of_ble_eq_true rfl⟩) (fun H locs hP hD hS => ?_)
    refine lv_aload_n hx hb dX3_finish_72 rfl (lv_at hl 2 rfl) ?_
    refine va_get (D := (dC, dI)) (ci := 3) (v := .ref (o 5)) (C := RX3) (T := TX3) (N := 4) hx hb hts inX3_finish_X3 hown hK hP (0) rfl rfl 3 (by decide) (hts _ lkX3_finish_32) (fun _ h9 => h9) rfl dX3_finish_73 ?_
    refine lv_iload_n hx hb dX3_finish_76 rfl (lv_at hl 0 rfl) ?_
    refine lv_iconst (v := nI 4) hx hb dX3_finish_77 (by decide) ?_
    refine lv_aload_n hx hb dX3_finish_78 rfl (lv_at hl 1 rfl) ?_
    refine va_get (D := (dC, dI)) (ci := 0) (v := .int (C c 5)) (C := RX0) (T := TX0) (N := 8) hx hb hts inX3_finish_X0 hown hK hP (12 + c) (wX_C lt_c) rfl 5 (by decide) (hts _ lkX3_finish_114) (fun _ h9 => h9) rfl dX3_finish_79 ?_
    refine goV (ws := (wX o k R C n f (d + 1) (upd (upd (upd (upd g (d * 5 + 0) (nI c)) (d * 5 + 1) (C c 1)) (d * 5 + 2) (nI 1)) (d * 5 + 3) (C c 6)))) (ws' := (wX o k R C n f (d + 1) (upd (upd (upd (upd (upd g (d * 5 + 0) (nI c)) (d * 5 + 1) (C c 1)) (d * 5 + 2) (nI 1)) (d * 5 + 3) (C c 6)) (d * 5 + 4) (C c 5)))) (show qFit (wX o k R C n f (d + 1) (upd (upd (upd (upd g (d * 5 + 0) (nI c)) (d * 5 + 1) (C c 1)) (d * 5 + 2) (nI 1)) (d * 5 + 3) (C c 6))) (wR (o 5) (o 6) (k 3) 5 39 (d + 1) (upd (upd (upd (upd g (d * 5 + 0) (nI c)) (d * 5 + 1) (C c 1)) (d * 5 + 2) (nI 1)) (d * 5 + 3) (C c 6))) (wR (o 5) (o 6) (k 3) 5 39 (d + 1) (upd (upd (upd (upd (upd g (d * 5 + 0) (nI c)) (d * 5 + 1) (C c 1)) (d * 5 + 2) (nI 1)) (d * 5 + 3) (C c 6)) (d * 5 + 4) (C c 5))) (wX o k R C n f (d + 1) (upd (upd (upd (upd (upd g (d * 5 + 0) (nI c)) (d * 5 + 1) (C c 1)) (d * 5 + 2) (nI 1)) (d * 5 + 3) (C c 6)) (d * 5 + 4) (C c 5))) from qFit2 hD (k1 := 5) (k2 := 6) rfl rfl (by decide) rfl) hP hD hS hA (va_runV (rm := ({ frames := 1, cells := 0, slots := 0, locals := 21 } : Room)) (As := [.int (nI d), .int (nI 4), .int (C c 5)]) (rest := []) ⟨hx, hb, hml, hown, hts⟩ (MetV.at (k_X2_set l dC dI (o 5) (o 6) (k 3) 5 39 (d + 1) (upd (upd (upd (upd g (d * 5 + 0) (nI c)) (d * 5 + 1) (C c 1)) (d * 5 + 2) (nI 1)) (d * 5 + 3) (C c 6)) (by omega) (Nat.le_of_ble_eq_true rfl) (Nat.le_of_ble_eq_true rfl) (Nat.le_of_ble_eq_true rfl) d 4 (Nat.lt_succ_self d) (by decide) (C c 5)) H.size) (cwV 3 hts gX3_finish_X2_set rfl rfl rfl (by decide +kernel) ⟨Nat.le_of_ble_eq_true rfl, Nat.le_of_ble_eq_true rfl⟩) (preWV (show va_K (dC, dI) vwCl [(k 3, .int)] s from hK.sub [3] rfl) (show va_P (dC, dI) vwCl (wR (o 5) (o 6) (k 3) 5 39 (d + 1) (upd (upd (upd (upd g (d * 5 + 0) (nI c)) (d * 5 + 1) (C c 1)) (d * 5 + 2) (nI 1)) (d * 5 + 3) (C c 6))) H from hP.sub [5, 6] rfl) (show va_D A (wR (o 5) (o 6) (k 3) 5 39 (d + 1) (upd (upd (upd (upd g (d * 5 + 0) (nI c)) (d * 5 + 1) (C c 1)) (d * 5 + 2) (nI 1)) (d * 5 + 3) (C c 6))) from hD.sub [5, 6] (by decide) rfl) (va_recv hK hP (ci := 2) (q0 := 5) rfl rfl)) rfl rfl hl.1 rfl (lv_room (Nat.le_of_ble_eq_true rfl)) dX3_finish_82 ⟨Nat.le_of_ble_eq_true rfl, Nat.le_of_ble_eq_true rfl⟩) (fun H locs hP hD hS => ?_)
    refine lv_aload_n hx hb dX3_finish_85 rfl (lv_at hl 1 rfl) ?_
    refine lv_iconst (v := nI 0) hx hb dX3_finish_86 (by decide) ?_
    refine goV (ws := (wX o k R C n f (d + 1) (upd (upd (upd (upd (upd g (d * 5 + 0) (nI c)) (d * 5 + 1) (C c 1)) (d * 5 + 2) (nI 1)) (d * 5 + 3) (C c 6)) (d * 5 + 4) (C c 5)))) (ws' := (wX o k R (up2 (up2 C c 0 (nI 0)) c 4 (nI 0)) n f (d + 1) (upd (upd (upd (upd (upd g (d * 5 + 0) (nI c)) (d * 5 + 1) (C c 1)) (d * 5 + 2) (nI 1)) (d * 5 + 3) (C c 6)) (d * 5 + 4) (C c 5)))) (show qFit (wX o k R C n f (d + 1) (upd (upd (upd (upd (upd g (d * 5 + 0) (nI c)) (d * 5 + 1) (C c 1)) (d * 5 + 2) (nI 1)) (d * 5 + 3) (C c 6)) (d * 5 + 4) (C c 5))) (wC (o (12 + c)) (C c)) [(o (12 + c), .inr (0, [.int (nI 0), .int (C c 1), .int (C c 2), .int (C c 3), .int (nI 0), .int (C c 5), .int (C c 6), .int (C c 7)]))] (wX o k R (up2 (up2 C c 0 (nI 0)) c 4 (nI 0)) n f (d + 1) (upd (upd (upd (upd (upd g (d * 5 + 0) (nI c)) (d * 5 + 1) (C c 1)) (d * 5 + 2) (nI 1)) (d * 5 + 3) (C c 6)) (d * 5 + 4) (C c 5))) from qFit1 hD (wX_C lt_c) (wX_setC lt_c _ _ _ _ _ _ _ _ (by simp [up2]) (by intro a b h; simp [up2, h]))) hP hD hS hA (va_runV (rm := ({ frames := 0, cells := 0, slots := 0, locals := 0 } : Room)) (As := [.int (nI 0)]) (rest := []) ⟨hx, hb, hml, hown, hts⟩ (MetV.at (k_X0_enter l dC dI (o (12 + c)) (C c) (nI 0)) H.size) (cwV 1 hts gX3_finish_X0_enter rfl rfl rfl (by decide +kernel) ⟨Nat.le_of_ble_eq_true rfl, Nat.le_of_ble_eq_true rfl⟩) (preWV (hK.sub [] rfl) (va_P1 hP (wX_C lt_c)) va_D1 (va_recv hK hP (ci := 0) (q0 := 12 + c) rfl (wX_C lt_c))) rfl rfl hl.1 rfl (lv_room (Nat.le_of_ble_eq_true rfl)) dX3_finish_87 ⟨Nat.le_of_ble_eq_true rfl, Nat.le_of_ble_eq_true rfl⟩) (fun H locs hP hD hS => ?_)
    exact retV hx hb hr hlk dX3_finish_90 hS (by show va_P _ _ (wX o k R (idlC C c) n f (d + 1) (fin5 g d (nI c) (C c 1) (if C c 2 = 0 then nI 0 else nI 1) (C c 6) (C c 5))) _; rw [if_neg c_48]; exact hP)
theorem lkX3_takeAsk_11 : Cond.fieldLink RX3 11 "QuorumRegister" "replicas" "[LQuorumRegister$Replica;" ∈ wsX3_takeAsk := by decide +kernel
theorem inX3_takeAsk_X3 : ∀ w ∈ wsX30, w ∈ wsX3_takeAsk := by decide +kernel
theorem lkX3_takeAsk_88 : Cond.fieldLink RX3 88 "QuorumRegister$Replica" "failed" "Z" ∈ wsX3_takeAsk := by decide +kernel
theorem inX3_takeAsk_X1 : ∀ w ∈ wsX10, w ∈ wsX3_takeAsk := by decide +kernel
theorem lkX3_takeAsk_96 : Cond.fieldLink RX3 96 "QuorumRegister$Replica" "tag" "I" ∈ wsX3_takeAsk := by decide +kernel
theorem lkX3_takeAsk_99 : Cond.fieldLink RX3 99 "QuorumRegister$Replica" "value" "I" ∈ wsX3_takeAsk := by decide +kernel
set_option maxHeartbeats 4000000 in
set_option maxRecDepth 100000 in
/-- takeAsk(c, r, serial) -/
theorem k_X3_takeAsk (l : Launch) (dC : Nat → ClassId) (dI : Nat → Nat → Nat) (o : Nat → Nat) (k : Nat → ClassId) (R C : Nat → Nat → Int32) (n : Nat) (f : Nat → Int32) (d : Nat) (g : Nat → Int32) (hn : n < 77) (c r : Nat) (lt_c : c < 3) (lt_r : r < 5) (zs : Int32) : MetV l yX3_takeAsk wsX3_takeAsk ({ frames := 3, cells := 0, slots := 0, locals := 71 } : Room) (dC, dI) vwCl (wX o k R C n f d g) (tyX k) [.ref (o 0), .int (nI c), .int (nI r), .int zs] (wS o k (stAsk (R, C, n, f, d, g) c r zs)) := by
  refine MetV.of (cc := cX3_takeAsk) (maxL := 5) (ret := none) (by decide) rfl (Nat.le_of_ble_eq_true rfl) rfl ?_
  intro p e s m below meth cd ls A hx hb hr hlk hml hown hts hK hP hD hS hA hl
  have hl : lv_has ls 5 [(0, .ref (o 0)), (1, .int (nI c)), (2, .int (nI r)), (3, .int zs)] := hl
  refine lv_aload_n hx hb dX3_takeAsk_0 rfl (lv_at hl 0 rfl) ?_
  refine va_get (D := (dC, dI)) (ci := 3) (v := .ref (o 1)) (C := RX3) (T := TX3) (N := 4) hx hb hts inX3_takeAsk_X3 hown hK hP (0) rfl rfl 0 (by decide) (hts _ lkX3_takeAsk_11) (fun _ h9 => h9) rfl dX3_takeAsk_1 ?_
  refine lv_iload_n hx hb dX3_takeAsk_4 rfl (lv_at hl 2 rfl) ?_
  refine q_aald hx hb hK hP (1) 0 (j := r) rfl rfl lt_r (Nat.le_of_ble_eq_true rfl) dX3_takeAsk_5 ?_
  refine lv_astore (lv' := [(4, .ref (o (7 + r))), (0, .ref (o 0)), (1, .int (nI c)), (2, .int (nI r)), (3, .int zs)]) hx hb dX3_takeAsk_6 hl (by decide) rfl (fun ls hl => ?_)
  refine lv_aload hx hb dX3_takeAsk_8 (lv_at hl 0 rfl) ?_
  refine va_get (D := (dC, dI)) (ci := 1) (v := .int (R r 2)) (C := RX1) (T := TX1) (N := 3) hx hb hts inX3_takeAsk_X1 hown hK hP (7 + r) (wX_R lt_r) rfl 2 (by decide) (hts _ lkX3_takeAsk_88) (fun _ h9 => h9) rfl dX3_takeAsk_10 ?_
  refine lv_if_eq (tgt := 17) hx hb dX3_takeAsk_13 (by decide) (fun c_13 => ?_) (fun c_13 => ?_)
  · refine lv_aload_n hx hb dX3_takeAsk_17 rfl (lv_at hl 1 rfl) ?_
    refine lv_iconst (v := nI 1) hx hb dX3_takeAsk_18 (by decide) ?_
    refine lv_iload_n hx hb dX3_takeAsk_19 rfl (lv_at hl 2 rfl) ?_
    refine lv_iload_n hx hb dX3_takeAsk_20 rfl (lv_at hl 3 rfl) ?_
    refine lv_iload_n hx hb dX3_takeAsk_21 rfl (lv_at hl 4 rfl) ?_
    refine lv_aload hx hb dX3_takeAsk_22 (lv_at hl 0 rfl) ?_
    refine va_get (D := (dC, dI)) (ci := 1) (v := .int (R r 0)) (C := RX1) (T := TX1) (N := 3) hx hb hts inX3_takeAsk_X1 hown hK hP (7 + r) (wX_R lt_r) rfl 0 (by decide) (hts _ lkX3_takeAsk_96) (fun _ h9 => h9) rfl dX3_takeAsk_24 ?_
    refine lv_aload hx hb dX3_takeAsk_27 (lv_at hl 0 rfl) ?_
    refine va_get (D := (dC, dI)) (ci := 1) (v := .int (R r 1)) (C := RX1) (T := TX1) (N := 3) hx hb hts inX3_takeAsk_X1 hown hK hP (7 + r) (wX_R lt_r) rfl 1 (by decide) (hts _ lkX3_takeAsk_99) (fun _ h9 => h9) rfl dX3_takeAsk_29 ?_
    refine goV (ws := (wX o k R C n f d g)) (ws' := (wX o k R C (n + 1) (snd6 f n (nI 1) (nI c) (nI r) zs (R r 0) (R r 1)) d g)) (qFit_all rfl) hP hD hS hA (va_runV (rm := ({ frames := 2, cells := 0, slots := 0, locals := 44 } : Room)) (As := [.int (nI 1), .int (nI c), .int (nI r), .int zs, .int (R r 0), .int (R r 1)]) (rest := []) ⟨hx, hb, hml, hown, hts⟩ (MetV.at (k_X3_send l dC dI o k R C n f d g hn (nI 1) (nI c) (nI r) zs (R r 0) (R r 1)) s.heap.size) (cwV 6 hts gX3_takeAsk_X3_send rfl rfl rfl (by decide +kernel) ⟨Nat.le_of_ble_eq_true rfl, Nat.le_of_ble_eq_true rfl⟩) (preWV hK hP hD (va_recv hK hP (ci := 3) (q0 := 0) rfl rfl)) rfl rfl hl.1 rfl (lv_room (Nat.le_of_ble_eq_true rfl)) dX3_takeAsk_32 ⟨Nat.le_of_ble_eq_true rfl, Nat.le_of_ble_eq_true rfl⟩) (fun H locs hP hD hS => ?_)
    exact retV hx hb hr hlk dX3_takeAsk_35 hS (by rw [stAsk, if_pos c_13]; exact hP)
  · exact retV hx hb hr hlk dX3_takeAsk_16 hS (by rw [stAsk, if_neg c_13]; exact hP)
theorem lkX3_takeStore_11 : Cond.fieldLink RX3 11 "QuorumRegister" "replicas" "[LQuorumRegister$Replica;" ∈ wsX3_takeStore := by decide +kernel
theorem inX3_takeStore_X3 : ∀ w ∈ wsX30, w ∈ wsX3_takeStore := by decide +kernel
theorem lkX3_takeStore_88 : Cond.fieldLink RX3 88 "QuorumRegister$Replica" "failed" "Z" ∈ wsX3_takeStore := by decide +kernel
theorem inX3_takeStore_X1 : ∀ w ∈ wsX10, w ∈ wsX3_takeStore := by decide +kernel
theorem lkX3_takeStore_96 : Cond.fieldLink RX3 96 "QuorumRegister$Replica" "tag" "I" ∈ wsX3_takeStore := by decide +kernel
theorem lkX3_takeStore_99 : Cond.fieldLink RX3 99 "QuorumRegister$Replica" "value" "I" ∈ wsX3_takeStore := by decide +kernel
set_option maxHeartbeats 4000000 in
set_option maxRecDepth 100000 in
/-- takeStore(c, r, serial, tag, value) -/
theorem k_X3_takeStore (l : Launch) (dC : Nat → ClassId) (dI : Nat → Nat → Nat) (o : Nat → Nat) (k : Nat → ClassId) (R C : Nat → Nat → Int32) (n : Nat) (f : Nat → Int32) (d : Nat) (g : Nat → Int32) (hn : n < 77) (c r : Nat) (lt_c : c < 3) (lt_r : r < 5) (zs zt zv : Int32) : MetV l yX3_takeStore wsX3_takeStore ({ frames := 3, cells := 0, slots := 0, locals := 71 } : Room) (dC, dI) vwCl (wX o k R C n f d g) (tyX k) [.ref (o 0), .int (nI c), .int (nI r), .int zs, .int zt, .int zv] (wS o k (stStr (R, C, n, f, d, g) c r zs zt zv)) := by
  refine MetV.of (cc := cX3_takeStore) (maxL := 7) (ret := none) (by decide) rfl (Nat.le_of_ble_eq_true rfl) rfl ?_
  intro p e s m below meth cd ls A hx hb hr hlk hml hown hts hK hP hD hS hA hl
  have hl : lv_has ls 7 [(0, .ref (o 0)), (1, .int (nI c)), (2, .int (nI r)), (3, .int zs), (4, .int zt), (5, .int zv)] := hl
  refine lv_aload_n hx hb dX3_takeStore_0 rfl (lv_at hl 0 rfl) ?_
  refine va_get (D := (dC, dI)) (ci := 3) (v := .ref (o 1)) (C := RX3) (T := TX3) (N := 4) hx hb hts inX3_takeStore_X3 hown hK hP (0) rfl rfl 0 (by decide) (hts _ lkX3_takeStore_11) (fun _ h9 => h9) rfl dX3_takeStore_1 ?_
  refine lv_iload_n hx hb dX3_takeStore_4 rfl (lv_at hl 2 rfl) ?_
  refine q_aald hx hb hK hP (1) 0 (j := r) rfl rfl lt_r (Nat.le_of_ble_eq_true rfl) dX3_takeStore_5 ?_
  refine lv_astore (lv' := [(6, .ref (o (7 + r))), (0, .ref (o 0)), (1, .int (nI c)), (2, .int (nI r)), (3, .int zs), (4, .int zt), (5, .int zv)]) hx hb dX3_takeStore_6 hl (by decide) rfl (fun ls hl => ?_)
  refine lv_aload hx hb dX3_takeStore_8 (lv_at hl 0 rfl) ?_
  refine va_get (D := (dC, dI)) (ci := 1) (v := .int (R r 2)) (C := RX1) (T := TX1) (N := 3) hx hb hts inX3_takeStore_X1 hown hK hP (7 + r) (wX_R lt_r) rfl 2 (by decide) (hts _ lkX3_takeStore_88) (fun _ h9 => h9) rfl dX3_takeStore_10 ?_
  refine lv_if_eq (tgt := 17) hx hb dX3_takeStore_13 (by decide) (fun c_13 => ?_) (fun c_13 => ?_)
  · refine lv_iload hx hb dX3_takeStore_17 (lv_at hl 5 rfl) ?_
    refine lv_aload hx hb dX3_takeStore_19 (lv_at hl 0 rfl) ?_
    refine va_get (D := (dC, dI)) (ci := 1) (v := .int (R r 0)) (C := RX1) (T := TX1) (N := 3) hx hb hts inX3_takeStore_X1 hown hK hP (7 + r) (wX_R lt_r) rfl 0 (by decide) (hts _ lkX3_takeStore_96) (fun _ h9 => h9) rfl dX3_takeStore_21 ?_
    refine lv_icmp_le (tgt := 41) hx hb dX3_takeStore_24 (by decide) (fun c_24 => ?_) (fun c_24 => ?_)
    · refine lv_aload_n hx hb dX3_takeStore_41 rfl (lv_at hl 1 rfl) ?_
      refine lv_iconst (v := nI 3) hx hb dX3_takeStore_42 (by decide) ?_
      refine lv_iload_n hx hb dX3_takeStore_43 rfl (lv_at hl 2 rfl) ?_
      refine lv_iload_n hx hb dX3_takeStore_44 rfl (lv_at hl 3 rfl) ?_
      refine lv_iload_n hx hb dX3_takeStore_45 rfl (lv_at hl 4 rfl) ?_
      refine lv_iconst (v := nI 0) hx hb dX3_takeStore_46 (by decide) ?_
      refine lv_iconst (v := nI 0) hx hb dX3_takeStore_47 (by decide) ?_
      refine goV (ws := (wX o k R C n f d g)) (ws' := (wX o k R C (n + 1) (snd6 f n (nI 3) (nI c) (nI r) zs (nI 0) (nI 0)) d g)) (qFit_all rfl) hP hD hS hA (va_runV (rm := ({ frames := 2, cells := 0, slots := 0, locals := 44 } : Room)) (As := [.int (nI 3), .int (nI c), .int (nI r), .int zs, .int (nI 0), .int (nI 0)]) (rest := []) ⟨hx, hb, hml, hown, hts⟩ (MetV.at (k_X3_send l dC dI o k R C n f d g hn (nI 3) (nI c) (nI r) zs (nI 0) (nI 0)) s.heap.size) (cwV 6 hts gX3_takeStore_X3_send rfl rfl rfl (by decide +kernel) ⟨Nat.le_of_ble_eq_true rfl, Nat.le_of_ble_eq_true rfl⟩) (preWV hK hP hD (va_recv hK hP (ci := 3) (q0 := 0) rfl rfl)) rfl rfl hl.1 rfl (lv_room (Nat.le_of_ble_eq_true rfl)) dX3_takeStore_48 ⟨Nat.le_of_ble_eq_true rfl, Nat.le_of_ble_eq_true rfl⟩) (fun H locs hP hD hS => ?_)
      exact retV hx hb hr hlk dX3_takeStore_51 hS (by rw [stStr, if_pos c_13]; show va_P _ _ (wX o k (if zt ≤ R r 0 then R else up2 (up2 R r 0 zt) r 1 zv) C (n + 1) (snd6 f n (nI 3) (nI c) (nI r) zs (nI 0) (nI 0)) d g) _; rw [if_pos c_24]; exact hP)
    · refine lv_aload hx hb dX3_takeStore_27 (lv_at hl 0 rfl) ?_
      refine lv_iload hx hb dX3_takeStore_29 (lv_at hl 5 rfl) ?_
      refine q_put (D := (dC, dI)) (ci := 1) (v := .int zt) (ty := .int) (C := RX1) (T := TX1) (N := 3) (ws' := (wX o k (up2 R r 0 zt) C n f d g)) hx hb hts inX3_takeStore_X1 tyX1 tyX1_ok nmX1 hown hK hP hD hS (7 + r) (wX_R lt_r) rfl 0 (by decide) (hts _ lkX3_takeStore_96) (fun _ h9 => h9) rfl (by decide +kernel) rfl rfl (Nat.le_of_ble_eq_true rfl) (wX_setR lt_r _ _ _ (by simp [up2]) (by intro a b h; simp [up2, h])) dX3_takeStore_31 (fun H locs hP hD hS => ?_)
      refine lv_aload hx hb dX3_takeStore_34 (lv_at hl 0 rfl) ?_
      refine lv_iload hx hb dX3_takeStore_36 (lv_at hl 6 rfl) ?_
      refine q_put (D := (dC, dI)) (ci := 1) (v := .int zv) (ty := .int) (C := RX1) (T := TX1) (N := 3) (ws' := (wX o k (up2 (up2 R r 0 zt) r 1 zv) C n f d g)) hx hb hts inX3_takeStore_X1 tyX1 tyX1_ok nmX1 hown hK hP hD hS (7 + r) (wX_R lt_r) rfl 1 (by decide) (hts _ lkX3_takeStore_99) (fun _ h9 => h9) rfl (by decide +kernel) rfl rfl (Nat.le_of_ble_eq_true rfl) (wX_setR lt_r _ _ _ (by simp [up2]) (by intro a b h; simp [up2, h])) dX3_takeStore_38 (fun H locs hP hD hS => ?_)
      refine lv_aload_n hx hb dX3_takeStore_41 rfl (lv_at hl 1 rfl) ?_
      refine lv_iconst (v := nI 3) hx hb dX3_takeStore_42 (by decide) ?_
      refine lv_iload_n hx hb dX3_takeStore_43 rfl (lv_at hl 2 rfl) ?_
      refine lv_iload_n hx hb dX3_takeStore_44 rfl (lv_at hl 3 rfl) ?_
      refine lv_iload_n hx hb dX3_takeStore_45 rfl (lv_at hl 4 rfl) ?_
      refine lv_iconst (v := nI 0) hx hb dX3_takeStore_46 (by decide) ?_
      refine lv_iconst (v := nI 0) hx hb dX3_takeStore_47 (by decide) ?_
      refine goV (ws := (wX o k (up2 (up2 R r 0 zt) r 1 zv) C n f d g)) (ws' := (wX o k (up2 (up2 R r 0 zt) r 1 zv) C (n + 1) (snd6 f n (nI 3) (nI c) (nI r) zs (nI 0) (nI 0)) d g)) (qFit_all rfl) hP hD hS hA (va_runV (rm := ({ frames := 2, cells := 0, slots := 0, locals := 44 } : Room)) (As := [.int (nI 3), .int (nI c), .int (nI r), .int zs, .int (nI 0), .int (nI 0)]) (rest := []) ⟨hx, hb, hml, hown, hts⟩ (MetV.at (k_X3_send l dC dI o k (up2 (up2 R r 0 zt) r 1 zv) C n f d g hn (nI 3) (nI c) (nI r) zs (nI 0) (nI 0)) H.size) (cwV 6 hts gX3_takeStore_X3_send rfl rfl rfl (by decide +kernel) ⟨Nat.le_of_ble_eq_true rfl, Nat.le_of_ble_eq_true rfl⟩) (preWV hK hP hD (va_recv hK hP (ci := 3) (q0 := 0) rfl rfl)) rfl rfl hl.1 rfl (lv_room (Nat.le_of_ble_eq_true rfl)) dX3_takeStore_48 ⟨Nat.le_of_ble_eq_true rfl, Nat.le_of_ble_eq_true rfl⟩) (fun H locs hP hD hS => ?_)
      exact retV hx hb hr hlk dX3_takeStore_51 hS (by rw [stStr, if_pos c_13]; show va_P _ _ (wX o k (if zt ≤ R r 0 then R else up2 (up2 R r 0 zt) r 1 zv) C (n + 1) (snd6 f n (nI 3) (nI c) (nI r) zs (nI 0) (nI 0)) d g) _; rw [if_neg c_24]; exact hP)
  · exact retV hx hb hr hlk dX3_takeStore_16 hS (by rw [stStr, if_neg c_13]; exact hP)
theorem lkX3_takeTell_18 : Cond.fieldLink RX3 18 "QuorumRegister" "clients" "[LQuorumRegister$Client;" ∈ wsX3_takeTell := by decide +kernel
theorem inX3_takeTell_X3 : ∀ w ∈ wsX30, w ∈ wsX3_takeTell := by decide +kernel
theorem lkX3_takeTell_114 : Cond.fieldLink RX3 114 "QuorumRegister$Client" "tag" "I" ∈ wsX3_takeTell := by decide +kernel
theorem inX3_takeTell_X0 : ∀ w ∈ wsX00, w ∈ wsX3_takeTell := by decide +kernel
theorem lkX3_takeTell_115 : Cond.fieldLink RX3 115 "QuorumRegister$Client" "value" "I" ∈ wsX3_takeTell := by decide +kernel
set_option maxHeartbeats 4000000 in
set_option maxRecDepth 100000 in
/-- takeTell(c, r, serial, tag, value) -/
theorem k_X3_takeTell (l : Launch) (dC : Nat → ClassId) (dI : Nat → Nat → Nat) (o : Nat → Nat) (k : Nat → ClassId) (R C : Nat → Nat → Int32) (n : Nat) (f : Nat → Int32) (d : Nat) (g : Nat → Int32) (c r : Nat) (lt_c : c < 3) (lt_r : r < 5) (a : Nat) (ha : a < 32) (hF : C c 4 = nI a) (hn : C c 0 = nI 1 → n + 5 ≤ 77) (zs zt zv : Int32) : MetV l yX3_takeTell wsX3_takeTell ({ frames := 5, cells := 0, slots := 0, locals := 119 } : Room) (dC, dI) vwCl (wX o k R C n f d g) (tyX k) [.ref (o 0), .int (nI c), .int (nI r), .int zs, .int zt, .int zv] (wS o k (stTel (R, C, n, f, d, g) c r zs zt zv)) := by
  refine MetV.of (cc := cX3_takeTell) (maxL := 7) (ret := none) (by decide) rfl (Nat.le_of_ble_eq_true rfl) rfl ?_
  intro p e s m below meth cd ls A hx hb hr hlk hml hown hts hK hP hD hS hA hl
  have hl : lv_has ls 7 [(0, .ref (o 0)), (1, .int (nI c)), (2, .int (nI r)), (3, .int zs), (4, .int zt), (5, .int zv)] := hl
  refine lv_aload_n hx hb dX3_takeTell_0 rfl (lv_at hl 0 rfl) ?_
  refine va_get (D := (dC, dI)) (ci := 3) (v := .ref (o 2)) (C := RX3) (T := TX3) (N := 4) hx hb hts inX3_takeTell_X3 hown hK hP (0) rfl rfl 1 (by decide) (hts _ lkX3_takeTell_18) (fun _ h9 => h9) rfl dX3_takeTell_1 ?_
  refine lv_iload_n hx hb dX3_takeTell_4 rfl (lv_at hl 1 rfl) ?_
  refine q_aald hx hb hK hP (2) 1 (j := c) rfl rfl lt_c (Nat.le_of_ble_eq_true rfl) dX3_takeTell_5 ?_
  refine lv_astore (lv' := [(6, .ref (o (12 + c))), (0, .ref (o 0)), (1, .int (nI c)), (2, .int (nI r)), (3, .int zs), (4, .int zt), (5, .int zv)]) hx hb dX3_takeTell_6 hl (by decide) rfl (fun ls hl => ?_)
  refine lv_aload hx hb dX3_takeTell_8 (lv_at hl 0 rfl) ?_
  refine lv_iconst (v := nI 1) hx hb dX3_takeTell_10 (by decide) ?_
  refine lv_iload_n hx hb dX3_takeTell_11 rfl (lv_at hl 3 rfl) ?_
  refine lv_iload_n hx hb dX3_takeTell_12 rfl (lv_at hl 4 rfl) ?_
  refine goS (va_runV (rm := ({ frames := 0, cells := 0, slots := 0, locals := 0 } : Room)) (As := [.int (nI 1), .int (nI r), .int zs]) (rest := []) ⟨hx, hb, hml, hown, hts⟩ (MetS.at (k_X0_awaits l dC dI (o (12 + c)) (C c) (nI 1) (nI r) zs)) (cwV 3 hts gX3_takeTell_X0_awaits rfl rfl rfl (by decide +kernel) ⟨Nat.le_of_ble_eq_true rfl, Nat.le_of_ble_eq_true rfl⟩) (preSV (hK.sub [] rfl) (va_P1 hP (wX_C lt_c)) (va_recv hK hP (ci := 0) (q0 := 12 + c) rfl (wX_C lt_c))) rfl rfl hl.1 rfl (lv_room (Nat.le_of_ble_eq_true rfl)) dX3_takeTell_13 ⟨Nat.le_of_ble_eq_true rfl, Nat.le_of_ble_eq_true rfl⟩) ?_
  refine lv_if_ne (tgt := 20) hx hb dX3_takeTell_16 (by decide) (fun c_16 => ?_) (fun c_16 => ?_)
  · have c_16 := it_yes c_16
    refine lv_aload hx hb dX3_takeTell_20 (lv_at hl 0 rfl) ?_
    refine lv_iload_n hx hb dX3_takeTell_22 rfl (lv_at hl 3 rfl) ?_
    refine goV (ws := (wX o k R C n f d g)) (ws' := (wX o k R (up2 C c 4 ((C c) 4 ||| (nI 1 <<< ((nI r) &&& 31)))) n f d g)) (show qFit (wX o k R C n f d g) (wC (o (12 + c)) (C c)) [(o (12 + c), .inr (0, [.int (C c 0), .int (C c 1), .int (C c 2), .int (C c 3), .int ((C c) 4 ||| (nI 1 <<< ((nI r) &&& 31))), .int (C c 5), .int (C c 6), .int (C c 7)]))] (wX o k R (up2 C c 4 ((C c) 4 ||| (nI 1 <<< ((nI r) &&& 31)))) n f d g) from qFit1 hD (wX_C lt_c) (wX_setC lt_c _ _ _ _ _ _ _ _ (by simp [up2]) (by intro a b h; simp [up2, h]))) hP hD hS hA (va_runV (rm := ({ frames := 0, cells := 0, slots := 0, locals := 0 } : Room)) (As := [.int (nI r)]) (rest := []) ⟨hx, hb, hml, hown, hts⟩ (MetV.at (k_X0_hear l dC dI (o (12 + c)) (C c) (nI r)) s.heap.size) (cwV 1 hts gX3_takeTell_X0_hear rfl rfl rfl (by decide +kernel) ⟨Nat.le_of_ble_eq_true rfl, Nat.le_of_ble_eq_true rfl⟩) (preWV (hK.sub [] rfl) (va_P1 hP (wX_C lt_c)) va_D1 (va_recv hK hP (ci := 0) (q0 := 12 + c) rfl (wX_C lt_c))) rfl rfl hl.1 rfl (lv_room (Nat.le_of_ble_eq_true rfl)) dX3_takeTell_23 ⟨Nat.le_of_ble_eq_true rfl, Nat.le_of_ble_eq_true rfl⟩) (fun H locs hP hD hS => ?_)
    have hP : va_P (dC, dI) vwCl (wX o k R (heaC C c (nI r)) n f d g) H := hP
    have hD : va_D A (wX o k R (heaC C c (nI r)) n f d g) := hD
    refine lv_iload hx hb dX3_takeTell_26 (lv_at hl 5 rfl) ?_
    refine lv_aload hx hb dX3_takeTell_28 (lv_at hl 0 rfl) ?_
    refine va_get (D := (dC, dI)) (ci := 0) (v := .int ((heaC C c (nI r)) c 5)) (C := RX0) (T := TX0) (N := 8) hx hb hts inX3_takeTell_X0 hown hK hP (12 + c) (wX_C lt_c) rfl 5 (by decide) (hts _ lkX3_takeTell_114) (fun _ h9 => h9) rfl dX3_takeTell_30 ?_
    refine qtop (y := C c 5) (by simp [heaC, up2]) ?_
    refine lv_icmp_le (tgt := 50) hx hb dX3_takeTell_33 (by decide) (fun c_33 => ?_) (fun c_33 => ?_)
    · rw [show heaC C c (nI r) = telC C c (nI r) zt zv from by rw [telC, if_pos c_33]] at hP hD
      refine lv_aload hx hb dX3_takeTell_50 (lv_at hl 0 rfl) ?_
      refine goS (va_runV (rm := ({ frames := 1, cells := 0, slots := 0, locals := 20 } : Room)) (As := []) (rest := []) ⟨hx, hb, hml, hown, hts⟩ (MetS.at (k_X0_hasQuorum l dC dI (o (12 + c)) ((telC C c (nI r) zt zv) c) (a ||| 2 ^ r) (hear_bits a ha r lt_r).2 (by rw [telC4, hF]; exact (hear_bits a ha r lt_r).1))) (cwV 0 hts gX3_takeTell_X0_hasQuorum rfl rfl rfl (by decide +kernel) ⟨Nat.le_of_ble_eq_true rfl, Nat.le_of_ble_eq_true rfl⟩) (preSV (hK.sub [] rfl) (va_P1 hP (wX_C lt_c)) (va_recv hK hP (ci := 0) (q0 := 12 + c) rfl (wX_C lt_c))) rfl rfl hl.1 rfl (lv_room (Nat.le_of_ble_eq_true rfl)) dX3_takeTell_52 ⟨Nat.le_of_ble_eq_true rfl, Nat.le_of_ble_eq_true rfl⟩) ?_
      refine lv_if_eq (tgt := 63) hx hb dX3_takeTell_55 (by decide) (fun c_55 => ?_) (fun c_55 => ?_)
      · have c_55 := it_no c_55
        exact retV hx hb hr hlk dX3_takeTell_63 hS (by rw [stTel, if_pos c_16, if_neg (show ¬ 3 ≤ bts (telC C c (nI r) zt zv c 4) from by rw [telC4, hF, (hear_bits a ha r lt_r).1, bts_nI (hear_bits a ha r lt_r).2]; exact c_55)]; exact hP)
      · have c_55 := it_yes c_55
        refine lv_aload_n hx hb dX3_takeTell_58 rfl (lv_at hl 1 rfl) ?_
        refine lv_iload_n hx hb dX3_takeTell_59 rfl (lv_at hl 2 rfl) ?_
        refine goV (ws := (wX o k R (telC C c (nI r) zt zv) n f d g)) (ws' := (wS o k (stSto (R, telC C c (nI r) zt zv, n, f, d, g) c))) (qFit_all rfl) hP hD hS hA (va_runV (rm := ({ frames := 4, cells := 0, slots := 0, locals := 96 } : Room)) (As := [.int (nI c)]) (rest := []) ⟨hx, hb, hml, hown, hts⟩ (MetV.at (k_X3_store l dC dI o k R (telC C c (nI r) zt zv) n f d g (hn c_16.2.1) c lt_c) H.size) (cwV 1 hts gX3_takeTell_X3_store rfl rfl rfl (by decide +kernel) ⟨Nat.le_of_ble_eq_true rfl, Nat.le_of_ble_eq_true rfl⟩) (preWV hK hP hD (va_recv hK hP (ci := 3) (q0 := 0) rfl rfl)) rfl rfl hl.1 rfl (lv_room (Nat.le_of_ble_eq_true rfl)) dX3_takeTell_60 ⟨Nat.le_of_ble_eq_true rfl, Nat.le_of_ble_eq_true rfl⟩) (fun H locs hP hD hS => ?_)
        exact retV hx hb hr hlk dX3_takeTell_63 hS (by rw [stTel, if_pos c_16, if_pos (show 3 ≤ bts (telC C c (nI r) zt zv c 4) from by rw [telC4, hF, (hear_bits a ha r lt_r).1, bts_nI (hear_bits a ha r lt_r).2]; exact c_55)]; exact hP)
    · refine lv_aload hx hb dX3_takeTell_36 (lv_at hl 0 rfl) ?_
      refine lv_iload hx hb dX3_takeTell_38 (lv_at hl 5 rfl) ?_
      refine q_put (D := (dC, dI)) (ci := 0) (v := .int zt) (ty := .int) (C := RX0) (T := TX0) (N := 8) (ws' := (wX o k R (up2 (heaC C c (nI r)) c 5 zt) n f d g)) hx hb hts inX3_takeTell_X0 tyX0 tyX0_ok nmX0 hown hK hP hD hS (12 + c) (wX_C lt_c) rfl 5 (by decide) (hts _ lkX3_takeTell_114) (fun _ h9 => h9) rfl (by decide +kernel) rfl rfl (Nat.le_of_ble_eq_true rfl) (wX_setC lt_c _ _ _ _ _ _ _ _ (by simp [up2]) (by intro a b h; simp [up2, h])) dX3_takeTell_40 (fun H locs hP hD hS => ?_)
      refine lv_aload hx hb dX3_takeTell_43 (lv_at hl 0 rfl) ?_
      refine lv_iload hx hb dX3_takeTell_45 (lv_at hl 6 rfl) ?_
      refine q_put (D := (dC, dI)) (ci := 0) (v := .int zv) (ty := .int) (C := RX0) (T := TX0) (N := 8) (ws' := (wX o k R (up2 (up2 (heaC C c (nI r)) c 5 zt) c 6 zv) n f d g)) hx hb hts inX3_takeTell_X0 tyX0 tyX0_ok nmX0 hown hK hP hD hS (12 + c) (wX_C lt_c) rfl 6 (by decide) (hts _ lkX3_takeTell_115) (fun _ h9 => h9) rfl (by decide +kernel) rfl rfl (Nat.le_of_ble_eq_true rfl) (wX_setC lt_c _ _ _ _ _ _ _ _ (by simp [up2]) (by intro a b h; simp [up2, h])) dX3_takeTell_47 (fun H locs hP hD hS => ?_)
      rw [show up2 (up2 (heaC C c (nI r)) c 5 zt) c 6 zv = telC C c (nI r) zt zv from by rw [telC, if_neg c_33]] at hP hD
      refine lv_aload hx hb dX3_takeTell_50 (lv_at hl 0 rfl) ?_
      refine goS (va_runV (rm := ({ frames := 1, cells := 0, slots := 0, locals := 20 } : Room)) (As := []) (rest := []) ⟨hx, hb, hml, hown, hts⟩ (MetS.at (k_X0_hasQuorum l dC dI (o (12 + c)) ((telC C c (nI r) zt zv) c) (a ||| 2 ^ r) (hear_bits a ha r lt_r).2 (by rw [telC4, hF]; exact (hear_bits a ha r lt_r).1))) (cwV 0 hts gX3_takeTell_X0_hasQuorum rfl rfl rfl (by decide +kernel) ⟨Nat.le_of_ble_eq_true rfl, Nat.le_of_ble_eq_true rfl⟩) (preSV (hK.sub [] rfl) (va_P1 hP (wX_C lt_c)) (va_recv hK hP (ci := 0) (q0 := 12 + c) rfl (wX_C lt_c))) rfl rfl hl.1 rfl (lv_room (Nat.le_of_ble_eq_true rfl)) dX3_takeTell_52 ⟨Nat.le_of_ble_eq_true rfl, Nat.le_of_ble_eq_true rfl⟩) ?_
      refine lv_if_eq (tgt := 63) hx hb dX3_takeTell_55 (by decide) (fun c_55 => ?_) (fun c_55 => ?_)
      · have c_55 := it_no c_55
        exact retV hx hb hr hlk dX3_takeTell_63 hS (by rw [stTel, if_pos c_16, if_neg (show ¬ 3 ≤ bts (telC C c (nI r) zt zv c 4) from by rw [telC4, hF, (hear_bits a ha r lt_r).1, bts_nI (hear_bits a ha r lt_r).2]; exact c_55)]; exact hP)
      · have c_55 := it_yes c_55
        refine lv_aload_n hx hb dX3_takeTell_58 rfl (lv_at hl 1 rfl) ?_
        refine lv_iload_n hx hb dX3_takeTell_59 rfl (lv_at hl 2 rfl) ?_
        refine goV (ws := (wX o k R (telC C c (nI r) zt zv) n f d g)) (ws' := (wS o k (stSto (R, telC C c (nI r) zt zv, n, f, d, g) c))) (qFit_all rfl) hP hD hS hA (va_runV (rm := ({ frames := 4, cells := 0, slots := 0, locals := 96 } : Room)) (As := [.int (nI c)]) (rest := []) ⟨hx, hb, hml, hown, hts⟩ (MetV.at (k_X3_store l dC dI o k R (telC C c (nI r) zt zv) n f d g (hn c_16.2.1) c lt_c) H.size) (cwV 1 hts gX3_takeTell_X3_store rfl rfl rfl (by decide +kernel) ⟨Nat.le_of_ble_eq_true rfl, Nat.le_of_ble_eq_true rfl⟩) (preWV hK hP hD (va_recv hK hP (ci := 3) (q0 := 0) rfl rfl)) rfl rfl hl.1 rfl (lv_room (Nat.le_of_ble_eq_true rfl)) dX3_takeTell_60 ⟨Nat.le_of_ble_eq_true rfl, Nat.le_of_ble_eq_true rfl⟩) (fun H locs hP hD hS => ?_)
        exact retV hx hb hr hlk dX3_takeTell_63 hS (by rw [stTel, if_pos c_16, if_pos (show 3 ≤ bts (telC C c (nI r) zt zv c 4) from by rw [telC4, hF, (hear_bits a ha r lt_r).1, bts_nI (hear_bits a ha r lt_r).2]; exact c_55)]; exact hP)
  · have c_16 := it_no c_16
    exact retV hx hb hr hlk dX3_takeTell_19 hS (by rw [stTel, if_neg c_16]; exact hP)
theorem two_of : ∀ a, a < 32 → ∀ r, r < 5 → 3 ≤ bits (a ||| 2 ^ r) → 2 ≤ bits a := by decide +kernel
theorem lkX3_takeStored_18 : Cond.fieldLink RX3 18 "QuorumRegister" "clients" "[LQuorumRegister$Client;" ∈ wsX3_takeStored := by decide +kernel
theorem inX3_takeStored_X3 : ∀ w ∈ wsX30, w ∈ wsX3_takeStored := by decide +kernel
set_option maxHeartbeats 4000000 in
set_option maxRecDepth 100000 in
/-- takeStored(c, r, serial) -/
theorem k_X3_takeStored (l : Launch) (dC : Nat → ClassId) (dI : Nat → Nat → Nat) (o : Nat → Nat) (k : Nat → ClassId) (R C : Nat → Nat → Int32) (n : Nat) (f : Nat → Int32) (d : Nat) (g : Nat → Int32) (c r : Nat) (lt_c : c < 3) (lt_r : r < 5) (a : Nat) (ha : a < 32) (hF : C c 4 = nI a) (hd : C c 0 = nI 2 → 2 ≤ bits a → d < 39) (zs : Int32) : MetV l yX3_takeStored wsX3_takeStored ({ frames := 3, cells := 0, slots := 0, locals := 67 } : Room) (dC, dI) vwCl (wX o k R C n f d g) (tyX k) [.ref (o 0), .int (nI c), .int (nI r), .int zs] (wS o k (stStd (R, C, n, f, d, g) c r zs)) := by
  refine MetV.of (cc := cX3_takeStored) (maxL := 5) (ret := none) (by decide) rfl (Nat.le_of_ble_eq_true rfl) rfl ?_
  intro p e s m below meth cd ls A hx hb hr hlk hml hown hts hK hP hD hS hA hl
  have hl : lv_has ls 5 [(0, .ref (o 0)), (1, .int (nI c)), (2, .int (nI r)), (3, .int zs)] := hl
  refine lv_aload_n hx hb dX3_takeStored_0 rfl (lv_at hl 0 rfl) ?_
  refine va_get (D := (dC, dI)) (ci := 3) (v := .ref (o 2)) (C := RX3) (T := TX3) (N := 4) hx hb hts inX3_takeStored_X3 hown hK hP (0) rfl rfl 1 (by decide) (hts _ lkX3_takeStored_18) (fun _ h9 => h9) rfl dX3_takeStored_1 ?_
  refine lv_iload_n hx hb dX3_takeStored_4 rfl (lv_at hl 1 rfl) ?_
  refine q_aald hx hb hK hP (2) 1 (j := c) rfl rfl lt_c (Nat.le_of_ble_eq_true rfl) dX3_takeStored_5 ?_
  refine lv_astore (lv' := [(4, .ref (o (12 + c))), (0, .ref (o 0)), (1, .int (nI c)), (2, .int (nI r)), (3, .int zs)]) hx hb dX3_takeStored_6 hl (by decide) rfl (fun ls hl => ?_)
  refine lv_aload hx hb dX3_takeStored_8 (lv_at hl 0 rfl) ?_
  refine lv_iconst (v := nI 2) hx hb dX3_takeStored_10 (by decide) ?_
  refine lv_iload_n hx hb dX3_takeStored_11 rfl (lv_at hl 3 rfl) ?_
  refine lv_iload_n hx hb dX3_takeStored_12 rfl (lv_at hl 4 rfl) ?_
  refine goS (va_runV (rm := ({ frames := 0, cells := 0, slots := 0, locals := 0 } : Room)) (As := [.int (nI 2), .int (nI r), .int zs]) (rest := []) ⟨hx, hb, hml, hown, hts⟩ (MetS.at (k_X0_awaits l dC dI (o (12 + c)) (C c) (nI 2) (nI r) zs)) (cwV 3 hts gX3_takeStored_X0_awaits rfl rfl rfl (by decide +kernel) ⟨Nat.le_of_ble_eq_true rfl, Nat.le_of_ble_eq_true rfl⟩) (preSV (hK.sub [] rfl) (va_P1 hP (wX_C lt_c)) (va_recv hK hP (ci := 0) (q0 := 12 + c) rfl (wX_C lt_c))) rfl rfl hl.1 rfl (lv_room (Nat.le_of_ble_eq_true rfl)) dX3_takeStored_13 ⟨Nat.le_of_ble_eq_true rfl, Nat.le_of_ble_eq_true rfl⟩) ?_
  refine lv_if_ne (tgt := 20) hx hb dX3_takeStored_16 (by decide) (fun c_16 => ?_) (fun c_16 => ?_)
  · have c_16 := it_yes c_16
    refine lv_aload hx hb dX3_takeStored_20 (lv_at hl 0 rfl) ?_
    refine lv_iload_n hx hb dX3_takeStored_22 rfl (lv_at hl 3 rfl) ?_
    refine goV (ws := (wX o k R C n f d g)) (ws' := (wX o k R (up2 C c 4 ((C c) 4 ||| (nI 1 <<< ((nI r) &&& 31)))) n f d g)) (show qFit (wX o k R C n f d g) (wC (o (12 + c)) (C c)) [(o (12 + c), .inr (0, [.int (C c 0), .int (C c 1), .int (C c 2), .int (C c 3), .int ((C c) 4 ||| (nI 1 <<< ((nI r) &&& 31))), .int (C c 5), .int (C c 6), .int (C c 7)]))] (wX o k R (up2 C c 4 ((C c) 4 ||| (nI 1 <<< ((nI r) &&& 31)))) n f d g) from qFit1 hD (wX_C lt_c) (wX_setC lt_c _ _ _ _ _ _ _ _ (by simp [up2]) (by intro a b h; simp [up2, h]))) hP hD hS hA (va_runV (rm := ({ frames := 0, cells := 0, slots := 0, locals := 0 } : Room)) (As := [.int (nI r)]) (rest := []) ⟨hx, hb, hml, hown, hts⟩ (MetV.at (k_X0_hear l dC dI (o (12 + c)) (C c) (nI r)) s.heap.size) (cwV 1 hts gX3_takeStored_X0_hear rfl rfl rfl (by decide +kernel) ⟨Nat.le_of_ble_eq_true rfl, Nat.le_of_ble_eq_true rfl⟩) (preWV (hK.sub [] rfl) (va_P1 hP (wX_C lt_c)) va_D1 (va_recv hK hP (ci := 0) (q0 := 12 + c) rfl (wX_C lt_c))) rfl rfl hl.1 rfl (lv_room (Nat.le_of_ble_eq_true rfl)) dX3_takeStored_23 ⟨Nat.le_of_ble_eq_true rfl, Nat.le_of_ble_eq_true rfl⟩) (fun H locs hP hD hS => ?_)
    have hP : va_P (dC, dI) vwCl (wX o k R (heaC C c (nI r)) n f d g) H := hP
    have hD : va_D A (wX o k R (heaC C c (nI r)) n f d g) := hD
    refine lv_aload hx hb dX3_takeStored_26 (lv_at hl 0 rfl) ?_
    refine goS (va_runV (rm := ({ frames := 1, cells := 0, slots := 0, locals := 20 } : Room)) (As := []) (rest := []) ⟨hx, hb, hml, hown, hts⟩ (MetS.at (k_X0_hasQuorum l dC dI (o (12 + c)) ((heaC C c (nI r)) c) (a ||| 2 ^ r) (hear_bits a ha r lt_r).2 (by rw [heaC4, hF]; exact (hear_bits a ha r lt_r).1))) (cwV 0 hts gX3_takeStored_X0_hasQuorum rfl rfl rfl (by decide +kernel) ⟨Nat.le_of_ble_eq_true rfl, Nat.le_of_ble_eq_true rfl⟩) (preSV (hK.sub [] rfl) (va_P1 hP (wX_C lt_c)) (va_recv hK hP (ci := 0) (q0 := 12 + c) rfl (wX_C lt_c))) rfl rfl hl.1 rfl (lv_room (Nat.le_of_ble_eq_true rfl)) dX3_takeStored_28 ⟨Nat.le_of_ble_eq_true rfl, Nat.le_of_ble_eq_true rfl⟩) ?_
    refine lv_if_eq (tgt := 39) hx hb dX3_takeStored_31 (by decide) (fun c_31 => ?_) (fun c_31 => ?_)
    · have c_31 := it_no c_31
      exact retV hx hb hr hlk dX3_takeStored_39 hS (by rw [stStd, if_pos c_16, if_neg (show ¬ 3 ≤ bts (heaC C c (nI r) c 4) from by rw [heaC4, hF, (hear_bits a ha r lt_r).1, bts_nI (hear_bits a ha r lt_r).2]; exact c_31)]; exact hP)
    · have c_31 := it_yes c_31
      refine lv_aload_n hx hb dX3_takeStored_34 rfl (lv_at hl 1 rfl) ?_
      refine lv_iload_n hx hb dX3_takeStored_35 rfl (lv_at hl 2 rfl) ?_
      refine goV (ws := (wX o k R (heaC C c (nI r)) n f d g)) (ws' := (wS o k (stFin (R, heaC C c (nI r), n, f, d, g) c))) (qFit_all rfl) hP hD hS hA (va_runV (rm := ({ frames := 2, cells := 0, slots := 0, locals := 44 } : Room)) (As := [.int (nI c)]) (rest := []) ⟨hx, hb, hml, hown, hts⟩ (MetV.at (k_X3_finish l dC dI o k R (heaC C c (nI r)) n f d g (hd c_16.2.1 (two_of a ha r lt_r c_31)) c lt_c) H.size) (cwV 1 hts gX3_takeStored_X3_finish rfl rfl rfl (by decide +kernel) ⟨Nat.le_of_ble_eq_true rfl, Nat.le_of_ble_eq_true rfl⟩) (preWV hK hP hD (va_recv hK hP (ci := 3) (q0 := 0) rfl rfl)) rfl rfl hl.1 rfl (lv_room (Nat.le_of_ble_eq_true rfl)) dX3_takeStored_36 ⟨Nat.le_of_ble_eq_true rfl, Nat.le_of_ble_eq_true rfl⟩) (fun H locs hP hD hS => ?_)
      exact retV hx hb hr hlk dX3_takeStored_39 hS (by rw [stStd, if_pos c_16, if_pos (show 3 ≤ bts (heaC C c (nI r) c 4) from by rw [heaC4, hF, (hear_bits a ha r lt_r).1, bts_nI (hear_bits a ha r lt_r).2]; exact c_31)]; exact hP)
  · have c_16 := it_no c_16
    exact retV hx hb hr hlk dX3_takeStored_19 hS (by rw [stStd, if_neg c_16]; exact hP)
end
section
/-! QuorumRegister: deliver and the rest -/
theorem k_X2_cellN (l : Launch) (dC : Nat → ClassId) (dI : Nat → Nat → Nat) (h hc : Nat) (kA : ClassId) (w mo n : Nat) (f : Nat → Int32) (hn : n ≤ mo) (hmo : mo < 2 ^ 31) (hw : w < 2 ^ 31) (hwm : w * mo < 2 ^ 31) (i j : Nat) (hi : i < n) (hj : j < w) : MetS l yX2_cell wsX2_cell ({ frames := 1, cells := 0, slots := 0, locals := 21 } : Room) (dC, dI) vwCl (wR h hc kA w mo n f) [(kA, .int)] [.ref h, .int (nI i), .int (nI j)] (f (i * w + j)) := by
  have q := k_X2_cell l dC dI h hc kA w mo n f hn hmo hw hwm (nI i) (nI j)
  rw [if_pos (okI_nI hi (by omega)), if_pos (okI_nI hj hw), nI_clamp (by omega), nI_clamp (by omega)] at q
  exact q
theorem lkX3_deliver_28 : Cond.fieldLink RX3 28 "QuorumRegister" "pool" "LQuorumRegister$Rows;" ∈ wsX3_deliver := by decide +kernel
theorem inX3_deliver_X3 : ∀ w ∈ wsX30, w ∈ wsX3_deliver := by decide +kernel
theorem lkX3_deliver_61 : Cond.fieldLink RX3 61 "QuorumRegister$Rows" "count" "I" ∈ wsX3_deliver := by decide +kernel
theorem inX3_deliver_X2 : ∀ w ∈ wsX20, w ∈ wsX3_deliver := by decide +kernel
set_option maxHeartbeats 4000000 in
set_option maxRecDepth 100000 in
/-- deliver(i) -/
theorem k_X3_deliver (l : Launch) (dC : Nat → ClassId) (dI : Nat → Nat → Nat) (o : Nat → Nat) (k : Nat → ClassId) (R C : Nat → Nat → Int32) (n : Nat) (f : Nat → Int32) (d : Nat) (g : Nat → Int32) (hn : n ≤ 77) (hm : ∀ i, i < n → (∃ c, c < 3 ∧ f (i * 6 + 1) = nI c) ∧ (∃ r, r < 5 ∧ f (i * 6 + 2) = nI r)) (ha : ∀ c, c < 3 → ∃ a, a < 32 ∧ C c 4 = nI a) (hroom : ∀ c, c < 3 → C c 0 = nI 1 → n + 4 ≤ 77) (hdn : ∀ c, c < 3 → C c 0 = nI 2 → 2 ≤ bts (C c 4) → d < 39) (p0 : Int32) : MetI l yX3_deliver wsX3_deliver ({ frames := 6, cells := 0, slots := 0, locals := 145 } : Room) (dC, dI) vwCl (wX o k R C n f d g) (tyX k) [.ref (o 0), .int p0] (dlX (R, C, n, f, d, g) p0) (wS o k (dlS (R, C, n, f, d, g) p0)) := by
  refine MetI.of (cc := cX3_deliver) (maxL := 9) (ret := (some .int)) (by decide) rfl (Nat.le_of_ble_eq_true rfl) rfl ?_
  intro p e s m below meth cd ls A hx hb hr hlk hml hown hts hK hP hD hS hA hl
  have hl : lv_has ls 9 [(0, .ref (o 0)), (1, .int p0)] := hl
  refine lv_aload_n hx hb dX3_deliver_0 rfl (lv_at hl 0 rfl) ?_
  refine va_get (D := (dC, dI)) (ci := 3) (v := .ref (o 3)) (C := RX3) (T := TX3) (N := 4) hx hb hts inX3_deliver_X3 hown hK hP (0) rfl rfl 2 (by decide) (hts _ lkX3_deliver_28) (fun _ h9 => h9) rfl dX3_deliver_1 ?_
  refine lv_iload_n hx hb dX3_deliver_4 rfl (lv_at hl 1 rfl) ?_
  refine goS (va_runV (rm := ({ frames := 0, cells := 0, slots := 0, locals := 0 } : Room)) (As := [.int p0]) (rest := []) ⟨hx, hb, hml, hown, hts⟩ (MetS.at (k_X2_has l dC dI (o 3) (o 4) (k 2) 6 77 n f p0)) (cwV 1 hts gX3_deliver_X2_has rfl rfl rfl (by decide +kernel) ⟨Nat.le_of_ble_eq_true rfl, Nat.le_of_ble_eq_true rfl⟩) (preSV (show va_K (dC, dI) vwCl [(k 2, .int)] s from hK.sub [2] rfl) (show va_P (dC, dI) vwCl (wR (o 3) (o 4) (k 2) 6 77 n f) s.heap from hP.sub [3, 4] rfl) (va_recv hK hP (ci := 2) (q0 := 3) rfl rfl)) rfl rfl hl.1 rfl (lv_room (Nat.le_of_ble_eq_true rfl)) dX3_deliver_5 ⟨Nat.le_of_ble_eq_true rfl, Nat.le_of_ble_eq_true rfl⟩) ?_
  refine lv_if_ne (tgt := 13) hx hb dX3_deliver_8 (by decide) (fun c_8 => ?_) (fun c_8 => ?_)
  · have c_8 := it_yes c_8
    obtain ⟨i, lt_i, rfl⟩ := okI_of c_8 (by omega)
    obtain ⟨⟨c, lt_c, e_c⟩, ⟨r, lt_r, e_r⟩⟩ := hm i lt_i
    obtain ⟨a, lt_a, e_a⟩ := ha c lt_c
    refine lv_aload_n hx hb dX3_deliver_13 rfl (lv_at hl 0 rfl) ?_
    refine va_get (D := (dC, dI)) (ci := 3) (v := .ref (o 3)) (C := RX3) (T := TX3) (N := 4) hx hb hts inX3_deliver_X3 hown hK hP (0) rfl rfl 2 (by decide) (hts _ lkX3_deliver_28) (fun _ h9 => h9) rfl dX3_deliver_14 ?_
    refine lv_iload_n hx hb dX3_deliver_17 rfl (lv_at hl 1 rfl) ?_
    refine lv_iconst (v := nI 0) hx hb dX3_deliver_18 (by decide) ?_
    refine goS (va_runV (rm := ({ frames := 1, cells := 0, slots := 0, locals := 21 } : Room)) (As := [.int (nI i), .int (nI 0)]) (rest := []) ⟨hx, hb, hml, hown, hts⟩ (MetS.at (k_X2_cellN l dC dI (o 3) (o 4) (k 2) 6 77 n f hn (Nat.le_of_ble_eq_true rfl) (Nat.le_of_ble_eq_true rfl) (Nat.le_of_ble_eq_true rfl) i 0 lt_i (by decide))) (cwV 2 hts gX3_deliver_X2_cell rfl rfl rfl (by decide +kernel) ⟨Nat.le_of_ble_eq_true rfl, Nat.le_of_ble_eq_true rfl⟩) (preSV (show va_K (dC, dI) vwCl [(k 2, .int)] s from hK.sub [2] rfl) (show va_P (dC, dI) vwCl (wR (o 3) (o 4) (k 2) 6 77 n f) s.heap from hP.sub [3, 4] rfl) (va_recv hK hP (ci := 2) (q0 := 3) rfl rfl)) rfl rfl hl.1 rfl (lv_room (Nat.le_of_ble_eq_true rfl)) dX3_deliver_19 ⟨Nat.le_of_ble_eq_true rfl, Nat.le_of_ble_eq_true rfl⟩) ?_
    refine lv_istore_n (lv' := [(2, .int (f (i * 6 + 0))), (0, .ref (o 0)), (1, .int (nI i))]) hx hb dX3_deliver_22 rfl hl (by decide) rfl (fun ls hl => ?_)
    refine lv_aload_n hx hb dX3_deliver_23 rfl (lv_at hl 1 rfl) ?_
    refine va_get (D := (dC, dI)) (ci := 3) (v := .ref (o 3)) (C := RX3) (T := TX3) (N := 4) hx hb hts inX3_deliver_X3 hown hK hP (0) rfl rfl 2 (by decide) (hts _ lkX3_deliver_28) (fun _ h9 => h9) rfl dX3_deliver_24 ?_
    refine lv_iload_n hx hb dX3_deliver_27 rfl (lv_at hl 2 rfl) ?_
    refine lv_iconst (v := nI 1) hx hb dX3_deliver_28 (by decide) ?_
    refine goS (va_runV (rm := ({ frames := 1, cells := 0, slots := 0, locals := 21 } : Room)) (As := [.int (nI i), .int (nI 1)]) (rest := []) ⟨hx, hb, hml, hown, hts⟩ (MetS.at (k_X2_cellN l dC dI (o 3) (o 4) (k 2) 6 77 n f hn (Nat.le_of_ble_eq_true rfl) (Nat.le_of_ble_eq_true rfl) (Nat.le_of_ble_eq_true rfl) i 1 lt_i (by decide))) (cwV 2 hts gX3_deliver_X2_cell rfl rfl rfl (by decide +kernel) ⟨Nat.le_of_ble_eq_true rfl, Nat.le_of_ble_eq_true rfl⟩) (preSV (show va_K (dC, dI) vwCl [(k 2, .int)] s from hK.sub [2] rfl) (show va_P (dC, dI) vwCl (wR (o 3) (o 4) (k 2) 6 77 n f) s.heap from hP.sub [3, 4] rfl) (va_recv hK hP (ci := 2) (q0 := 3) rfl rfl)) rfl rfl hl.1 rfl (lv_room (Nat.le_of_ble_eq_true rfl)) dX3_deliver_29 ⟨Nat.le_of_ble_eq_true rfl, Nat.le_of_ble_eq_true rfl⟩) ?_
    refine qtop (y := nI c) e_c ?_
    refine lv_istore_n (lv' := [(3, .int (nI c)), (2, .int (f (i * 6 + 0))), (0, .ref (o 0)), (1, .int (nI i))]) hx hb dX3_deliver_32 rfl hl (by decide) rfl (fun ls hl => ?_)
    refine lv_aload_n hx hb dX3_deliver_33 rfl (lv_at hl 2 rfl) ?_
    refine va_get (D := (dC, dI)) (ci := 3) (v := .ref (o 3)) (C := RX3) (T := TX3) (N := 4) hx hb hts inX3_deliver_X3 hown hK hP (0) rfl rfl 2 (by decide) (hts _ lkX3_deliver_28) (fun _ h9 => h9) rfl dX3_deliver_34 ?_
    refine lv_iload_n hx hb dX3_deliver_37 rfl (lv_at hl 3 rfl) ?_
    refine lv_iconst (v := nI 2) hx hb dX3_deliver_38 (by decide) ?_
    refine goS (va_runV (rm := ({ frames := 1, cells := 0, slots := 0, locals := 21 } : Room)) (As := [.int (nI i), .int (nI 2)]) (rest := []) ⟨hx, hb, hml, hown, hts⟩ (MetS.at (k_X2_cellN l dC dI (o 3) (o 4) (k 2) 6 77 n f hn (Nat.le_of_ble_eq_true rfl) (Nat.le_of_ble_eq_true rfl) (Nat.le_of_ble_eq_true rfl) i 2 lt_i (by decide))) (cwV 2 hts gX3_deliver_X2_cell rfl rfl rfl (by decide +kernel) ⟨Nat.le_of_ble_eq_true rfl, Nat.le_of_ble_eq_true rfl⟩) (preSV (show va_K (dC, dI) vwCl [(k 2, .int)] s from hK.sub [2] rfl) (show va_P (dC, dI) vwCl (wR (o 3) (o 4) (k 2) 6 77 n f) s.heap from hP.sub [3, 4] rfl) (va_recv hK hP (ci := 2) (q0 := 3) rfl rfl)) rfl rfl hl.1 rfl (lv_room (Nat.le_of_ble_eq_true rfl)) dX3_deliver_39 ⟨Nat.le_of_ble_eq_true rfl, Nat.le_of_ble_eq_true rfl⟩) ?_
    refine qtop (y := nI r) e_r ?_
    refine lv_istore (lv' := [(4, .int (nI r)), (3, .int (nI c)), (2, .int (f (i * 6 + 0))), (0, .ref (o 0)), (1, .int (nI i))]) hx hb dX3_deliver_42 hl (by decide) rfl (fun ls hl => ?_)
    refine lv_aload_n hx hb dX3_deliver_44 rfl (lv_at hl 3 rfl) ?_
    refine va_get (D := (dC, dI)) (ci := 3) (v := .ref (o 3)) (C := RX3) (T := TX3) (N := 4) hx hb hts inX3_deliver_X3 hown hK hP (0) rfl rfl 2 (by decide) (hts _ lkX3_deliver_28) (fun _ h9 => h9) rfl dX3_deliver_45 ?_
    refine lv_iload_n hx hb dX3_deliver_48 rfl (lv_at hl 4 rfl) ?_
    refine lv_iconst (v := nI 3) hx hb dX3_deliver_49 (by decide) ?_
    refine goS (va_runV (rm := ({ frames := 1, cells := 0, slots := 0, locals := 21 } : Room)) (As := [.int (nI i), .int (nI 3)]) (rest := []) ⟨hx, hb, hml, hown, hts⟩ (MetS.at (k_X2_cellN l dC dI (o 3) (o 4) (k 2) 6 77 n f hn (Nat.le_of_ble_eq_true rfl) (Nat.le_of_ble_eq_true rfl) (Nat.le_of_ble_eq_true rfl) i 3 lt_i (by decide))) (cwV 2 hts gX3_deliver_X2_cell rfl rfl rfl (by decide +kernel) ⟨Nat.le_of_ble_eq_true rfl, Nat.le_of_ble_eq_true rfl⟩) (preSV (show va_K (dC, dI) vwCl [(k 2, .int)] s from hK.sub [2] rfl) (show va_P (dC, dI) vwCl (wR (o 3) (o 4) (k 2) 6 77 n f) s.heap from hP.sub [3, 4] rfl) (va_recv hK hP (ci := 2) (q0 := 3) rfl rfl)) rfl rfl hl.1 rfl (lv_room (Nat.le_of_ble_eq_true rfl)) dX3_deliver_50 ⟨Nat.le_of_ble_eq_true rfl, Nat.le_of_ble_eq_true rfl⟩) ?_
    refine lv_istore (lv' := [(5, .int (f (i * 6 + 3))), (4, .int (nI r)), (3, .int (nI c)), (2, .int (f (i * 6 + 0))), (0, .ref (o 0)), (1, .int (nI i))]) hx hb dX3_deliver_53 hl (by decide) rfl (fun ls hl => ?_)
    refine lv_aload_n hx hb dX3_deliver_55 rfl (lv_at hl 4 rfl) ?_
    refine va_get (D := (dC, dI)) (ci := 3) (v := .ref (o 3)) (C := RX3) (T := TX3) (N := 4) hx hb hts inX3_deliver_X3 hown hK hP (0) rfl rfl 2 (by decide) (hts _ lkX3_deliver_28) (fun _ h9 => h9) rfl dX3_deliver_56 ?_
    refine lv_iload_n hx hb dX3_deliver_59 rfl (lv_at hl 5 rfl) ?_
    refine lv_iconst (v := nI 4) hx hb dX3_deliver_60 (by decide) ?_
    refine goS (va_runV (rm := ({ frames := 1, cells := 0, slots := 0, locals := 21 } : Room)) (As := [.int (nI i), .int (nI 4)]) (rest := []) ⟨hx, hb, hml, hown, hts⟩ (MetS.at (k_X2_cellN l dC dI (o 3) (o 4) (k 2) 6 77 n f hn (Nat.le_of_ble_eq_true rfl) (Nat.le_of_ble_eq_true rfl) (Nat.le_of_ble_eq_true rfl) i 4 lt_i (by decide))) (cwV 2 hts gX3_deliver_X2_cell rfl rfl rfl (by decide +kernel) ⟨Nat.le_of_ble_eq_true rfl, Nat.le_of_ble_eq_true rfl⟩) (preSV (show va_K (dC, dI) vwCl [(k 2, .int)] s from hK.sub [2] rfl) (show va_P (dC, dI) vwCl (wR (o 3) (o 4) (k 2) 6 77 n f) s.heap from hP.sub [3, 4] rfl) (va_recv hK hP (ci := 2) (q0 := 3) rfl rfl)) rfl rfl hl.1 rfl (lv_room (Nat.le_of_ble_eq_true rfl)) dX3_deliver_61 ⟨Nat.le_of_ble_eq_true rfl, Nat.le_of_ble_eq_true rfl⟩) ?_
    refine lv_istore (lv' := [(6, .int (f (i * 6 + 4))), (5, .int (f (i * 6 + 3))), (4, .int (nI r)), (3, .int (nI c)), (2, .int (f (i * 6 + 0))), (0, .ref (o 0)), (1, .int (nI i))]) hx hb dX3_deliver_64 hl (by decide) rfl (fun ls hl => ?_)
    refine lv_aload_n hx hb dX3_deliver_66 rfl (lv_at hl 5 rfl) ?_
    refine va_get (D := (dC, dI)) (ci := 3) (v := .ref (o 3)) (C := RX3) (T := TX3) (N := 4) hx hb hts inX3_deliver_X3 hown hK hP (0) rfl rfl 2 (by decide) (hts _ lkX3_deliver_28) (fun _ h9 => h9) rfl dX3_deliver_67 ?_
    refine lv_iload_n hx hb dX3_deliver_70 rfl (lv_at hl 6 rfl) ?_
    refine lv_iconst (v := nI 5) hx hb dX3_deliver_71 (by decide) ?_
    refine goS (va_runV (rm := ({ frames := 1, cells := 0, slots := 0, locals := 21 } : Room)) (As := [.int (nI i), .int (nI 5)]) (rest := []) ⟨hx, hb, hml, hown, hts⟩ (MetS.at (k_X2_cellN l dC dI (o 3) (o 4) (k 2) 6 77 n f hn (Nat.le_of_ble_eq_true rfl) (Nat.le_of_ble_eq_true rfl) (Nat.le_of_ble_eq_true rfl) i 5 lt_i (by decide))) (cwV 2 hts gX3_deliver_X2_cell rfl rfl rfl (by decide +kernel) ⟨Nat.le_of_ble_eq_true rfl, Nat.le_of_ble_eq_true rfl⟩) (preSV (show va_K (dC, dI) vwCl [(k 2, .int)] s from hK.sub [2] rfl) (show va_P (dC, dI) vwCl (wR (o 3) (o 4) (k 2) 6 77 n f) s.heap from hP.sub [3, 4] rfl) (va_recv hK hP (ci := 2) (q0 := 3) rfl rfl)) rfl rfl hl.1 rfl (lv_room (Nat.le_of_ble_eq_true rfl)) dX3_deliver_72 ⟨Nat.le_of_ble_eq_true rfl, Nat.le_of_ble_eq_true rfl⟩) ?_
    refine lv_istore (lv' := [(7, .int (f (i * 6 + 5))), (6, .int (f (i * 6 + 4))), (5, .int (f (i * 6 + 3))), (4, .int (nI r)), (3, .int (nI c)), (2, .int (f (i * 6 + 0))), (0, .ref (o 0)), (1, .int (nI i))]) hx hb dX3_deliver_75 hl (by decide) rfl (fun ls hl => ?_)
    refine lv_aload_n hx hb dX3_deliver_77 rfl (lv_at hl 6 rfl) ?_
    refine va_get (D := (dC, dI)) (ci := 3) (v := .ref (o 3)) (C := RX3) (T := TX3) (N := 4) hx hb hts inX3_deliver_X3 hown hK hP (0) rfl rfl 2 (by decide) (hts _ lkX3_deliver_28) (fun _ h9 => h9) rfl dX3_deliver_78 ?_
    refine lv_iload_n hx hb dX3_deliver_81 rfl (lv_at hl 7 rfl) ?_
    refine goV (ws := (wX o k R C n f d g)) (ws' := (wX o k R C (n - 1) (va_cpy f f ((i + 1) * 6) (i * 6) (n * 6 - (i + 1) * 6)) d g)) (show qFit (wX o k R C n f d g) (wR (o 3) (o 4) (k 2) 6 77 n f) (wR (o 3) (o 4) (k 2) 6 77 (n - 1) (va_cpy f f ((i + 1) * 6) (i * 6) (n * 6 - (i + 1) * 6))) (wX o k R C (n - 1) (va_cpy f f ((i + 1) * 6) (i * 6) (n * 6 - (i + 1) * 6)) d g) from qFit2 hD (k1 := 3) (k2 := 4) rfl rfl (by decide) rfl) hP hD hS hA (va_runV (rm := ({ frames := 1, cells := 0, slots := 0, locals := 21 } : Room)) (As := [.int (nI i)]) (rest := []) ⟨hx, hb, hml, hown, hts⟩ (MetV.at (k_X2_remove l dC dI (o 3) (o 4) (k 2) 6 77 n f hn (Nat.le_of_ble_eq_true rfl) (Nat.le_of_ble_eq_true rfl) i lt_i) s.heap.size) (cwV 1 hts gX3_deliver_X2_remove rfl rfl rfl (by decide +kernel) ⟨Nat.le_of_ble_eq_true rfl, Nat.le_of_ble_eq_true rfl⟩) (preWV (show va_K (dC, dI) vwCl [(k 2, .int)] s from hK.sub [2] rfl) (show va_P (dC, dI) vwCl (wR (o 3) (o 4) (k 2) 6 77 n f) s.heap from hP.sub [3, 4] rfl) (show va_D A (wR (o 3) (o 4) (k 2) 6 77 n f) from hD.sub [3, 4] (by decide) rfl) (va_recv hK hP (ci := 2) (q0 := 3) rfl rfl)) rfl rfl hl.1 rfl (lv_room (Nat.le_of_ble_eq_true rfl)) dX3_deliver_82 ⟨Nat.le_of_ble_eq_true rfl, Nat.le_of_ble_eq_true rfl⟩) (fun H locs hP hD hS => ?_)
    have hP : va_P (dC, dI) vwCl (wX o k R C (n - 1) (drp f n i) d g) H := hP
    have hD : va_D A (wX o k R C (n - 1) (drp f n i) d g) := hD
    refine lv_aload_n hx hb dX3_deliver_85 rfl (lv_at hl 6 rfl) ?_
    refine va_get (D := (dC, dI)) (ci := 3) (v := .ref (o 3)) (C := RX3) (T := TX3) (N := 4) hx hb hts inX3_deliver_X3 hown hK hP (0) rfl rfl 2 (by decide) (hts _ lkX3_deliver_28) (fun _ h9 => h9) rfl dX3_deliver_86 ?_
    refine va_get (D := (dC, dI)) (ci := 2) (v := .int (nI (n - 1))) (C := RX2) (T := TX2) (N := 4) hx hb hts inX3_deliver_X2 hown hK hP (3) rfl rfl 3 (by decide) (hts _ lkX3_deliver_61) (fun _ h9 => h9) rfl dX3_deliver_89 ?_
    refine lv_istore (lv' := [(8, .int (nI (n - 1))), (7, .int (f (i * 6 + 5))), (6, .int (f (i * 6 + 4))), (5, .int (f (i * 6 + 3))), (4, .int (nI r)), (3, .int (nI c)), (2, .int (f (i * 6 + 0))), (0, .ref (o 0)), (1, .int (nI i))]) hx hb dX3_deliver_92 hl (by decide) rfl (fun ls hl => ?_)
    refine lv_iload_n hx hb dX3_deliver_94 rfl (lv_at hl 6 rfl) ?_
    by_cases h_0 : f (i * 6 + 0) = nI 0
    · have e_d : dlS (R, C, n, f, d, g) (nI i) = stAsk (R, C, n - 1, drp f n i, d, g) c r (f (i * 6 + 3)) := (dlS_at (R := R) (C := C) (d := d) (g := g) lt_i (by omega) lt_c lt_r e_c e_r).trans (dlM_0 h_0)
      refine qtop (y := nI 0) h_0 ?_
      refine lv_tableIn (off := 25) (tgt := 120) hx hb dX3_deliver_95 (by decide +kernel) (by decide +kernel) (by decide +kernel) (by decide) ?_
      refine lv_aload_n hx hb dX3_deliver_120 rfl (lv_at hl 7 rfl) ?_
      refine lv_iload_n hx hb dX3_deliver_121 rfl (lv_at hl 5 rfl) ?_
      refine lv_iload hx hb dX3_deliver_122 (lv_at hl 4 rfl) ?_
      refine lv_iload hx hb dX3_deliver_124 (lv_at hl 3 rfl) ?_
      refine goV (ws := (wX o k R C (n - 1) (drp f n i) d g)) (ws' := (wS o k (stAsk (R, C, n - 1, drp f n i, d, g) c r (f (i * 6 + 3))))) (qFit_all rfl) hP hD hS hA (va_runV (rm := ({ frames := 3, cells := 0, slots := 0, locals := 71 } : Room)) (As := [.int (nI c), .int (nI r), .int (f (i * 6 + 3))]) (rest := []) ⟨hx, hb, hml, hown, hts⟩ (MetV.at (k_X3_takeAsk l dC dI o k R C (n - 1) (drp f n i) d g (by omega) c r lt_c lt_r (f (i * 6 + 3))) H.size) (cwV 3 hts gX3_deliver_X3_takeAsk rfl rfl rfl (by decide +kernel) ⟨Nat.le_of_ble_eq_true rfl, Nat.le_of_ble_eq_true rfl⟩) (preWV hK hP hD (va_recv hK hP (ci := 3) (q0 := 0) rfl rfl)) rfl rfl hl.1 rfl (lv_room (Nat.le_of_ble_eq_true rfl)) dX3_deliver_126 ⟨Nat.le_of_ble_eq_true rfl, Nat.le_of_ble_eq_true rfl⟩) (fun H locs hP hD hS => ?_)
      refine lv_goto (tgt := 173) hx hb dX3_deliver_129 (by decide) ?_
      refine lv_aload_n hx hb dX3_deliver_173 rfl (lv_at hl 7 rfl) ?_
      refine va_get (D := (dC, dI)) (ci := 3) (v := .ref (o 3)) (C := RX3) (T := TX3) (N := 4) hx hb hts inX3_deliver_X3 hown hK hP (0) rfl rfl 2 (by decide) (hts _ lkX3_deliver_28) (fun _ h9 => h9) rfl dX3_deliver_174 ?_
      refine va_get (D := (dC, dI)) (ci := 2) (v := .int (nI ((stAsk (R, C, n - 1, drp f n i, d, g) c r (f (i * 6 + 3))).2.2.1))) (C := RX2) (T := TX2) (N := 4) hx hb hts inX3_deliver_X2 hown hK hP (3) rfl rfl 3 (by decide) (hts _ lkX3_deliver_61) (fun _ h9 => h9) rfl dX3_deliver_177 ?_
      refine lv_iload hx hb dX3_deliver_180 (lv_at hl 0 rfl) ?_
      refine lv_isub hx hb dX3_deliver_182 ?_
      exact retI hx hb hr hlk dX3_deliver_183 hS (by rw [e_d]; exact hP) (by rw [dlX, if_pos c_8, e_d])
    · by_cases h_1 : f (i * 6 + 0) = nI 1
      · have e_d : dlS (R, C, n, f, d, g) (nI i) = stTel (R, C, n - 1, drp f n i, d, g) c r (f (i * 6 + 3)) (f (i * 6 + 4)) (f (i * 6 + 5)) := (dlS_at (R := R) (C := C) (d := d) (g := g) lt_i (by omega) lt_c lt_r e_c e_r).trans (dlM_1 h_1)
        refine qtop (y := nI 1) h_1 ?_
        refine lv_tableIn (off := 37) (tgt := 132) hx hb dX3_deliver_95 (by decide +kernel) (by decide +kernel) (by decide +kernel) (by decide) ?_
        refine lv_aload_n hx hb dX3_deliver_132 rfl (lv_at hl 7 rfl) ?_
        refine lv_iload_n hx hb dX3_deliver_133 rfl (lv_at hl 5 rfl) ?_
        refine lv_iload hx hb dX3_deliver_134 (lv_at hl 4 rfl) ?_
        refine lv_iload hx hb dX3_deliver_136 (lv_at hl 3 rfl) ?_
        refine lv_iload hx hb dX3_deliver_138 (lv_at hl 2 rfl) ?_
        refine lv_iload hx hb dX3_deliver_140 (lv_at hl 1 rfl) ?_
        refine goV (ws := (wX o k R C (n - 1) (drp f n i) d g)) (ws' := (wS o k (stTel (R, C, n - 1, drp f n i, d, g) c r (f (i * 6 + 3)) (f (i * 6 + 4)) (f (i * 6 + 5))))) (qFit_all rfl) hP hD hS hA (va_runV (rm := ({ frames := 5, cells := 0, slots := 0, locals := 119 } : Room)) (As := [.int (nI c), .int (nI r), .int (f (i * 6 + 3)), .int (f (i * 6 + 4)), .int (f (i * 6 + 5))]) (rest := []) ⟨hx, hb, hml, hown, hts⟩ (MetV.at (k_X3_takeTell l dC dI o k R C (n - 1) (drp f n i) d g c r lt_c lt_r a lt_a e_a (fun q => by have := hroom c lt_c q; omega) (f (i * 6 + 3)) (f (i * 6 + 4)) (f (i * 6 + 5))) H.size) (cwV 5 hts gX3_deliver_X3_takeTell rfl rfl rfl (by decide +kernel) ⟨Nat.le_of_ble_eq_true rfl, Nat.le_of_ble_eq_true rfl⟩) (preWV hK hP hD (va_recv hK hP (ci := 3) (q0 := 0) rfl rfl)) rfl rfl hl.1 rfl (lv_room (Nat.le_of_ble_eq_true rfl)) dX3_deliver_142 ⟨Nat.le_of_ble_eq_true rfl, Nat.le_of_ble_eq_true rfl⟩) (fun H locs hP hD hS => ?_)
        refine lv_goto (tgt := 173) hx hb dX3_deliver_145 (by decide) ?_
        refine lv_aload_n hx hb dX3_deliver_173 rfl (lv_at hl 7 rfl) ?_
        refine va_get (D := (dC, dI)) (ci := 3) (v := .ref (o 3)) (C := RX3) (T := TX3) (N := 4) hx hb hts inX3_deliver_X3 hown hK hP (0) rfl rfl 2 (by decide) (hts _ lkX3_deliver_28) (fun _ h9 => h9) rfl dX3_deliver_174 ?_
        refine va_get (D := (dC, dI)) (ci := 2) (v := .int (nI ((stTel (R, C, n - 1, drp f n i, d, g) c r (f (i * 6 + 3)) (f (i * 6 + 4)) (f (i * 6 + 5))).2.2.1))) (C := RX2) (T := TX2) (N := 4) hx hb hts inX3_deliver_X2 hown hK hP (3) rfl rfl 3 (by decide) (hts _ lkX3_deliver_61) (fun _ h9 => h9) rfl dX3_deliver_177 ?_
        refine lv_iload hx hb dX3_deliver_180 (lv_at hl 0 rfl) ?_
        refine lv_isub hx hb dX3_deliver_182 ?_
        exact retI hx hb hr hlk dX3_deliver_183 hS (by rw [e_d]; exact hP) (by rw [dlX, if_pos c_8, e_d])
      · by_cases h_2 : f (i * 6 + 0) = nI 2
        · have e_d : dlS (R, C, n, f, d, g) (nI i) = stStr (R, C, n - 1, drp f n i, d, g) c r (f (i * 6 + 3)) (f (i * 6 + 4)) (f (i * 6 + 5)) := (dlS_at (R := R) (C := C) (d := d) (g := g) lt_i (by omega) lt_c lt_r e_c e_r).trans (dlM_2 h_2)
          refine qtop (y := nI 2) h_2 ?_
          refine lv_tableIn (off := 53) (tgt := 148) hx hb dX3_deliver_95 (by decide +kernel) (by decide +kernel) (by decide +kernel) (by decide) ?_
          refine lv_aload_n hx hb dX3_deliver_148 rfl (lv_at hl 7 rfl) ?_
          refine lv_iload_n hx hb dX3_deliver_149 rfl (lv_at hl 5 rfl) ?_
          refine lv_iload hx hb dX3_deliver_150 (lv_at hl 4 rfl) ?_
          refine lv_iload hx hb dX3_deliver_152 (lv_at hl 3 rfl) ?_
          refine lv_iload hx hb dX3_deliver_154 (lv_at hl 2 rfl) ?_
          refine lv_iload hx hb dX3_deliver_156 (lv_at hl 1 rfl) ?_
          refine goV (ws := (wX o k R C (n - 1) (drp f n i) d g)) (ws' := (wS o k (stStr (R, C, n - 1, drp f n i, d, g) c r (f (i * 6 + 3)) (f (i * 6 + 4)) (f (i * 6 + 5))))) (qFit_all rfl) hP hD hS hA (va_runV (rm := ({ frames := 3, cells := 0, slots := 0, locals := 71 } : Room)) (As := [.int (nI c), .int (nI r), .int (f (i * 6 + 3)), .int (f (i * 6 + 4)), .int (f (i * 6 + 5))]) (rest := []) ⟨hx, hb, hml, hown, hts⟩ (MetV.at (k_X3_takeStore l dC dI o k R C (n - 1) (drp f n i) d g (by omega) c r lt_c lt_r (f (i * 6 + 3)) (f (i * 6 + 4)) (f (i * 6 + 5))) H.size) (cwV 5 hts gX3_deliver_X3_takeStore rfl rfl rfl (by decide +kernel) ⟨Nat.le_of_ble_eq_true rfl, Nat.le_of_ble_eq_true rfl⟩) (preWV hK hP hD (va_recv hK hP (ci := 3) (q0 := 0) rfl rfl)) rfl rfl hl.1 rfl (lv_room (Nat.le_of_ble_eq_true rfl)) dX3_deliver_158 ⟨Nat.le_of_ble_eq_true rfl, Nat.le_of_ble_eq_true rfl⟩) (fun H locs hP hD hS => ?_)
          refine lv_goto (tgt := 173) hx hb dX3_deliver_161 (by decide) ?_
          refine lv_aload_n hx hb dX3_deliver_173 rfl (lv_at hl 7 rfl) ?_
          refine va_get (D := (dC, dI)) (ci := 3) (v := .ref (o 3)) (C := RX3) (T := TX3) (N := 4) hx hb hts inX3_deliver_X3 hown hK hP (0) rfl rfl 2 (by decide) (hts _ lkX3_deliver_28) (fun _ h9 => h9) rfl dX3_deliver_174 ?_
          refine va_get (D := (dC, dI)) (ci := 2) (v := .int (nI ((stStr (R, C, n - 1, drp f n i, d, g) c r (f (i * 6 + 3)) (f (i * 6 + 4)) (f (i * 6 + 5))).2.2.1))) (C := RX2) (T := TX2) (N := 4) hx hb hts inX3_deliver_X2 hown hK hP (3) rfl rfl 3 (by decide) (hts _ lkX3_deliver_61) (fun _ h9 => h9) rfl dX3_deliver_177 ?_
          refine lv_iload hx hb dX3_deliver_180 (lv_at hl 0 rfl) ?_
          refine lv_isub hx hb dX3_deliver_182 ?_
          exact retI hx hb hr hlk dX3_deliver_183 hS (by rw [e_d]; exact hP) (by rw [dlX, if_pos c_8, e_d])
        · have e_d : dlS (R, C, n, f, d, g) (nI i) = stStd (R, C, n - 1, drp f n i, d, g) c r (f (i * 6 + 3)) := (dlS_at (R := R) (C := C) (d := d) (g := g) lt_i (by omega) lt_c lt_r e_c e_r).trans (dlM_3 h_0 h_1 h_2)
          refine lv_tableOut (tgt := 164) hx hb dX3_deliver_95 (tb_out h_0 h_1 h_2) (by decide) ?_
          refine lv_aload_n hx hb dX3_deliver_164 rfl (lv_at hl 7 rfl) ?_
          refine lv_iload_n hx hb dX3_deliver_165 rfl (lv_at hl 5 rfl) ?_
          refine lv_iload hx hb dX3_deliver_166 (lv_at hl 4 rfl) ?_
          refine lv_iload hx hb dX3_deliver_168 (lv_at hl 3 rfl) ?_
          refine goV (ws := (wX o k R C (n - 1) (drp f n i) d g)) (ws' := (wS o k (stStd (R, C, n - 1, drp f n i, d, g) c r (f (i * 6 + 3))))) (qFit_all rfl) hP hD hS hA (va_runV (rm := ({ frames := 3, cells := 0, slots := 0, locals := 67 } : Room)) (As := [.int (nI c), .int (nI r), .int (f (i * 6 + 3))]) (rest := []) ⟨hx, hb, hml, hown, hts⟩ (MetV.at (k_X3_takeStored l dC dI o k R C (n - 1) (drp f n i) d g c r lt_c lt_r a lt_a e_a (fun q h => hdn c lt_c q (by rw [e_a, bts_nI lt_a]; exact h)) (f (i * 6 + 3))) H.size) (cwV 3 hts gX3_deliver_X3_takeStored rfl rfl rfl (by decide +kernel) ⟨Nat.le_of_ble_eq_true rfl, Nat.le_of_ble_eq_true rfl⟩) (preWV hK hP hD (va_recv hK hP (ci := 3) (q0 := 0) rfl rfl)) rfl rfl hl.1 rfl (lv_room (Nat.le_of_ble_eq_true rfl)) dX3_deliver_170 ⟨Nat.le_of_ble_eq_true rfl, Nat.le_of_ble_eq_true rfl⟩) (fun H locs hP hD hS => ?_)
          refine lv_aload_n hx hb dX3_deliver_173 rfl (lv_at hl 7 rfl) ?_
          refine va_get (D := (dC, dI)) (ci := 3) (v := .ref (o 3)) (C := RX3) (T := TX3) (N := 4) hx hb hts inX3_deliver_X3 hown hK hP (0) rfl rfl 2 (by decide) (hts _ lkX3_deliver_28) (fun _ h9 => h9) rfl dX3_deliver_174 ?_
          refine va_get (D := (dC, dI)) (ci := 2) (v := .int (nI ((stStd (R, C, n - 1, drp f n i, d, g) c r (f (i * 6 + 3))).2.2.1))) (C := RX2) (T := TX2) (N := 4) hx hb hts inX3_deliver_X2 hown hK hP (3) rfl rfl 3 (by decide) (hts _ lkX3_deliver_61) (fun _ h9 => h9) rfl dX3_deliver_177 ?_
          refine lv_iload hx hb dX3_deliver_180 (lv_at hl 0 rfl) ?_
          refine lv_isub hx hb dX3_deliver_182 ?_
          exact retI hx hb hr hlk dX3_deliver_183 hS (by rw [e_d]; exact hP) (by rw [dlX, if_pos c_8, e_d])
  · have c_8 := it_no c_8
    refine lv_iconst (v := (-1)) hx hb dX3_deliver_11 (by decide) ?_
    exact retI hx hb hr hlk dX3_deliver_12 hS (by rw [dlS, if_neg c_8]; exact hP) (by rw [dlX, if_neg c_8])
theorem lkX3_lose_28 : Cond.fieldLink RX3 28 "QuorumRegister" "pool" "LQuorumRegister$Rows;" ∈ wsX3_lose := by decide +kernel
theorem inX3_lose_X3 : ∀ w ∈ wsX30, w ∈ wsX3_lose := by decide +kernel
set_option maxHeartbeats 4000000 in
set_option maxRecDepth 100000 in
/-- lose(i) -/
theorem k_X3_lose (l : Launch) (dC : Nat → ClassId) (dI : Nat → Nat → Nat) (o : Nat → Nat) (k : Nat → ClassId) (R C : Nat → Nat → Int32) (n : Nat) (f : Nat → Int32) (d : Nat) (g : Nat → Int32) (hn : n ≤ 77) (p0 : Int32) : MetI l yX3_lose wsX3_lose ({ frames := 2, cells := 0, slots := 0, locals := 43 } : Room) (dC, dI) vwCl (wX o k R C n f d g) (tyX k) [.ref (o 0), .int p0] (lsX (R, C, n, f, d, g) p0) (wS o k (lsS (R, C, n, f, d, g) p0)) := by
  refine MetI.of (cc := cX3_lose) (maxL := 2) (ret := (some .boolean)) (by decide) rfl (Nat.le_of_ble_eq_true rfl) rfl ?_
  intro p e s m below meth cd ls A hx hb hr hlk hml hown hts hK hP hD hS hA hl
  have hl : lv_has ls 2 [(0, .ref (o 0)), (1, .int p0)] := hl
  refine lv_aload_n hx hb dX3_lose_0 rfl (lv_at hl 0 rfl) ?_
  refine va_get (D := (dC, dI)) (ci := 3) (v := .ref (o 3)) (C := RX3) (T := TX3) (N := 4) hx hb hts inX3_lose_X3 hown hK hP (0) rfl rfl 2 (by decide) (hts _ lkX3_lose_28) (fun _ h9 => h9) rfl dX3_lose_1 ?_
  refine lv_iload_n hx hb dX3_lose_4 rfl (lv_at hl 1 rfl) ?_
  refine goS (va_runV (rm := ({ frames := 0, cells := 0, slots := 0, locals := 0 } : Room)) (As := [.int p0]) (rest := []) ⟨hx, hb, hml, hown, hts⟩ (MetS.at (k_X2_has l dC dI (o 3) (o 4) (k 2) 6 77 n f p0)) (cwV 1 hts gX3_lose_X2_has rfl rfl rfl (by decide +kernel) ⟨Nat.le_of_ble_eq_true rfl, Nat.le_of_ble_eq_true rfl⟩) (preSV (show va_K (dC, dI) vwCl [(k 2, .int)] s from hK.sub [2] rfl) (show va_P (dC, dI) vwCl (wR (o 3) (o 4) (k 2) 6 77 n f) s.heap from hP.sub [3, 4] rfl) (va_recv hK hP (ci := 2) (q0 := 3) rfl rfl)) rfl rfl hl.1 rfl (lv_room (Nat.le_of_ble_eq_true rfl)) dX3_lose_5 ⟨Nat.le_of_ble_eq_true rfl, Nat.le_of_ble_eq_true rfl⟩) ?_
  refine lv_if_ne (tgt := 13) hx hb dX3_lose_8 (by decide) (fun c_8 => ?_) (fun c_8 => ?_)
  · have c_8 := it_yes c_8
    obtain ⟨i, lt_i, rfl⟩ := okI_of c_8 (by omega)
    have e_i : (nI i).toNatClampNeg = i := nI_clamp (by omega)
    refine lv_aload_n hx hb dX3_lose_13 rfl (lv_at hl 0 rfl) ?_
    refine va_get (D := (dC, dI)) (ci := 3) (v := .ref (o 3)) (C := RX3) (T := TX3) (N := 4) hx hb hts inX3_lose_X3 hown hK hP (0) rfl rfl 2 (by decide) (hts _ lkX3_lose_28) (fun _ h9 => h9) rfl dX3_lose_14 ?_
    refine lv_iload_n hx hb dX3_lose_17 rfl (lv_at hl 1 rfl) ?_
    refine goV (ws := (wX o k R C n f d g)) (ws' := (wX o k R C (n - 1) (va_cpy f f ((i + 1) * 6) (i * 6) (n * 6 - (i + 1) * 6)) d g)) (show qFit (wX o k R C n f d g) (wR (o 3) (o 4) (k 2) 6 77 n f) (wR (o 3) (o 4) (k 2) 6 77 (n - 1) (va_cpy f f ((i + 1) * 6) (i * 6) (n * 6 - (i + 1) * 6))) (wX o k R C (n - 1) (va_cpy f f ((i + 1) * 6) (i * 6) (n * 6 - (i + 1) * 6)) d g) from qFit2 hD (k1 := 3) (k2 := 4) rfl rfl (by decide) rfl) hP hD hS hA (va_runV (rm := ({ frames := 1, cells := 0, slots := 0, locals := 21 } : Room)) (As := [.int (nI i)]) (rest := []) ⟨hx, hb, hml, hown, hts⟩ (MetV.at (k_X2_remove l dC dI (o 3) (o 4) (k 2) 6 77 n f hn (Nat.le_of_ble_eq_true rfl) (Nat.le_of_ble_eq_true rfl) i lt_i) s.heap.size) (cwV 1 hts gX3_lose_X2_remove rfl rfl rfl (by decide +kernel) ⟨Nat.le_of_ble_eq_true rfl, Nat.le_of_ble_eq_true rfl⟩) (preWV (show va_K (dC, dI) vwCl [(k 2, .int)] s from hK.sub [2] rfl) (show va_P (dC, dI) vwCl (wR (o 3) (o 4) (k 2) 6 77 n f) s.heap from hP.sub [3, 4] rfl) (show va_D A (wR (o 3) (o 4) (k 2) 6 77 n f) from hD.sub [3, 4] (by decide) rfl) (va_recv hK hP (ci := 2) (q0 := 3) rfl rfl)) rfl rfl hl.1 rfl (lv_room (Nat.le_of_ble_eq_true rfl)) dX3_lose_18 ⟨Nat.le_of_ble_eq_true rfl, Nat.le_of_ble_eq_true rfl⟩) (fun H locs hP hD hS => ?_)
    refine lv_iconst (v := nI 1) hx hb dX3_lose_21 (by decide) ?_
    exact retIz hx hb hr hlk dX3_lose_22 rfl hS (by rw [lsS, if_pos c_8, e_i]; exact hP) (by rw [lsX, if_pos c_8]; rfl)
  · have c_8 := it_no c_8
    refine lv_iconst (v := nI 0) hx hb dX3_lose_11 (by decide) ?_
    exact retIz hx hb hr hlk dX3_lose_12 rfl hS (by rw [lsS, if_neg c_8]; exact hP) (by rw [lsX, if_neg c_8]; rfl)
theorem lkX3_repeat_28 : Cond.fieldLink RX3 28 "QuorumRegister" "pool" "LQuorumRegister$Rows;" ∈ wsX3_repeat := by decide +kernel
theorem inX3_repeat_X3 : ∀ w ∈ wsX30, w ∈ wsX3_repeat := by decide +kernel
set_option maxHeartbeats 4000000 in
set_option maxRecDepth 100000 in
/-- repeat(i) -/
theorem k_X3_repeat (l : Launch) (dC : Nat → ClassId) (dI : Nat → Nat → Nat) (o : Nat → Nat) (k : Nat → ClassId) (R C : Nat → Nat → Int32) (n : Nat) (f : Nat → Int32) (d : Nat) (g : Nat → Int32) (hn : n ≤ 77) (p0 : Int32) : MetI l yX3_repeat wsX3_repeat ({ frames := 2, cells := 0, slots := 0, locals := 43 } : Room) (dC, dI) vwCl (wX o k R C n f d g) (tyX k) [.ref (o 0), .int p0] (rpX (R, C, n, f, d, g) p0) (wS o k (rpS (R, C, n, f, d, g) p0)) := by
  refine MetI.of (cc := cX3_repeat) (maxL := 2) (ret := (some .boolean)) (by decide) rfl (Nat.le_of_ble_eq_true rfl) rfl ?_
  intro p e s m below meth cd ls A hx hb hr hlk hml hown hts hK hP hD hS hA hl
  have hl : lv_has ls 2 [(0, .ref (o 0)), (1, .int p0)] := hl
  refine lv_aload_n hx hb dX3_repeat_0 rfl (lv_at hl 0 rfl) ?_
  refine va_get (D := (dC, dI)) (ci := 3) (v := .ref (o 3)) (C := RX3) (T := TX3) (N := 4) hx hb hts inX3_repeat_X3 hown hK hP (0) rfl rfl 2 (by decide) (hts _ lkX3_repeat_28) (fun _ h9 => h9) rfl dX3_repeat_1 ?_
  refine lv_iload_n hx hb dX3_repeat_4 rfl (lv_at hl 1 rfl) ?_
  refine goS (va_runV (rm := ({ frames := 0, cells := 0, slots := 0, locals := 0 } : Room)) (As := [.int p0]) (rest := []) ⟨hx, hb, hml, hown, hts⟩ (MetS.at (k_X2_has l dC dI (o 3) (o 4) (k 2) 6 77 n f p0)) (cwV 1 hts gX3_repeat_X2_has rfl rfl rfl (by decide +kernel) ⟨Nat.le_of_ble_eq_true rfl, Nat.le_of_ble_eq_true rfl⟩) (preSV (show va_K (dC, dI) vwCl [(k 2, .int)] s from hK.sub [2] rfl) (show va_P (dC, dI) vwCl (wR (o 3) (o 4) (k 2) 6 77 n f) s.heap from hP.sub [3, 4] rfl) (va_recv hK hP (ci := 2) (q0 := 3) rfl rfl)) rfl rfl hl.1 rfl (lv_room (Nat.le_of_ble_eq_true rfl)) dX3_repeat_5 ⟨Nat.le_of_ble_eq_true rfl, Nat.le_of_ble_eq_true rfl⟩) ?_
  refine lv_if_eq (tgt := 18) hx hb dX3_repeat_8 (by decide) (fun c_8 => ?_) (fun c_8 => ?_)
  · have c_8 := it_no c_8
    refine lv_iconst (v := nI 0) hx hb dX3_repeat_18 (by decide) ?_
    exact retIz hx hb hr hlk dX3_repeat_19 rfl hS (by rw [rpS, if_neg (fun q => c_8 q.1)]; exact hP) (by rw [rpX, if_neg (fun q => c_8 q.1)]; rfl)
  · have c_8 := it_yes c_8
    refine lv_aload_n hx hb dX3_repeat_11 rfl (lv_at hl 0 rfl) ?_
    refine goS (va_runV (rm := ({ frames := 0, cells := 0, slots := 0, locals := 0 } : Room)) (As := []) (rest := []) ⟨hx, hb, hml, hown, hts⟩ (MetS.at (k_X3_isCrowded l dC dI o k R C n f d g hn)) (cwV 0 hts gX3_repeat_X3_isCrowded rfl rfl rfl (by decide +kernel) ⟨Nat.le_of_ble_eq_true rfl, Nat.le_of_ble_eq_true rfl⟩) (preSV hK hP (va_recv hK hP (ci := 3) (q0 := 0) rfl rfl)) rfl rfl hl.1 rfl (lv_room (Nat.le_of_ble_eq_true rfl)) dX3_repeat_12 ⟨Nat.le_of_ble_eq_true rfl, Nat.le_of_ble_eq_true rfl⟩) ?_
    refine lv_if_eq (tgt := 20) hx hb dX3_repeat_15 (by decide) (fun c_15 => ?_) (fun c_15 => ?_)
    · have c_15 := it_no c_15
      obtain ⟨i, lt_i, rfl⟩ := okI_of c_8 (by omega)
      have e_i : (nI i).toNatClampNeg = i := nI_clamp (by omega)
      refine lv_aload_n hx hb dX3_repeat_20 rfl (lv_at hl 0 rfl) ?_
      refine va_get (D := (dC, dI)) (ci := 3) (v := .ref (o 3)) (C := RX3) (T := TX3) (N := 4) hx hb hts inX3_repeat_X3 hown hK hP (0) rfl rfl 2 (by decide) (hts _ lkX3_repeat_28) (fun _ h9 => h9) rfl dX3_repeat_21 ?_
      refine lv_iload_n hx hb dX3_repeat_24 rfl (lv_at hl 1 rfl) ?_
      refine goV (ws := (wX o k R C n f d g)) (ws' := (wX o k R C (n + 1) (va_cpy f f (i * 6) (n * 6) 6) d g)) (show qFit (wX o k R C n f d g) (wR (o 3) (o 4) (k 2) 6 77 n f) (wR (o 3) (o 4) (k 2) 6 77 (n + 1) (va_cpy f f (i * 6) (n * 6) 6)) (wX o k R C (n + 1) (va_cpy f f (i * 6) (n * 6) 6) d g) from qFit2 hD (k1 := 3) (k2 := 4) rfl rfl (by decide) rfl) hP hD hS hA (va_runV (rm := ({ frames := 1, cells := 0, slots := 0, locals := 21 } : Room)) (As := [.int (nI i)]) (rest := []) ⟨hx, hb, hml, hown, hts⟩ (MetV.at (k_X2_addCopy l dC dI (o 3) (o 4) (k 2) 6 77 n f (by omega) (Nat.le_of_ble_eq_true rfl) (Nat.le_of_ble_eq_true rfl) i lt_i) s.heap.size) (cwV 1 hts gX3_repeat_X2_addCopy rfl rfl rfl (by decide +kernel) ⟨Nat.le_of_ble_eq_true rfl, Nat.le_of_ble_eq_true rfl⟩) (preWV (show va_K (dC, dI) vwCl [(k 2, .int)] s from hK.sub [2] rfl) (show va_P (dC, dI) vwCl (wR (o 3) (o 4) (k 2) 6 77 n f) s.heap from hP.sub [3, 4] rfl) (show va_D A (wR (o 3) (o 4) (k 2) 6 77 n f) from hD.sub [3, 4] (by decide) rfl) (va_recv hK hP (ci := 2) (q0 := 3) rfl rfl)) rfl rfl hl.1 rfl (lv_room (Nat.le_of_ble_eq_true rfl)) dX3_repeat_25 ⟨Nat.le_of_ble_eq_true rfl, Nat.le_of_ble_eq_true rfl⟩) (fun H locs hP hD hS => ?_)
      refine lv_iconst (v := nI 1) hx hb dX3_repeat_28 (by decide) ?_
      exact retIz hx hb hr hlk dX3_repeat_29 rfl hS (by rw [rpS, if_pos ⟨c_8, c_15⟩, e_i]; exact hP) (by rw [rpX, if_pos ⟨c_8, c_15⟩]; rfl)
    · have c_15 := it_yes c_15
      refine lv_iconst (v := nI 0) hx hb dX3_repeat_18 (by decide) ?_
      exact retIz hx hb hr hlk dX3_repeat_19 rfl hS (by rw [rpS, if_neg (fun q => q.2 c_15)]; exact hP) (by rw [rpX, if_neg (fun q => q.2 c_15)]; rfl)
theorem lkX3_countFailed_11 : Cond.fieldLink RX3 11 "QuorumRegister" "replicas" "[LQuorumRegister$Replica;" ∈ wsX3_countFailed := by decide +kernel
theorem inX3_countFailed_X3 : ∀ w ∈ wsX30, w ∈ wsX3_countFailed := by decide +kernel
theorem lkX3_countFailed_88 : Cond.fieldLink RX3 88 "QuorumRegister$Replica" "failed" "Z" ∈ wsX3_countFailed := by decide +kernel
theorem inX3_countFailed_X1 : ∀ w ∈ wsX10, w ∈ wsX3_countFailed := by decide +kernel
set_option maxHeartbeats 4000000 in
set_option maxRecDepth 100000 in
/-- countFailed() -/
theorem k_X3_countFailed (l : Launch) (dC : Nat → ClassId) (dI : Nat → Nat → Nat) (o : Nat → Nat) (k : Nat → ClassId) (R C : Nat → Nat → Int32) (n : Nat) (f : Nat → Int32) (d : Nat) (g : Nat → Int32) : MetS l yX3_countFailed wsX3_countFailed ({ frames := 0, cells := 0, slots := 0, locals := 0 } : Room) (dC, dI) vwCl (wX o k R C n f d g) (tyX k) [.ref (o 0)] (nI (cnF R 5)) := by
  refine MetS.of (cc := cX3_countFailed) (maxL := 3) (ret := (some .int)) (by decide) rfl (Nat.le_of_ble_eq_true rfl) rfl ?_
  intro p e s m below meth cd ls hx hb hr hlk hml hown hts hK hP hl
  have hl : lv_has ls 3 [(0, .ref (o 0))] := hl
  refine lv_iconst (v := nI 0) hx hb dX3_countFailed_0 (by decide) ?_
  refine lv_istore_n (lv' := [(1, .int (nI 0)), (0, .ref (o 0))]) hx hb dX3_countFailed_1 rfl hl (by decide) rfl (fun ls hl => ?_)
  refine lv_iconst (v := nI 0) hx hb dX3_countFailed_2 (by decide) ?_
  refine lv_istore_n (lv' := [(2, .int (nI 0)), (1, .int (nI 0)), (0, .ref (o 0))]) hx hb dX3_countFailed_3 rfl hl (by decide) rfl (fun ls hl => ?_)
  have loop : ∀ t j : Nat, j + t = 5 → ∀ ls : Array Slot, lv_has ls 3 [(0, .ref (o 0)), (1, .int (nI (cnF R j))), (2, .int (nI j))] → W p l e ({ frames := 0, cells := 0, slots := 0, locals := 0 } : Room) s m [Value.ref (o 0)].toArray below meth cd s.heap [] 0 0 (MQ below (vp_Si (fun r => r = nI (cnF R 5))) [Value.ref (o 0)].toArray s 0 0 (fun _ => False)) (F0 m 4 ls []) := by
    intro t
    induction t with
    | zero =>
      intro j hj ls hl
      have hj : j = 5 := by omega
      subst hj
      refine lv_iload_n hx hb dX3_countFailed_4 rfl (lv_at hl 2 rfl) ?_
      refine lv_iconst (v := nI 5) hx hb dX3_countFailed_5 (by decide) ?_
      refine lv_icmp_ge (tgt := 30) hx hb dX3_countFailed_6 (by decide) (fun _ => ?_) (fun c9 => absurd (by decide +kernel) c9)
      refine lv_iload_n hx hb dX3_countFailed_30 rfl (lv_at hl 1 rfl) ?_
      exact retS hx hb hr hlk dX3_countFailed_31 rfl
    | succ t ih =>
      intro j hj ls hl
      have lt_j : j < 5 := by omega
      refine lv_iload_n hx hb dX3_countFailed_4 rfl (lv_at hl 2 rfl) ?_
      refine lv_iconst (v := nI 5) hx hb dX3_countFailed_5 (by decide) ?_
      refine lv_icmp_ge (tgt := 30) hx hb dX3_countFailed_6 (by decide) (fun c_6 => ?_) (fun c_6 => ?_)
      · exact absurd c_6 (nI_ge lt_j (by decide))
      · refine lv_aload_n hx hb dX3_countFailed_9 rfl (lv_at hl 0 rfl) ?_
        refine va_get (D := (dC, dI)) (ci := 3) (v := .ref (o 1)) (C := RX3) (T := TX3) (N := 4) hx hb hts inX3_countFailed_X3 hown hK hP (0) rfl rfl 0 (by decide) (hts _ lkX3_countFailed_11) (fun _ h9 => h9) rfl dX3_countFailed_10 ?_
        refine lv_iload_n hx hb dX3_countFailed_13 rfl (lv_at hl 2 rfl) ?_
        refine q_aald hx hb hK hP (1) 0 (j := j) rfl rfl lt_j (Nat.le_of_ble_eq_true rfl) dX3_countFailed_14 ?_
        refine va_get (D := (dC, dI)) (ci := 1) (v := .int (R j 2)) (C := RX1) (T := TX1) (N := 3) hx hb hts inX3_countFailed_X1 hown hK hP (7 + j) (wX_R lt_j) rfl 2 (by decide) (hts _ lkX3_countFailed_88) (fun _ h9 => h9) rfl dX3_countFailed_15 ?_
        refine lv_if_eq (tgt := 24) hx hb dX3_countFailed_18 (by decide) (fun c_18 => ?_) (fun c_18 => ?_)
        · refine lv_iinc (v := nI (j + 1)) (lv' := [(2, .int (nI (j + 1))), (0, .ref (o 0)), (1, .int (nI (cnF R j)))]) hx hb dX3_countFailed_24 hl (k := 2) rfl (nI_add _ 1) (by decide) rfl (fun ls hl => ?_)
          refine lv_goto (tgt := 4) hx hb dX3_countFailed_27 (by decide) ?_
          have e_c : cnF R (j + 1) = cnF R j := by rw [cnF, if_pos c_18]; rfl
          rw [← e_c] at hl
          exact ih (j + 1) (by omega) ls (lv_sub hl [1, 2, 0] rfl)
        · refine lv_iinc (v := nI ((cnF R j) + 1)) (lv' := [(1, .int (nI ((cnF R j) + 1))), (0, .ref (o 0)), (2, .int (nI j))]) hx hb dX3_countFailed_21 hl (k := 1) rfl (nI_add _ 1) (by decide) rfl (fun ls hl => ?_)
          refine lv_iinc (v := nI (j + 1)) (lv' := [(2, .int (nI (j + 1))), (1, .int (nI ((cnF R j) + 1))), (0, .ref (o 0))]) hx hb dX3_countFailed_24 hl (k := 2) rfl (nI_add _ 1) (by decide) rfl (fun ls hl => ?_)
          refine lv_goto (tgt := 4) hx hb dX3_countFailed_27 (by decide) ?_
          have e_c : cnF R (j + 1) = (cnF R j) + 1 := by rw [cnF, if_neg c_18]
          rw [← e_c] at hl
          exact ih (j + 1) (by omega) ls (lv_sub hl [2, 1, 0] rfl)
  exact loop 5 0 rfl ls (lv_sub hl [2, 1, 0] rfl)
theorem cnF_le (R : Nat → Nat → Int32) : ∀ j, cnF R j ≤ j := by
  intro j
  induction j with
  | zero => exact Nat.le_refl 0
  | succ j ih => unfold cnF; split <;> omega
theorem lkX3_fail_11 : Cond.fieldLink RX3 11 "QuorumRegister" "replicas" "[LQuorumRegister$Replica;" ∈ wsX3_fail := by decide +kernel
theorem inX3_fail_X3 : ∀ w ∈ wsX30, w ∈ wsX3_fail := by decide +kernel
theorem lkX3_fail_88 : Cond.fieldLink RX3 88 "QuorumRegister$Replica" "failed" "Z" ∈ wsX3_fail := by decide +kernel
theorem inX3_fail_X1 : ∀ w ∈ wsX10, w ∈ wsX3_fail := by decide +kernel
set_option maxHeartbeats 4000000 in
set_option maxRecDepth 100000 in
/-- fail(r) -/
theorem k_X3_fail (l : Launch) (dC : Nat → ClassId) (dI : Nat → Nat → Nat) (o : Nat → Nat) (k : Nat → ClassId) (R C : Nat → Nat → Int32) (n : Nat) (f : Nat → Int32) (d : Nat) (g : Nat → Int32) (p0 : Int32) : MetI l yX3_fail wsX3_fail ({ frames := 1, cells := 0, slots := 0, locals := 22 } : Room) (dC, dI) vwCl (wX o k R C n f d g) (tyX k) [.ref (o 0), .int p0] (flX (R, C, n, f, d, g) p0) (wS o k (flS (R, C, n, f, d, g) p0)) := by
  refine MetI.of (cc := cX3_fail) (maxL := 2) (ret := (some .boolean)) (by decide) rfl (Nat.le_of_ble_eq_true rfl) rfl ?_
  intro p e s m below meth cd ls A hx hb hr hlk hml hown hts hK hP hD hS hA hl
  have hl : lv_has ls 2 [(0, .ref (o 0)), (1, .int p0)] := hl
  refine lv_iload_n hx hb dX3_fail_0 rfl (lv_at hl 1 rfl) ?_
  refine goS (va_runS (rm := ({ frames := 0, cells := 0, slots := 0, locals := 0 } : Room)) (As := [.int p0]) (rest := []) ⟨hx, hb, hml, hown, hts⟩ (MetS.at (k_X3_isReplica l dC dI p0)) (va_cwS 1 hts gX3_fail_X3_isReplica rfl rfl rfl (by decide +kernel) ⟨Nat.le_of_ble_eq_true rfl, Nat.le_of_ble_eq_true rfl⟩) (preSS (hK.sub [] rfl) va_P0) rfl rfl hl.1 rfl (lv_room (Nat.le_of_ble_eq_true rfl)) dX3_fail_1 ⟨Nat.le_of_ble_eq_true rfl, Nat.le_of_ble_eq_true rfl⟩) ?_
  refine lv_if_eq (tgt := 27) hx hb dX3_fail_4 (by decide) (fun c_4 => ?_) (fun c_4 => ?_)
  · have c_4 := it_no c_4
    refine lv_iconst (v := nI 0) hx hb dX3_fail_27 (by decide) ?_
    exact retIz hx hb hr hlk dX3_fail_28 rfl hS (by rw [flS, if_neg (fun q => c_4 q.1)]; exact hP) (by rw [flX, if_neg (fun q => c_4 q.1)]; rfl)
  · have c_4 := it_yes c_4
    obtain ⟨j, lt_j, rfl⟩ := okI_of c_4 (Nat.le_of_ble_eq_true rfl)
    have e_j : (nI j).toNatClampNeg = j := nI_clamp (by omega)
    refine lv_aload_n hx hb dX3_fail_7 rfl (lv_at hl 0 rfl) ?_
    refine va_get (D := (dC, dI)) (ci := 3) (v := .ref (o 1)) (C := RX3) (T := TX3) (N := 4) hx hb hts inX3_fail_X3 hown hK hP (0) rfl rfl 0 (by decide) (hts _ lkX3_fail_11) (fun _ h9 => h9) rfl dX3_fail_8 ?_
    refine lv_iload_n hx hb dX3_fail_11 rfl (lv_at hl 1 rfl) ?_
    refine q_aald hx hb hK hP (1) 0 (j := j) rfl rfl lt_j (Nat.le_of_ble_eq_true rfl) dX3_fail_12 ?_
    refine va_get (D := (dC, dI)) (ci := 1) (v := .int (R j 2)) (C := RX1) (T := TX1) (N := 3) hx hb hts inX3_fail_X1 hown hK hP (7 + j) (wX_R lt_j) rfl 2 (by decide) (hts _ lkX3_fail_88) (fun _ h9 => h9) rfl dX3_fail_13 ?_
    refine lv_if_ne (tgt := 27) hx hb dX3_fail_16 (by decide) (fun c_16 => ?_) (fun c_16 => ?_)
    · refine lv_iconst (v := nI 0) hx hb dX3_fail_27 (by decide) ?_
      exact retIz hx hb hr hlk dX3_fail_28 rfl hS (by rw [flS, if_neg (fun q => c_16 (by have := q.2.1; rw [e_j] at this; exact this))]; exact hP) (by rw [flX, if_neg (fun q => c_16 (by have := q.2.1; rw [e_j] at this; exact this))]; rfl)
    · refine lv_aload_n hx hb dX3_fail_19 rfl (lv_at hl 0 rfl) ?_
      refine goS (va_runV (rm := ({ frames := 0, cells := 0, slots := 0, locals := 0 } : Room)) (As := []) (rest := []) ⟨hx, hb, hml, hown, hts⟩ (MetS.at (k_X3_countFailed l dC dI o k R C n f d g )) (cwV 0 hts gX3_fail_X3_countFailed rfl rfl rfl (by decide +kernel) ⟨Nat.le_of_ble_eq_true rfl, Nat.le_of_ble_eq_true rfl⟩) (preSV hK hP (va_recv hK hP (ci := 3) (q0 := 0) rfl rfl)) rfl rfl hl.1 rfl (lv_room (Nat.le_of_ble_eq_true rfl)) dX3_fail_20 ⟨Nat.le_of_ble_eq_true rfl, Nat.le_of_ble_eq_true rfl⟩) ?_
      refine lv_iconst (v := nI 2) hx hb dX3_fail_23 (by decide) ?_
      refine lv_icmp_lt (tgt := 29) hx hb dX3_fail_24 (by decide) (fun c_24 => ?_) (fun c_24 => ?_)
      · refine lv_aload_n hx hb dX3_fail_29 rfl (lv_at hl 0 rfl) ?_
        refine va_get (D := (dC, dI)) (ci := 3) (v := .ref (o 1)) (C := RX3) (T := TX3) (N := 4) hx hb hts inX3_fail_X3 hown hK hP (0) rfl rfl 0 (by decide) (hts _ lkX3_fail_11) (fun _ h9 => h9) rfl dX3_fail_30 ?_
        refine lv_iload_n hx hb dX3_fail_33 rfl (lv_at hl 1 rfl) ?_
        refine q_aald hx hb hK hP (1) 0 (j := j) rfl rfl lt_j (Nat.le_of_ble_eq_true rfl) dX3_fail_34 ?_
        refine lv_iconst (v := nI 1) hx hb dX3_fail_35 (by decide) ?_
        refine q_put (D := (dC, dI)) (ci := 1) (v := .int (nI 1)) (ty := .boolean) (C := RX1) (T := TX1) (N := 3) (ws' := (wX o k (up2 R j 2 (nI 1)) C n f d g)) hx hb hts inX3_fail_X1 tyX1 tyX1_ok nmX1 hown hK hP hD hS (7 + j) (wX_R lt_j) rfl 2 (by decide) (hts _ lkX3_fail_88) (fun _ h9 => h9) rfl (by decide +kernel) rfl rfl (Nat.le_of_ble_eq_true rfl) (wX_setR lt_j _ _ _ (by simp [up2]) (by intro a b h; simp [up2, h])) dX3_fail_36 (fun H locs hP hD hS => ?_)
        refine lv_iconst (v := nI 1) hx hb dX3_fail_39 (by decide) ?_
        exact retIz hx hb hr hlk dX3_fail_40 rfl hS (by rw [flS, if_pos ⟨c_4, by rw [e_j]; exact c_16, (Nat.lt_or_ge (cnF R 5) 2).elim id (fun w => absurd c_24 (nI_nlt w (by have := cnF_le R 5; omega)))⟩, e_j]; exact hP) (by rw [flX, if_pos ⟨c_4, by rw [e_j]; exact c_16, (Nat.lt_or_ge (cnF R 5) 2).elim id (fun w => absurd c_24 (nI_nlt w (by have := cnF_le R 5; omega)))⟩]; rfl)
      · refine lv_iconst (v := nI 0) hx hb dX3_fail_27 (by decide) ?_
        exact retIz hx hb hr hlk dX3_fail_28 rfl hS (by rw [flS, if_neg (fun q => absurd q.2.2 (by intro w; exact c_24 (nI_lt w (by decide))))]; exact hP) (by rw [flX, if_neg (fun q => absurd q.2.2 (by intro w; exact c_24 (nI_lt w (by decide))))]; rfl)
theorem lkX3_messages_28 : Cond.fieldLink RX3 28 "QuorumRegister" "pool" "LQuorumRegister$Rows;" ∈ wsX3_messages := by decide +kernel
theorem inX3_messages_X3 : ∀ w ∈ wsX30, w ∈ wsX3_messages := by decide +kernel
theorem lkX3_messages_61 : Cond.fieldLink RX3 61 "QuorumRegister$Rows" "count" "I" ∈ wsX3_messages := by decide +kernel
theorem inX3_messages_X2 : ∀ w ∈ wsX20, w ∈ wsX3_messages := by decide +kernel
set_option maxHeartbeats 4000000 in
set_option maxRecDepth 100000 in
/-- X3_messages -/
theorem k_X3_messages (l : Launch) (dC : Nat → ClassId) (dI : Nat → Nat → Nat) (o : Nat → Nat) (k : Nat → ClassId) (R C : Nat → Nat → Int32) (n : Nat) (f : Nat → Int32) (d : Nat) (g : Nat → Int32) : MetS l yX3_messages wsX3_messages ({ frames := 0, cells := 0, slots := 0, locals := 0 } : Room) (dC, dI) vwCl (wX o k R C n f d g) (tyX k) [.ref (o 0)] (nI n) := by
  refine MetS.of (cc := cX3_messages) (maxL := 1) (ret := (some .int)) (by decide) rfl (Nat.le_of_ble_eq_true rfl) rfl ?_
  intro p e s m below meth cd ls hx hb hr hlk hml hown hts hK hP hl
  have hl : lv_has ls 1 [(0, .ref (o 0))] := hl
  refine lv_aload_n hx hb dX3_messages_0 rfl (lv_at hl 0 rfl) ?_
  refine va_get (D := (dC, dI)) (ci := 3) (v := .ref (o 3)) (C := RX3) (T := TX3) (N := 4) hx hb hts inX3_messages_X3 hown hK hP (0) rfl rfl 2 (by decide) (hts _ lkX3_messages_28) (fun _ h9 => h9) rfl dX3_messages_1 ?_
  refine va_get (D := (dC, dI)) (ci := 2) (v := .int (nI n)) (C := RX2) (T := TX2) (N := 4) hx hb hts inX3_messages_X2 hown hK hP (3) rfl rfl 3 (by decide) (hts _ lkX3_messages_61) (fun _ h9 => h9) rfl dX3_messages_4 ?_
  exact retS hx hb hr hlk dX3_messages_7 (rfl)
theorem lkX3_finished_32 : Cond.fieldLink RX3 32 "QuorumRegister" "done" "LQuorumRegister$Rows;" ∈ wsX3_finished := by decide +kernel
theorem inX3_finished_X3 : ∀ w ∈ wsX30, w ∈ wsX3_finished := by decide +kernel
theorem lkX3_finished_61 : Cond.fieldLink RX3 61 "QuorumRegister$Rows" "count" "I" ∈ wsX3_finished := by decide +kernel
theorem inX3_finished_X2 : ∀ w ∈ wsX20, w ∈ wsX3_finished := by decide +kernel
set_option maxHeartbeats 4000000 in
set_option maxRecDepth 100000 in
/-- X3_finished -/
theorem k_X3_finished (l : Launch) (dC : Nat → ClassId) (dI : Nat → Nat → Nat) (o : Nat → Nat) (k : Nat → ClassId) (R C : Nat → Nat → Int32) (n : Nat) (f : Nat → Int32) (d : Nat) (g : Nat → Int32) : MetS l yX3_finished wsX3_finished ({ frames := 0, cells := 0, slots := 0, locals := 0 } : Room) (dC, dI) vwCl (wX o k R C n f d g) (tyX k) [.ref (o 0)] (nI d) := by
  refine MetS.of (cc := cX3_finished) (maxL := 1) (ret := (some .int)) (by decide) rfl (Nat.le_of_ble_eq_true rfl) rfl ?_
  intro p e s m below meth cd ls hx hb hr hlk hml hown hts hK hP hl
  have hl : lv_has ls 1 [(0, .ref (o 0))] := hl
  refine lv_aload_n hx hb dX3_finished_0 rfl (lv_at hl 0 rfl) ?_
  refine va_get (D := (dC, dI)) (ci := 3) (v := .ref (o 5)) (C := RX3) (T := TX3) (N := 4) hx hb hts inX3_finished_X3 hown hK hP (0) rfl rfl 3 (by decide) (hts _ lkX3_finished_32) (fun _ h9 => h9) rfl dX3_finished_1 ?_
  refine va_get (D := (dC, dI)) (ci := 2) (v := .int (nI d)) (C := RX2) (T := TX2) (N := 4) hx hb hts inX3_finished_X2 hown hK hP (5) rfl rfl 3 (by decide) (hts _ lkX3_finished_61) (fun _ h9 => h9) rfl dX3_finished_4 ?_
  exact retS hx hb hr hlk dX3_finished_7 (rfl)
theorem lkX3_tag_11 : Cond.fieldLink RX3 11 "QuorumRegister" "replicas" "[LQuorumRegister$Replica;" ∈ wsX3_tag := by decide +kernel
theorem inX3_tag_X3 : ∀ w ∈ wsX30, w ∈ wsX3_tag := by decide +kernel
theorem lkX3_tag_96 : Cond.fieldLink RX3 96 "QuorumRegister$Replica" "tag" "I" ∈ wsX3_tag := by decide +kernel
theorem inX3_tag_X1 : ∀ w ∈ wsX10, w ∈ wsX3_tag := by decide +kernel
set_option maxHeartbeats 4000000 in
set_option maxRecDepth 100000 in
/-- X3_tag -/
theorem k_X3_tag (l : Launch) (dC : Nat → ClassId) (dI : Nat → Nat → Nat) (o : Nat → Nat) (k : Nat → ClassId) (R C : Nat → Nat → Int32) (n : Nat) (f : Nat → Int32) (d : Nat) (g : Nat → Int32) (p0 : Int32) : MetS l yX3_tag wsX3_tag ({ frames := 1, cells := 0, slots := 0, locals := 20 } : Room) (dC, dI) vwCl (wX o k R C n f d g) (tyX k) [.ref (o 0), .int p0] (if okI p0 5 then R p0.toNatClampNeg 0 else (-1)) := by
  refine MetS.of (cc := cX3_tag) (maxL := 2) (ret := (some .int)) (by decide) rfl (Nat.le_of_ble_eq_true rfl) rfl ?_
  intro p e s m below meth cd ls hx hb hr hlk hml hown hts hK hP hl
  have hl : lv_has ls 2 [(0, .ref (o 0)), (1, .int p0)] := hl
  refine lv_iload_n hx hb dX3_tag_0 rfl (lv_at hl 1 rfl) ?_
  refine goS (va_runS (rm := ({ frames := 0, cells := 0, slots := 0, locals := 0 } : Room)) (As := [.int p0]) (rest := []) ⟨hx, hb, hml, hown, hts⟩ (MetS.at (k_X3_isReplica l dC dI p0)) (va_cwS 1 hts gX3_tag_X3_isReplica rfl rfl rfl (by decide +kernel) ⟨Nat.le_of_ble_eq_true rfl, Nat.le_of_ble_eq_true rfl⟩) (preSS (hK.sub [] rfl) va_P0) rfl rfl hl.1 rfl (lv_room (Nat.le_of_ble_eq_true rfl)) dX3_tag_1 ⟨Nat.le_of_ble_eq_true rfl, Nat.le_of_ble_eq_true rfl⟩) ?_
  refine lv_if_eq (tgt := 19) hx hb dX3_tag_4 (by decide) (fun c_4 => ?_) (fun c_4 => ?_)
  · have c_4 := it_no c_4
    refine lv_iconst (v := (-1)) hx hb dX3_tag_19 (by decide) ?_
    exact retS hx hb hr hlk dX3_tag_20 ((if_neg c_4).symm)
  · have c_4 := it_yes c_4
    obtain ⟨j, lt_j, rfl⟩ := okI_of c_4 (Nat.le_of_ble_eq_true rfl)
    have e_j : (nI j).toNatClampNeg = j := nI_clamp (by omega)
    refine lv_aload_n hx hb dX3_tag_7 rfl (lv_at hl 0 rfl) ?_
    refine va_get (D := (dC, dI)) (ci := 3) (v := .ref (o 1)) (C := RX3) (T := TX3) (N := 4) hx hb hts inX3_tag_X3 hown hK hP (0) rfl rfl 0 (by decide) (hts _ lkX3_tag_11) (fun _ h9 => h9) rfl dX3_tag_8 ?_
    refine lv_iload_n hx hb dX3_tag_11 rfl (lv_at hl 1 rfl) ?_
    refine q_aald hx hb hK hP (1) 0 (j := j) rfl rfl lt_j (Nat.le_of_ble_eq_true rfl) dX3_tag_12 ?_
    refine va_get (D := (dC, dI)) (ci := 1) (v := .int (R j 0)) (C := RX1) (T := TX1) (N := 3) hx hb hts inX3_tag_X1 hown hK hP (7 + j) (wX_R lt_j) rfl 0 (by decide) (hts _ lkX3_tag_96) (fun _ h9 => h9) rfl dX3_tag_13 ?_
    refine lv_goto (tgt := 20) hx hb dX3_tag_16 (by decide) ?_
    exact retS hx hb hr hlk dX3_tag_20 (by rw [if_pos c_4, e_j])
theorem lkX3_value_11 : Cond.fieldLink RX3 11 "QuorumRegister" "replicas" "[LQuorumRegister$Replica;" ∈ wsX3_value := by decide +kernel
theorem inX3_value_X3 : ∀ w ∈ wsX30, w ∈ wsX3_value := by decide +kernel
theorem lkX3_value_99 : Cond.fieldLink RX3 99 "QuorumRegister$Replica" "value" "I" ∈ wsX3_value := by decide +kernel
theorem inX3_value_X1 : ∀ w ∈ wsX10, w ∈ wsX3_value := by decide +kernel
set_option maxHeartbeats 4000000 in
set_option maxRecDepth 100000 in
/-- X3_value -/
theorem k_X3_value (l : Launch) (dC : Nat → ClassId) (dI : Nat → Nat → Nat) (o : Nat → Nat) (k : Nat → ClassId) (R C : Nat → Nat → Int32) (n : Nat) (f : Nat → Int32) (d : Nat) (g : Nat → Int32) (p0 : Int32) : MetS l yX3_value wsX3_value ({ frames := 1, cells := 0, slots := 0, locals := 20 } : Room) (dC, dI) vwCl (wX o k R C n f d g) (tyX k) [.ref (o 0), .int p0] (if okI p0 5 then R p0.toNatClampNeg 1 else 0) := by
  refine MetS.of (cc := cX3_value) (maxL := 2) (ret := (some .int)) (by decide) rfl (Nat.le_of_ble_eq_true rfl) rfl ?_
  intro p e s m below meth cd ls hx hb hr hlk hml hown hts hK hP hl
  have hl : lv_has ls 2 [(0, .ref (o 0)), (1, .int p0)] := hl
  refine lv_iload_n hx hb dX3_value_0 rfl (lv_at hl 1 rfl) ?_
  refine goS (va_runS (rm := ({ frames := 0, cells := 0, slots := 0, locals := 0 } : Room)) (As := [.int p0]) (rest := []) ⟨hx, hb, hml, hown, hts⟩ (MetS.at (k_X3_isReplica l dC dI p0)) (va_cwS 1 hts gX3_value_X3_isReplica rfl rfl rfl (by decide +kernel) ⟨Nat.le_of_ble_eq_true rfl, Nat.le_of_ble_eq_true rfl⟩) (preSS (hK.sub [] rfl) va_P0) rfl rfl hl.1 rfl (lv_room (Nat.le_of_ble_eq_true rfl)) dX3_value_1 ⟨Nat.le_of_ble_eq_true rfl, Nat.le_of_ble_eq_true rfl⟩) ?_
  refine lv_if_eq (tgt := 19) hx hb dX3_value_4 (by decide) (fun c_4 => ?_) (fun c_4 => ?_)
  · have c_4 := it_no c_4
    refine lv_iconst (v := nI 0) hx hb dX3_value_19 (by decide) ?_
    exact retS hx hb hr hlk dX3_value_20 ((if_neg c_4).symm)
  · have c_4 := it_yes c_4
    obtain ⟨j, lt_j, rfl⟩ := okI_of c_4 (Nat.le_of_ble_eq_true rfl)
    have e_j : (nI j).toNatClampNeg = j := nI_clamp (by omega)
    refine lv_aload_n hx hb dX3_value_7 rfl (lv_at hl 0 rfl) ?_
    refine va_get (D := (dC, dI)) (ci := 3) (v := .ref (o 1)) (C := RX3) (T := TX3) (N := 4) hx hb hts inX3_value_X3 hown hK hP (0) rfl rfl 0 (by decide) (hts _ lkX3_value_11) (fun _ h9 => h9) rfl dX3_value_8 ?_
    refine lv_iload_n hx hb dX3_value_11 rfl (lv_at hl 1 rfl) ?_
    refine q_aald hx hb hK hP (1) 0 (j := j) rfl rfl lt_j (Nat.le_of_ble_eq_true rfl) dX3_value_12 ?_
    refine va_get (D := (dC, dI)) (ci := 1) (v := .int (R j 1)) (C := RX1) (T := TX1) (N := 3) hx hb hts inX3_value_X1 hown hK hP (7 + j) (wX_R lt_j) rfl 1 (by decide) (hts _ lkX3_value_99) (fun _ h9 => h9) rfl dX3_value_13 ?_
    refine lv_goto (tgt := 20) hx hb dX3_value_16 (by decide) ?_
    exact retS hx hb hr hlk dX3_value_20 (by rw [if_pos c_4, e_j])
theorem lkX3_phase_18 : Cond.fieldLink RX3 18 "QuorumRegister" "clients" "[LQuorumRegister$Client;" ∈ wsX3_phase := by decide +kernel
theorem inX3_phase_X3 : ∀ w ∈ wsX30, w ∈ wsX3_phase := by decide +kernel
theorem lkX3_phase_43 : Cond.fieldLink RX3 43 "QuorumRegister$Client" "phase" "I" ∈ wsX3_phase := by decide +kernel
theorem inX3_phase_X0 : ∀ w ∈ wsX00, w ∈ wsX3_phase := by decide +kernel
set_option maxHeartbeats 4000000 in
set_option maxRecDepth 100000 in
/-- X3_phase -/
theorem k_X3_phase (l : Launch) (dC : Nat → ClassId) (dI : Nat → Nat → Nat) (o : Nat → Nat) (k : Nat → ClassId) (R C : Nat → Nat → Int32) (n : Nat) (f : Nat → Int32) (d : Nat) (g : Nat → Int32) (p0 : Int32) : MetS l yX3_phase wsX3_phase ({ frames := 1, cells := 0, slots := 0, locals := 20 } : Room) (dC, dI) vwCl (wX o k R C n f d g) (tyX k) [.ref (o 0), .int p0] (if okI p0 3 then C p0.toNatClampNeg 0 else (-1)) := by
  refine MetS.of (cc := cX3_phase) (maxL := 2) (ret := (some .int)) (by decide) rfl (Nat.le_of_ble_eq_true rfl) rfl ?_
  intro p e s m below meth cd ls hx hb hr hlk hml hown hts hK hP hl
  have hl : lv_has ls 2 [(0, .ref (o 0)), (1, .int p0)] := hl
  refine lv_iload_n hx hb dX3_phase_0 rfl (lv_at hl 1 rfl) ?_
  refine goS (va_runS (rm := ({ frames := 0, cells := 0, slots := 0, locals := 0 } : Room)) (As := [.int p0]) (rest := []) ⟨hx, hb, hml, hown, hts⟩ (MetS.at (k_X3_isClient l dC dI p0)) (va_cwS 1 hts gX3_phase_X3_isClient rfl rfl rfl (by decide +kernel) ⟨Nat.le_of_ble_eq_true rfl, Nat.le_of_ble_eq_true rfl⟩) (preSS (hK.sub [] rfl) va_P0) rfl rfl hl.1 rfl (lv_room (Nat.le_of_ble_eq_true rfl)) dX3_phase_1 ⟨Nat.le_of_ble_eq_true rfl, Nat.le_of_ble_eq_true rfl⟩) ?_
  refine lv_if_eq (tgt := 19) hx hb dX3_phase_4 (by decide) (fun c_4 => ?_) (fun c_4 => ?_)
  · have c_4 := it_no c_4
    refine lv_iconst (v := (-1)) hx hb dX3_phase_19 (by decide) ?_
    exact retS hx hb hr hlk dX3_phase_20 ((if_neg c_4).symm)
  · have c_4 := it_yes c_4
    obtain ⟨j, lt_j, rfl⟩ := okI_of c_4 (Nat.le_of_ble_eq_true rfl)
    have e_j : (nI j).toNatClampNeg = j := nI_clamp (by omega)
    refine lv_aload_n hx hb dX3_phase_7 rfl (lv_at hl 0 rfl) ?_
    refine va_get (D := (dC, dI)) (ci := 3) (v := .ref (o 2)) (C := RX3) (T := TX3) (N := 4) hx hb hts inX3_phase_X3 hown hK hP (0) rfl rfl 1 (by decide) (hts _ lkX3_phase_18) (fun _ h9 => h9) rfl dX3_phase_8 ?_
    refine lv_iload_n hx hb dX3_phase_11 rfl (lv_at hl 1 rfl) ?_
    refine q_aald hx hb hK hP (2) 1 (j := j) rfl rfl lt_j (Nat.le_of_ble_eq_true rfl) dX3_phase_12 ?_
    refine va_get (D := (dC, dI)) (ci := 0) (v := .int (C j 0)) (C := RX0) (T := TX0) (N := 8) hx hb hts inX3_phase_X0 hown hK hP (12 + j) (wX_C lt_j) rfl 0 (by decide) (hts _ lkX3_phase_43) (fun _ h9 => h9) rfl dX3_phase_13 ?_
    refine lv_goto (tgt := 20) hx hb dX3_phase_16 (by decide) ?_
    exact retS hx hb hr hlk dX3_phase_20 (by rw [if_pos c_4, e_j])
theorem lkX3_answered_18 : Cond.fieldLink RX3 18 "QuorumRegister" "clients" "[LQuorumRegister$Client;" ∈ wsX3_answered := by decide +kernel
theorem inX3_answered_X3 : ∀ w ∈ wsX30, w ∈ wsX3_answered := by decide +kernel
theorem lkX3_answered_102 : Cond.fieldLink RX3 102 "QuorumRegister$Client" "answers" "I" ∈ wsX3_answered := by decide +kernel
theorem inX3_answered_X0 : ∀ w ∈ wsX00, w ∈ wsX3_answered := by decide +kernel
set_option maxHeartbeats 4000000 in
set_option maxRecDepth 100000 in
/-- X3_answered -/
theorem k_X3_answered (l : Launch) (dC : Nat → ClassId) (dI : Nat → Nat → Nat) (o : Nat → Nat) (k : Nat → ClassId) (R C : Nat → Nat → Int32) (n : Nat) (f : Nat → Int32) (d : Nat) (g : Nat → Int32) (p0 : Int32) : MetS l yX3_answered wsX3_answered ({ frames := 1, cells := 0, slots := 0, locals := 20 } : Room) (dC, dI) vwCl (wX o k R C n f d g) (tyX k) [.ref (o 0), .int p0] (if okI p0 3 then C p0.toNatClampNeg 4 else (-1)) := by
  refine MetS.of (cc := cX3_answered) (maxL := 2) (ret := (some .int)) (by decide) rfl (Nat.le_of_ble_eq_true rfl) rfl ?_
  intro p e s m below meth cd ls hx hb hr hlk hml hown hts hK hP hl
  have hl : lv_has ls 2 [(0, .ref (o 0)), (1, .int p0)] := hl
  refine lv_iload_n hx hb dX3_answered_0 rfl (lv_at hl 1 rfl) ?_
  refine goS (va_runS (rm := ({ frames := 0, cells := 0, slots := 0, locals := 0 } : Room)) (As := [.int p0]) (rest := []) ⟨hx, hb, hml, hown, hts⟩ (MetS.at (k_X3_isClient l dC dI p0)) (va_cwS 1 hts gX3_answered_X3_isClient rfl rfl rfl (by decide +kernel) ⟨Nat.le_of_ble_eq_true rfl, Nat.le_of_ble_eq_true rfl⟩) (preSS (hK.sub [] rfl) va_P0) rfl rfl hl.1 rfl (lv_room (Nat.le_of_ble_eq_true rfl)) dX3_answered_1 ⟨Nat.le_of_ble_eq_true rfl, Nat.le_of_ble_eq_true rfl⟩) ?_
  refine lv_if_eq (tgt := 19) hx hb dX3_answered_4 (by decide) (fun c_4 => ?_) (fun c_4 => ?_)
  · have c_4 := it_no c_4
    refine lv_iconst (v := (-1)) hx hb dX3_answered_19 (by decide) ?_
    exact retS hx hb hr hlk dX3_answered_20 ((if_neg c_4).symm)
  · have c_4 := it_yes c_4
    obtain ⟨j, lt_j, rfl⟩ := okI_of c_4 (Nat.le_of_ble_eq_true rfl)
    have e_j : (nI j).toNatClampNeg = j := nI_clamp (by omega)
    refine lv_aload_n hx hb dX3_answered_7 rfl (lv_at hl 0 rfl) ?_
    refine va_get (D := (dC, dI)) (ci := 3) (v := .ref (o 2)) (C := RX3) (T := TX3) (N := 4) hx hb hts inX3_answered_X3 hown hK hP (0) rfl rfl 1 (by decide) (hts _ lkX3_answered_18) (fun _ h9 => h9) rfl dX3_answered_8 ?_
    refine lv_iload_n hx hb dX3_answered_11 rfl (lv_at hl 1 rfl) ?_
    refine q_aald hx hb hK hP (2) 1 (j := j) rfl rfl lt_j (Nat.le_of_ble_eq_true rfl) dX3_answered_12 ?_
    refine va_get (D := (dC, dI)) (ci := 0) (v := .int (C j 4)) (C := RX0) (T := TX0) (N := 8) hx hb hts inX3_answered_X0 hown hK hP (12 + j) (wX_C lt_j) rfl 4 (by decide) (hts _ lkX3_answered_102) (fun _ h9 => h9) rfl dX3_answered_13 ?_
    refine lv_goto (tgt := 20) hx hb dX3_answered_16 (by decide) ?_
    exact retS hx hb hr hlk dX3_answered_20 (by rw [if_pos c_4, e_j])
theorem lkX3_failed_11 : Cond.fieldLink RX3 11 "QuorumRegister" "replicas" "[LQuorumRegister$Replica;" ∈ wsX3_failed := by decide +kernel
theorem inX3_failed_X3 : ∀ w ∈ wsX30, w ∈ wsX3_failed := by decide +kernel
theorem lkX3_failed_88 : Cond.fieldLink RX3 88 "QuorumRegister$Replica" "failed" "Z" ∈ wsX3_failed := by decide +kernel
theorem inX3_failed_X1 : ∀ w ∈ wsX10, w ∈ wsX3_failed := by decide +kernel
set_option maxHeartbeats 4000000 in
set_option maxRecDepth 100000 in
/-- failed(r) -/
theorem k_X3_failed (l : Launch) (dC : Nat → ClassId) (dI : Nat → Nat → Nat) (o : Nat → Nat) (k : Nat → ClassId) (R C : Nat → Nat → Int32) (n : Nat) (f : Nat → Int32) (d : Nat) (g : Nat → Int32) (p0 : Int32) : MetS l yX3_failed wsX3_failed ({ frames := 1, cells := 0, slots := 0, locals := 20 } : Room) (dC, dI) vwCl (wX o k R C n f d g) (tyX k) [.ref (o 0), .int p0] (if okI p0 5 ∧ ¬ R p0.toNatClampNeg 2 = 0 then 1 else 0) := by
  refine MetS.of (cc := cX3_failed) (maxL := 2) (ret := (some .boolean)) (by decide) rfl (Nat.le_of_ble_eq_true rfl) rfl ?_
  intro p e s m below meth cd ls hx hb hr hlk hml hown hts hK hP hl
  have hl : lv_has ls 2 [(0, .ref (o 0)), (1, .int p0)] := hl
  refine lv_iload_n hx hb dX3_failed_0 rfl (lv_at hl 1 rfl) ?_
  refine goS (va_runS (rm := ({ frames := 0, cells := 0, slots := 0, locals := 0 } : Room)) (As := [.int p0]) (rest := []) ⟨hx, hb, hml, hown, hts⟩ (MetS.at (k_X3_isReplica l dC dI p0)) (va_cwS 1 hts gX3_failed_X3_isReplica rfl rfl rfl (by decide +kernel) ⟨Nat.le_of_ble_eq_true rfl, Nat.le_of_ble_eq_true rfl⟩) (preSS (hK.sub [] rfl) va_P0) rfl rfl hl.1 rfl (lv_room (Nat.le_of_ble_eq_true rfl)) dX3_failed_1 ⟨Nat.le_of_ble_eq_true rfl, Nat.le_of_ble_eq_true rfl⟩) ?_
  refine lv_if_eq (tgt := 23) hx hb dX3_failed_4 (by decide) (fun c_4 => ?_) (fun c_4 => ?_)
  · have c_4 := it_no c_4
    refine lv_iconst (v := nI 0) hx hb dX3_failed_23 (by decide) ?_
    exact retSz hx hb hr hlk dX3_failed_24 rfl (by rw [if_neg (fun q => c_4 q.1)]; rfl)
  · have c_4 := it_yes c_4
    obtain ⟨j, lt_j, rfl⟩ := okI_of c_4 (Nat.le_of_ble_eq_true rfl)
    have e_j : (nI j).toNatClampNeg = j := nI_clamp (by omega)
    refine lv_aload_n hx hb dX3_failed_7 rfl (lv_at hl 0 rfl) ?_
    refine va_get (D := (dC, dI)) (ci := 3) (v := .ref (o 1)) (C := RX3) (T := TX3) (N := 4) hx hb hts inX3_failed_X3 hown hK hP (0) rfl rfl 0 (by decide) (hts _ lkX3_failed_11) (fun _ h9 => h9) rfl dX3_failed_8 ?_
    refine lv_iload_n hx hb dX3_failed_11 rfl (lv_at hl 1 rfl) ?_
    refine q_aald hx hb hK hP (1) 0 (j := j) rfl rfl lt_j (Nat.le_of_ble_eq_true rfl) dX3_failed_12 ?_
    refine va_get (D := (dC, dI)) (ci := 1) (v := .int (R j 2)) (C := RX1) (T := TX1) (N := 3) hx hb hts inX3_failed_X1 hown hK hP (7 + j) (wX_R lt_j) rfl 2 (by decide) (hts _ lkX3_failed_88) (fun _ h9 => h9) rfl dX3_failed_13 ?_
    refine lv_if_eq (tgt := 23) hx hb dX3_failed_16 (by decide) (fun c_16 => ?_) (fun c_16 => ?_)
    · refine lv_iconst (v := nI 0) hx hb dX3_failed_23 (by decide) ?_
      exact retSz hx hb hr hlk dX3_failed_24 rfl (by rw [if_neg (fun q => q.2 (by rw [e_j]; exact c_16))]; rfl)
    · refine lv_iconst (v := nI 1) hx hb dX3_failed_19 (by decide) ?_
      refine lv_goto (tgt := 24) hx hb dX3_failed_20 (by decide) ?_
      exact retSz hx hb hr hlk dX3_failed_24 rfl (by rw [if_pos ⟨c_4, by rw [e_j]; exact c_16⟩]; rfl)
theorem lkX3_message_28 : Cond.fieldLink RX3 28 "QuorumRegister" "pool" "LQuorumRegister$Rows;" ∈ wsX3_message := by decide +kernel
theorem inX3_message_X3 : ∀ w ∈ wsX30, w ∈ wsX3_message := by decide +kernel
set_option maxHeartbeats 4000000 in
set_option maxRecDepth 100000 in
/-- X3_message -/
theorem k_X3_message (l : Launch) (dC : Nat → ClassId) (dI : Nat → Nat → Nat) (o : Nat → Nat) (k : Nat → ClassId) (R C : Nat → Nat → Int32) (n : Nat) (f : Nat → Int32) (d : Nat) (g : Nat → Int32) (hn : n ≤ 77) (p0 p1 : Int32) : MetS l yX3_message wsX3_message ({ frames := 2, cells := 0, slots := 0, locals := 43 } : Room) (dC, dI) vwCl (wX o k R C n f d g) (tyX k) [.ref (o 0), .int p0, .int p1] (if okI p0 n then (if okI p1 6 then f (p0.toNatClampNeg * 6 + p1.toNatClampNeg) else 0) else (-1)) := by
  refine MetS.of (cc := cX3_message) (maxL := 3) (ret := (some .int)) (by decide) rfl (Nat.le_of_ble_eq_true rfl) rfl ?_
  intro p e s m below meth cd ls hx hb hr hlk hml hown hts hK hP hl
  have hl : lv_has ls 3 [(0, .ref (o 0)), (1, .int p0), (2, .int p1)] := hl
  refine lv_aload_n hx hb dX3_message_0 rfl (lv_at hl 0 rfl) ?_
  refine va_get (D := (dC, dI)) (ci := 3) (v := .ref (o 3)) (C := RX3) (T := TX3) (N := 4) hx hb hts inX3_message_X3 hown hK hP (0) rfl rfl 2 (by decide) (hts _ lkX3_message_28) (fun _ h9 => h9) rfl dX3_message_1 ?_
  refine lv_iload_n hx hb dX3_message_4 rfl (lv_at hl 1 rfl) ?_
  refine lv_iload_n hx hb dX3_message_5 rfl (lv_at hl 2 rfl) ?_
  refine goS (va_runV (rm := ({ frames := 1, cells := 0, slots := 0, locals := 21 } : Room)) (As := [.int p0, .int p1]) (rest := []) ⟨hx, hb, hml, hown, hts⟩ (MetS.at (k_X2_cell l dC dI (o 3) (o 4) (k 2) 6 77 n f  (by omega) (Nat.le_of_ble_eq_true rfl) (Nat.le_of_ble_eq_true rfl) (Nat.le_of_ble_eq_true rfl) p0 p1)) (cwV 2 hts gX3_message_X2_cell rfl rfl rfl (by decide +kernel) ⟨Nat.le_of_ble_eq_true rfl, Nat.le_of_ble_eq_true rfl⟩) (preSV (show va_K (dC, dI) vwCl [(k 2, .int)] s from hK.sub [2] rfl) (show va_P (dC, dI) vwCl (wR (o 3) (o 4) (k 2) 6 77 n f) s.heap from hP.sub [3, 4] rfl) (va_recv hK hP (ci := 2) (q0 := 3) rfl rfl)) rfl rfl hl.1 rfl (lv_room (Nat.le_of_ble_eq_true rfl)) dX3_message_6 ⟨Nat.le_of_ble_eq_true rfl, Nat.le_of_ble_eq_true rfl⟩) ?_
  exact retS hx hb hr hlk dX3_message_9 (rfl)
theorem lkX3_operation_32 : Cond.fieldLink RX3 32 "QuorumRegister" "done" "LQuorumRegister$Rows;" ∈ wsX3_operation := by decide +kernel
theorem inX3_operation_X3 : ∀ w ∈ wsX30, w ∈ wsX3_operation := by decide +kernel
set_option maxHeartbeats 4000000 in
set_option maxRecDepth 100000 in
/-- X3_operation -/
theorem k_X3_operation (l : Launch) (dC : Nat → ClassId) (dI : Nat → Nat → Nat) (o : Nat → Nat) (k : Nat → ClassId) (R C : Nat → Nat → Int32) (n : Nat) (f : Nat → Int32) (d : Nat) (g : Nat → Int32) (hn : d ≤ 39) (p0 p1 : Int32) : MetS l yX3_operation wsX3_operation ({ frames := 2, cells := 0, slots := 0, locals := 43 } : Room) (dC, dI) vwCl (wX o k R C n f d g) (tyX k) [.ref (o 0), .int p0, .int p1] (if okI p0 d then (if okI p1 5 then g (p0.toNatClampNeg * 5 + p1.toNatClampNeg) else 0) else (-1)) := by
  refine MetS.of (cc := cX3_operation) (maxL := 3) (ret := (some .int)) (by decide) rfl (Nat.le_of_ble_eq_true rfl) rfl ?_
  intro p e s m below meth cd ls hx hb hr hlk hml hown hts hK hP hl
  have hl : lv_has ls 3 [(0, .ref (o 0)), (1, .int p0), (2, .int p1)] := hl
  refine lv_aload_n hx hb dX3_operation_0 rfl (lv_at hl 0 rfl) ?_
  refine va_get (D := (dC, dI)) (ci := 3) (v := .ref (o 5)) (C := RX3) (T := TX3) (N := 4) hx hb hts inX3_operation_X3 hown hK hP (0) rfl rfl 3 (by decide) (hts _ lkX3_operation_32) (fun _ h9 => h9) rfl dX3_operation_1 ?_
  refine lv_iload_n hx hb dX3_operation_4 rfl (lv_at hl 1 rfl) ?_
  refine lv_iload_n hx hb dX3_operation_5 rfl (lv_at hl 2 rfl) ?_
  refine goS (va_runV (rm := ({ frames := 1, cells := 0, slots := 0, locals := 21 } : Room)) (As := [.int p0, .int p1]) (rest := []) ⟨hx, hb, hml, hown, hts⟩ (MetS.at (k_X2_cell l dC dI (o 5) (o 6) (k 3) 5 39 d g  (by omega) (Nat.le_of_ble_eq_true rfl) (Nat.le_of_ble_eq_true rfl) (Nat.le_of_ble_eq_true rfl) p0 p1)) (cwV 2 hts gX3_operation_X2_cell rfl rfl rfl (by decide +kernel) ⟨Nat.le_of_ble_eq_true rfl, Nat.le_of_ble_eq_true rfl⟩) (preSV (show va_K (dC, dI) vwCl [(k 3, .int)] s from hK.sub [3] rfl) (show va_P (dC, dI) vwCl (wR (o 5) (o 6) (k 3) 5 39 d g) s.heap from hP.sub [5, 6] rfl) (va_recv hK hP (ci := 2) (q0 := 5) rfl rfl)) rfl rfl hl.1 rfl (lv_room (Nat.le_of_ble_eq_true rfl)) dX3_operation_6 ⟨Nat.le_of_ble_eq_true rfl, Nat.le_of_ble_eq_true rfl⟩) ?_
  exact retS hx hb hr hlk dX3_operation_9 (rfl)
end
section
/-! THE REFERENCE'S CELLS: the same state, its sets of answers apart (an) -/
def wMc (o : Nat → Nat) (k : Nat → ClassId) (r0 r1 r2 c0 c1 c2 c3 an c5 c6 c7 f g : Nat → Int32) (fl n d : Nat) : va_W :=
  [(o 0, .inr (4, [.ref (o 1), .ref (o 2), .ref (o 3), .int (nI fl), .ref (o 4), .ref (o 5), .ref (o 6), .ref (o 7), .ref (o 8), .ref (o 9), .ref (o 10), .ref (o 11), .ref (o 12), .int (nI n), .ref (o 13), .int (nI d)])),
   (o 1, .inl (k 1, 5, .inl r0)), (o 2, .inl (k 2, 5, .inl r1)), (o 3, .inl (k 3, 5, .inl r2)),
   (o 4, .inl (k 4, 3, .inl c0)), (o 5, .inl (k 5, 3, .inl c1)), (o 6, .inl (k 6, 3, .inl c2)), (o 7, .inl (k 7, 3, .inl c3)), (o 8, .inl (k 8, 3, .inl an)), (o 9, .inl (k 9, 3, .inl c5)), (o 10, .inl (k 10, 3, .inl c6)), (o 11, .inl (k 11, 3, .inl c7)),
   (o 12, .inl (k 12, 600, .inl f)), (o 13, .inl (k 13, 2560, .inl g))]
def wM (o : Nat → Nat) (k : Nat → ClassId) (R C : Nat → Nat → Int32) (an : Nat → Int32) (n : Nat) (f : Nat → Int32) (d : Nat) (g : Nat → Int32) (fl : Nat) : va_W :=
  wMc o k (fun j => R j 0) (fun j => R j 1) (fun j => R j 2) (fun j => C j 0) (fun j => C j 1) (fun j => C j 2) (fun j => C j 3) an (fun j => C j 5) (fun j => C j 6) (fun j => C j 7) f g fl n d
def wMs (o : Nat → Nat) (k : Nat → ClassId) (σ : St) (an : Nat → Int32) : va_W := wM o k σ.1 σ.2.1 an σ.2.2.1 σ.2.2.2.1 σ.2.2.2.2.1 σ.2.2.2.2.2 (cnF σ.1 5)
def tyM (k : Nat → ClassId) : List (ClassId × FieldType) := [(k 1, .int), (k 2, .int), (k 3, .boolean), (k 4, .int), (k 5, .int), (k 6, .boolean), (k 7, .int), (k 8, .int), (k 9, .int), (k 10, .int), (k 11, .int), (k 12, .int), (k 13, .int)]
theorem wM_of {o : Nat → Nat} {k : Nat → ClassId} {R C : Nat → Nat → Int32} {r0 r1 r2 c0 c1 c2 c3 an c5 c6 c7 f g : Nat → Int32} {fl n d : Nat} (h0 : ∀ j, r0 j = R j 0) (h1 : ∀ j, r1 j = R j 1) (h2 : ∀ j, r2 j = R j 2) (g0 : ∀ j, c0 j = C j 0) (g1 : ∀ j, c1 j = C j 1) (g2 : ∀ j, c2 j = C j 2) (g3 : ∀ j, c3 j = C j 3) (g5 : ∀ j, c5 j = C j 5) (g6 : ∀ j, c6 j = C j 6) (g7 : ∀ j, c7 j = C j 7) : wMc o k r0 r1 r2 c0 c1 c2 c3 an c5 c6 c7 f g fl n d = wM o k R C an n f d g fl := by
  rw [funext h0, funext h1, funext h2, funext g0, funext g1, funext g2, funext g3, funext g5, funext g6, funext g7]
  rfl
theorem va_Pe {D : va_G} {cl : List vw_C} {w w' : va_W} {H : Heap} (e : w = w') (h : va_P D cl w H) : va_P D cl w' H := e ▸ h
/-- a write's contract with the reference's sets of answers behind it left open -/
def qQj (D : va_G) (cl : List vw_C) (B : (Nat → Int32) → va_W) (Pn : (Nat → Int32) → Prop) (A : Nat → Prop) (x : Int32) : Array Value → State → Outcome → State → Prop := va_Qi (fun (r : Int32) (u : Nat → Int32) => r = x ∧ Pn u) (fun u t => va_P D cl (B u) t.heap) A
def MetJ (l : Launch) (y : MethodName) (ws : List Cond) (rm : Room) (D : va_G) (cl : List vw_C) (w : va_W) (tys : List (ClassId × FieldType)) (av : List Value) (x : Int32) (B : (Nat → Int32) → va_W) (Pn : (Nat → Int32) → Prop) : Prop := ∀ sz : Nat, Met l y ws rm (qW D cl w tys sz av) (qQj D cl B Pn (va_A w sz) x) 0 0 (va_A w sz)
theorem MetJ.at {l : Launch} {y : MethodName} {ws : List Cond} {rm : Room} {D : va_G} {cl : List vw_C} {w : va_W} {tys : List (ClassId × FieldType)} {av : List Value} {x : Int32} {B : (Nat → Int32) → va_W} {Pn : (Nat → Int32) → Prop} (h : MetJ l y ws rm D cl w tys av x B Pn) (sz : Nat) : Met l y ws rm (qW D cl w tys sz av) (qQj D cl B Pn (va_A w sz) x) 0 0 (va_A w sz) := h sz
theorem MetJ.of {l : Launch} {y : MethodName} {ws ws' : List Cond} {rm : Room} {D : va_G} {cl : List vw_C} {w : va_W} {B : (Nat → Int32) → va_W} {Pn : (Nat → Int32) → Prop} {tys : List (ClassId × FieldType)} {av : List Value} {x : Int32} {cc : ByteArray} {maxL : Nat} {ret : Option FieldType} {lv : List (Nat × Value)}
    (hy : plainName y.cls = true) (hw : ws = Cond.code y cc maxL ret :: ws') (hlen : (lg_sl av).length ≤ maxL) (hlv : lv_args 0 av = lv)
    (body : ∀ (p : Program) (e : Env) (s : State) (m : MethodId) (below : List Frame) (meth : Method) (c : Code) (ls : Array Slot) (A : Nat → Prop), p.tables.exec = Jvm.exec → c.code = cc → meth.sig.returnType = ret → meth.locks = false → c.maxLocals = maxL → s.vm.findClass y.cls = some m.cls → (∀ w ∈ ws, w.before av.toArray s = true) → va_K D cl tys s → va_P D cl w s.heap → va_D A w → va_S A s.heap s.heap [] → (∀ q, s.heap.size ≤ q → A q) → lv_has ls maxL lv →
      W p l e rm s m av.toArray below meth c s.heap [] 0 0 (MQ below (qQj D cl B Pn A x) av.toArray s 0 0 A) (F0 m 0 ls [])) : MetJ l y ws rm D cl w tys av x B Pn := by
  intro sz
  refine Met.ofW (cc := cc) (maxL := maxL) (ret := ret) hy hw ?_
  intro p e s m args below meth c s₁ B' hml hv
  obtain ⟨rfl, hsz, hP, hK, hD0⟩ := hv
  subst hsz
  have hl := lv_entry av (n := maxL) hlen
  rw [hlv] at hl
  rw [lg_entry_eq]
  exact body p e s m below meth c _ _ B'.exec B'.bytes B'.returns B'.notSynchronized hml (findClass_of_methodNamed B'.named) (atoms_spec (ws := ws) B'.pre) hK hP (hD0.self (sz := s.heap.size)) va_S.rf (fun q h => Or.inr h) hl
section QJ
variable {p : Program} {l : Launch} {e : Env} {R : Room} {s : State} {m : MethodId} {args : Array Value} {below : List Frame} {meth : Method} {c : Code} {H H0 : Heap} {locs : List Loc} {cells slots : Nat} {Q : State → Prop} {cc : ByteArray} {pc : Nat} {ls : Array Slot} {rest st : List Value} {D : va_G} {cl : List vw_C} {ws wc ws' : va_W} {A : Nat → Prop}
theorem retJ {v x : Int32} {B : (Nat → Int32) → va_W} {Pn : (Nat → Int32) → Prop} (hx : p.tables.exec = Jvm.exec) (hb : c.code = cc) (hr : meth.sig.returnType = some .int) (hlk : meth.locks = false) (hdg : decode cc pc = .ok (.ireturn, 1)) (hS : va_S A s.heap H locs) (u : Nat → Int32) (hP : va_P D cl (B u) H) (hu : Pn u) (hv : v = x) : W p l e R s m args below meth c H locs 0 0 (MQ below (qQj D cl B Pn A x) args s 0 0 A) (F0 m pc ls [.int v]) :=
  W.iret (v := v) hx hb hr (fun t ht _ => ⟨⟨v, u, rfl, ⟨hv, hu⟩, by show va_P D cl (B u) t.heap; rw [ht]; exact hP⟩, hS.F ht⟩) hS.2.2 hdg hlk
theorem goJ {a : Array Value} {x : Int32} {B B' : (Nat → Int32) → va_W} {Pn : (Nat → Int32) → Prop} (hfit : ∀ u, qFit ws wc (B u) (B' u)) (hP : va_P D cl ws H) (hD : va_D A ws) (hS : va_S A H0 H locs) (hA : ∀ q, H0.size ≤ q → A q) (hr : va_Run p l e R s m args below meth c H locs cells slots 0 0 (F0 m pc ls st) rest (qQj D cl B Pn (va_A wc H.size) x a) (va_A wc H.size)) (kk : ∀ (u : Nat → Int32) (H1 : Heap) (locs1 : List Loc), Pn u → va_P D cl (B' u) H1 → va_D A (B' u) → va_S A H0 H1 locs1 → W p l e R s m args below meth c H1 locs1 cells slots Q (F0 m (pc + 3) ls (.int x :: rest))) : W p l e R s m args below meth c H locs cells slots Q (F0 m pc ls st) := by
  have hF := (hfit (fun _ => 0)).free hD hS hA
  refine va_calli (mc := 0) (ms := 0) hr hS (fun q _ h => hF q h) hF (fun r u t H1 locs1 ht hvm hw hB hz1 hk1 hS1 => ?_)
  rw [ht] at hB
  rw [hw.1]
  exact kk u H1 locs1 hw.2 ((hfit u).P hP hk1 hB) ((hfit u).D hD) hS1
end QJ
abbrev wi (x a b : Int32) : Prop := ¬ x < a ∧ ¬ b < x
theorem wi_s {x : Int32} (m : Nat) (h : m + 1 < 2 ^ 31) : wi x (nI 0) (nI m) ↔ okI x (m + 1) := by
  have e0 : (nI 0).toInt = 0 := rfl
  have e1 : (nI m).toInt = m := nI_toInt (by omega)
  have e2 : (nI (m + 1)).toInt = ((m + 1 : Nat) : Int) := nI_toInt h
  have e3 : (0 : Int32).toInt = 0 := rfl
  unfold wi okI
  rw [Int32.lt_iff_toInt_lt, Int32.lt_iff_toInt_lt, Int32.lt_iff_toInt_lt, Int32.le_iff_toInt_le, e0, e1, e2, e3]
  omega
theorem wi_n {x : Int32} (n : Nat) (h : n < 2 ^ 31) : wi x (nI 0) (nI n - nI 1) ↔ okI x n := by
  cases n with
  | zero =>
    have e0 : (nI 0).toInt = 0 := rfl
    have e1 : (nI 0 - nI 1).toInt = -1 := by decide +kernel
    have e3 : (0 : Int32).toInt = 0 := rfl
    unfold wi okI
    rw [Int32.lt_iff_toInt_lt, Int32.lt_iff_toInt_lt, Int32.lt_iff_toInt_lt, Int32.le_iff_toInt_le, e0, e1, e3]
    omega
  | succ m =>
    rw [show nI (m + 1) - nI 1 = nI m from nI_pred m]
    exact wi_s m h
theorem mulc (a b : Nat) : nI a * nI b = nI (b * a) := by rw [pk_mul, Nat.mul_comm]
theorem cpy_0 {f : Nat → Int32} {sp dp : Nat} : va_cpy f f sp dp 0 = f := by
  funext j
  unfold va_cpy
  split
  · omega
  · rfl
theorem cpy_step {f : Nat → Int32} {i t : Nat} : upd (va_cpy f f ((i + 1) * 6) (i * 6) t) (i * 6 + t) (va_cpy f f ((i + 1) * 6) (i * 6) t (i * 6 + t + 6)) = va_cpy f f ((i + 1) * 6) (i * 6) (t + 1) := by
  funext j
  unfold upd va_cpy
  by_cases h : j = i * 6 + t
  · subst h
    rw [if_pos rfl, if_neg (by omega), if_pos (by omega)]
    congr 1
    omega
  · rw [if_neg h]
    by_cases h2 : i * 6 ≤ j ∧ j < i * 6 + t
    · rw [if_pos h2, if_pos (by omega)]
    · rw [if_neg h2, if_neg (by omega)]
def bitM (x : Int32) : Int32 := nI 0 + (x >>> (nI 0 &&& 31) &&& nI 1) + (x >>> (nI 1 &&& 31) &&& nI 1) + (x >>> (nI 2 &&& 31) &&& nI 1) + (x >>> (nI 3 &&& 31) &&& nI 1) + (x >>> (nI 4 &&& 31) &&& nI 1)
theorem bitM_bits : ∀ a, a < 32 → bitM (nI a) = nI (bits a) := by decide +kernel
theorem shr_bit : ∀ a, a < 32 → ∀ r, r < 5 → ((nI a >>> (nI r &&& 31)) &&& nI 1 = nI 1 ↔ ¬ nI a &&& (nI 1 <<< (nI r &&& 31)) = 0) := by decide +kernel
end
section
/-! the reference: its private methods -/
set_option maxHeartbeats 4000000 in
set_option maxRecDepth 100000 in
/-- within(x, least, most) -/
theorem k_X4_within (l : Launch) (dC : Nat → ClassId) (dI : Nat → Nat → Nat) (x a b : Int32) : MetS l yX4_within wsX4_within ({ frames := 0, cells := 0, slots := 0, locals := 0 } : Room) (dC, dI) vwCl ([]) ([]) [.int x, .int a, .int b] (if wi x a b then 1 else 0) := by
  refine MetS.of (cc := cX4_within) (maxL := 3) (ret := (some .boolean)) (by decide) rfl (Nat.le_of_ble_eq_true rfl) rfl ?_
  intro p e s m below meth cd ls hx hb hr hlk hml hown hts hK hP hl
  have hl : lv_has ls 3 [(0, .int x), (1, .int a), (2, .int b)] := hl
  refine lv_iload_n hx hb dX4_within_0 rfl (lv_at hl 0 rfl) ?_
  refine lv_iload_n hx hb dX4_within_1 rfl (lv_at hl 1 rfl) ?_
  refine lv_icmp_lt (tgt := 14) hx hb dX4_within_2 (by decide) (fun c_2 => ?_) (fun c_2 => ?_)
  · refine lv_iconst (v := nI 0) hx hb dX4_within_14 (by decide) ?_
    exact retSz hx hb hr hlk dX4_within_15 rfl ((if_neg (fun q => q.1 c_2)).symm)
  · refine lv_iload_n hx hb dX4_within_5 rfl (lv_at hl 0 rfl) ?_
    refine lv_iload_n hx hb dX4_within_6 rfl (lv_at hl 2 rfl) ?_
    refine lv_icmp_gt (tgt := 14) hx hb dX4_within_7 (by decide) (fun c_7 => ?_) (fun c_7 => ?_)
    · refine lv_iconst (v := nI 0) hx hb dX4_within_14 (by decide) ?_
      exact retSz hx hb hr hlk dX4_within_15 rfl ((if_neg (fun q => q.2 c_7)).symm)
    · refine lv_iconst (v := nI 1) hx hb dX4_within_10 (by decide) ?_
      refine lv_goto (tgt := 15) hx hb dX4_within_11 (by decide) ?_
      exact retSz hx hb hr hlk dX4_within_15 rfl ((if_pos ⟨c_2, c_7⟩).symm)
theorem lkX4_send_50 : Cond.fieldLink RX4 50 "QuorumRegisterModel" "count" "I" ∈ wsX4_send := by decide +kernel
theorem inX4_send_X4 : ∀ w ∈ wsX40, w ∈ wsX4_send := by decide +kernel
theorem lkX4_send_44 : Cond.fieldLink RX4 44 "QuorumRegisterModel" "pool" "[I" ∈ wsX4_send := by decide +kernel
set_option maxHeartbeats 4000000 in
set_option maxRecDepth 100000 in
/-- send(..) -/
theorem k_X4_send (l : Launch) (dC : Nat → ClassId) (dI : Nat → Nat → Nat) (o : Nat → Nat) (k : Nat → ClassId) (r0 r1 r2 c0 c1 c2 c3 an c5 c6 c7 f g : Nat → Int32) (fl n d : Nat) (hn : n < 100) (zk zc zr zs zt zv : Int32) : MetV l yX4_send wsX4_send ({ frames := 0, cells := 0, slots := 0, locals := 0 } : Room) (dC, dI) vwCl (wMc o k r0 r1 r2 c0 c1 c2 c3 an c5 c6 c7 f g fl n d) (tyM k) [.ref (o 0), .int zk, .int zc, .int zr, .int zs, .int zt, .int zv] (wMc o k r0 r1 r2 c0 c1 c2 c3 an c5 c6 c7 (snd6 f n zk zc zr zs zt zv) g fl (n + 1) d) := by
  refine MetV.of (cc := cX4_send) (maxL := 8) (ret := none) (by decide) rfl (Nat.le_of_ble_eq_true rfl) rfl ?_
  intro p e s m below meth cd ls A hx hb hr hlk hml hown hts hK hP hD hS hA hl
  have hl : lv_has ls 8 [(0, .ref (o 0)), (1, .int zk), (2, .int zc), (3, .int zr), (4, .int zs), (5, .int zt), (6, .int zv)] := hl
  refine lv_bipush (v := nI 6) hx hb dX4_send_0 (by decide) ?_
  refine lv_aload_n hx hb dX4_send_2 rfl (lv_at hl 0 rfl) ?_
  refine va_get (D := (dC, dI)) (ci := 4) (v := .int (nI n)) (C := RX4) (T := TX4) (N := 16) hx hb hts inX4_send_X4 hown hK hP (0) rfl rfl 13 (by decide) (hts _ lkX4_send_50) (fun _ h9 => h9) rfl dX4_send_3 ?_
  refine lv_imul hx hb dX4_send_6 ?_
  refine qtop (y := nI (n * 6)) (mulc _ _) ?_
  refine lv_istore (lv' := [(7, .int (nI (n * 6))), (0, .ref (o 0)), (1, .int zk), (2, .int zc), (3, .int zr), (4, .int zs), (5, .int zt), (6, .int zv)]) hx hb dX4_send_7 hl (by decide) rfl (fun ls hl => ?_)
  refine lv_aload_n hx hb dX4_send_9 rfl (lv_at hl 1 rfl) ?_
  refine va_get (D := (dC, dI)) (ci := 4) (v := .ref (o 12)) (C := RX4) (T := TX4) (N := 16) hx hb hts inX4_send_X4 hown hK hP (0) rfl rfl 12 (by decide) (hts _ lkX4_send_44) (fun _ h9 => h9) rfl dX4_send_10 ?_
  refine lv_iload hx hb dX4_send_13 (lv_at hl 0 rfl) ?_
  refine lv_iload_n hx hb dX4_send_15 rfl (lv_at hl 2 rfl) ?_
  refine q_iast (ws' := (wMc o k r0 r1 r2 c0 c1 c2 c3 an c5 c6 c7 (upd f (n * 6) zk) g fl n d)) hx hb hK hP hD hS (12) 11 (j := n * 6) rfl rfl (by omega) (Nat.le_of_ble_eq_true rfl) rfl dX4_send_16 (fun H locs hP hD hS => ?_)
  refine lv_aload_n hx hb dX4_send_17 rfl (lv_at hl 1 rfl) ?_
  refine va_get (D := (dC, dI)) (ci := 4) (v := .ref (o 12)) (C := RX4) (T := TX4) (N := 16) hx hb hts inX4_send_X4 hown hK hP (0) rfl rfl 12 (by decide) (hts _ lkX4_send_44) (fun _ h9 => h9) rfl dX4_send_18 ?_
  refine lv_iload hx hb dX4_send_21 (lv_at hl 0 rfl) ?_
  refine lv_iconst (v := nI 1) hx hb dX4_send_23 (by decide) ?_
  refine lv_iadd hx hb dX4_send_24 ?_
  refine qtop (y := nI ((n * 6) + 1)) (nI_add _ _) ?_
  refine lv_iload_n hx hb dX4_send_25 rfl (lv_at hl 3 rfl) ?_
  refine q_iast (ws' := (wMc o k r0 r1 r2 c0 c1 c2 c3 an c5 c6 c7 (upd (upd f (n * 6) zk) ((n * 6) + 1) zc) g fl n d)) hx hb hK hP hD hS (12) 11 (j := (n * 6) + 1) rfl rfl (by omega) (Nat.le_of_ble_eq_true rfl) rfl dX4_send_26 (fun H locs hP hD hS => ?_)
  refine lv_aload_n hx hb dX4_send_27 rfl (lv_at hl 1 rfl) ?_
  refine va_get (D := (dC, dI)) (ci := 4) (v := .ref (o 12)) (C := RX4) (T := TX4) (N := 16) hx hb hts inX4_send_X4 hown hK hP (0) rfl rfl 12 (by decide) (hts _ lkX4_send_44) (fun _ h9 => h9) rfl dX4_send_28 ?_
  refine lv_iload hx hb dX4_send_31 (lv_at hl 0 rfl) ?_
  refine lv_iconst (v := nI 2) hx hb dX4_send_33 (by decide) ?_
  refine lv_iadd hx hb dX4_send_34 ?_
  refine qtop (y := nI ((n * 6) + 2)) (nI_add _ _) ?_
  refine lv_iload_n hx hb dX4_send_35 rfl (lv_at hl 4 rfl) ?_
  refine q_iast (ws' := (wMc o k r0 r1 r2 c0 c1 c2 c3 an c5 c6 c7 (upd (upd (upd f (n * 6) zk) ((n * 6) + 1) zc) ((n * 6) + 2) zr) g fl n d)) hx hb hK hP hD hS (12) 11 (j := (n * 6) + 2) rfl rfl (by omega) (Nat.le_of_ble_eq_true rfl) rfl dX4_send_36 (fun H locs hP hD hS => ?_)
  refine lv_aload_n hx hb dX4_send_37 rfl (lv_at hl 1 rfl) ?_
  refine va_get (D := (dC, dI)) (ci := 4) (v := .ref (o 12)) (C := RX4) (T := TX4) (N := 16) hx hb hts inX4_send_X4 hown hK hP (0) rfl rfl 12 (by decide) (hts _ lkX4_send_44) (fun _ h9 => h9) rfl dX4_send_38 ?_
  refine lv_iload hx hb dX4_send_41 (lv_at hl 0 rfl) ?_
  refine lv_iconst (v := nI 3) hx hb dX4_send_43 (by decide) ?_
  refine lv_iadd hx hb dX4_send_44 ?_
  refine qtop (y := nI ((n * 6) + 3)) (nI_add _ _) ?_
  refine lv_iload hx hb dX4_send_45 (lv_at hl 5 rfl) ?_
  refine q_iast (ws' := (wMc o k r0 r1 r2 c0 c1 c2 c3 an c5 c6 c7 (upd (upd (upd (upd f (n * 6) zk) ((n * 6) + 1) zc) ((n * 6) + 2) zr) ((n * 6) + 3) zs) g fl n d)) hx hb hK hP hD hS (12) 11 (j := (n * 6) + 3) rfl rfl (by omega) (Nat.le_of_ble_eq_true rfl) rfl dX4_send_47 (fun H locs hP hD hS => ?_)
  refine lv_aload_n hx hb dX4_send_48 rfl (lv_at hl 1 rfl) ?_
  refine va_get (D := (dC, dI)) (ci := 4) (v := .ref (o 12)) (C := RX4) (T := TX4) (N := 16) hx hb hts inX4_send_X4 hown hK hP (0) rfl rfl 12 (by decide) (hts _ lkX4_send_44) (fun _ h9 => h9) rfl dX4_send_49 ?_
  refine lv_iload hx hb dX4_send_52 (lv_at hl 0 rfl) ?_
  refine lv_iconst (v := nI 4) hx hb dX4_send_54 (by decide) ?_
  refine lv_iadd hx hb dX4_send_55 ?_
  refine qtop (y := nI ((n * 6) + 4)) (nI_add _ _) ?_
  refine lv_iload hx hb dX4_send_56 (lv_at hl 6 rfl) ?_
  refine q_iast (ws' := (wMc o k r0 r1 r2 c0 c1 c2 c3 an c5 c6 c7 (upd (upd (upd (upd (upd f (n * 6) zk) ((n * 6) + 1) zc) ((n * 6) + 2) zr) ((n * 6) + 3) zs) ((n * 6) + 4) zt) g fl n d)) hx hb hK hP hD hS (12) 11 (j := (n * 6) + 4) rfl rfl (by omega) (Nat.le_of_ble_eq_true rfl) rfl dX4_send_58 (fun H locs hP hD hS => ?_)
  refine lv_aload_n hx hb dX4_send_59 rfl (lv_at hl 1 rfl) ?_
  refine va_get (D := (dC, dI)) (ci := 4) (v := .ref (o 12)) (C := RX4) (T := TX4) (N := 16) hx hb hts inX4_send_X4 hown hK hP (0) rfl rfl 12 (by decide) (hts _ lkX4_send_44) (fun _ h9 => h9) rfl dX4_send_60 ?_
  refine lv_iload hx hb dX4_send_63 (lv_at hl 0 rfl) ?_
  refine lv_iconst (v := nI 5) hx hb dX4_send_65 (by decide) ?_
  refine lv_iadd hx hb dX4_send_66 ?_
  refine qtop (y := nI ((n * 6) + 5)) (nI_add _ _) ?_
  refine lv_iload hx hb dX4_send_67 (lv_at hl 7 rfl) ?_
  refine q_iast (ws' := (wMc o k r0 r1 r2 c0 c1 c2 c3 an c5 c6 c7 (upd (upd (upd (upd (upd (upd f (n * 6) zk) ((n * 6) + 1) zc) ((n * 6) + 2) zr) ((n * 6) + 3) zs) ((n * 6) + 4) zt) ((n * 6) + 5) zv) g fl n d)) hx hb hK hP hD hS (12) 11 (j := (n * 6) + 5) rfl rfl (by omega) (Nat.le_of_ble_eq_true rfl) rfl dX4_send_69 (fun H locs hP hD hS => ?_)
  refine lv_aload_n hx hb dX4_send_70 rfl (lv_at hl 1 rfl) ?_
  refine lv_dup hx hb dX4_send_71 rfl ?_
  refine va_get (D := (dC, dI)) (ci := 4) (v := .int (nI n)) (C := RX4) (T := TX4) (N := 16) hx hb hts inX4_send_X4 hown hK hP (0) rfl rfl 13 (by decide) (hts _ lkX4_send_50) (fun _ h9 => h9) rfl dX4_send_72 ?_
  refine lv_iconst (v := nI 1) hx hb dX4_send_75 (by decide) ?_
  refine lv_iadd hx hb dX4_send_76 ?_
  refine qtop (y := nI (n + 1)) (nI_add _ _) ?_
  refine q_put (D := (dC, dI)) (ci := 4) (v := .int (nI (n + 1))) (ty := .int) (C := RX4) (T := TX4) (N := 16) (ws' := (wMc o k r0 r1 r2 c0 c1 c2 c3 an c5 c6 c7 (upd (upd (upd (upd (upd (upd f (n * 6) zk) ((n * 6) + 1) zc) ((n * 6) + 2) zr) ((n * 6) + 3) zs) ((n * 6) + 4) zt) ((n * 6) + 5) zv) g fl (n + 1) d)) hx hb hts inX4_send_X4 tyX4 tyX4_ok nmX4 hown hK hP hD hS (0) rfl rfl 13 (by decide) (hts _ lkX4_send_50) (fun _ h9 => h9) rfl (by decide +kernel) rfl rfl (Nat.le_of_ble_eq_true rfl) rfl dX4_send_77 (fun H locs hP hD hS => ?_)
  exact retV hx hb hr hlk dX4_send_80 hS (hP)
theorem lkX4_sendAll_23 : Cond.fieldLink RX4 23 "QuorumRegisterModel" "serial" "[I" ∈ wsX4_sendAll := by decide +kernel
theorem inX4_sendAll_X4 : ∀ w ∈ wsX40, w ∈ wsX4_sendAll := by decide +kernel
set_option maxHeartbeats 4000000 in
set_option maxRecDepth 100000 in
/-- sendAll(..) -/
theorem k_X4_sendAll (l : Launch) (dC : Nat → ClassId) (dI : Nat → Nat → Nat) (o : Nat → Nat) (k : Nat → ClassId) (r0 r1 r2 c0 c1 c2 c3 an c5 c6 c7 f g : Nat → Int32) (fl n d : Nat) (hn : n + 5 ≤ 100) (c : Nat) (lt_c : c < 3) (zk zt zv : Int32) : MetV l yX4_sendAll wsX4_sendAll ({ frames := 1, cells := 0, slots := 0, locals := 27 } : Room) (dC, dI) vwCl (wMc o k r0 r1 r2 c0 c1 c2 c3 an c5 c6 c7 f g fl n d) (tyM k) [.ref (o 0), .int zk, .int (nI c), .int zt, .int zv] (wMc o k r0 r1 r2 c0 c1 c2 c3 an c5 c6 c7 (sndN zk (nI c) (c1 c) zt zv f n 5) g fl (n + 5) d) := by
  refine MetV.of (cc := cX4_sendAll) (maxL := 6) (ret := none) (by decide) rfl (Nat.le_of_ble_eq_true rfl) rfl ?_
  intro p e s m below meth cd ls A hx hb hr hlk hml hown hts hK hP hD hS hA hl
  have hl : lv_has ls 6 [(0, .ref (o 0)), (1, .int zk), (2, .int (nI c)), (3, .int zt), (4, .int zv)] := hl
  refine lv_iconst (v := nI 0) hx hb dX4_sendAll_0 (by decide) ?_
  refine lv_istore (lv' := [(5, .int (nI 0)), (0, .ref (o 0)), (1, .int zk), (2, .int (nI c)), (3, .int zt), (4, .int zv)]) hx hb dX4_sendAll_1 hl (by decide) rfl (fun ls hl => ?_)
  refine lv_iload hx hb dX4_sendAll_3 (lv_at hl 0 rfl) ?_
  refine lv_iconst (v := nI 5) hx hb dX4_sendAll_5 (by decide) ?_
  refine lv_icmp_ge (tgt := 32) hx hb dX4_sendAll_6 (by decide) (fun c9 => absurd c9 (by decide +kernel)) (fun _ => ?_)
  refine lv_aload_n hx hb dX4_sendAll_9 rfl (lv_at hl 1 rfl) ?_
  refine lv_iload_n hx hb dX4_sendAll_10 rfl (lv_at hl 2 rfl) ?_
  refine lv_iload_n hx hb dX4_sendAll_11 rfl (lv_at hl 3 rfl) ?_
  refine lv_iload hx hb dX4_sendAll_12 (lv_at hl 0 rfl) ?_
  refine lv_aload_n hx hb dX4_sendAll_14 rfl (lv_at hl 1 rfl) ?_
  refine va_get (D := (dC, dI)) (ci := 4) (v := .ref (o 5)) (C := RX4) (T := TX4) (N := 16) hx hb hts inX4_sendAll_X4 hown hK hP (0) rfl rfl 5 (by decide) (hts _ lkX4_sendAll_23) (fun _ h9 => h9) rfl dX4_sendAll_15 ?_
  refine lv_iload_n hx hb dX4_sendAll_18 rfl (lv_at hl 3 rfl) ?_
  refine q_iald hx hb hK hP (5) 4 (j := c) rfl rfl lt_c (Nat.le_of_ble_eq_true rfl) dX4_sendAll_19 ?_
  refine lv_iload_n hx hb dX4_sendAll_20 rfl (lv_at hl 4 rfl) ?_
  refine lv_iload hx hb dX4_sendAll_21 (lv_at hl 5 rfl) ?_
  refine goV (ws := (wMc o k r0 r1 r2 c0 c1 c2 c3 an c5 c6 c7 f g fl n d)) (ws' := (wMc o k r0 r1 r2 c0 c1 c2 c3 an c5 c6 c7 (sndN zk (nI c) (c1 c) zt zv f n 1) g fl (n + 1) d)) (qFit_all rfl) hP hD hS hA (va_runV (rm := ({ frames := 0, cells := 0, slots := 0, locals := 0 } : Room)) (As := [.int zk, .int (nI c), .int (nI 0), .int (c1 c), .int zt, .int zv]) (rest := []) ⟨hx, hb, hml, hown, hts⟩ (MetV.at (k_X4_send l dC dI o k r0 r1 r2 c0 c1 c2 c3 an c5 c6 c7 f g fl n d (by omega) zk (nI c) (nI 0) (c1 c) zt zv) s.heap.size) (cwV 6 hts gX4_sendAll_X4_send rfl rfl rfl (by decide +kernel) ⟨Nat.le_of_ble_eq_true rfl, Nat.le_of_ble_eq_true rfl⟩) (preWV hK hP hD (va_recv hK hP (ci := 4) (q0 := 0) rfl rfl)) rfl rfl hl.1 rfl (lv_room (Nat.le_of_ble_eq_true rfl)) dX4_sendAll_23 ⟨Nat.le_of_ble_eq_true rfl, Nat.le_of_ble_eq_true rfl⟩) (fun H locs hP hD hS => ?_)
  refine lv_iinc (v := nI 1) (lv' := [(5, .int (nI 1)), (0, .ref (o 0)), (1, .int zk), (2, .int (nI c)), (3, .int zt), (4, .int zv)]) hx hb dX4_sendAll_26 hl (k := 0) rfl (nI_add _ 1) (by decide) rfl (fun ls hl => ?_)
  refine lv_goto (tgt := 3) hx hb dX4_sendAll_29 (by decide) ?_
  refine lv_iload hx hb dX4_sendAll_3 (lv_at hl 0 rfl) ?_
  refine lv_iconst (v := nI 5) hx hb dX4_sendAll_5 (by decide) ?_
  refine lv_icmp_ge (tgt := 32) hx hb dX4_sendAll_6 (by decide) (fun c9 => absurd c9 (by decide +kernel)) (fun _ => ?_)
  refine lv_aload_n hx hb dX4_sendAll_9 rfl (lv_at hl 1 rfl) ?_
  refine lv_iload_n hx hb dX4_sendAll_10 rfl (lv_at hl 2 rfl) ?_
  refine lv_iload_n hx hb dX4_sendAll_11 rfl (lv_at hl 3 rfl) ?_
  refine lv_iload hx hb dX4_sendAll_12 (lv_at hl 0 rfl) ?_
  refine lv_aload_n hx hb dX4_sendAll_14 rfl (lv_at hl 1 rfl) ?_
  refine va_get (D := (dC, dI)) (ci := 4) (v := .ref (o 5)) (C := RX4) (T := TX4) (N := 16) hx hb hts inX4_sendAll_X4 hown hK hP (0) rfl rfl 5 (by decide) (hts _ lkX4_sendAll_23) (fun _ h9 => h9) rfl dX4_sendAll_15 ?_
  refine lv_iload_n hx hb dX4_sendAll_18 rfl (lv_at hl 3 rfl) ?_
  refine q_iald hx hb hK hP (5) 4 (j := c) rfl rfl lt_c (Nat.le_of_ble_eq_true rfl) dX4_sendAll_19 ?_
  refine lv_iload_n hx hb dX4_sendAll_20 rfl (lv_at hl 4 rfl) ?_
  refine lv_iload hx hb dX4_sendAll_21 (lv_at hl 5 rfl) ?_
  refine goV (ws := (wMc o k r0 r1 r2 c0 c1 c2 c3 an c5 c6 c7 (sndN zk (nI c) (c1 c) zt zv f n 1) g fl (n + 1) d)) (ws' := (wMc o k r0 r1 r2 c0 c1 c2 c3 an c5 c6 c7 (sndN zk (nI c) (c1 c) zt zv f n 2) g fl (n + 2) d)) (qFit_all rfl) hP hD hS hA (va_runV (rm := ({ frames := 0, cells := 0, slots := 0, locals := 0 } : Room)) (As := [.int zk, .int (nI c), .int (nI 1), .int (c1 c), .int zt, .int zv]) (rest := []) ⟨hx, hb, hml, hown, hts⟩ (MetV.at (k_X4_send l dC dI o k r0 r1 r2 c0 c1 c2 c3 an c5 c6 c7 (sndN zk (nI c) (c1 c) zt zv f n 1) g fl (n + 1) d (by omega) zk (nI c) (nI 1) (c1 c) zt zv) H.size) (cwV 6 hts gX4_sendAll_X4_send rfl rfl rfl (by decide +kernel) ⟨Nat.le_of_ble_eq_true rfl, Nat.le_of_ble_eq_true rfl⟩) (preWV hK hP hD (va_recv hK hP (ci := 4) (q0 := 0) rfl rfl)) rfl rfl hl.1 rfl (lv_room (Nat.le_of_ble_eq_true rfl)) dX4_sendAll_23 ⟨Nat.le_of_ble_eq_true rfl, Nat.le_of_ble_eq_true rfl⟩) (fun H locs hP hD hS => ?_)
  refine lv_iinc (v := nI 2) (lv' := [(5, .int (nI 2)), (0, .ref (o 0)), (1, .int zk), (2, .int (nI c)), (3, .int zt), (4, .int zv)]) hx hb dX4_sendAll_26 hl (k := 0) rfl (nI_add _ 1) (by decide) rfl (fun ls hl => ?_)
  refine lv_goto (tgt := 3) hx hb dX4_sendAll_29 (by decide) ?_
  refine lv_iload hx hb dX4_sendAll_3 (lv_at hl 0 rfl) ?_
  refine lv_iconst (v := nI 5) hx hb dX4_sendAll_5 (by decide) ?_
  refine lv_icmp_ge (tgt := 32) hx hb dX4_sendAll_6 (by decide) (fun c9 => absurd c9 (by decide +kernel)) (fun _ => ?_)
  refine lv_aload_n hx hb dX4_sendAll_9 rfl (lv_at hl 1 rfl) ?_
  refine lv_iload_n hx hb dX4_sendAll_10 rfl (lv_at hl 2 rfl) ?_
  refine lv_iload_n hx hb dX4_sendAll_11 rfl (lv_at hl 3 rfl) ?_
  refine lv_iload hx hb dX4_sendAll_12 (lv_at hl 0 rfl) ?_
  refine lv_aload_n hx hb dX4_sendAll_14 rfl (lv_at hl 1 rfl) ?_
  refine va_get (D := (dC, dI)) (ci := 4) (v := .ref (o 5)) (C := RX4) (T := TX4) (N := 16) hx hb hts inX4_sendAll_X4 hown hK hP (0) rfl rfl 5 (by decide) (hts _ lkX4_sendAll_23) (fun _ h9 => h9) rfl dX4_sendAll_15 ?_
  refine lv_iload_n hx hb dX4_sendAll_18 rfl (lv_at hl 3 rfl) ?_
  refine q_iald hx hb hK hP (5) 4 (j := c) rfl rfl lt_c (Nat.le_of_ble_eq_true rfl) dX4_sendAll_19 ?_
  refine lv_iload_n hx hb dX4_sendAll_20 rfl (lv_at hl 4 rfl) ?_
  refine lv_iload hx hb dX4_sendAll_21 (lv_at hl 5 rfl) ?_
  refine goV (ws := (wMc o k r0 r1 r2 c0 c1 c2 c3 an c5 c6 c7 (sndN zk (nI c) (c1 c) zt zv f n 2) g fl (n + 2) d)) (ws' := (wMc o k r0 r1 r2 c0 c1 c2 c3 an c5 c6 c7 (sndN zk (nI c) (c1 c) zt zv f n 3) g fl (n + 3) d)) (qFit_all rfl) hP hD hS hA (va_runV (rm := ({ frames := 0, cells := 0, slots := 0, locals := 0 } : Room)) (As := [.int zk, .int (nI c), .int (nI 2), .int (c1 c), .int zt, .int zv]) (rest := []) ⟨hx, hb, hml, hown, hts⟩ (MetV.at (k_X4_send l dC dI o k r0 r1 r2 c0 c1 c2 c3 an c5 c6 c7 (sndN zk (nI c) (c1 c) zt zv f n 2) g fl (n + 2) d (by omega) zk (nI c) (nI 2) (c1 c) zt zv) H.size) (cwV 6 hts gX4_sendAll_X4_send rfl rfl rfl (by decide +kernel) ⟨Nat.le_of_ble_eq_true rfl, Nat.le_of_ble_eq_true rfl⟩) (preWV hK hP hD (va_recv hK hP (ci := 4) (q0 := 0) rfl rfl)) rfl rfl hl.1 rfl (lv_room (Nat.le_of_ble_eq_true rfl)) dX4_sendAll_23 ⟨Nat.le_of_ble_eq_true rfl, Nat.le_of_ble_eq_true rfl⟩) (fun H locs hP hD hS => ?_)
  refine lv_iinc (v := nI 3) (lv' := [(5, .int (nI 3)), (0, .ref (o 0)), (1, .int zk), (2, .int (nI c)), (3, .int zt), (4, .int zv)]) hx hb dX4_sendAll_26 hl (k := 0) rfl (nI_add _ 1) (by decide) rfl (fun ls hl => ?_)
  refine lv_goto (tgt := 3) hx hb dX4_sendAll_29 (by decide) ?_
  refine lv_iload hx hb dX4_sendAll_3 (lv_at hl 0 rfl) ?_
  refine lv_iconst (v := nI 5) hx hb dX4_sendAll_5 (by decide) ?_
  refine lv_icmp_ge (tgt := 32) hx hb dX4_sendAll_6 (by decide) (fun c9 => absurd c9 (by decide +kernel)) (fun _ => ?_)
  refine lv_aload_n hx hb dX4_sendAll_9 rfl (lv_at hl 1 rfl) ?_
  refine lv_iload_n hx hb dX4_sendAll_10 rfl (lv_at hl 2 rfl) ?_
  refine lv_iload_n hx hb dX4_sendAll_11 rfl (lv_at hl 3 rfl) ?_
  refine lv_iload hx hb dX4_sendAll_12 (lv_at hl 0 rfl) ?_
  refine lv_aload_n hx hb dX4_sendAll_14 rfl (lv_at hl 1 rfl) ?_
  refine va_get (D := (dC, dI)) (ci := 4) (v := .ref (o 5)) (C := RX4) (T := TX4) (N := 16) hx hb hts inX4_sendAll_X4 hown hK hP (0) rfl rfl 5 (by decide) (hts _ lkX4_sendAll_23) (fun _ h9 => h9) rfl dX4_sendAll_15 ?_
  refine lv_iload_n hx hb dX4_sendAll_18 rfl (lv_at hl 3 rfl) ?_
  refine q_iald hx hb hK hP (5) 4 (j := c) rfl rfl lt_c (Nat.le_of_ble_eq_true rfl) dX4_sendAll_19 ?_
  refine lv_iload_n hx hb dX4_sendAll_20 rfl (lv_at hl 4 rfl) ?_
  refine lv_iload hx hb dX4_sendAll_21 (lv_at hl 5 rfl) ?_
  refine goV (ws := (wMc o k r0 r1 r2 c0 c1 c2 c3 an c5 c6 c7 (sndN zk (nI c) (c1 c) zt zv f n 3) g fl (n + 3) d)) (ws' := (wMc o k r0 r1 r2 c0 c1 c2 c3 an c5 c6 c7 (sndN zk (nI c) (c1 c) zt zv f n 4) g fl (n + 4) d)) (qFit_all rfl) hP hD hS hA (va_runV (rm := ({ frames := 0, cells := 0, slots := 0, locals := 0 } : Room)) (As := [.int zk, .int (nI c), .int (nI 3), .int (c1 c), .int zt, .int zv]) (rest := []) ⟨hx, hb, hml, hown, hts⟩ (MetV.at (k_X4_send l dC dI o k r0 r1 r2 c0 c1 c2 c3 an c5 c6 c7 (sndN zk (nI c) (c1 c) zt zv f n 3) g fl (n + 3) d (by omega) zk (nI c) (nI 3) (c1 c) zt zv) H.size) (cwV 6 hts gX4_sendAll_X4_send rfl rfl rfl (by decide +kernel) ⟨Nat.le_of_ble_eq_true rfl, Nat.le_of_ble_eq_true rfl⟩) (preWV hK hP hD (va_recv hK hP (ci := 4) (q0 := 0) rfl rfl)) rfl rfl hl.1 rfl (lv_room (Nat.le_of_ble_eq_true rfl)) dX4_sendAll_23 ⟨Nat.le_of_ble_eq_true rfl, Nat.le_of_ble_eq_true rfl⟩) (fun H locs hP hD hS => ?_)
  refine lv_iinc (v := nI 4) (lv' := [(5, .int (nI 4)), (0, .ref (o 0)), (1, .int zk), (2, .int (nI c)), (3, .int zt), (4, .int zv)]) hx hb dX4_sendAll_26 hl (k := 0) rfl (nI_add _ 1) (by decide) rfl (fun ls hl => ?_)
  refine lv_goto (tgt := 3) hx hb dX4_sendAll_29 (by decide) ?_
  refine lv_iload hx hb dX4_sendAll_3 (lv_at hl 0 rfl) ?_
  refine lv_iconst (v := nI 5) hx hb dX4_sendAll_5 (by decide) ?_
  refine lv_icmp_ge (tgt := 32) hx hb dX4_sendAll_6 (by decide) (fun c9 => absurd c9 (by decide +kernel)) (fun _ => ?_)
  refine lv_aload_n hx hb dX4_sendAll_9 rfl (lv_at hl 1 rfl) ?_
  refine lv_iload_n hx hb dX4_sendAll_10 rfl (lv_at hl 2 rfl) ?_
  refine lv_iload_n hx hb dX4_sendAll_11 rfl (lv_at hl 3 rfl) ?_
  refine lv_iload hx hb dX4_sendAll_12 (lv_at hl 0 rfl) ?_
  refine lv_aload_n hx hb dX4_sendAll_14 rfl (lv_at hl 1 rfl) ?_
  refine va_get (D := (dC, dI)) (ci := 4) (v := .ref (o 5)) (C := RX4) (T := TX4) (N := 16) hx hb hts inX4_sendAll_X4 hown hK hP (0) rfl rfl 5 (by decide) (hts _ lkX4_sendAll_23) (fun _ h9 => h9) rfl dX4_sendAll_15 ?_
  refine lv_iload_n hx hb dX4_sendAll_18 rfl (lv_at hl 3 rfl) ?_
  refine q_iald hx hb hK hP (5) 4 (j := c) rfl rfl lt_c (Nat.le_of_ble_eq_true rfl) dX4_sendAll_19 ?_
  refine lv_iload_n hx hb dX4_sendAll_20 rfl (lv_at hl 4 rfl) ?_
  refine lv_iload hx hb dX4_sendAll_21 (lv_at hl 5 rfl) ?_
  refine goV (ws := (wMc o k r0 r1 r2 c0 c1 c2 c3 an c5 c6 c7 (sndN zk (nI c) (c1 c) zt zv f n 4) g fl (n + 4) d)) (ws' := (wMc o k r0 r1 r2 c0 c1 c2 c3 an c5 c6 c7 (sndN zk (nI c) (c1 c) zt zv f n 5) g fl (n + 5) d)) (qFit_all rfl) hP hD hS hA (va_runV (rm := ({ frames := 0, cells := 0, slots := 0, locals := 0 } : Room)) (As := [.int zk, .int (nI c), .int (nI 4), .int (c1 c), .int zt, .int zv]) (rest := []) ⟨hx, hb, hml, hown, hts⟩ (MetV.at (k_X4_send l dC dI o k r0 r1 r2 c0 c1 c2 c3 an c5 c6 c7 (sndN zk (nI c) (c1 c) zt zv f n 4) g fl (n + 4) d (by omega) zk (nI c) (nI 4) (c1 c) zt zv) H.size) (cwV 6 hts gX4_sendAll_X4_send rfl rfl rfl (by decide +kernel) ⟨Nat.le_of_ble_eq_true rfl, Nat.le_of_ble_eq_true rfl⟩) (preWV hK hP hD (va_recv hK hP (ci := 4) (q0 := 0) rfl rfl)) rfl rfl hl.1 rfl (lv_room (Nat.le_of_ble_eq_true rfl)) dX4_sendAll_23 ⟨Nat.le_of_ble_eq_true rfl, Nat.le_of_ble_eq_true rfl⟩) (fun H locs hP hD hS => ?_)
  refine lv_iinc (v := nI 5) (lv' := [(5, .int (nI 5)), (0, .ref (o 0)), (1, .int zk), (2, .int (nI c)), (3, .int zt), (4, .int zv)]) hx hb dX4_sendAll_26 hl (k := 0) rfl (nI_add _ 1) (by decide) rfl (fun ls hl => ?_)
  refine lv_goto (tgt := 3) hx hb dX4_sendAll_29 (by decide) ?_
  refine lv_iload hx hb dX4_sendAll_3 (lv_at hl 0 rfl) ?_
  refine lv_iconst (v := nI 5) hx hb dX4_sendAll_5 (by decide) ?_
  refine lv_icmp_ge (tgt := 32) hx hb dX4_sendAll_6 (by decide) (fun _ => ?_) (fun c9 => absurd (by decide +kernel) c9)
  exact retV hx hb hr hlk dX4_sendAll_32 hS (hP)
theorem lkX4_drop_50 : Cond.fieldLink RX4 50 "QuorumRegisterModel" "count" "I" ∈ wsX4_drop := by decide +kernel
theorem inX4_drop_X4 : ∀ w ∈ wsX40, w ∈ wsX4_drop := by decide +kernel
theorem lkX4_drop_44 : Cond.fieldLink RX4 44 "QuorumRegisterModel" "pool" "[I" ∈ wsX4_drop := by decide +kernel
set_option maxHeartbeats 4000000 in
set_option maxRecDepth 100000 in
/-- drop(i) -/
theorem k_X4_drop (l : Launch) (dC : Nat → ClassId) (dI : Nat → Nat → Nat) (o : Nat → Nat) (k : Nat → ClassId) (r0 r1 r2 c0 c1 c2 c3 an c5 c6 c7 f g : Nat → Int32) (fl n d : Nat) (hn : n ≤ 100) (i : Nat) (lt_i : i < n) : MetV l yX4_drop wsX4_drop ({ frames := 0, cells := 0, slots := 0, locals := 0 } : Room) (dC, dI) vwCl (wMc o k r0 r1 r2 c0 c1 c2 c3 an c5 c6 c7 f g fl n d) (tyM k) [.ref (o 0), .int (nI i)] (wMc o k r0 r1 r2 c0 c1 c2 c3 an c5 c6 c7 (drp f n i) g fl (n - 1) d) := by
  refine MetV.of (cc := cX4_drop) (maxL := 3) (ret := none) (by decide) rfl (Nat.le_of_ble_eq_true rfl) rfl ?_
  intro p e s m below meth cd ls A hx hb hr hlk hml hown hts hK hP hD hS hA hl
  have hl : lv_has ls 3 [(0, .ref (o 0)), (1, .int (nI i))] := hl
  refine lv_aload_n hx hb dX4_drop_0 rfl (lv_at hl 0 rfl) ?_
  refine lv_dup hx hb dX4_drop_1 rfl ?_
  refine va_get (D := (dC, dI)) (ci := 4) (v := .int (nI n)) (C := RX4) (T := TX4) (N := 16) hx hb hts inX4_drop_X4 hown hK hP (0) rfl rfl 13 (by decide) (hts _ lkX4_drop_50) (fun _ h9 => h9) rfl dX4_drop_2 ?_
  refine lv_iconst (v := nI 1) hx hb dX4_drop_5 (by decide) ?_
  refine lv_isub hx hb dX4_drop_6 ?_
  refine qtop (y := nI (n - 1)) (pk_sub (by omega)) ?_
  refine q_put (D := (dC, dI)) (ci := 4) (v := .int (nI (n - 1))) (ty := .int) (C := RX4) (T := TX4) (N := 16) (ws' := (wMc o k r0 r1 r2 c0 c1 c2 c3 an c5 c6 c7 f g fl (n - 1) d)) hx hb hts inX4_drop_X4 tyX4 tyX4_ok nmX4 hown hK hP hD hS (0) rfl rfl 13 (by decide) (hts _ lkX4_drop_50) (fun _ h9 => h9) rfl (by decide +kernel) rfl rfl (Nat.le_of_ble_eq_true rfl) rfl dX4_drop_7 (fun H locs hP hD hS => ?_)
  refine lv_bipush (v := nI 6) hx hb dX4_drop_10 (by decide) ?_
  refine lv_iload_n hx hb dX4_drop_12 rfl (lv_at hl 1 rfl) ?_
  refine lv_imul hx hb dX4_drop_13 ?_
  refine qtop (y := nI (i * 6)) (mulc _ _) ?_
  refine lv_istore_n (lv' := [(2, .int (nI (i * 6))), (0, .ref (o 0)), (1, .int (nI i))]) hx hb dX4_drop_14 rfl hl (by decide) rfl (fun ls hl => ?_)
  have loop : ∀ u t : Nat, t + u = n * 6 - (i + 1) * 6 → ∀ (ls : Array Slot) (H : Heap) (locs : List Loc), va_P (dC, dI) vwCl (wMc o k r0 r1 r2 c0 c1 c2 c3 an c5 c6 c7 (va_cpy f f ((i + 1) * 6) (i * 6) t) g fl (n - 1) d) H → va_D A (wMc o k r0 r1 r2 c0 c1 c2 c3 an c5 c6 c7 (va_cpy f f ((i + 1) * 6) (i * 6) t) g fl (n - 1) d) → va_S A s.heap H locs → lv_has ls 3 [(0, .ref (o 0)), (1, .int (nI i)), (2, .int (nI (i * 6 + t)))] → W p l e ({ frames := 0, cells := 0, slots := 0, locals := 0 } : Room) s m [Value.ref (o 0), Value.int (nI i)].toArray below meth cd H locs 0 0 (MQ below (qQv (dC, dI) vwCl (wMc o k r0 r1 r2 c0 c1 c2 c3 an c5 c6 c7 (drp f n i) g fl (n - 1) d) A) [Value.ref (o 0), Value.int (nI i)].toArray s 0 0 A) (F0 m 15 ls []) := by
    intro u
    induction u with
    | zero =>
      intro t ht ls H locs hP hD hS hl
      have ht : t = n * 6 - (i + 1) * 6 := by omega
      refine lv_iload_n hx hb dX4_drop_15 rfl (lv_at hl 2 rfl) ?_
      refine lv_bipush (v := nI 6) hx hb dX4_drop_16 (by decide) ?_
      refine lv_aload_n hx hb dX4_drop_18 rfl (lv_at hl 0 rfl) ?_
      refine va_get (D := (dC, dI)) (ci := 4) (v := .int (nI (n - 1))) (C := RX4) (T := TX4) (N := 16) hx hb hts inX4_drop_X4 hown hK hP (0) rfl rfl 13 (by decide) (hts _ lkX4_drop_50) (fun _ h9 => h9) rfl dX4_drop_19 ?_
      refine lv_imul hx hb dX4_drop_22 ?_
      refine qtop (y := nI ((n - 1) * 6)) (mulc _ _) ?_
      refine lv_icmp_ge (tgt := 47) hx hb dX4_drop_23 (by decide) (fun c_23 => ?_) (fun c_23 => ?_)
      · exact retV hx hb hr hlk dX4_drop_47 hS (by rw [ht] at hP; exact hP)
      · exact absurd (nI_le (by omega) (by omega)) c_23
    | succ u ih =>
      intro t ht ls H locs hP hD hS hl
      refine lv_iload_n hx hb dX4_drop_15 rfl (lv_at hl 2 rfl) ?_
      refine lv_bipush (v := nI 6) hx hb dX4_drop_16 (by decide) ?_
      refine lv_aload_n hx hb dX4_drop_18 rfl (lv_at hl 0 rfl) ?_
      refine va_get (D := (dC, dI)) (ci := 4) (v := .int (nI (n - 1))) (C := RX4) (T := TX4) (N := 16) hx hb hts inX4_drop_X4 hown hK hP (0) rfl rfl 13 (by decide) (hts _ lkX4_drop_50) (fun _ h9 => h9) rfl dX4_drop_19 ?_
      refine lv_imul hx hb dX4_drop_22 ?_
      refine qtop (y := nI ((n - 1) * 6)) (mulc _ _) ?_
      refine lv_icmp_ge (tgt := 47) hx hb dX4_drop_23 (by decide) (fun c_23 => ?_) (fun c_23 => ?_)
      · exact absurd c_23 (nI_ge (by omega) (by omega))
      · refine lv_aload_n hx hb dX4_drop_26 rfl (lv_at hl 0 rfl) ?_
        refine va_get (D := (dC, dI)) (ci := 4) (v := .ref (o 12)) (C := RX4) (T := TX4) (N := 16) hx hb hts inX4_drop_X4 hown hK hP (0) rfl rfl 12 (by decide) (hts _ lkX4_drop_44) (fun _ h9 => h9) rfl dX4_drop_27 ?_
        refine lv_iload_n hx hb dX4_drop_30 rfl (lv_at hl 2 rfl) ?_
        refine lv_aload_n hx hb dX4_drop_31 rfl (lv_at hl 0 rfl) ?_
        refine va_get (D := (dC, dI)) (ci := 4) (v := .ref (o 12)) (C := RX4) (T := TX4) (N := 16) hx hb hts inX4_drop_X4 hown hK hP (0) rfl rfl 12 (by decide) (hts _ lkX4_drop_44) (fun _ h9 => h9) rfl dX4_drop_32 ?_
        refine lv_iload_n hx hb dX4_drop_35 rfl (lv_at hl 2 rfl) ?_
        refine lv_bipush (v := nI 6) hx hb dX4_drop_36 (by decide) ?_
        refine lv_iadd hx hb dX4_drop_38 ?_
        refine qtop (y := nI ((i * 6 + t) + 6)) (nI_add _ _) ?_
        refine q_iald hx hb hK hP (12) 11 (j := (i * 6 + t) + 6) rfl rfl (by omega) (Nat.le_of_ble_eq_true rfl) dX4_drop_39 ?_
        refine q_iast (ws' := (wMc o k r0 r1 r2 c0 c1 c2 c3 an c5 c6 c7 (upd (va_cpy f f ((i + 1) * 6) (i * 6) t) (i * 6 + t) ((va_cpy f f ((i + 1) * 6) (i * 6) t) ((i * 6 + t) + 6))) g fl (n - 1) d)) hx hb hK hP hD hS (12) 11 (j := i * 6 + t) rfl rfl (by omega) (Nat.le_of_ble_eq_true rfl) rfl dX4_drop_40 (fun H locs hP hD hS => ?_)
        refine lv_iinc (v := nI ((i * 6 + t) + 1)) (lv' := [(2, .int (nI ((i * 6 + t) + 1))), (0, .ref (o 0)), (1, .int (nI i))]) hx hb dX4_drop_41 hl (k := 2) rfl (nI_add _ 1) (by decide) rfl (fun ls hl => ?_)
        refine lv_goto (tgt := 15) hx hb dX4_drop_44 (by decide) ?_
        rw [cpy_step] at hP hD
        exact ih (t + 1) (by omega) ls H locs hP hD hS (lv_sub hl [1, 2, 0] rfl)
  refine loop (n * 6 - (i + 1) * 6) 0 (by omega) ls H locs ?_ ?_ hS (lv_sub hl [1, 2, 0] rfl)
  · rw [cpy_0]; exact hP
  · rw [cpy_0]; exact hD
set_option maxHeartbeats 4000000 in
set_option maxRecDepth 100000 in
/-- bits(set) -/
theorem k_X4_bits (l : Launch) (dC : Nat → ClassId) (dI : Nat → Nat → Nat) (x : Int32) : MetS l yX4_bits wsX4_bits ({ frames := 0, cells := 0, slots := 0, locals := 0 } : Room) (dC, dI) vwCl ([]) ([]) [.int x] (bitM x) := by
  refine MetS.of (cc := cX4_bits) (maxL := 3) (ret := (some .int)) (by decide) rfl (Nat.le_of_ble_eq_true rfl) rfl ?_
  intro p e s m below meth cd ls hx hb hr hlk hml hown hts hK hP hl
  have hl : lv_has ls 3 [(0, .int x)] := hl
  refine lv_iconst (v := nI 0) hx hb dX4_bits_0 (by decide) ?_
  refine lv_istore_n (lv' := [(1, .int (nI 0)), (0, .int x)]) hx hb dX4_bits_1 rfl hl (by decide) rfl (fun ls hl => ?_)
  refine lv_iconst (v := nI 0) hx hb dX4_bits_2 (by decide) ?_
  refine lv_istore_n (lv' := [(2, .int (nI 0)), (1, .int (nI 0)), (0, .int x)]) hx hb dX4_bits_3 rfl hl (by decide) rfl (fun ls hl => ?_)
  refine lv_iload_n hx hb dX4_bits_4 rfl (lv_at hl 0 rfl) ?_
  refine lv_iconst (v := nI 5) hx hb dX4_bits_5 (by decide) ?_
  refine lv_icmp_ge (tgt := 23) hx hb dX4_bits_6 (by decide) (fun c9 => absurd c9 (by decide +kernel)) (fun _ => ?_)
  refine lv_iload_n hx hb dX4_bits_9 rfl (lv_at hl 1 rfl) ?_
  refine lv_iload_n hx hb dX4_bits_10 rfl (lv_at hl 2 rfl) ?_
  refine lv_iload_n hx hb dX4_bits_11 rfl (lv_at hl 0 rfl) ?_
  refine lv_ishr hx hb dX4_bits_12 ?_
  refine lv_iconst (v := nI 1) hx hb dX4_bits_13 (by decide) ?_
  refine lv_iand hx hb dX4_bits_14 ?_
  refine lv_iadd hx hb dX4_bits_15 ?_
  refine lv_istore_n (lv' := [(1, .int ((nI 0) + ((x >>> ((nI 0) &&& 31)) &&& (nI 1)))), (2, .int (nI 0)), (0, .int x)]) hx hb dX4_bits_16 rfl hl (by decide) rfl (fun ls hl => ?_)
  refine lv_iinc (v := nI 1) (lv' := [(2, .int (nI 1)), (1, .int ((nI 0) + ((x >>> ((nI 0) &&& 31)) &&& (nI 1)))), (0, .int x)]) hx hb dX4_bits_17 hl (k := 1) rfl (nI_add _ 1) (by decide) rfl (fun ls hl => ?_)
  refine lv_goto (tgt := 4) hx hb dX4_bits_20 (by decide) ?_
  refine lv_iload_n hx hb dX4_bits_4 rfl (lv_at hl 0 rfl) ?_
  refine lv_iconst (v := nI 5) hx hb dX4_bits_5 (by decide) ?_
  refine lv_icmp_ge (tgt := 23) hx hb dX4_bits_6 (by decide) (fun c9 => absurd c9 (by decide +kernel)) (fun _ => ?_)
  refine lv_iload_n hx hb dX4_bits_9 rfl (lv_at hl 1 rfl) ?_
  refine lv_iload_n hx hb dX4_bits_10 rfl (lv_at hl 2 rfl) ?_
  refine lv_iload_n hx hb dX4_bits_11 rfl (lv_at hl 0 rfl) ?_
  refine lv_ishr hx hb dX4_bits_12 ?_
  refine lv_iconst (v := nI 1) hx hb dX4_bits_13 (by decide) ?_
  refine lv_iand hx hb dX4_bits_14 ?_
  refine lv_iadd hx hb dX4_bits_15 ?_
  refine lv_istore_n (lv' := [(1, .int (((nI 0) + ((x >>> ((nI 0) &&& 31)) &&& (nI 1))) + ((x >>> ((nI 1) &&& 31)) &&& (nI 1)))), (2, .int (nI 1)), (0, .int x)]) hx hb dX4_bits_16 rfl hl (by decide) rfl (fun ls hl => ?_)
  refine lv_iinc (v := nI 2) (lv' := [(2, .int (nI 2)), (1, .int (((nI 0) + ((x >>> ((nI 0) &&& 31)) &&& (nI 1))) + ((x >>> ((nI 1) &&& 31)) &&& (nI 1)))), (0, .int x)]) hx hb dX4_bits_17 hl (k := 1) rfl (nI_add _ 1) (by decide) rfl (fun ls hl => ?_)
  refine lv_goto (tgt := 4) hx hb dX4_bits_20 (by decide) ?_
  refine lv_iload_n hx hb dX4_bits_4 rfl (lv_at hl 0 rfl) ?_
  refine lv_iconst (v := nI 5) hx hb dX4_bits_5 (by decide) ?_
  refine lv_icmp_ge (tgt := 23) hx hb dX4_bits_6 (by decide) (fun c9 => absurd c9 (by decide +kernel)) (fun _ => ?_)
  refine lv_iload_n hx hb dX4_bits_9 rfl (lv_at hl 1 rfl) ?_
  refine lv_iload_n hx hb dX4_bits_10 rfl (lv_at hl 2 rfl) ?_
  refine lv_iload_n hx hb dX4_bits_11 rfl (lv_at hl 0 rfl) ?_
  refine lv_ishr hx hb dX4_bits_12 ?_
  refine lv_iconst (v := nI 1) hx hb dX4_bits_13 (by decide) ?_
  refine lv_iand hx hb dX4_bits_14 ?_
  refine lv_iadd hx hb dX4_bits_15 ?_
  refine lv_istore_n (lv' := [(1, .int ((((nI 0) + ((x >>> ((nI 0) &&& 31)) &&& (nI 1))) + ((x >>> ((nI 1) &&& 31)) &&& (nI 1))) + ((x >>> ((nI 2) &&& 31)) &&& (nI 1)))), (2, .int (nI 2)), (0, .int x)]) hx hb dX4_bits_16 rfl hl (by decide) rfl (fun ls hl => ?_)
  refine lv_iinc (v := nI 3) (lv' := [(2, .int (nI 3)), (1, .int ((((nI 0) + ((x >>> ((nI 0) &&& 31)) &&& (nI 1))) + ((x >>> ((nI 1) &&& 31)) &&& (nI 1))) + ((x >>> ((nI 2) &&& 31)) &&& (nI 1)))), (0, .int x)]) hx hb dX4_bits_17 hl (k := 1) rfl (nI_add _ 1) (by decide) rfl (fun ls hl => ?_)
  refine lv_goto (tgt := 4) hx hb dX4_bits_20 (by decide) ?_
  refine lv_iload_n hx hb dX4_bits_4 rfl (lv_at hl 0 rfl) ?_
  refine lv_iconst (v := nI 5) hx hb dX4_bits_5 (by decide) ?_
  refine lv_icmp_ge (tgt := 23) hx hb dX4_bits_6 (by decide) (fun c9 => absurd c9 (by decide +kernel)) (fun _ => ?_)
  refine lv_iload_n hx hb dX4_bits_9 rfl (lv_at hl 1 rfl) ?_
  refine lv_iload_n hx hb dX4_bits_10 rfl (lv_at hl 2 rfl) ?_
  refine lv_iload_n hx hb dX4_bits_11 rfl (lv_at hl 0 rfl) ?_
  refine lv_ishr hx hb dX4_bits_12 ?_
  refine lv_iconst (v := nI 1) hx hb dX4_bits_13 (by decide) ?_
  refine lv_iand hx hb dX4_bits_14 ?_
  refine lv_iadd hx hb dX4_bits_15 ?_
  refine lv_istore_n (lv' := [(1, .int (((((nI 0) + ((x >>> ((nI 0) &&& 31)) &&& (nI 1))) + ((x >>> ((nI 1) &&& 31)) &&& (nI 1))) + ((x >>> ((nI 2) &&& 31)) &&& (nI 1))) + ((x >>> ((nI 3) &&& 31)) &&& (nI 1)))), (2, .int (nI 3)), (0, .int x)]) hx hb dX4_bits_16 rfl hl (by decide) rfl (fun ls hl => ?_)
  refine lv_iinc (v := nI 4) (lv' := [(2, .int (nI 4)), (1, .int (((((nI 0) + ((x >>> ((nI 0) &&& 31)) &&& (nI 1))) + ((x >>> ((nI 1) &&& 31)) &&& (nI 1))) + ((x >>> ((nI 2) &&& 31)) &&& (nI 1))) + ((x >>> ((nI 3) &&& 31)) &&& (nI 1)))), (0, .int x)]) hx hb dX4_bits_17 hl (k := 1) rfl (nI_add _ 1) (by decide) rfl (fun ls hl => ?_)
  refine lv_goto (tgt := 4) hx hb dX4_bits_20 (by decide) ?_
  refine lv_iload_n hx hb dX4_bits_4 rfl (lv_at hl 0 rfl) ?_
  refine lv_iconst (v := nI 5) hx hb dX4_bits_5 (by decide) ?_
  refine lv_icmp_ge (tgt := 23) hx hb dX4_bits_6 (by decide) (fun c9 => absurd c9 (by decide +kernel)) (fun _ => ?_)
  refine lv_iload_n hx hb dX4_bits_9 rfl (lv_at hl 1 rfl) ?_
  refine lv_iload_n hx hb dX4_bits_10 rfl (lv_at hl 2 rfl) ?_
  refine lv_iload_n hx hb dX4_bits_11 rfl (lv_at hl 0 rfl) ?_
  refine lv_ishr hx hb dX4_bits_12 ?_
  refine lv_iconst (v := nI 1) hx hb dX4_bits_13 (by decide) ?_
  refine lv_iand hx hb dX4_bits_14 ?_
  refine lv_iadd hx hb dX4_bits_15 ?_
  refine lv_istore_n (lv' := [(1, .int ((((((nI 0) + ((x >>> ((nI 0) &&& 31)) &&& (nI 1))) + ((x >>> ((nI 1) &&& 31)) &&& (nI 1))) + ((x >>> ((nI 2) &&& 31)) &&& (nI 1))) + ((x >>> ((nI 3) &&& 31)) &&& (nI 1))) + ((x >>> ((nI 4) &&& 31)) &&& (nI 1)))), (2, .int (nI 4)), (0, .int x)]) hx hb dX4_bits_16 rfl hl (by decide) rfl (fun ls hl => ?_)
  refine lv_iinc (v := nI 5) (lv' := [(2, .int (nI 5)), (1, .int ((((((nI 0) + ((x >>> ((nI 0) &&& 31)) &&& (nI 1))) + ((x >>> ((nI 1) &&& 31)) &&& (nI 1))) + ((x >>> ((nI 2) &&& 31)) &&& (nI 1))) + ((x >>> ((nI 3) &&& 31)) &&& (nI 1))) + ((x >>> ((nI 4) &&& 31)) &&& (nI 1)))), (0, .int x)]) hx hb dX4_bits_17 hl (k := 1) rfl (nI_add _ 1) (by decide) rfl (fun ls hl => ?_)
  refine lv_goto (tgt := 4) hx hb dX4_bits_20 (by decide) ?_
  refine lv_iload_n hx hb dX4_bits_4 rfl (lv_at hl 0 rfl) ?_
  refine lv_iconst (v := nI 5) hx hb dX4_bits_5 (by decide) ?_
  refine lv_icmp_ge (tgt := 23) hx hb dX4_bits_6 (by decide) (fun _ => ?_) (fun c9 => absurd (by decide +kernel) c9)
  refine lv_iload_n hx hb dX4_bits_23 rfl (lv_at hl 1 rfl) ?_
  exact retS hx hb hr hlk dX4_bits_24 (rfl)
end
section
/-! the reference: its public methods but deliver -/
def bgA (σ : St) (an : Nat → Int32) (p0 : Int32) : Nat → Int32 := if okI p0 3 ∧ σ.2.1 p0.toNatClampNeg 0 = 0 ∧ ¬ 60 < σ.2.2.1 then upd an p0.toNatClampNeg (nI 0) else an
theorem va_De {A : Nat → Prop} {w w' : va_W} (e : w = w') (h : va_D A w) : va_D A w' := e ▸ h
theorem rep_eq {f : Nat → Int32} {n i : Nat} : snd6 f n (f (i * 6)) (f (i * 6 + 1)) (f (i * 6 + 2)) (f (i * 6 + 3)) (f (i * 6 + 4)) (f (i * 6 + 5)) = va_cpy f f (i * 6) (n * 6) 6 := by
  funext q
  by_cases h : n * 6 ≤ q ∧ q < n * 6 + 6
  · rw [pk_cpy_in h.1 h.2]
    rcases (show q = n * 6 + 0 ∨ q = n * 6 + 1 ∨ q = n * 6 + 2 ∨ q = n * 6 + 3 ∨ q = n * 6 + 4 ∨ q = n * 6 + 5 by omega) with e | e | e | e | e | e <;> subst e <;> simp [snd6, upd]
  · rw [pk_cpy_out (by omega)]
    unfold snd6
    rw [pk_un (by omega), pk_un (by omega), pk_un (by omega), pk_un (by omega), pk_un (by omega), pk_un (by omega)]
theorem cnF_up {R : Nat → Nat → Int32} {j : Nat} (hj : j < 5) (h : R j 2 = 0) : cnF (up2 R j 2 (nI 1)) 5 = cnF R 5 + 1 := by
  rcases lt5 hj with rfl | rfl | rfl | rfl | rfl <;> simp only [cnF, up2] <;> simp [h, show ¬ (nI 1 = 0) by decide +kernel] <;> omega
theorem sub_1 (m : Nat) : nI (m + 1) - nI m = nI 1 := by rw [pk_sub (by omega), show m + 1 - m = 1 by omega]
theorem sub_0 (m : Nat) : nI m - nI m = nI 0 := by rw [pk_sub (Nat.le_refl m), Nat.sub_self]
theorem lkX4_begin_20 : Cond.fieldLink RX4 20 "QuorumRegisterModel" "phase" "[I" ∈ wsX4_begin := by decide +kernel
theorem inX4_begin_X4 : ∀ w ∈ wsX40, w ∈ wsX4_begin := by decide +kernel
theorem lkX4_begin_50 : Cond.fieldLink RX4 50 "QuorumRegisterModel" "count" "I" ∈ wsX4_begin := by decide +kernel
theorem lkX4_begin_23 : Cond.fieldLink RX4 23 "QuorumRegisterModel" "serial" "[I" ∈ wsX4_begin := by decide +kernel
theorem lkX4_begin_26 : Cond.fieldLink RX4 26 "QuorumRegisterModel" "writes" "[Z" ∈ wsX4_begin := by decide +kernel
theorem lkX4_begin_29 : Cond.fieldLink RX4 29 "QuorumRegisterModel" "wanted" "[I" ∈ wsX4_begin := by decide +kernel
theorem lkX4_begin_32 : Cond.fieldLink RX4 32 "QuorumRegisterModel" "answers" "[I" ∈ wsX4_begin := by decide +kernel
theorem lkX4_begin_35 : Cond.fieldLink RX4 35 "QuorumRegisterModel" "seenTag" "[I" ∈ wsX4_begin := by decide +kernel
theorem lkX4_begin_38 : Cond.fieldLink RX4 38 "QuorumRegisterModel" "seenValue" "[I" ∈ wsX4_begin := by decide +kernel
set_option maxHeartbeats 4000000 in
set_option maxRecDepth 100000 in
/-- begin(c, writing, v) -/
theorem k_X4_begin (l : Launch) (dC : Nat → ClassId) (dI : Nat → Nat → Nat) (o : Nat → Nat) (k : Nat → ClassId) (R C : Nat → Nat → Int32) (an : Nat → Int32) (n : Nat) (f : Nat → Int32) (d : Nat) (g : Nat → Int32) (hn : n ≤ 77) (p0 zw zv : Int32) (hw : zw = 0 ∨ zw = 1) : MetI l yX4_begin wsX4_begin ({ frames := 2, cells := 0, slots := 0, locals := 52 } : Room) (dC, dI) vwCl (wMs o k (R, C, n, f, d, g) an) (tyM k) [.ref (o 0), .int p0, .int zw, .int zv] (bgX C n p0) (wMs o k (bgS (R, C, n, f, d, g) p0 zw zv) (bgA (R, C, n, f, d, g) an p0)) := by
  refine MetI.of (cc := cX4_begin) (maxL := 4) (ret := (some .int)) (by decide) rfl (Nat.le_of_ble_eq_true rfl) rfl ?_
  intro p e s m below meth cd ls A hx hb hr hlk hml hown hts hK hP hD hS hA hl
  have hl : lv_has ls 4 [(0, .ref (o 0)), (1, .int p0), (2, .int zw), (3, .int zv)] := hl
  refine lv_iload_n hx hb dX4_begin_0 rfl (lv_at hl 1 rfl) ?_
  refine lv_iconst (v := nI 0) hx hb dX4_begin_1 (by decide) ?_
  refine lv_iconst (v := nI 2) hx hb dX4_begin_2 (by decide) ?_
  refine goS (va_runS (rm := ({ frames := 0, cells := 0, slots := 0, locals := 0 } : Room)) (As := [.int p0, .int (nI 0), .int (nI 2)]) (rest := []) ⟨hx, hb, hml, hown, hts⟩ (MetS.at (k_X4_within l dC dI p0 (nI 0) (nI 2))) (va_cwS 3 hts gX4_begin_X4_within rfl rfl rfl (by decide +kernel) ⟨Nat.le_of_ble_eq_true rfl, Nat.le_of_ble_eq_true rfl⟩) (preSS (hK.sub [] rfl) va_P0) rfl rfl hl.1 rfl (lv_room (Nat.le_of_ble_eq_true rfl)) dX4_begin_3 ⟨Nat.le_of_ble_eq_true rfl, Nat.le_of_ble_eq_true rfl⟩) ?_
  refine lv_if_ne (tgt := 11) hx hb dX4_begin_6 (by decide) (fun c_6 => ?_) (fun c_6 => ?_)
  · have c_6 := it_yes c_6
    have c_6 := (wi_s (x := p0) 2 (Nat.le_of_ble_eq_true rfl)).mp c_6
    obtain ⟨j, lt_j, rfl⟩ := okI_of c_6 (by omega)
    have e_j : (nI j).toNatClampNeg = j := nI_clamp (by omega)
    refine lv_aload_n hx hb dX4_begin_11 rfl (lv_at hl 0 rfl) ?_
    refine va_get (D := (dC, dI)) (ci := 4) (v := .ref (o 4)) (C := RX4) (T := TX4) (N := 16) hx hb hts inX4_begin_X4 hown hK hP (0) rfl rfl 4 (by decide) (hts _ lkX4_begin_20) (fun _ h9 => h9) rfl dX4_begin_12 ?_
    refine lv_iload_n hx hb dX4_begin_15 rfl (lv_at hl 1 rfl) ?_
    refine q_iald hx hb hK hP (4) 3 (j := j) rfl rfl lt_j (Nat.le_of_ble_eq_true rfl) dX4_begin_16 ?_
    refine lv_if_eq (tgt := 23) hx hb dX4_begin_17 (by decide) (fun c_17 => ?_) (fun c_17 => ?_)
    · refine lv_aload_n hx hb dX4_begin_23 rfl (lv_at hl 0 rfl) ?_
      refine va_get (D := (dC, dI)) (ci := 4) (v := .int (nI n)) (C := RX4) (T := TX4) (N := 16) hx hb hts inX4_begin_X4 hown hK hP (0) rfl rfl 13 (by decide) (hts _ lkX4_begin_50) (fun _ h9 => h9) rfl dX4_begin_24 ?_
      refine lv_bipush (v := nI 60) hx hb dX4_begin_27 (by decide) ?_
      refine lv_icmp_le (tgt := 35) hx hb dX4_begin_29 (by decide) (fun c_29 => ?_) (fun c_29 => ?_)
      · refine lv_aload_n hx hb dX4_begin_35 rfl (lv_at hl 0 rfl) ?_
        refine va_get (D := (dC, dI)) (ci := 4) (v := .ref (o 5)) (C := RX4) (T := TX4) (N := 16) hx hb hts inX4_begin_X4 hown hK hP (0) rfl rfl 5 (by decide) (hts _ lkX4_begin_23) (fun _ h9 => h9) rfl dX4_begin_36 ?_
        refine lv_iload_n hx hb dX4_begin_39 rfl (lv_at hl 1 rfl) ?_
        refine lv_dup2_11 hx hb dX4_begin_40 rfl rfl ?_
        refine q_iald hx hb hK hP (5) 4 (j := j) rfl rfl lt_j (Nat.le_of_ble_eq_true rfl) dX4_begin_41 ?_
        refine lv_iconst (v := nI 1) hx hb dX4_begin_42 (by decide) ?_
        refine lv_iadd hx hb dX4_begin_43 ?_
        refine q_iast (ws' := (wMc o k (fun j => R j 0) (fun j => R j 1) (fun j => R j 2) (fun j => C j 0) (upd (fun j => C j 1) j ((C j 1) + (nI 1))) (fun j => C j 2) (fun j => C j 3) an (fun j => C j 5) (fun j => C j 6) (fun j => C j 7) f g (cnF R 5) n d)) hx hb hK hP hD hS (5) 4 (j := j) rfl rfl lt_j (Nat.le_of_ble_eq_true rfl) rfl dX4_begin_44 (fun H locs hP hD hS => ?_)
        refine lv_aload_n hx hb dX4_begin_45 rfl (lv_at hl 0 rfl) ?_
        refine va_get (D := (dC, dI)) (ci := 4) (v := .ref (o 4)) (C := RX4) (T := TX4) (N := 16) hx hb hts inX4_begin_X4 hown hK hP (0) rfl rfl 4 (by decide) (hts _ lkX4_begin_20) (fun _ h9 => h9) rfl dX4_begin_46 ?_
        refine lv_iload_n hx hb dX4_begin_49 rfl (lv_at hl 1 rfl) ?_
        refine lv_iconst (v := nI 1) hx hb dX4_begin_50 (by decide) ?_
        refine q_iast (ws' := (wMc o k (fun j => R j 0) (fun j => R j 1) (fun j => R j 2) (upd (fun j => C j 0) j (nI 1)) (upd (fun j => C j 1) j ((C j 1) + (nI 1))) (fun j => C j 2) (fun j => C j 3) an (fun j => C j 5) (fun j => C j 6) (fun j => C j 7) f g (cnF R 5) n d)) hx hb hK hP hD hS (4) 3 (j := j) rfl rfl lt_j (Nat.le_of_ble_eq_true rfl) rfl dX4_begin_51 (fun H locs hP hD hS => ?_)
        refine lv_aload_n hx hb dX4_begin_52 rfl (lv_at hl 0 rfl) ?_
        refine va_get (D := (dC, dI)) (ci := 4) (v := .ref (o 6)) (C := RX4) (T := TX4) (N := 16) hx hb hts inX4_begin_X4 hown hK hP (0) rfl rfl 6 (by decide) (hts _ lkX4_begin_26) (fun _ h9 => h9) rfl dX4_begin_53 ?_
        refine lv_iload_n hx hb dX4_begin_56 rfl (lv_at hl 1 rfl) ?_
        refine lv_iload_n hx hb dX4_begin_57 rfl (lv_at hl 2 rfl) ?_
        refine q_zast (ws' := (wMc o k (fun j => R j 0) (fun j => R j 1) (fun j => R j 2) (upd (fun j => C j 0) j (nI 1)) (upd (fun j => C j 1) j ((C j 1) + (nI 1))) (upd (fun j => C j 2) j zw) (fun j => C j 3) an (fun j => C j 5) (fun j => C j 6) (fun j => C j 7) f g (cnF R 5) n d)) hx hb hK hP hD hS (6) 5 (j := j) rfl rfl lt_j (Nat.le_of_ble_eq_true rfl) (bn hw) rfl dX4_begin_58 (fun H locs hP hD hS => ?_)
        refine lv_aload_n hx hb dX4_begin_59 rfl (lv_at hl 0 rfl) ?_
        refine va_get (D := (dC, dI)) (ci := 4) (v := .ref (o 7)) (C := RX4) (T := TX4) (N := 16) hx hb hts inX4_begin_X4 hown hK hP (0) rfl rfl 7 (by decide) (hts _ lkX4_begin_29) (fun _ h9 => h9) rfl dX4_begin_60 ?_
        refine lv_iload_n hx hb dX4_begin_63 rfl (lv_at hl 1 rfl) ?_
        refine lv_iload_n hx hb dX4_begin_64 rfl (lv_at hl 3 rfl) ?_
        refine q_iast (ws' := (wMc o k (fun j => R j 0) (fun j => R j 1) (fun j => R j 2) (upd (fun j => C j 0) j (nI 1)) (upd (fun j => C j 1) j ((C j 1) + (nI 1))) (upd (fun j => C j 2) j zw) (upd (fun j => C j 3) j zv) an (fun j => C j 5) (fun j => C j 6) (fun j => C j 7) f g (cnF R 5) n d)) hx hb hK hP hD hS (7) 6 (j := j) rfl rfl lt_j (Nat.le_of_ble_eq_true rfl) rfl dX4_begin_65 (fun H locs hP hD hS => ?_)
        refine lv_aload_n hx hb dX4_begin_66 rfl (lv_at hl 0 rfl) ?_
        refine va_get (D := (dC, dI)) (ci := 4) (v := .ref (o 8)) (C := RX4) (T := TX4) (N := 16) hx hb hts inX4_begin_X4 hown hK hP (0) rfl rfl 8 (by decide) (hts _ lkX4_begin_32) (fun _ h9 => h9) rfl dX4_begin_67 ?_
        refine lv_iload_n hx hb dX4_begin_70 rfl (lv_at hl 1 rfl) ?_
        refine lv_iconst (v := nI 0) hx hb dX4_begin_71 (by decide) ?_
        refine q_iast (ws' := (wMc o k (fun j => R j 0) (fun j => R j 1) (fun j => R j 2) (upd (fun j => C j 0) j (nI 1)) (upd (fun j => C j 1) j ((C j 1) + (nI 1))) (upd (fun j => C j 2) j zw) (upd (fun j => C j 3) j zv) (upd an j (nI 0)) (fun j => C j 5) (fun j => C j 6) (fun j => C j 7) f g (cnF R 5) n d)) hx hb hK hP hD hS (8) 7 (j := j) rfl rfl lt_j (Nat.le_of_ble_eq_true rfl) rfl dX4_begin_72 (fun H locs hP hD hS => ?_)
        refine lv_aload_n hx hb dX4_begin_73 rfl (lv_at hl 0 rfl) ?_
        refine va_get (D := (dC, dI)) (ci := 4) (v := .ref (o 9)) (C := RX4) (T := TX4) (N := 16) hx hb hts inX4_begin_X4 hown hK hP (0) rfl rfl 9 (by decide) (hts _ lkX4_begin_35) (fun _ h9 => h9) rfl dX4_begin_74 ?_
        refine lv_iload_n hx hb dX4_begin_77 rfl (lv_at hl 1 rfl) ?_
        refine lv_iconst (v := nI 0) hx hb dX4_begin_78 (by decide) ?_
        refine q_iast (ws' := (wMc o k (fun j => R j 0) (fun j => R j 1) (fun j => R j 2) (upd (fun j => C j 0) j (nI 1)) (upd (fun j => C j 1) j ((C j 1) + (nI 1))) (upd (fun j => C j 2) j zw) (upd (fun j => C j 3) j zv) (upd an j (nI 0)) (upd (fun j => C j 5) j (nI 0)) (fun j => C j 6) (fun j => C j 7) f g (cnF R 5) n d)) hx hb hK hP hD hS (9) 8 (j := j) rfl rfl lt_j (Nat.le_of_ble_eq_true rfl) rfl dX4_begin_79 (fun H locs hP hD hS => ?_)
        refine lv_aload_n hx hb dX4_begin_80 rfl (lv_at hl 0 rfl) ?_
        refine va_get (D := (dC, dI)) (ci := 4) (v := .ref (o 10)) (C := RX4) (T := TX4) (N := 16) hx hb hts inX4_begin_X4 hown hK hP (0) rfl rfl 10 (by decide) (hts _ lkX4_begin_38) (fun _ h9 => h9) rfl dX4_begin_81 ?_
        refine lv_iload_n hx hb dX4_begin_84 rfl (lv_at hl 1 rfl) ?_
        refine lv_iconst (v := nI 0) hx hb dX4_begin_85 (by decide) ?_
        refine q_iast (ws' := (wMc o k (fun j => R j 0) (fun j => R j 1) (fun j => R j 2) (upd (fun j => C j 0) j (nI 1)) (upd (fun j => C j 1) j ((C j 1) + (nI 1))) (upd (fun j => C j 2) j zw) (upd (fun j => C j 3) j zv) (upd an j (nI 0)) (upd (fun j => C j 5) j (nI 0)) (upd (fun j => C j 6) j (nI 0)) (fun j => C j 7) f g (cnF R 5) n d)) hx hb hK hP hD hS (10) 9 (j := j) rfl rfl lt_j (Nat.le_of_ble_eq_true rfl) rfl dX4_begin_86 (fun H locs hP hD hS => ?_)
        refine lv_aload_n hx hb dX4_begin_87 rfl (lv_at hl 0 rfl) ?_
        refine lv_iconst (v := nI 0) hx hb dX4_begin_88 (by decide) ?_
        refine lv_iload_n hx hb dX4_begin_89 rfl (lv_at hl 1 rfl) ?_
        refine lv_iconst (v := nI 0) hx hb dX4_begin_90 (by decide) ?_
        refine lv_iconst (v := nI 0) hx hb dX4_begin_91 (by decide) ?_
        refine goV (ws := (wMc o k (fun j => R j 0) (fun j => R j 1) (fun j => R j 2) (upd (fun j => C j 0) j (nI 1)) (upd (fun j => C j 1) j ((C j 1) + (nI 1))) (upd (fun j => C j 2) j zw) (upd (fun j => C j 3) j zv) (upd an j (nI 0)) (upd (fun j => C j 5) j (nI 0)) (upd (fun j => C j 6) j (nI 0)) (fun j => C j 7) f g (cnF R 5) n d)) (ws' := (wMc o k (fun j => R j 0) (fun j => R j 1) (fun j => R j 2) (upd (fun j => C j 0) j (nI 1)) (upd (fun j => C j 1) j ((C j 1) + (nI 1))) (upd (fun j => C j 2) j zw) (upd (fun j => C j 3) j zv) (upd an j (nI 0)) (upd (fun j => C j 5) j (nI 0)) (upd (fun j => C j 6) j (nI 0)) (fun j => C j 7) (sndN (nI 0) (nI j) ((upd (fun j => C j 1) j ((C j 1) + (nI 1))) j) (nI 0) (nI 0) f n 5) g (cnF R 5) (n + 5) d)) (qFit_all rfl) hP hD hS hA (va_runV (rm := ({ frames := 1, cells := 0, slots := 0, locals := 27 } : Room)) (As := [.int (nI 0), .int (nI j), .int (nI 0), .int (nI 0)]) (rest := []) ⟨hx, hb, hml, hown, hts⟩ (MetV.at (k_X4_sendAll l dC dI o k (fun j => R j 0) (fun j => R j 1) (fun j => R j 2) (upd (fun j => C j 0) j (nI 1)) (upd (fun j => C j 1) j ((C j 1) + (nI 1))) (upd (fun j => C j 2) j zw) (upd (fun j => C j 3) j zv) (upd an j (nI 0)) (upd (fun j => C j 5) j (nI 0)) (upd (fun j => C j 6) j (nI 0)) (fun j => C j 7) f g (cnF R 5) n d (by omega) j lt_j (nI 0) (nI 0) (nI 0)) H.size) (cwV 4 hts gX4_begin_X4_sendAll rfl rfl rfl (by decide +kernel) ⟨Nat.le_of_ble_eq_true rfl, Nat.le_of_ble_eq_true rfl⟩) (preWV hK hP hD (va_recv hK hP (ci := 4) (q0 := 0) rfl rfl)) rfl rfl hl.1 rfl (lv_room (Nat.le_of_ble_eq_true rfl)) dX4_begin_92 ⟨Nat.le_of_ble_eq_true rfl, Nat.le_of_ble_eq_true rfl⟩) (fun H locs hP hD hS => ?_)
        refine lv_aload_n hx hb dX4_begin_95 rfl (lv_at hl 0 rfl) ?_
        refine va_get (D := (dC, dI)) (ci := 4) (v := .ref (o 5)) (C := RX4) (T := TX4) (N := 16) hx hb hts inX4_begin_X4 hown hK hP (0) rfl rfl 5 (by decide) (hts _ lkX4_begin_23) (fun _ h9 => h9) rfl dX4_begin_96 ?_
        refine lv_iload_n hx hb dX4_begin_99 rfl (lv_at hl 1 rfl) ?_
        refine q_iald hx hb hK hP (5) 4 (j := j) rfl rfl lt_j (Nat.le_of_ble_eq_true rfl) dX4_begin_100 ?_
        exact retI hx hb hr hlk dX4_begin_101 hS (by rw [bgS, if_pos ⟨c_6, by rw [e_j]; exact c_17, (fun q => absurd c_29 (nI_ge q (by omega)))⟩, bgA, if_pos ⟨c_6, by rw [e_j]; exact c_17, (fun q => absurd c_29 (nI_ge q (by omega)))⟩, e_j]; rw [pk_us] at hP; exact va_Pe (wM_of (fun _ => rfl) (fun _ => rfl) (fun _ => rfl) (fun q => by simp [upd, begC, up2]) (fun q => by simp [upd, begC, up2]) (fun q => by simp [upd, begC, up2]) (fun q => by simp [upd, begC, up2]) (fun q => by simp [upd, begC, up2]) (fun q => by simp [upd, begC, up2]) (fun q => by simp [upd, begC, up2])) hP) (by rw [bgX, if_pos c_6, e_j, if_pos c_17, if_neg (fun q => absurd c_29 (nI_ge q (by omega))), pk_us])
      · refine lv_bipush (v := (-3)) hx hb dX4_begin_32 (by decide) ?_
        exact retI hx hb hr hlk dX4_begin_34 hS (by rw [bgS, if_neg (fun q => q.2.2 ((Nat.lt_or_ge 60 n).elim id (fun q => absurd (nI_le q (by decide)) c_29))), bgA, if_neg (fun q => q.2.2 ((Nat.lt_or_ge 60 n).elim id (fun q => absurd (nI_le q (by decide)) c_29)))]; exact hP) (by rw [bgX, if_pos c_6, e_j, if_pos c_17, if_pos ((Nat.lt_or_ge 60 n).elim id (fun q => absurd (nI_le q (by decide)) c_29))])
    · refine lv_bipush (v := (-2)) hx hb dX4_begin_20 (by decide) ?_
      exact retI hx hb hr hlk dX4_begin_22 hS (by rw [bgS, if_neg (fun q => c_17 (by have := q.2.1; rw [e_j] at this; exact this)), bgA, if_neg (fun q => c_17 (by have := q.2.1; rw [e_j] at this; exact this))]; exact hP) (by rw [bgX, if_pos c_6, e_j, if_neg c_17])
  · have c_6 := it_no c_6
    have c_6 := mt (wi_s (x := p0) 2 (Nat.le_of_ble_eq_true rfl)).mpr c_6
    refine lv_iconst (v := (-1)) hx hb dX4_begin_9 (by decide) ?_
    exact retI hx hb hr hlk dX4_begin_10 hS (by rw [bgS, if_neg (fun q => c_6 q.1), bgA, if_neg (fun q => c_6 q.1)]; exact hP) (by rw [bgX, if_neg c_6])
set_option maxHeartbeats 4000000 in
set_option maxRecDepth 100000 in
/-- X4_write -/
theorem k_X4_write (l : Launch) (dC : Nat → ClassId) (dI : Nat → Nat → Nat) (o : Nat → Nat) (k : Nat → ClassId) (R C : Nat → Nat → Int32) (an : Nat → Int32) (n : Nat) (f : Nat → Int32) (d : Nat) (g : Nat → Int32) (hn : n ≤ 77) (p0 p1 : Int32) : MetI l yX4_write wsX4_write ({ frames := 3, cells := 0, slots := 0, locals := 75 } : Room) (dC, dI) vwCl (wMs o k (R, C, n, f, d, g) an) (tyM k) [.ref (o 0), .int p0, .int p1] (bgX C n p0) (wMs o k (bgS (R, C, n, f, d, g) p0 (nI 1) (p1)) (bgA (R, C, n, f, d, g) an p0)) := by
  refine MetI.of (cc := cX4_write) (maxL := 3) (ret := (some .int)) (by decide) rfl (Nat.le_of_ble_eq_true rfl) rfl ?_
  intro p e s m below meth cd ls A hx hb hr hlk hml hown hts hK hP hD hS hA hl
  have hl : lv_has ls 3 [(0, .ref (o 0)), (1, .int p0), (2, .int p1)] := hl
  refine lv_aload_n hx hb dX4_write_0 rfl (lv_at hl 0 rfl) ?_
  refine lv_iload_n hx hb dX4_write_1 rfl (lv_at hl 1 rfl) ?_
  refine lv_iconst (v := nI 1) hx hb dX4_write_2 (by decide) ?_
  refine lv_iload_n hx hb dX4_write_3 rfl (lv_at hl 2 rfl) ?_
  refine goI (ws := (wMs o k (R, C, n, f, d, g) an)) (ws' := (wMs o k (bgS (R, C, n, f, d, g) p0 (nI 1) p1) (bgA (R, C, n, f, d, g) an p0))) (qFit_all rfl) hP hD hS hA (va_runV (rm := ({ frames := 2, cells := 0, slots := 0, locals := 52 } : Room)) (As := [.int p0, .int (nI 1), .int p1]) (rest := []) ⟨hx, hb, hml, hown, hts⟩ (MetI.at (k_X4_begin l dC dI o k R C an n f d g hn p0 (nI 1) p1 (Or.inr rfl)) s.heap.size) (cwV 3 hts gX4_write_X4_begin rfl rfl rfl (by decide +kernel) ⟨Nat.le_of_ble_eq_true rfl, Nat.le_of_ble_eq_true rfl⟩) (preWV hK hP hD (va_recv hK hP (ci := 4) (q0 := 0) rfl rfl)) rfl rfl hl.1 rfl (lv_room (Nat.le_of_ble_eq_true rfl)) dX4_write_4 ⟨Nat.le_of_ble_eq_true rfl, Nat.le_of_ble_eq_true rfl⟩) (fun H locs hP hD hS => ?_)
  exact retI hx hb hr hlk dX4_write_7 hS (hP) (rfl)
set_option maxHeartbeats 4000000 in
set_option maxRecDepth 100000 in
/-- X4_read -/
theorem k_X4_read (l : Launch) (dC : Nat → ClassId) (dI : Nat → Nat → Nat) (o : Nat → Nat) (k : Nat → ClassId) (R C : Nat → Nat → Int32) (an : Nat → Int32) (n : Nat) (f : Nat → Int32) (d : Nat) (g : Nat → Int32) (hn : n ≤ 77) (p0 : Int32) : MetI l yX4_read wsX4_read ({ frames := 3, cells := 0, slots := 0, locals := 75 } : Room) (dC, dI) vwCl (wMs o k (R, C, n, f, d, g) an) (tyM k) [.ref (o 0), .int p0] (bgX C n p0) (wMs o k (bgS (R, C, n, f, d, g) p0 (nI 0) (nI 0)) (bgA (R, C, n, f, d, g) an p0)) := by
  refine MetI.of (cc := cX4_read) (maxL := 2) (ret := (some .int)) (by decide) rfl (Nat.le_of_ble_eq_true rfl) rfl ?_
  intro p e s m below meth cd ls A hx hb hr hlk hml hown hts hK hP hD hS hA hl
  have hl : lv_has ls 2 [(0, .ref (o 0)), (1, .int p0)] := hl
  refine lv_aload_n hx hb dX4_read_0 rfl (lv_at hl 0 rfl) ?_
  refine lv_iload_n hx hb dX4_read_1 rfl (lv_at hl 1 rfl) ?_
  refine lv_iconst (v := nI 0) hx hb dX4_read_2 (by decide) ?_
  refine lv_iconst (v := nI 0) hx hb dX4_read_3 (by decide) ?_
  refine goI (ws := (wMs o k (R, C, n, f, d, g) an)) (ws' := (wMs o k (bgS (R, C, n, f, d, g) p0 (nI 0) (nI 0)) (bgA (R, C, n, f, d, g) an p0))) (qFit_all rfl) hP hD hS hA (va_runV (rm := ({ frames := 2, cells := 0, slots := 0, locals := 52 } : Room)) (As := [.int p0, .int (nI 0), .int (nI 0)]) (rest := []) ⟨hx, hb, hml, hown, hts⟩ (MetI.at (k_X4_begin l dC dI o k R C an n f d g hn p0 (nI 0) (nI 0) (Or.inl rfl)) s.heap.size) (cwV 3 hts gX4_read_X4_begin rfl rfl rfl (by decide +kernel) ⟨Nat.le_of_ble_eq_true rfl, Nat.le_of_ble_eq_true rfl⟩) (preWV hK hP hD (va_recv hK hP (ci := 4) (q0 := 0) rfl rfl)) rfl rfl hl.1 rfl (lv_room (Nat.le_of_ble_eq_true rfl)) dX4_read_4 ⟨Nat.le_of_ble_eq_true rfl, Nat.le_of_ble_eq_true rfl⟩) (fun H locs hP hD hS => ?_)
  exact retI hx hb hr hlk dX4_read_7 hS (hP) (rfl)
theorem lkX4_leave_20 : Cond.fieldLink RX4 20 "QuorumRegisterModel" "phase" "[I" ∈ wsX4_leave := by decide +kernel
theorem inX4_leave_X4 : ∀ w ∈ wsX40, w ∈ wsX4_leave := by decide +kernel
set_option maxHeartbeats 4000000 in
set_option maxRecDepth 100000 in
/-- leave(c) -/
theorem k_X4_leave (l : Launch) (dC : Nat → ClassId) (dI : Nat → Nat → Nat) (o : Nat → Nat) (k : Nat → ClassId) (R C : Nat → Nat → Int32) (an : Nat → Int32) (n : Nat) (f : Nat → Int32) (d : Nat) (g : Nat → Int32) (p0 : Int32) : MetI l yX4_leave wsX4_leave ({ frames := 1, cells := 0, slots := 0, locals := 22 } : Room) (dC, dI) vwCl (wMs o k (R, C, n, f, d, g) an) (tyM k) [.ref (o 0), .int p0] (lvX C p0) (wMs o k (lvS (R, C, n, f, d, g) p0) an) := by
  refine MetI.of (cc := cX4_leave) (maxL := 2) (ret := (some .boolean)) (by decide) rfl (Nat.le_of_ble_eq_true rfl) rfl ?_
  intro p e s m below meth cd ls A hx hb hr hlk hml hown hts hK hP hD hS hA hl
  have hl : lv_has ls 2 [(0, .ref (o 0)), (1, .int p0)] := hl
  refine lv_iload_n hx hb dX4_leave_0 rfl (lv_at hl 1 rfl) ?_
  refine lv_iconst (v := nI 0) hx hb dX4_leave_1 (by decide) ?_
  refine lv_iconst (v := nI 2) hx hb dX4_leave_2 (by decide) ?_
  refine goS (va_runS (rm := ({ frames := 0, cells := 0, slots := 0, locals := 0 } : Room)) (As := [.int p0, .int (nI 0), .int (nI 2)]) (rest := []) ⟨hx, hb, hml, hown, hts⟩ (MetS.at (k_X4_within l dC dI p0 (nI 0) (nI 2))) (va_cwS 3 hts gX4_leave_X4_within rfl rfl rfl (by decide +kernel) ⟨Nat.le_of_ble_eq_true rfl, Nat.le_of_ble_eq_true rfl⟩) (preSS (hK.sub [] rfl) va_P0) rfl rfl hl.1 rfl (lv_room (Nat.le_of_ble_eq_true rfl)) dX4_leave_3 ⟨Nat.le_of_ble_eq_true rfl, Nat.le_of_ble_eq_true rfl⟩) ?_
  refine lv_if_eq (tgt := 18) hx hb dX4_leave_6 (by decide) (fun c_6 => ?_) (fun c_6 => ?_)
  · have c_6 := it_no c_6
    have c_6 := mt (wi_s (x := p0) 2 (Nat.le_of_ble_eq_true rfl)).mpr c_6
    refine lv_iconst (v := nI 0) hx hb dX4_leave_18 (by decide) ?_
    exact retIz hx hb hr hlk dX4_leave_19 rfl hS (by rw [lvS, if_neg (fun q => c_6 q.1)]; exact hP) (by rw [lvX, if_neg (fun q => c_6 q.1)]; rfl)
  · have c_6 := it_yes c_6
    have c_6 := (wi_s (x := p0) 2 (Nat.le_of_ble_eq_true rfl)).mp c_6
    obtain ⟨j, lt_j, rfl⟩ := okI_of c_6 (by omega)
    have e_j : (nI j).toNatClampNeg = j := nI_clamp (by omega)
    refine lv_aload_n hx hb dX4_leave_9 rfl (lv_at hl 0 rfl) ?_
    refine va_get (D := (dC, dI)) (ci := 4) (v := .ref (o 4)) (C := RX4) (T := TX4) (N := 16) hx hb hts inX4_leave_X4 hown hK hP (0) rfl rfl 4 (by decide) (hts _ lkX4_leave_20) (fun _ h9 => h9) rfl dX4_leave_10 ?_
    refine lv_iload_n hx hb dX4_leave_13 rfl (lv_at hl 1 rfl) ?_
    refine q_iald hx hb hK hP (4) 3 (j := j) rfl rfl lt_j (Nat.le_of_ble_eq_true rfl) dX4_leave_14 ?_
    refine lv_if_ne (tgt := 20) hx hb dX4_leave_15 (by decide) (fun c_15 => ?_) (fun c_15 => ?_)
    · refine lv_aload_n hx hb dX4_leave_20 rfl (lv_at hl 0 rfl) ?_
      refine va_get (D := (dC, dI)) (ci := 4) (v := .ref (o 4)) (C := RX4) (T := TX4) (N := 16) hx hb hts inX4_leave_X4 hown hK hP (0) rfl rfl 4 (by decide) (hts _ lkX4_leave_20) (fun _ h9 => h9) rfl dX4_leave_21 ?_
      refine lv_iload_n hx hb dX4_leave_24 rfl (lv_at hl 1 rfl) ?_
      refine lv_iconst (v := nI 0) hx hb dX4_leave_25 (by decide) ?_
      refine q_iast (ws' := (wMc o k (fun j => R j 0) (fun j => R j 1) (fun j => R j 2) (upd (fun j => C j 0) j (nI 0)) (fun j => C j 1) (fun j => C j 2) (fun j => C j 3) an (fun j => C j 5) (fun j => C j 6) (fun j => C j 7) f g (cnF R 5) n d)) hx hb hK hP hD hS (4) 3 (j := j) rfl rfl lt_j (Nat.le_of_ble_eq_true rfl) rfl dX4_leave_26 (fun H locs hP hD hS => ?_)
      refine lv_iconst (v := nI 1) hx hb dX4_leave_27 (by decide) ?_
      exact retIz hx hb hr hlk dX4_leave_28 rfl hS (by rw [lvS, if_pos ⟨c_6, by rw [e_j]; exact c_15⟩, e_j]; exact va_Pe (wM_of (fun _ => rfl) (fun _ => rfl) (fun _ => rfl) (fun q => by simp [upd, idlC, up2]) (fun q => by simp [upd, idlC, up2]) (fun q => by simp [upd, idlC, up2]) (fun q => by simp [upd, idlC, up2]) (fun q => by simp [upd, idlC, up2]) (fun q => by simp [upd, idlC, up2]) (fun q => by simp [upd, idlC, up2])) hP) (by rw [lvX, if_pos ⟨c_6, by rw [e_j]; exact c_15⟩]; rfl)
    · refine lv_iconst (v := nI 0) hx hb dX4_leave_18 (by decide) ?_
      exact retIz hx hb hr hlk dX4_leave_19 rfl hS (by rw [lvS, if_neg (fun q => q.2 (by rw [e_j]; exact c_15))]; exact hP) (by rw [lvX, if_neg (fun q => q.2 (by rw [e_j]; exact c_15))]; rfl)
theorem lkX4_lose_50 : Cond.fieldLink RX4 50 "QuorumRegisterModel" "count" "I" ∈ wsX4_lose := by decide +kernel
theorem inX4_lose_X4 : ∀ w ∈ wsX40, w ∈ wsX4_lose := by decide +kernel
set_option maxHeartbeats 4000000 in
set_option maxRecDepth 100000 in
/-- lose(i) -/
theorem k_X4_lose (l : Launch) (dC : Nat → ClassId) (dI : Nat → Nat → Nat) (o : Nat → Nat) (k : Nat → ClassId) (R C : Nat → Nat → Int32) (an : Nat → Int32) (n : Nat) (f : Nat → Int32) (d : Nat) (g : Nat → Int32) (hn : n ≤ 77) (p0 : Int32) : MetI l yX4_lose wsX4_lose ({ frames := 1, cells := 0, slots := 0, locals := 22 } : Room) (dC, dI) vwCl (wMs o k (R, C, n, f, d, g) an) (tyM k) [.ref (o 0), .int p0] (lsX (R, C, n, f, d, g) p0) (wMs o k (lsS (R, C, n, f, d, g) p0) an) := by
  refine MetI.of (cc := cX4_lose) (maxL := 2) (ret := (some .boolean)) (by decide) rfl (Nat.le_of_ble_eq_true rfl) rfl ?_
  intro p e s m below meth cd ls A hx hb hr hlk hml hown hts hK hP hD hS hA hl
  have hl : lv_has ls 2 [(0, .ref (o 0)), (1, .int p0)] := hl
  refine lv_iload_n hx hb dX4_lose_0 rfl (lv_at hl 1 rfl) ?_
  refine lv_iconst (v := nI 0) hx hb dX4_lose_1 (by decide) ?_
  refine lv_aload_n hx hb dX4_lose_2 rfl (lv_at hl 0 rfl) ?_
  refine va_get (D := (dC, dI)) (ci := 4) (v := .int (nI n)) (C := RX4) (T := TX4) (N := 16) hx hb hts inX4_lose_X4 hown hK hP (0) rfl rfl 13 (by decide) (hts _ lkX4_lose_50) (fun _ h9 => h9) rfl dX4_lose_3 ?_
  refine lv_iconst (v := nI 1) hx hb dX4_lose_6 (by decide) ?_
  refine lv_isub hx hb dX4_lose_7 ?_
  refine goS (va_runS (rm := ({ frames := 0, cells := 0, slots := 0, locals := 0 } : Room)) (As := [.int p0, .int (nI 0), .int ((nI n) - (nI 1))]) (rest := []) ⟨hx, hb, hml, hown, hts⟩ (MetS.at (k_X4_within l dC dI p0 (nI 0) ((nI n) - (nI 1)))) (va_cwS 3 hts gX4_lose_X4_within rfl rfl rfl (by decide +kernel) ⟨Nat.le_of_ble_eq_true rfl, Nat.le_of_ble_eq_true rfl⟩) (preSS (hK.sub [] rfl) va_P0) rfl rfl hl.1 rfl (lv_room (Nat.le_of_ble_eq_true rfl)) dX4_lose_8 ⟨Nat.le_of_ble_eq_true rfl, Nat.le_of_ble_eq_true rfl⟩) ?_
  refine lv_if_ne (tgt := 16) hx hb dX4_lose_11 (by decide) (fun c_11 => ?_) (fun c_11 => ?_)
  · have c_11 := it_yes c_11
    have c_11 := (wi_n (x := p0) n (by omega)).mp c_11
    obtain ⟨i, lt_i, rfl⟩ := okI_of c_11 (by omega)
    have e_i : (nI i).toNatClampNeg = i := nI_clamp (by omega)
    refine lv_aload_n hx hb dX4_lose_16 rfl (lv_at hl 0 rfl) ?_
    refine lv_iload_n hx hb dX4_lose_17 rfl (lv_at hl 1 rfl) ?_
    refine goV (ws := (wMs o k (R, C, n, f, d, g) an)) (ws' := (wMc o k (fun j => R j 0) (fun j => R j 1) (fun j => R j 2) (fun j => C j 0) (fun j => C j 1) (fun j => C j 2) (fun j => C j 3) an (fun j => C j 5) (fun j => C j 6) (fun j => C j 7) (drp f n i) g (cnF R 5) (n - 1) d)) (qFit_all rfl) hP hD hS hA (va_runV (rm := ({ frames := 0, cells := 0, slots := 0, locals := 0 } : Room)) (As := [.int (nI i)]) (rest := []) ⟨hx, hb, hml, hown, hts⟩ (MetV.at (k_X4_drop l dC dI o k (fun j => R j 0) (fun j => R j 1) (fun j => R j 2) (fun j => C j 0) (fun j => C j 1) (fun j => C j 2) (fun j => C j 3) an (fun j => C j 5) (fun j => C j 6) (fun j => C j 7) f g (cnF R 5) n d (by omega) i lt_i) s.heap.size) (cwV 1 hts gX4_lose_X4_drop rfl rfl rfl (by decide +kernel) ⟨Nat.le_of_ble_eq_true rfl, Nat.le_of_ble_eq_true rfl⟩) (preWV hK hP hD (va_recv hK hP (ci := 4) (q0 := 0) rfl rfl)) rfl rfl hl.1 rfl (lv_room (Nat.le_of_ble_eq_true rfl)) dX4_lose_18 ⟨Nat.le_of_ble_eq_true rfl, Nat.le_of_ble_eq_true rfl⟩) (fun H locs hP hD hS => ?_)
    refine lv_iconst (v := nI 1) hx hb dX4_lose_21 (by decide) ?_
    exact retIz hx hb hr hlk dX4_lose_22 rfl hS (by rw [lsS, if_pos c_11, e_i]; exact hP) (by rw [lsX, if_pos c_11]; rfl)
  · have c_11 := it_no c_11
    have c_11 := mt (wi_n (x := p0) n (by omega)).mpr c_11
    refine lv_iconst (v := nI 0) hx hb dX4_lose_14 (by decide) ?_
    exact retIz hx hb hr hlk dX4_lose_15 rfl hS (by rw [lsS, if_neg c_11]; exact hP) (by rw [lsX, if_neg c_11]; rfl)
theorem lkX4_repeat_50 : Cond.fieldLink RX4 50 "QuorumRegisterModel" "count" "I" ∈ wsX4_repeat := by decide +kernel
theorem inX4_repeat_X4 : ∀ w ∈ wsX40, w ∈ wsX4_repeat := by decide +kernel
theorem lkX4_repeat_44 : Cond.fieldLink RX4 44 "QuorumRegisterModel" "pool" "[I" ∈ wsX4_repeat := by decide +kernel
set_option maxHeartbeats 4000000 in
set_option maxRecDepth 100000 in
/-- repeat(i) -/
theorem k_X4_repeat (l : Launch) (dC : Nat → ClassId) (dI : Nat → Nat → Nat) (o : Nat → Nat) (k : Nat → ClassId) (R C : Nat → Nat → Int32) (an : Nat → Int32) (n : Nat) (f : Nat → Int32) (d : Nat) (g : Nat → Int32) (hn : n ≤ 77) (p0 : Int32) : MetI l yX4_repeat wsX4_repeat ({ frames := 1, cells := 0, slots := 0, locals := 27 } : Room) (dC, dI) vwCl (wMs o k (R, C, n, f, d, g) an) (tyM k) [.ref (o 0), .int p0] (rpX (R, C, n, f, d, g) p0) (wMs o k (rpS (R, C, n, f, d, g) p0) an) := by
  refine MetI.of (cc := cX4_repeat) (maxL := 2) (ret := (some .boolean)) (by decide) rfl (Nat.le_of_ble_eq_true rfl) rfl ?_
  intro p e s m below meth cd ls A hx hb hr hlk hml hown hts hK hP hD hS hA hl
  have hl : lv_has ls 2 [(0, .ref (o 0)), (1, .int p0)] := hl
  refine lv_iload_n hx hb dX4_repeat_0 rfl (lv_at hl 1 rfl) ?_
  refine lv_iconst (v := nI 0) hx hb dX4_repeat_1 (by decide) ?_
  refine lv_aload_n hx hb dX4_repeat_2 rfl (lv_at hl 0 rfl) ?_
  refine va_get (D := (dC, dI)) (ci := 4) (v := .int (nI n)) (C := RX4) (T := TX4) (N := 16) hx hb hts inX4_repeat_X4 hown hK hP (0) rfl rfl 13 (by decide) (hts _ lkX4_repeat_50) (fun _ h9 => h9) rfl dX4_repeat_3 ?_
  refine lv_iconst (v := nI 1) hx hb dX4_repeat_6 (by decide) ?_
  refine lv_isub hx hb dX4_repeat_7 ?_
  refine goS (va_runS (rm := ({ frames := 0, cells := 0, slots := 0, locals := 0 } : Room)) (As := [.int p0, .int (nI 0), .int ((nI n) - (nI 1))]) (rest := []) ⟨hx, hb, hml, hown, hts⟩ (MetS.at (k_X4_within l dC dI p0 (nI 0) ((nI n) - (nI 1)))) (va_cwS 3 hts gX4_repeat_X4_within rfl rfl rfl (by decide +kernel) ⟨Nat.le_of_ble_eq_true rfl, Nat.le_of_ble_eq_true rfl⟩) (preSS (hK.sub [] rfl) va_P0) rfl rfl hl.1 rfl (lv_room (Nat.le_of_ble_eq_true rfl)) dX4_repeat_8 ⟨Nat.le_of_ble_eq_true rfl, Nat.le_of_ble_eq_true rfl⟩) ?_
  refine lv_if_eq (tgt := 23) hx hb dX4_repeat_11 (by decide) (fun c_11 => ?_) (fun c_11 => ?_)
  · have c_11 := it_no c_11
    have c_11 := mt (wi_n (x := p0) n (by omega)).mpr c_11
    refine lv_iconst (v := nI 0) hx hb dX4_repeat_23 (by decide) ?_
    exact retIz hx hb hr hlk dX4_repeat_24 rfl hS (by rw [rpS, if_neg (fun q => c_11 q.1)]; exact hP) (by rw [rpX, if_neg (fun q => c_11 q.1)]; rfl)
  · have c_11 := it_yes c_11
    have c_11 := (wi_n (x := p0) n (by omega)).mp c_11
    refine lv_aload_n hx hb dX4_repeat_14 rfl (lv_at hl 0 rfl) ?_
    refine va_get (D := (dC, dI)) (ci := 4) (v := .int (nI n)) (C := RX4) (T := TX4) (N := 16) hx hb hts inX4_repeat_X4 hown hK hP (0) rfl rfl 13 (by decide) (hts _ lkX4_repeat_50) (fun _ h9 => h9) rfl dX4_repeat_15 ?_
    refine lv_bipush (v := nI 60) hx hb dX4_repeat_18 (by decide) ?_
    refine lv_icmp_le (tgt := 25) hx hb dX4_repeat_20 (by decide) (fun c_20 => ?_) (fun c_20 => ?_)
    · obtain ⟨i, lt_i, rfl⟩ := okI_of c_11 (by omega)
      have e_i : (nI i).toNatClampNeg = i := nI_clamp (by omega)
      refine lv_aload_n hx hb dX4_repeat_25 rfl (lv_at hl 0 rfl) ?_
      refine lv_aload_n hx hb dX4_repeat_26 rfl (lv_at hl 0 rfl) ?_
      refine va_get (D := (dC, dI)) (ci := 4) (v := .ref (o 12)) (C := RX4) (T := TX4) (N := 16) hx hb hts inX4_repeat_X4 hown hK hP (0) rfl rfl 12 (by decide) (hts _ lkX4_repeat_44) (fun _ h9 => h9) rfl dX4_repeat_27 ?_
      refine lv_bipush (v := nI 6) hx hb dX4_repeat_30 (by decide) ?_
      refine lv_iload_n hx hb dX4_repeat_32 rfl (lv_at hl 1 rfl) ?_
      refine lv_imul hx hb dX4_repeat_33 ?_
      refine qtop (y := nI (i * 6)) (mulc _ _) ?_
      refine q_iald hx hb hK hP (12) 11 (j := i * 6) rfl rfl (by omega) (Nat.le_of_ble_eq_true rfl) dX4_repeat_34 ?_
      refine lv_aload_n hx hb dX4_repeat_35 rfl (lv_at hl 0 rfl) ?_
      refine va_get (D := (dC, dI)) (ci := 4) (v := .ref (o 12)) (C := RX4) (T := TX4) (N := 16) hx hb hts inX4_repeat_X4 hown hK hP (0) rfl rfl 12 (by decide) (hts _ lkX4_repeat_44) (fun _ h9 => h9) rfl dX4_repeat_36 ?_
      refine lv_bipush (v := nI 6) hx hb dX4_repeat_39 (by decide) ?_
      refine lv_iload_n hx hb dX4_repeat_41 rfl (lv_at hl 1 rfl) ?_
      refine lv_imul hx hb dX4_repeat_42 ?_
      refine qtop (y := nI (i * 6)) (mulc _ _) ?_
      refine lv_iconst (v := nI 1) hx hb dX4_repeat_43 (by decide) ?_
      refine lv_iadd hx hb dX4_repeat_44 ?_
      refine qtop (y := nI ((i * 6) + 1)) (nI_add _ _) ?_
      refine q_iald hx hb hK hP (12) 11 (j := (i * 6) + 1) rfl rfl (by omega) (Nat.le_of_ble_eq_true rfl) dX4_repeat_45 ?_
      refine lv_aload_n hx hb dX4_repeat_46 rfl (lv_at hl 0 rfl) ?_
      refine va_get (D := (dC, dI)) (ci := 4) (v := .ref (o 12)) (C := RX4) (T := TX4) (N := 16) hx hb hts inX4_repeat_X4 hown hK hP (0) rfl rfl 12 (by decide) (hts _ lkX4_repeat_44) (fun _ h9 => h9) rfl dX4_repeat_47 ?_
      refine lv_bipush (v := nI 6) hx hb dX4_repeat_50 (by decide) ?_
      refine lv_iload_n hx hb dX4_repeat_52 rfl (lv_at hl 1 rfl) ?_
      refine lv_imul hx hb dX4_repeat_53 ?_
      refine qtop (y := nI (i * 6)) (mulc _ _) ?_
      refine lv_iconst (v := nI 2) hx hb dX4_repeat_54 (by decide) ?_
      refine lv_iadd hx hb dX4_repeat_55 ?_
      refine qtop (y := nI ((i * 6) + 2)) (nI_add _ _) ?_
      refine q_iald hx hb hK hP (12) 11 (j := (i * 6) + 2) rfl rfl (by omega) (Nat.le_of_ble_eq_true rfl) dX4_repeat_56 ?_
      refine lv_aload_n hx hb dX4_repeat_57 rfl (lv_at hl 0 rfl) ?_
      refine va_get (D := (dC, dI)) (ci := 4) (v := .ref (o 12)) (C := RX4) (T := TX4) (N := 16) hx hb hts inX4_repeat_X4 hown hK hP (0) rfl rfl 12 (by decide) (hts _ lkX4_repeat_44) (fun _ h9 => h9) rfl dX4_repeat_58 ?_
      refine lv_bipush (v := nI 6) hx hb dX4_repeat_61 (by decide) ?_
      refine lv_iload_n hx hb dX4_repeat_63 rfl (lv_at hl 1 rfl) ?_
      refine lv_imul hx hb dX4_repeat_64 ?_
      refine qtop (y := nI (i * 6)) (mulc _ _) ?_
      refine lv_iconst (v := nI 3) hx hb dX4_repeat_65 (by decide) ?_
      refine lv_iadd hx hb dX4_repeat_66 ?_
      refine qtop (y := nI ((i * 6) + 3)) (nI_add _ _) ?_
      refine q_iald hx hb hK hP (12) 11 (j := (i * 6) + 3) rfl rfl (by omega) (Nat.le_of_ble_eq_true rfl) dX4_repeat_67 ?_
      refine lv_aload_n hx hb dX4_repeat_68 rfl (lv_at hl 0 rfl) ?_
      refine va_get (D := (dC, dI)) (ci := 4) (v := .ref (o 12)) (C := RX4) (T := TX4) (N := 16) hx hb hts inX4_repeat_X4 hown hK hP (0) rfl rfl 12 (by decide) (hts _ lkX4_repeat_44) (fun _ h9 => h9) rfl dX4_repeat_69 ?_
      refine lv_bipush (v := nI 6) hx hb dX4_repeat_72 (by decide) ?_
      refine lv_iload_n hx hb dX4_repeat_74 rfl (lv_at hl 1 rfl) ?_
      refine lv_imul hx hb dX4_repeat_75 ?_
      refine qtop (y := nI (i * 6)) (mulc _ _) ?_
      refine lv_iconst (v := nI 4) hx hb dX4_repeat_76 (by decide) ?_
      refine lv_iadd hx hb dX4_repeat_77 ?_
      refine qtop (y := nI ((i * 6) + 4)) (nI_add _ _) ?_
      refine q_iald hx hb hK hP (12) 11 (j := (i * 6) + 4) rfl rfl (by omega) (Nat.le_of_ble_eq_true rfl) dX4_repeat_78 ?_
      refine lv_aload_n hx hb dX4_repeat_79 rfl (lv_at hl 0 rfl) ?_
      refine va_get (D := (dC, dI)) (ci := 4) (v := .ref (o 12)) (C := RX4) (T := TX4) (N := 16) hx hb hts inX4_repeat_X4 hown hK hP (0) rfl rfl 12 (by decide) (hts _ lkX4_repeat_44) (fun _ h9 => h9) rfl dX4_repeat_80 ?_
      refine lv_bipush (v := nI 6) hx hb dX4_repeat_83 (by decide) ?_
      refine lv_iload_n hx hb dX4_repeat_85 rfl (lv_at hl 1 rfl) ?_
      refine lv_imul hx hb dX4_repeat_86 ?_
      refine qtop (y := nI (i * 6)) (mulc _ _) ?_
      refine lv_iconst (v := nI 5) hx hb dX4_repeat_87 (by decide) ?_
      refine lv_iadd hx hb dX4_repeat_88 ?_
      refine qtop (y := nI ((i * 6) + 5)) (nI_add _ _) ?_
      refine q_iald hx hb hK hP (12) 11 (j := (i * 6) + 5) rfl rfl (by omega) (Nat.le_of_ble_eq_true rfl) dX4_repeat_89 ?_
      refine goV (ws := (wMs o k (R, C, n, f, d, g) an)) (ws' := (wMc o k (fun j => R j 0) (fun j => R j 1) (fun j => R j 2) (fun j => C j 0) (fun j => C j 1) (fun j => C j 2) (fun j => C j 3) an (fun j => C j 5) (fun j => C j 6) (fun j => C j 7) (snd6 f n (f (i * 6)) (f ((i * 6) + 1)) (f ((i * 6) + 2)) (f ((i * 6) + 3)) (f ((i * 6) + 4)) (f ((i * 6) + 5))) g (cnF R 5) (n + 1) d)) (qFit_all rfl) hP hD hS hA (va_runV (rm := ({ frames := 0, cells := 0, slots := 0, locals := 0 } : Room)) (As := [.int (f (i * 6)), .int (f ((i * 6) + 1)), .int (f ((i * 6) + 2)), .int (f ((i * 6) + 3)), .int (f ((i * 6) + 4)), .int (f ((i * 6) + 5))]) (rest := []) ⟨hx, hb, hml, hown, hts⟩ (MetV.at (k_X4_send l dC dI o k (fun j => R j 0) (fun j => R j 1) (fun j => R j 2) (fun j => C j 0) (fun j => C j 1) (fun j => C j 2) (fun j => C j 3) an (fun j => C j 5) (fun j => C j 6) (fun j => C j 7) f g (cnF R 5) n d (by omega) (f (i * 6)) (f ((i * 6) + 1)) (f ((i * 6) + 2)) (f ((i * 6) + 3)) (f ((i * 6) + 4)) (f ((i * 6) + 5))) s.heap.size) (cwV 6 hts gX4_repeat_X4_send rfl rfl rfl (by decide +kernel) ⟨Nat.le_of_ble_eq_true rfl, Nat.le_of_ble_eq_true rfl⟩) (preWV hK hP hD (va_recv hK hP (ci := 4) (q0 := 0) rfl rfl)) rfl rfl hl.1 rfl (lv_room (Nat.le_of_ble_eq_true rfl)) dX4_repeat_90 ⟨Nat.le_of_ble_eq_true rfl, Nat.le_of_ble_eq_true rfl⟩) (fun H locs hP hD hS => ?_)
      refine lv_iconst (v := nI 1) hx hb dX4_repeat_93 (by decide) ?_
      exact retIz hx hb hr hlk dX4_repeat_94 rfl hS (by rw [rpS, if_pos ⟨c_11, (fun q => absurd c_20 (nI_ge q (by omega)))⟩, e_i]; rw [rep_eq] at hP; exact hP) (by rw [rpX, if_pos ⟨c_11, (fun q => absurd c_20 (nI_ge q (by omega)))⟩]; rfl)
    · refine lv_iconst (v := nI 0) hx hb dX4_repeat_23 (by decide) ?_
      exact retIz hx hb hr hlk dX4_repeat_24 rfl hS (by rw [rpS, if_neg (fun q => q.2 ((Nat.lt_or_ge 60 n).elim id (fun q => absurd (nI_le q (by decide)) c_20)))]; exact hP) (by rw [rpX, if_neg (fun q => q.2 ((Nat.lt_or_ge 60 n).elim id (fun q => absurd (nI_le q (by decide)) c_20)))]; rfl)
theorem lkX4_fail_16 : Cond.fieldLink RX4 16 "QuorumRegisterModel" "failed" "[Z" ∈ wsX4_fail := by decide +kernel
theorem inX4_fail_X4 : ∀ w ∈ wsX40, w ∈ wsX4_fail := by decide +kernel
theorem lkX4_fail_81 : Cond.fieldLink RX4 81 "QuorumRegisterModel" "failures" "I" ∈ wsX4_fail := by decide +kernel
set_option maxHeartbeats 4000000 in
set_option maxRecDepth 100000 in
/-- fail(r) -/
theorem k_X4_fail (l : Launch) (dC : Nat → ClassId) (dI : Nat → Nat → Nat) (o : Nat → Nat) (k : Nat → ClassId) (R C : Nat → Nat → Int32) (an : Nat → Int32) (n : Nat) (f : Nat → Int32) (d : Nat) (g : Nat → Int32) (hfl : cnF R 5 ≤ 2) (p0 : Int32) : MetI l yX4_fail wsX4_fail ({ frames := 1, cells := 0, slots := 0, locals := 22 } : Room) (dC, dI) vwCl (wMs o k (R, C, n, f, d, g) an) (tyM k) [.ref (o 0), .int p0] (flX (R, C, n, f, d, g) p0) (wMs o k (flS (R, C, n, f, d, g) p0) an) := by
  refine MetI.of (cc := cX4_fail) (maxL := 2) (ret := (some .boolean)) (by decide) rfl (Nat.le_of_ble_eq_true rfl) rfl ?_
  intro p e s m below meth cd ls A hx hb hr hlk hml hown hts hK hP hD hS hA hl
  have hl : lv_has ls 2 [(0, .ref (o 0)), (1, .int p0)] := hl
  refine lv_iload_n hx hb dX4_fail_0 rfl (lv_at hl 1 rfl) ?_
  refine lv_iconst (v := nI 0) hx hb dX4_fail_1 (by decide) ?_
  refine lv_iconst (v := nI 4) hx hb dX4_fail_2 (by decide) ?_
  refine goS (va_runS (rm := ({ frames := 0, cells := 0, slots := 0, locals := 0 } : Room)) (As := [.int p0, .int (nI 0), .int (nI 4)]) (rest := []) ⟨hx, hb, hml, hown, hts⟩ (MetS.at (k_X4_within l dC dI p0 (nI 0) (nI 4))) (va_cwS 3 hts gX4_fail_X4_within rfl rfl rfl (by decide +kernel) ⟨Nat.le_of_ble_eq_true rfl, Nat.le_of_ble_eq_true rfl⟩) (preSS (hK.sub [] rfl) va_P0) rfl rfl hl.1 rfl (lv_room (Nat.le_of_ble_eq_true rfl)) dX4_fail_3 ⟨Nat.le_of_ble_eq_true rfl, Nat.le_of_ble_eq_true rfl⟩) ?_
  refine lv_if_eq (tgt := 26) hx hb dX4_fail_6 (by decide) (fun c_6 => ?_) (fun c_6 => ?_)
  · have c_6 := it_no c_6
    have c_6 := mt (wi_s (x := p0) 4 (Nat.le_of_ble_eq_true rfl)).mpr c_6
    refine lv_iconst (v := nI 0) hx hb dX4_fail_26 (by decide) ?_
    exact retIz hx hb hr hlk dX4_fail_27 rfl hS (by rw [flS, if_neg (fun q => c_6 q.1)]; exact hP) (by rw [flX, if_neg (fun q => c_6 q.1)]; rfl)
  · have c_6 := it_yes c_6
    have c_6 := (wi_s (x := p0) 4 (Nat.le_of_ble_eq_true rfl)).mp c_6
    obtain ⟨j, lt_j, rfl⟩ := okI_of c_6 (by omega)
    have e_j : (nI j).toNatClampNeg = j := nI_clamp (by omega)
    refine lv_aload_n hx hb dX4_fail_9 rfl (lv_at hl 0 rfl) ?_
    refine va_get (D := (dC, dI)) (ci := 4) (v := .ref (o 3)) (C := RX4) (T := TX4) (N := 16) hx hb hts inX4_fail_X4 hown hK hP (0) rfl rfl 2 (by decide) (hts _ lkX4_fail_16) (fun _ h9 => h9) rfl dX4_fail_10 ?_
    refine lv_iload_n hx hb dX4_fail_13 rfl (lv_at hl 1 rfl) ?_
    refine q_zald hx hb hK hP (3) 2 (j := j) rfl rfl lt_j (Nat.le_of_ble_eq_true rfl) dX4_fail_14 ?_
    refine lv_if_ne (tgt := 26) hx hb dX4_fail_15 (by decide) (fun c_15 => ?_) (fun c_15 => ?_)
    · refine lv_iconst (v := nI 0) hx hb dX4_fail_26 (by decide) ?_
      exact retIz hx hb hr hlk dX4_fail_27 rfl hS (by rw [flS, if_neg (fun q => c_15 (by have := q.2.1; rw [e_j] at this; exact this))]; exact hP) (by rw [flX, if_neg (fun q => c_15 (by have := q.2.1; rw [e_j] at this; exact this))]; rfl)
    · refine lv_aload_n hx hb dX4_fail_18 rfl (lv_at hl 0 rfl) ?_
      refine va_get (D := (dC, dI)) (ci := 4) (v := .int (nI (cnF R 5))) (C := RX4) (T := TX4) (N := 16) hx hb hts inX4_fail_X4 hown hK hP (0) rfl rfl 3 (by decide) (hts _ lkX4_fail_81) (fun _ h9 => h9) rfl dX4_fail_19 ?_
      refine lv_iconst (v := nI 2) hx hb dX4_fail_22 (by decide) ?_
      refine lv_icmp_ne (tgt := 28) hx hb dX4_fail_23 (by decide) (fun c_23 => ?_) (fun c_23 => ?_)
      · refine lv_aload_n hx hb dX4_fail_28 rfl (lv_at hl 0 rfl) ?_
        refine va_get (D := (dC, dI)) (ci := 4) (v := .ref (o 3)) (C := RX4) (T := TX4) (N := 16) hx hb hts inX4_fail_X4 hown hK hP (0) rfl rfl 2 (by decide) (hts _ lkX4_fail_16) (fun _ h9 => h9) rfl dX4_fail_29 ?_
        refine lv_iload_n hx hb dX4_fail_32 rfl (lv_at hl 1 rfl) ?_
        refine lv_iconst (v := nI 1) hx hb dX4_fail_33 (by decide) ?_
        refine q_zast (ws' := (wMc o k (fun j => R j 0) (fun j => R j 1) (upd (fun j => R j 2) j (nI 1)) (fun j => C j 0) (fun j => C j 1) (fun j => C j 2) (fun j => C j 3) an (fun j => C j 5) (fun j => C j 6) (fun j => C j 7) f g (cnF R 5) n d)) hx hb hK hP hD hS (3) 2 (j := j) rfl rfl lt_j (Nat.le_of_ble_eq_true rfl) rfl rfl dX4_fail_34 (fun H locs hP hD hS => ?_)
        refine lv_aload_n hx hb dX4_fail_35 rfl (lv_at hl 0 rfl) ?_
        refine lv_dup hx hb dX4_fail_36 rfl ?_
        refine va_get (D := (dC, dI)) (ci := 4) (v := .int (nI (cnF R 5))) (C := RX4) (T := TX4) (N := 16) hx hb hts inX4_fail_X4 hown hK hP (0) rfl rfl 3 (by decide) (hts _ lkX4_fail_81) (fun _ h9 => h9) rfl dX4_fail_37 ?_
        refine lv_iconst (v := nI 1) hx hb dX4_fail_40 (by decide) ?_
        refine lv_iadd hx hb dX4_fail_41 ?_
        refine qtop (y := nI ((cnF R 5) + 1)) (nI_add _ _) ?_
        refine q_put (D := (dC, dI)) (ci := 4) (v := .int (nI ((cnF R 5) + 1))) (ty := .int) (C := RX4) (T := TX4) (N := 16) (ws' := (wMc o k (fun j => R j 0) (fun j => R j 1) (upd (fun j => R j 2) j (nI 1)) (fun j => C j 0) (fun j => C j 1) (fun j => C j 2) (fun j => C j 3) an (fun j => C j 5) (fun j => C j 6) (fun j => C j 7) f g ((cnF R 5) + 1) n d)) hx hb hts inX4_fail_X4 tyX4 tyX4_ok nmX4 hown hK hP hD hS (0) rfl rfl 3 (by decide) (hts _ lkX4_fail_81) (fun _ h9 => h9) rfl (by decide +kernel) rfl rfl (Nat.le_of_ble_eq_true rfl) rfl dX4_fail_42 (fun H locs hP hD hS => ?_)
        refine lv_iconst (v := nI 1) hx hb dX4_fail_45 (by decide) ?_
        exact retIz hx hb hr hlk dX4_fail_46 rfl hS (by rw [flS, if_pos ⟨c_6, by rw [e_j]; exact c_15, (show cnF R 5 < 2 from by have : ¬ cnF R 5 = 2 := fun q => c_23 (by rw [q]); omega)⟩, e_j]; show va_P _ _ (wM o k (up2 R j 2 (nI 1)) C an n f d g (cnF (up2 R j 2 (nI 1)) 5)) _; rw [cnF_up lt_j c_15]; exact va_Pe (wM_of (fun q => by simp [up2]) (fun q => by simp [up2]) (fun q => by simp [upd, up2]) (fun _ => rfl) (fun _ => rfl) (fun _ => rfl) (fun _ => rfl) (fun _ => rfl) (fun _ => rfl) (fun _ => rfl)) hP) (by rw [flX, if_pos ⟨c_6, by rw [e_j]; exact c_15, (show cnF R 5 < 2 from by have : ¬ cnF R 5 = 2 := fun q => c_23 (by rw [q]); omega)⟩]; rfl)
      · refine lv_iconst (v := nI 0) hx hb dX4_fail_26 (by decide) ?_
        exact retIz hx hb hr hlk dX4_fail_27 rfl hS (by rw [flS, if_neg (fun q => by have w := q.2.2; rw [(nI_eq (by omega) (by decide)).mp c_23] at w; exact absurd w (by decide))]; exact hP) (by rw [flX, if_neg (fun q => by have w := q.2.2; rw [(nI_eq (by omega) (by decide)).mp c_23] at w; exact absurd w (by decide))]; rfl)
theorem lkX4_messages_50 : Cond.fieldLink RX4 50 "QuorumRegisterModel" "count" "I" ∈ wsX4_messages := by decide +kernel
theorem inX4_messages_X4 : ∀ w ∈ wsX40, w ∈ wsX4_messages := by decide +kernel
set_option maxHeartbeats 4000000 in
set_option maxRecDepth 100000 in
/-- X4_messages -/
theorem k_X4_messages (l : Launch) (dC : Nat → ClassId) (dI : Nat → Nat → Nat) (o : Nat → Nat) (k : Nat → ClassId) (R C : Nat → Nat → Int32) (an : Nat → Int32) (n : Nat) (f : Nat → Int32) (d : Nat) (g : Nat → Int32) : MetS l yX4_messages wsX4_messages ({ frames := 0, cells := 0, slots := 0, locals := 0 } : Room) (dC, dI) vwCl (wMs o k (R, C, n, f, d, g) an) (tyM k) [.ref (o 0)] (nI n) := by
  refine MetS.of (cc := cX4_messages) (maxL := 1) (ret := (some .int)) (by decide) rfl (Nat.le_of_ble_eq_true rfl) rfl ?_
  intro p e s m below meth cd ls hx hb hr hlk hml hown hts hK hP hl
  have hl : lv_has ls 1 [(0, .ref (o 0))] := hl
  refine lv_aload_n hx hb dX4_messages_0 rfl (lv_at hl 0 rfl) ?_
  refine va_get (D := (dC, dI)) (ci := 4) (v := .int (nI n)) (C := RX4) (T := TX4) (N := 16) hx hb hts inX4_messages_X4 hown hK hP (0) rfl rfl 13 (by decide) (hts _ lkX4_messages_50) (fun _ h9 => h9) rfl dX4_messages_1 ?_
  exact retS hx hb hr hlk dX4_messages_4 (rfl)
theorem lkX4_finished_78 : Cond.fieldLink RX4 78 "QuorumRegisterModel" "finished" "I" ∈ wsX4_finished := by decide +kernel
theorem inX4_finished_X4 : ∀ w ∈ wsX40, w ∈ wsX4_finished := by decide +kernel
set_option maxHeartbeats 4000000 in
set_option maxRecDepth 100000 in
/-- X4_finished -/
theorem k_X4_finished (l : Launch) (dC : Nat → ClassId) (dI : Nat → Nat → Nat) (o : Nat → Nat) (k : Nat → ClassId) (R C : Nat → Nat → Int32) (an : Nat → Int32) (n : Nat) (f : Nat → Int32) (d : Nat) (g : Nat → Int32) : MetS l yX4_finished wsX4_finished ({ frames := 0, cells := 0, slots := 0, locals := 0 } : Room) (dC, dI) vwCl (wMs o k (R, C, n, f, d, g) an) (tyM k) [.ref (o 0)] (nI d) := by
  refine MetS.of (cc := cX4_finished) (maxL := 1) (ret := (some .int)) (by decide) rfl (Nat.le_of_ble_eq_true rfl) rfl ?_
  intro p e s m below meth cd ls hx hb hr hlk hml hown hts hK hP hl
  have hl : lv_has ls 1 [(0, .ref (o 0))] := hl
  refine lv_aload_n hx hb dX4_finished_0 rfl (lv_at hl 0 rfl) ?_
  refine va_get (D := (dC, dI)) (ci := 4) (v := .int (nI d)) (C := RX4) (T := TX4) (N := 16) hx hb hts inX4_finished_X4 hown hK hP (0) rfl rfl 15 (by decide) (hts _ lkX4_finished_78) (fun _ h9 => h9) rfl dX4_finished_1 ?_
  exact retS hx hb hr hlk dX4_finished_4 (rfl)
theorem lkX4_tag_7 : Cond.fieldLink RX4 7 "QuorumRegisterModel" "tag" "[I" ∈ wsX4_tag := by decide +kernel
theorem inX4_tag_X4 : ∀ w ∈ wsX40, w ∈ wsX4_tag := by decide +kernel
set_option maxHeartbeats 4000000 in
set_option maxRecDepth 100000 in
/-- X4_tag -/
theorem k_X4_tag (l : Launch) (dC : Nat → ClassId) (dI : Nat → Nat → Nat) (o : Nat → Nat) (k : Nat → ClassId) (R C : Nat → Nat → Int32) (an : Nat → Int32) (n : Nat) (f : Nat → Int32) (d : Nat) (g : Nat → Int32) (p0 : Int32) : MetS l yX4_tag wsX4_tag ({ frames := 1, cells := 0, slots := 0, locals := 22 } : Room) (dC, dI) vwCl (wMs o k (R, C, n, f, d, g) an) (tyM k) [.ref (o 0), .int p0] (if okI p0 5 then R p0.toNatClampNeg 0 else (-1)) := by
  refine MetS.of (cc := cX4_tag) (maxL := 2) (ret := (some .int)) (by decide) rfl (Nat.le_of_ble_eq_true rfl) rfl ?_
  intro p e s m below meth cd ls hx hb hr hlk hml hown hts hK hP hl
  have hl : lv_has ls 2 [(0, .ref (o 0)), (1, .int p0)] := hl
  refine lv_iload_n hx hb dX4_tag_0 rfl (lv_at hl 1 rfl) ?_
  refine lv_iconst (v := nI 0) hx hb dX4_tag_1 (by decide) ?_
  refine lv_iconst (v := nI 4) hx hb dX4_tag_2 (by decide) ?_
  refine goS (va_runS (rm := ({ frames := 0, cells := 0, slots := 0, locals := 0 } : Room)) (As := [.int p0, .int (nI 0), .int (nI 4)]) (rest := []) ⟨hx, hb, hml, hown, hts⟩ (MetS.at (k_X4_within l dC dI p0 (nI 0) (nI 4))) (va_cwS 3 hts gX4_tag_X4_within rfl rfl rfl (by decide +kernel) ⟨Nat.le_of_ble_eq_true rfl, Nat.le_of_ble_eq_true rfl⟩) (preSS (hK.sub [] rfl) va_P0) rfl rfl hl.1 rfl (lv_room (Nat.le_of_ble_eq_true rfl)) dX4_tag_3 ⟨Nat.le_of_ble_eq_true rfl, Nat.le_of_ble_eq_true rfl⟩) ?_
  refine lv_if_eq (tgt := 18) hx hb dX4_tag_6 (by decide) (fun c_6 => ?_) (fun c_6 => ?_)
  · have c_6 := it_no c_6
    have c_6 := mt (wi_s (x := p0) 4 (Nat.le_of_ble_eq_true rfl)).mpr c_6
    refine lv_iconst (v := (-1)) hx hb dX4_tag_18 (by decide) ?_
    exact retS hx hb hr hlk dX4_tag_19 ((if_neg c_6).symm)
  · have c_6 := it_yes c_6
    have c_6 := (wi_s (x := p0) 4 (Nat.le_of_ble_eq_true rfl)).mp c_6
    obtain ⟨j, lt_j, rfl⟩ := okI_of c_6 (by omega)
    have e_j : (nI j).toNatClampNeg = j := nI_clamp (by omega)
    refine lv_aload_n hx hb dX4_tag_9 rfl (lv_at hl 0 rfl) ?_
    refine va_get (D := (dC, dI)) (ci := 4) (v := .ref (o 1)) (C := RX4) (T := TX4) (N := 16) hx hb hts inX4_tag_X4 hown hK hP (0) rfl rfl 0 (by decide) (hts _ lkX4_tag_7) (fun _ h9 => h9) rfl dX4_tag_10 ?_
    refine lv_iload_n hx hb dX4_tag_13 rfl (lv_at hl 1 rfl) ?_
    refine q_iald hx hb hK hP (1) 0 (j := j) rfl rfl lt_j (Nat.le_of_ble_eq_true rfl) dX4_tag_14 ?_
    refine lv_goto (tgt := 19) hx hb dX4_tag_15 (by decide) ?_
    exact retS hx hb hr hlk dX4_tag_19 (by rw [if_pos c_6, e_j])
theorem lkX4_value_13 : Cond.fieldLink RX4 13 "QuorumRegisterModel" "value" "[I" ∈ wsX4_value := by decide +kernel
theorem inX4_value_X4 : ∀ w ∈ wsX40, w ∈ wsX4_value := by decide +kernel
set_option maxHeartbeats 4000000 in
set_option maxRecDepth 100000 in
/-- X4_value -/
theorem k_X4_value (l : Launch) (dC : Nat → ClassId) (dI : Nat → Nat → Nat) (o : Nat → Nat) (k : Nat → ClassId) (R C : Nat → Nat → Int32) (an : Nat → Int32) (n : Nat) (f : Nat → Int32) (d : Nat) (g : Nat → Int32) (p0 : Int32) : MetS l yX4_value wsX4_value ({ frames := 1, cells := 0, slots := 0, locals := 22 } : Room) (dC, dI) vwCl (wMs o k (R, C, n, f, d, g) an) (tyM k) [.ref (o 0), .int p0] (if okI p0 5 then R p0.toNatClampNeg 1 else 0) := by
  refine MetS.of (cc := cX4_value) (maxL := 2) (ret := (some .int)) (by decide) rfl (Nat.le_of_ble_eq_true rfl) rfl ?_
  intro p e s m below meth cd ls hx hb hr hlk hml hown hts hK hP hl
  have hl : lv_has ls 2 [(0, .ref (o 0)), (1, .int p0)] := hl
  refine lv_iload_n hx hb dX4_value_0 rfl (lv_at hl 1 rfl) ?_
  refine lv_iconst (v := nI 0) hx hb dX4_value_1 (by decide) ?_
  refine lv_iconst (v := nI 4) hx hb dX4_value_2 (by decide) ?_
  refine goS (va_runS (rm := ({ frames := 0, cells := 0, slots := 0, locals := 0 } : Room)) (As := [.int p0, .int (nI 0), .int (nI 4)]) (rest := []) ⟨hx, hb, hml, hown, hts⟩ (MetS.at (k_X4_within l dC dI p0 (nI 0) (nI 4))) (va_cwS 3 hts gX4_value_X4_within rfl rfl rfl (by decide +kernel) ⟨Nat.le_of_ble_eq_true rfl, Nat.le_of_ble_eq_true rfl⟩) (preSS (hK.sub [] rfl) va_P0) rfl rfl hl.1 rfl (lv_room (Nat.le_of_ble_eq_true rfl)) dX4_value_3 ⟨Nat.le_of_ble_eq_true rfl, Nat.le_of_ble_eq_true rfl⟩) ?_
  refine lv_if_eq (tgt := 18) hx hb dX4_value_6 (by decide) (fun c_6 => ?_) (fun c_6 => ?_)
  · have c_6 := it_no c_6
    have c_6 := mt (wi_s (x := p0) 4 (Nat.le_of_ble_eq_true rfl)).mpr c_6
    refine lv_iconst (v := nI 0) hx hb dX4_value_18 (by decide) ?_
    exact retS hx hb hr hlk dX4_value_19 ((if_neg c_6).symm)
  · have c_6 := it_yes c_6
    have c_6 := (wi_s (x := p0) 4 (Nat.le_of_ble_eq_true rfl)).mp c_6
    obtain ⟨j, lt_j, rfl⟩ := okI_of c_6 (by omega)
    have e_j : (nI j).toNatClampNeg = j := nI_clamp (by omega)
    refine lv_aload_n hx hb dX4_value_9 rfl (lv_at hl 0 rfl) ?_
    refine va_get (D := (dC, dI)) (ci := 4) (v := .ref (o 2)) (C := RX4) (T := TX4) (N := 16) hx hb hts inX4_value_X4 hown hK hP (0) rfl rfl 1 (by decide) (hts _ lkX4_value_13) (fun _ h9 => h9) rfl dX4_value_10 ?_
    refine lv_iload_n hx hb dX4_value_13 rfl (lv_at hl 1 rfl) ?_
    refine q_iald hx hb hK hP (2) 1 (j := j) rfl rfl lt_j (Nat.le_of_ble_eq_true rfl) dX4_value_14 ?_
    refine lv_goto (tgt := 19) hx hb dX4_value_15 (by decide) ?_
    exact retS hx hb hr hlk dX4_value_19 (by rw [if_pos c_6, e_j])
theorem lkX4_phase_20 : Cond.fieldLink RX4 20 "QuorumRegisterModel" "phase" "[I" ∈ wsX4_phase := by decide +kernel
theorem inX4_phase_X4 : ∀ w ∈ wsX40, w ∈ wsX4_phase := by decide +kernel
set_option maxHeartbeats 4000000 in
set_option maxRecDepth 100000 in
/-- X4_phase -/
theorem k_X4_phase (l : Launch) (dC : Nat → ClassId) (dI : Nat → Nat → Nat) (o : Nat → Nat) (k : Nat → ClassId) (R C : Nat → Nat → Int32) (an : Nat → Int32) (n : Nat) (f : Nat → Int32) (d : Nat) (g : Nat → Int32) (p0 : Int32) : MetS l yX4_phase wsX4_phase ({ frames := 1, cells := 0, slots := 0, locals := 22 } : Room) (dC, dI) vwCl (wMs o k (R, C, n, f, d, g) an) (tyM k) [.ref (o 0), .int p0] (if okI p0 3 then C p0.toNatClampNeg 0 else (-1)) := by
  refine MetS.of (cc := cX4_phase) (maxL := 2) (ret := (some .int)) (by decide) rfl (Nat.le_of_ble_eq_true rfl) rfl ?_
  intro p e s m below meth cd ls hx hb hr hlk hml hown hts hK hP hl
  have hl : lv_has ls 2 [(0, .ref (o 0)), (1, .int p0)] := hl
  refine lv_iload_n hx hb dX4_phase_0 rfl (lv_at hl 1 rfl) ?_
  refine lv_iconst (v := nI 0) hx hb dX4_phase_1 (by decide) ?_
  refine lv_iconst (v := nI 2) hx hb dX4_phase_2 (by decide) ?_
  refine goS (va_runS (rm := ({ frames := 0, cells := 0, slots := 0, locals := 0 } : Room)) (As := [.int p0, .int (nI 0), .int (nI 2)]) (rest := []) ⟨hx, hb, hml, hown, hts⟩ (MetS.at (k_X4_within l dC dI p0 (nI 0) (nI 2))) (va_cwS 3 hts gX4_phase_X4_within rfl rfl rfl (by decide +kernel) ⟨Nat.le_of_ble_eq_true rfl, Nat.le_of_ble_eq_true rfl⟩) (preSS (hK.sub [] rfl) va_P0) rfl rfl hl.1 rfl (lv_room (Nat.le_of_ble_eq_true rfl)) dX4_phase_3 ⟨Nat.le_of_ble_eq_true rfl, Nat.le_of_ble_eq_true rfl⟩) ?_
  refine lv_if_eq (tgt := 18) hx hb dX4_phase_6 (by decide) (fun c_6 => ?_) (fun c_6 => ?_)
  · have c_6 := it_no c_6
    have c_6 := mt (wi_s (x := p0) 2 (Nat.le_of_ble_eq_true rfl)).mpr c_6
    refine lv_iconst (v := (-1)) hx hb dX4_phase_18 (by decide) ?_
    exact retS hx hb hr hlk dX4_phase_19 ((if_neg c_6).symm)
  · have c_6 := it_yes c_6
    have c_6 := (wi_s (x := p0) 2 (Nat.le_of_ble_eq_true rfl)).mp c_6
    obtain ⟨j, lt_j, rfl⟩ := okI_of c_6 (by omega)
    have e_j : (nI j).toNatClampNeg = j := nI_clamp (by omega)
    refine lv_aload_n hx hb dX4_phase_9 rfl (lv_at hl 0 rfl) ?_
    refine va_get (D := (dC, dI)) (ci := 4) (v := .ref (o 4)) (C := RX4) (T := TX4) (N := 16) hx hb hts inX4_phase_X4 hown hK hP (0) rfl rfl 4 (by decide) (hts _ lkX4_phase_20) (fun _ h9 => h9) rfl dX4_phase_10 ?_
    refine lv_iload_n hx hb dX4_phase_13 rfl (lv_at hl 1 rfl) ?_
    refine q_iald hx hb hK hP (4) 3 (j := j) rfl rfl lt_j (Nat.le_of_ble_eq_true rfl) dX4_phase_14 ?_
    refine lv_goto (tgt := 19) hx hb dX4_phase_15 (by decide) ?_
    exact retS hx hb hr hlk dX4_phase_19 (by rw [if_pos c_6, e_j])
theorem lkX4_answered_20 : Cond.fieldLink RX4 20 "QuorumRegisterModel" "phase" "[I" ∈ wsX4_answered := by decide +kernel
theorem inX4_answered_X4 : ∀ w ∈ wsX40, w ∈ wsX4_answered := by decide +kernel
theorem lkX4_answered_32 : Cond.fieldLink RX4 32 "QuorumRegisterModel" "answers" "[I" ∈ wsX4_answered := by decide +kernel
set_option maxHeartbeats 4000000 in
set_option maxRecDepth 100000 in
/-- answered(c) -/
theorem k_X4_answered (l : Launch) (dC : Nat → ClassId) (dI : Nat → Nat → Nat) (o : Nat → Nat) (k : Nat → ClassId) (R C : Nat → Nat → Int32) (an : Nat → Int32) (n : Nat) (f : Nat → Int32) (d : Nat) (g : Nat → Int32) (p0 : Int32) : MetS l yX4_answered wsX4_answered ({ frames := 1, cells := 0, slots := 0, locals := 22 } : Room) (dC, dI) vwCl (wMs o k (R, C, n, f, d, g) an) (tyM k) [.ref (o 0), .int p0] (if okI p0 3 then (if C p0.toNatClampNeg 0 = 0 then 0 else an p0.toNatClampNeg) else (-1)) := by
  refine MetS.of (cc := cX4_answered) (maxL := 2) (ret := (some .int)) (by decide) rfl (Nat.le_of_ble_eq_true rfl) rfl ?_
  intro p e s m below meth cd ls hx hb hr hlk hml hown hts hK hP hl
  have hl : lv_has ls 2 [(0, .ref (o 0)), (1, .int p0)] := hl
  refine lv_iload_n hx hb dX4_answered_0 rfl (lv_at hl 1 rfl) ?_
  refine lv_iconst (v := nI 0) hx hb dX4_answered_1 (by decide) ?_
  refine lv_iconst (v := nI 2) hx hb dX4_answered_2 (by decide) ?_
  refine goS (va_runS (rm := ({ frames := 0, cells := 0, slots := 0, locals := 0 } : Room)) (As := [.int p0, .int (nI 0), .int (nI 2)]) (rest := []) ⟨hx, hb, hml, hown, hts⟩ (MetS.at (k_X4_within l dC dI p0 (nI 0) (nI 2))) (va_cwS 3 hts gX4_answered_X4_within rfl rfl rfl (by decide +kernel) ⟨Nat.le_of_ble_eq_true rfl, Nat.le_of_ble_eq_true rfl⟩) (preSS (hK.sub [] rfl) va_P0) rfl rfl hl.1 rfl (lv_room (Nat.le_of_ble_eq_true rfl)) dX4_answered_3 ⟨Nat.le_of_ble_eq_true rfl, Nat.le_of_ble_eq_true rfl⟩) ?_
  refine lv_if_ne (tgt := 13) hx hb dX4_answered_6 (by decide) (fun c_6 => ?_) (fun c_6 => ?_)
  · have c_6 := it_yes c_6
    have c_6 := (wi_s (x := p0) 2 (Nat.le_of_ble_eq_true rfl)).mp c_6
    obtain ⟨j, lt_j, rfl⟩ := okI_of c_6 (by omega)
    have e_j : (nI j).toNatClampNeg = j := nI_clamp (by omega)
    refine lv_aload_n hx hb dX4_answered_13 rfl (lv_at hl 0 rfl) ?_
    refine va_get (D := (dC, dI)) (ci := 4) (v := .ref (o 4)) (C := RX4) (T := TX4) (N := 16) hx hb hts inX4_answered_X4 hown hK hP (0) rfl rfl 4 (by decide) (hts _ lkX4_answered_20) (fun _ h9 => h9) rfl dX4_answered_14 ?_
    refine lv_iload_n hx hb dX4_answered_17 rfl (lv_at hl 1 rfl) ?_
    refine q_iald hx hb hK hP (4) 3 (j := j) rfl rfl lt_j (Nat.le_of_ble_eq_true rfl) dX4_answered_18 ?_
    refine lv_if_ne (tgt := 26) hx hb dX4_answered_19 (by decide) (fun c_19 => ?_) (fun c_19 => ?_)
    · refine lv_aload_n hx hb dX4_answered_26 rfl (lv_at hl 0 rfl) ?_
      refine va_get (D := (dC, dI)) (ci := 4) (v := .ref (o 8)) (C := RX4) (T := TX4) (N := 16) hx hb hts inX4_answered_X4 hown hK hP (0) rfl rfl 8 (by decide) (hts _ lkX4_answered_32) (fun _ h9 => h9) rfl dX4_answered_27 ?_
      refine lv_iload_n hx hb dX4_answered_30 rfl (lv_at hl 1 rfl) ?_
      refine q_iald hx hb hK hP (8) 7 (j := j) rfl rfl lt_j (Nat.le_of_ble_eq_true rfl) dX4_answered_31 ?_
      exact retS hx hb hr hlk dX4_answered_32 (by rw [if_pos c_6, e_j, if_neg c_19])
    · refine lv_iconst (v := nI 0) hx hb dX4_answered_22 (by decide) ?_
      refine lv_goto (tgt := 32) hx hb dX4_answered_23 (by decide) ?_
      exact retS hx hb hr hlk dX4_answered_32 (by rw [if_pos c_6, e_j, if_pos c_19]; rfl)
  · have c_6 := it_no c_6
    have c_6 := mt (wi_s (x := p0) 2 (Nat.le_of_ble_eq_true rfl)).mpr c_6
    refine lv_iconst (v := (-1)) hx hb dX4_answered_9 (by decide) ?_
    refine lv_goto (tgt := 32) hx hb dX4_answered_10 (by decide) ?_
    exact retS hx hb hr hlk dX4_answered_32 (by rw [if_neg c_6])
theorem lkX4_failed_16 : Cond.fieldLink RX4 16 "QuorumRegisterModel" "failed" "[Z" ∈ wsX4_failed := by decide +kernel
theorem inX4_failed_X4 : ∀ w ∈ wsX40, w ∈ wsX4_failed := by decide +kernel
set_option maxHeartbeats 4000000 in
set_option maxRecDepth 100000 in
/-- failed(r) -/
theorem k_X4_failed (l : Launch) (dC : Nat → ClassId) (dI : Nat → Nat → Nat) (o : Nat → Nat) (k : Nat → ClassId) (R C : Nat → Nat → Int32) (an : Nat → Int32) (n : Nat) (f : Nat → Int32) (d : Nat) (g : Nat → Int32) (p0 : Int32) : MetS l yX4_failed wsX4_failed ({ frames := 1, cells := 0, slots := 0, locals := 22 } : Room) (dC, dI) vwCl (wMs o k (R, C, n, f, d, g) an) (tyM k) [.ref (o 0), .int p0] (if okI p0 5 ∧ ¬ R p0.toNatClampNeg 2 = 0 then 1 else 0) := by
  refine MetS.of (cc := cX4_failed) (maxL := 2) (ret := (some .boolean)) (by decide) rfl (Nat.le_of_ble_eq_true rfl) rfl ?_
  intro p e s m below meth cd ls hx hb hr hlk hml hown hts hK hP hl
  have hl : lv_has ls 2 [(0, .ref (o 0)), (1, .int p0)] := hl
  refine lv_iload_n hx hb dX4_failed_0 rfl (lv_at hl 1 rfl) ?_
  refine lv_iconst (v := nI 0) hx hb dX4_failed_1 (by decide) ?_
  refine lv_iconst (v := nI 4) hx hb dX4_failed_2 (by decide) ?_
  refine goS (va_runS (rm := ({ frames := 0, cells := 0, slots := 0, locals := 0 } : Room)) (As := [.int p0, .int (nI 0), .int (nI 4)]) (rest := []) ⟨hx, hb, hml, hown, hts⟩ (MetS.at (k_X4_within l dC dI p0 (nI 0) (nI 4))) (va_cwS 3 hts gX4_failed_X4_within rfl rfl rfl (by decide +kernel) ⟨Nat.le_of_ble_eq_true rfl, Nat.le_of_ble_eq_true rfl⟩) (preSS (hK.sub [] rfl) va_P0) rfl rfl hl.1 rfl (lv_room (Nat.le_of_ble_eq_true rfl)) dX4_failed_3 ⟨Nat.le_of_ble_eq_true rfl, Nat.le_of_ble_eq_true rfl⟩) ?_
  refine lv_if_eq (tgt := 22) hx hb dX4_failed_6 (by decide) (fun c_6 => ?_) (fun c_6 => ?_)
  · have c_6 := it_no c_6
    have c_6 := mt (wi_s (x := p0) 4 (Nat.le_of_ble_eq_true rfl)).mpr c_6
    refine lv_iconst (v := nI 0) hx hb dX4_failed_22 (by decide) ?_
    exact retSz hx hb hr hlk dX4_failed_23 rfl (by rw [if_neg (fun q => c_6 q.1)]; rfl)
  · have c_6 := it_yes c_6
    have c_6 := (wi_s (x := p0) 4 (Nat.le_of_ble_eq_true rfl)).mp c_6
    obtain ⟨j, lt_j, rfl⟩ := okI_of c_6 (by omega)
    have e_j : (nI j).toNatClampNeg = j := nI_clamp (by omega)
    refine lv_aload_n hx hb dX4_failed_9 rfl (lv_at hl 0 rfl) ?_
    refine va_get (D := (dC, dI)) (ci := 4) (v := .ref (o 3)) (C := RX4) (T := TX4) (N := 16) hx hb hts inX4_failed_X4 hown hK hP (0) rfl rfl 2 (by decide) (hts _ lkX4_failed_16) (fun _ h9 => h9) rfl dX4_failed_10 ?_
    refine lv_iload_n hx hb dX4_failed_13 rfl (lv_at hl 1 rfl) ?_
    refine q_zald hx hb hK hP (3) 2 (j := j) rfl rfl lt_j (Nat.le_of_ble_eq_true rfl) dX4_failed_14 ?_
    refine lv_if_eq (tgt := 22) hx hb dX4_failed_15 (by decide) (fun c_15 => ?_) (fun c_15 => ?_)
    · refine lv_iconst (v := nI 0) hx hb dX4_failed_22 (by decide) ?_
      exact retSz hx hb hr hlk dX4_failed_23 rfl (by rw [if_neg (fun q => q.2 (by rw [e_j]; exact c_15))]; rfl)
    · refine lv_iconst (v := nI 1) hx hb dX4_failed_18 (by decide) ?_
      refine lv_goto (tgt := 23) hx hb dX4_failed_19 (by decide) ?_
      exact retSz hx hb hr hlk dX4_failed_23 rfl (by rw [if_pos ⟨c_6, by rw [e_j]; exact c_15⟩]; rfl)
theorem lkX4_message_50 : Cond.fieldLink RX4 50 "QuorumRegisterModel" "count" "I" ∈ wsX4_message := by decide +kernel
theorem inX4_message_X4 : ∀ w ∈ wsX40, w ∈ wsX4_message := by decide +kernel
theorem lkX4_message_44 : Cond.fieldLink RX4 44 "QuorumRegisterModel" "pool" "[I" ∈ wsX4_message := by decide +kernel
set_option maxHeartbeats 4000000 in
set_option maxRecDepth 100000 in
/-- X4_message -/
theorem k_X4_message (l : Launch) (dC : Nat → ClassId) (dI : Nat → Nat → Nat) (o : Nat → Nat) (k : Nat → ClassId) (R C : Nat → Nat → Int32) (an : Nat → Int32) (n : Nat) (f : Nat → Int32) (d : Nat) (g : Nat → Int32) (hn : n ≤ 77) (p0 p1 : Int32) : MetS l yX4_message wsX4_message ({ frames := 1, cells := 0, slots := 0, locals := 22 } : Room) (dC, dI) vwCl (wMs o k (R, C, n, f, d, g) an) (tyM k) [.ref (o 0), .int p0, .int p1] (if okI p0 n then (if okI p1 6 then f (p0.toNatClampNeg * 6 + p1.toNatClampNeg) else 0) else (-1)) := by
  refine MetS.of (cc := cX4_message) (maxL := 3) (ret := (some .int)) (by decide) rfl (Nat.le_of_ble_eq_true rfl) rfl ?_
  intro p e s m below meth cd ls hx hb hr hlk hml hown hts hK hP hl
  have hl : lv_has ls 3 [(0, .ref (o 0)), (1, .int p0), (2, .int p1)] := hl
  refine lv_iload_n hx hb dX4_message_0 rfl (lv_at hl 1 rfl) ?_
  refine lv_iconst (v := nI 0) hx hb dX4_message_1 (by decide) ?_
  refine lv_aload_n hx hb dX4_message_2 rfl (lv_at hl 0 rfl) ?_
  refine va_get (D := (dC, dI)) (ci := 4) (v := .int (nI n)) (C := RX4) (T := TX4) (N := 16) hx hb hts inX4_message_X4 hown hK hP (0) rfl rfl 13 (by decide) (hts _ lkX4_message_50) (fun _ h9 => h9) rfl dX4_message_3 ?_
  refine lv_iconst (v := nI 1) hx hb dX4_message_6 (by decide) ?_
  refine lv_isub hx hb dX4_message_7 ?_
  refine goS (va_runS (rm := ({ frames := 0, cells := 0, slots := 0, locals := 0 } : Room)) (As := [.int p0, .int (nI 0), .int ((nI n) - (nI 1))]) (rest := []) ⟨hx, hb, hml, hown, hts⟩ (MetS.at (k_X4_within l dC dI p0 (nI 0) ((nI n) - (nI 1)))) (va_cwS 3 hts gX4_message_X4_within rfl rfl rfl (by decide +kernel) ⟨Nat.le_of_ble_eq_true rfl, Nat.le_of_ble_eq_true rfl⟩) (preSS (hK.sub [] rfl) va_P0) rfl rfl hl.1 rfl (lv_room (Nat.le_of_ble_eq_true rfl)) dX4_message_8 ⟨Nat.le_of_ble_eq_true rfl, Nat.le_of_ble_eq_true rfl⟩) ?_
  refine lv_if_ne (tgt := 16) hx hb dX4_message_11 (by decide) (fun c_11 => ?_) (fun c_11 => ?_)
  · have c_11 := it_yes c_11
    have c_11 := (wi_n (x := p0) n (by omega)).mp c_11
    refine lv_iload_n hx hb dX4_message_16 rfl (lv_at hl 2 rfl) ?_
    refine lv_iconst (v := nI 0) hx hb dX4_message_17 (by decide) ?_
    refine lv_iconst (v := nI 5) hx hb dX4_message_18 (by decide) ?_
    refine goS (va_runS (rm := ({ frames := 0, cells := 0, slots := 0, locals := 0 } : Room)) (As := [.int p1, .int (nI 0), .int (nI 5)]) (rest := []) ⟨hx, hb, hml, hown, hts⟩ (MetS.at (k_X4_within l dC dI p1 (nI 0) (nI 5))) (va_cwS 3 hts gX4_message_X4_within rfl rfl rfl (by decide +kernel) ⟨Nat.le_of_ble_eq_true rfl, Nat.le_of_ble_eq_true rfl⟩) (preSS (hK.sub [] rfl) va_P0) rfl rfl hl.1 rfl (lv_room (Nat.le_of_ble_eq_true rfl)) dX4_message_19 ⟨Nat.le_of_ble_eq_true rfl, Nat.le_of_ble_eq_true rfl⟩) ?_
    refine lv_if_eq (tgt := 39) hx hb dX4_message_22 (by decide) (fun c_22 => ?_) (fun c_22 => ?_)
    · have c_22 := it_no c_22
      have c_22 := mt (wi_s (x := p1) 5 (Nat.le_of_ble_eq_true rfl)).mpr c_22
      refine lv_iconst (v := nI 0) hx hb dX4_message_39 (by decide) ?_
      exact retS hx hb hr hlk dX4_message_40 (by rw [if_pos c_11, if_neg c_22]; rfl)
    · have c_22 := it_yes c_22
      have c_22 := (wi_s (x := p1) 5 (Nat.le_of_ble_eq_true rfl)).mp c_22
      obtain ⟨i, lt_i, rfl⟩ := okI_of c_11 (by omega)
      obtain ⟨j, lt_j, rfl⟩ := okI_of c_22 (by omega)
      refine lv_aload_n hx hb dX4_message_25 rfl (lv_at hl 0 rfl) ?_
      refine va_get (D := (dC, dI)) (ci := 4) (v := .ref (o 12)) (C := RX4) (T := TX4) (N := 16) hx hb hts inX4_message_X4 hown hK hP (0) rfl rfl 12 (by decide) (hts _ lkX4_message_44) (fun _ h9 => h9) rfl dX4_message_26 ?_
      refine lv_bipush (v := nI 6) hx hb dX4_message_29 (by decide) ?_
      refine lv_iload_n hx hb dX4_message_31 rfl (lv_at hl 1 rfl) ?_
      refine lv_imul hx hb dX4_message_32 ?_
      refine qtop (y := nI (i * 6)) (mulc _ _) ?_
      refine lv_iload_n hx hb dX4_message_33 rfl (lv_at hl 2 rfl) ?_
      refine lv_iadd hx hb dX4_message_34 ?_
      refine qtop (y := nI ((i * 6) + j)) (nI_add _ _) ?_
      refine q_iald hx hb hK hP (12) 11 (j := (i * 6) + j) rfl rfl (by omega) (Nat.le_of_ble_eq_true rfl) dX4_message_35 ?_
      refine lv_goto (tgt := 40) hx hb dX4_message_36 (by decide) ?_
      exact retS hx hb hr hlk dX4_message_40 (by rw [if_pos c_11, if_pos c_22, nI_clamp (by omega), nI_clamp (by omega)])
  · have c_11 := it_no c_11
    have c_11 := mt (wi_n (x := p0) n (by omega)).mpr c_11
    refine lv_iconst (v := (-1)) hx hb dX4_message_14 (by decide) ?_
    exact retS hx hb hr hlk dX4_message_15 (by rw [if_neg c_11])
theorem lkX4_operation_78 : Cond.fieldLink RX4 78 "QuorumRegisterModel" "finished" "I" ∈ wsX4_operation := by decide +kernel
theorem inX4_operation_X4 : ∀ w ∈ wsX40, w ∈ wsX4_operation := by decide +kernel
theorem lkX4_operation_47 : Cond.fieldLink RX4 47 "QuorumRegisterModel" "done" "[I" ∈ wsX4_operation := by decide +kernel
set_option maxHeartbeats 4000000 in
set_option maxRecDepth 100000 in
/-- X4_operation -/
theorem k_X4_operation (l : Launch) (dC : Nat → ClassId) (dI : Nat → Nat → Nat) (o : Nat → Nat) (k : Nat → ClassId) (R C : Nat → Nat → Int32) (an : Nat → Int32) (n : Nat) (f : Nat → Int32) (d : Nat) (g : Nat → Int32) (hn : d ≤ 39) (p0 p1 : Int32) : MetS l yX4_operation wsX4_operation ({ frames := 1, cells := 0, slots := 0, locals := 22 } : Room) (dC, dI) vwCl (wMs o k (R, C, n, f, d, g) an) (tyM k) [.ref (o 0), .int p0, .int p1] (if okI p0 d then (if okI p1 5 then g (p0.toNatClampNeg * 5 + p1.toNatClampNeg) else 0) else (-1)) := by
  refine MetS.of (cc := cX4_operation) (maxL := 3) (ret := (some .int)) (by decide) rfl (Nat.le_of_ble_eq_true rfl) rfl ?_
  intro p e s m below meth cd ls hx hb hr hlk hml hown hts hK hP hl
  have hl : lv_has ls 3 [(0, .ref (o 0)), (1, .int p0), (2, .int p1)] := hl
  refine lv_iload_n hx hb dX4_operation_0 rfl (lv_at hl 1 rfl) ?_
  refine lv_iconst (v := nI 0) hx hb dX4_operation_1 (by decide) ?_
  refine lv_aload_n hx hb dX4_operation_2 rfl (lv_at hl 0 rfl) ?_
  refine va_get (D := (dC, dI)) (ci := 4) (v := .int (nI d)) (C := RX4) (T := TX4) (N := 16) hx hb hts inX4_operation_X4 hown hK hP (0) rfl rfl 15 (by decide) (hts _ lkX4_operation_78) (fun _ h9 => h9) rfl dX4_operation_3 ?_
  refine lv_iconst (v := nI 1) hx hb dX4_operation_6 (by decide) ?_
  refine lv_isub hx hb dX4_operation_7 ?_
  refine goS (va_runS (rm := ({ frames := 0, cells := 0, slots := 0, locals := 0 } : Room)) (As := [.int p0, .int (nI 0), .int ((nI d) - (nI 1))]) (rest := []) ⟨hx, hb, hml, hown, hts⟩ (MetS.at (k_X4_within l dC dI p0 (nI 0) ((nI d) - (nI 1)))) (va_cwS 3 hts gX4_operation_X4_within rfl rfl rfl (by decide +kernel) ⟨Nat.le_of_ble_eq_true rfl, Nat.le_of_ble_eq_true rfl⟩) (preSS (hK.sub [] rfl) va_P0) rfl rfl hl.1 rfl (lv_room (Nat.le_of_ble_eq_true rfl)) dX4_operation_8 ⟨Nat.le_of_ble_eq_true rfl, Nat.le_of_ble_eq_true rfl⟩) ?_
  refine lv_if_ne (tgt := 16) hx hb dX4_operation_11 (by decide) (fun c_11 => ?_) (fun c_11 => ?_)
  · have c_11 := it_yes c_11
    have c_11 := (wi_n (x := p0) d (by omega)).mp c_11
    refine lv_iload_n hx hb dX4_operation_16 rfl (lv_at hl 2 rfl) ?_
    refine lv_iconst (v := nI 0) hx hb dX4_operation_17 (by decide) ?_
    refine lv_iconst (v := nI 4) hx hb dX4_operation_18 (by decide) ?_
    refine goS (va_runS (rm := ({ frames := 0, cells := 0, slots := 0, locals := 0 } : Room)) (As := [.int p1, .int (nI 0), .int (nI 4)]) (rest := []) ⟨hx, hb, hml, hown, hts⟩ (MetS.at (k_X4_within l dC dI p1 (nI 0) (nI 4))) (va_cwS 3 hts gX4_operation_X4_within rfl rfl rfl (by decide +kernel) ⟨Nat.le_of_ble_eq_true rfl, Nat.le_of_ble_eq_true rfl⟩) (preSS (hK.sub [] rfl) va_P0) rfl rfl hl.1 rfl (lv_room (Nat.le_of_ble_eq_true rfl)) dX4_operation_19 ⟨Nat.le_of_ble_eq_true rfl, Nat.le_of_ble_eq_true rfl⟩) ?_
    refine lv_if_eq (tgt := 38) hx hb dX4_operation_22 (by decide) (fun c_22 => ?_) (fun c_22 => ?_)
    · have c_22 := it_no c_22
      have c_22 := mt (wi_s (x := p1) 4 (Nat.le_of_ble_eq_true rfl)).mpr c_22
      refine lv_iconst (v := nI 0) hx hb dX4_operation_38 (by decide) ?_
      exact retS hx hb hr hlk dX4_operation_39 (by rw [if_pos c_11, if_neg c_22]; rfl)
    · have c_22 := it_yes c_22
      have c_22 := (wi_s (x := p1) 4 (Nat.le_of_ble_eq_true rfl)).mp c_22
      obtain ⟨i, lt_i, rfl⟩ := okI_of c_11 (by omega)
      obtain ⟨j, lt_j, rfl⟩ := okI_of c_22 (by omega)
      refine lv_aload_n hx hb dX4_operation_25 rfl (lv_at hl 0 rfl) ?_
      refine va_get (D := (dC, dI)) (ci := 4) (v := .ref (o 13)) (C := RX4) (T := TX4) (N := 16) hx hb hts inX4_operation_X4 hown hK hP (0) rfl rfl 14 (by decide) (hts _ lkX4_operation_47) (fun _ h9 => h9) rfl dX4_operation_26 ?_
      refine lv_iconst (v := nI 5) hx hb dX4_operation_29 (by decide) ?_
      refine lv_iload_n hx hb dX4_operation_30 rfl (lv_at hl 1 rfl) ?_
      refine lv_imul hx hb dX4_operation_31 ?_
      refine qtop (y := nI (i * 5)) (mulc _ _) ?_
      refine lv_iload_n hx hb dX4_operation_32 rfl (lv_at hl 2 rfl) ?_
      refine lv_iadd hx hb dX4_operation_33 ?_
      refine qtop (y := nI ((i * 5) + j)) (nI_add _ _) ?_
      refine q_iald hx hb hK hP (13) 12 (j := (i * 5) + j) rfl rfl (by omega) (Nat.le_of_ble_eq_true rfl) dX4_operation_34 ?_
      refine lv_goto (tgt := 39) hx hb dX4_operation_35 (by decide) ?_
      exact retS hx hb hr hlk dX4_operation_39 (by rw [if_pos c_11, if_pos c_22, nI_clamp (by omega), nI_clamp (by omega)])
  · have c_11 := it_no c_11
    have c_11 := mt (wi_n (x := p0) d (by omega)).mpr c_11
    refine lv_iconst (v := (-1)) hx hb dX4_operation_14 (by decide) ?_
    exact retS hx hb hr hlk dX4_operation_15 (by rw [if_neg c_11])
end
section
/-! the reference: deliver -/
theorem telC_ne {C : Nat → Nat → Int32} {c q b : Nat} {r t v : Int32} (h : q ≠ c) : telC C c r t v q b = C q b := by
  unfold telC heaC
  split <;> simp [up2, h]
theorem heaC_ne {C : Nat → Nat → Int32} {c q b : Nat} {r : Int32} (h : q ≠ c) : heaC C c r q b = C q b := by simp [heaC, up2, h]
theorem stoC_ne {C : Nat → Nat → Int32} {c q b : Nat} (h : q ≠ c) : stoC C c q b = C q b := by
  unfold stoC wriC
  split <;> simp [up2, h]
theorem idlC_ne {C : Nat → Nat → Int32} {c q b : Nat} (h : q ≠ c) : idlC C c q b = C q b := by simp [idlC, up2, h]
theorem num_a {x y : Int32} (h : x ≤ y) : y + nI 1 = nI 1 + (if x < y then y else x) := by
  rw [Int32.add_comm]
  by_cases q : x < y
  · rw [if_pos q]
  · rw [if_neg q, Int32.le_antisymm h (Int32.not_lt.mp q)]
theorem num_b {x y : Int32} (h : ¬ x ≤ y) : x + nI 1 = nI 1 + (if x < y then y else x) := by
  rw [Int32.add_comm, if_neg (fun q => h (Int32.le_of_lt q))]
theorem sto_a {C : Nat → Nat → Int32} {c : Nat} (h : C c 2 = 0) : stoC C c = up2 (up2 C c 0 (nI 2)) c 4 (nI 0) := by rw [stoC, if_pos h]
theorem sto_b {C : Nat → Nat → Int32} {c : Nat} (h : ¬ C c 2 = 0) : stoC C c = up2 (up2 (wriC C c) c 0 (nI 2)) c 4 (nI 0) := by rw [stoC, if_neg h]
theorem sto4 {C : Nat → Nat → Int32} {c : Nat} : stoC C c c 4 = nI 0 := by simp [stoC, up2]
theorem ask_no {σ : St} {c r : Nat} {s : Int32} (h : ¬ σ.1 r 2 = 0) : stAsk σ c r s = σ := if_neg h
theorem str_no {σ : St} {c r : Nat} {s t v : Int32} (h : ¬ σ.1 r 2 = 0) : stStr σ c r s t v = σ := if_neg h
theorem tel_no {σ : St} {c r : Nat} {s t v : Int32} (h : ¬ aw (σ.2.1 c) (nI 1) (nI r) s) : stTel σ c r s t v = σ := if_neg h
theorem std_no {σ : St} {c r : Nat} {s : Int32} (h : ¬ aw (σ.2.1 c) (nI 2) (nI r) s) : stStd σ c r s = σ := if_neg h
theorem dl_v {σ σ' : St} {i : Nat} (hi : i < σ.2.2.1) (hn : σ.2.2.1 < 2 ^ 31) (e : dlS σ (nI i) = σ') : dlX σ (nI i) = nI σ'.2.2.1 - nI (σ.2.2.1 - 1) := by rw [dlX, if_pos (okI_nI hi hn), e]
theorem cnF_01 {R : Nat → Nat → Int32} {r : Nat} {t v : Int32} : cnF (up2 (up2 R r 0 t) r 1 v) 5 = cnF R 5 := by simp [cnF, up2]
theorem nq_u {σ : St} {R C T : Nat → Nat → Int32} {n d : Nat} {f g an : Nat → Int32} {c a : Nat} {p0 : Int32} (hA : ∀ c, c < 3 → ¬ C c 0 = 0 → an c = C c 4) (e : dlS σ p0 = (R, T, n, f, d, g)) (h4 : T c 4 = nI a) (n_T : ∀ q b, q ≠ c → T q b = C q b) : ∀ q, q < 3 → ¬ (dlS σ p0).2.1 q 0 = 0 → upd an c (nI a) q = (dlS σ p0).2.1 q 4 := by
  rw [e]
  intro q lq hq
  show upd an c (nI a) q = T q 4
  by_cases z : q = c
  · rw [z, pk_us]; exact h4.symm
  · rw [pk_un z, n_T q 4 z]; exact hA q lq (fun y => hq (by show T q 0 = 0; rw [n_T q 0 z]; exact y))
theorem st_u {σ : St} {R C T : Nat → Nat → Int32} {n d : Nat} {f g an : Nat → Int32} {c : Nat} {p0 x : Int32} (hA : ∀ c, c < 3 → ¬ C c 0 = 0 → an c = C c 4) (e : dlS σ p0 = stSto (R, T, n, f, d, g) c) (n_T : ∀ q b, q ≠ c → T q b = C q b) : ∀ q, q < 3 → ¬ (dlS σ p0).2.1 q 0 = 0 → upd (upd an c x) c (nI 0) q = (dlS σ p0).2.1 q 4 := by
  rw [e]
  intro q lq hq
  show upd (upd an c x) c (nI 0) q = stoC T c q 4
  by_cases z : q = c
  · rw [z, pk_us, sto4]
  · rw [pk_un z, pk_un z, stoC_ne z, n_T q 4 z]; exact hA q lq (fun y => hq (by show stoC T c q 0 = 0; rw [stoC_ne z, n_T q 0 z]; exact y))
theorem fi_u {σ : St} {R C T : Nat → Nat → Int32} {n d : Nat} {f g an : Nat → Int32} {c : Nat} {p0 x : Int32} (hA : ∀ c, c < 3 → ¬ C c 0 = 0 → an c = C c 4) (e : dlS σ p0 = stFin (R, T, n, f, d, g) c) (n_T : ∀ q b, q ≠ c → T q b = C q b) : ∀ q, q < 3 → ¬ (dlS σ p0).2.1 q 0 = 0 → upd an c x q = (dlS σ p0).2.1 q 4 := by
  rw [e]
  intro q lq hq
  show upd an c x q = idlC T c q 4
  by_cases z : q = c
  · exact absurd (show idlC T c q 0 = 0 by rw [z]; simp [idlC, up2]; rfl) hq
  · rw [pk_un z, idlC_ne z, n_T q 4 z]; exact hA q lq (fun y => hq (by show idlC T c q 0 = 0; rw [idlC_ne z, n_T q 0 z]; exact y))
theorem lkX4_deliver_50 : Cond.fieldLink RX4 50 "QuorumRegisterModel" "count" "I" ∈ wsX4_deliver := by decide +kernel
theorem inX4_deliver_X4 : ∀ w ∈ wsX40, w ∈ wsX4_deliver := by decide +kernel
theorem lkX4_deliver_44 : Cond.fieldLink RX4 44 "QuorumRegisterModel" "pool" "[I" ∈ wsX4_deliver := by decide +kernel
theorem lkX4_deliver_16 : Cond.fieldLink RX4 16 "QuorumRegisterModel" "failed" "[Z" ∈ wsX4_deliver := by decide +kernel
theorem lkX4_deliver_7 : Cond.fieldLink RX4 7 "QuorumRegisterModel" "tag" "[I" ∈ wsX4_deliver := by decide +kernel
theorem lkX4_deliver_13 : Cond.fieldLink RX4 13 "QuorumRegisterModel" "value" "[I" ∈ wsX4_deliver := by decide +kernel
theorem lkX4_deliver_23 : Cond.fieldLink RX4 23 "QuorumRegisterModel" "serial" "[I" ∈ wsX4_deliver := by decide +kernel
theorem lkX4_deliver_20 : Cond.fieldLink RX4 20 "QuorumRegisterModel" "phase" "[I" ∈ wsX4_deliver := by decide +kernel
theorem lkX4_deliver_32 : Cond.fieldLink RX4 32 "QuorumRegisterModel" "answers" "[I" ∈ wsX4_deliver := by decide +kernel
theorem lkX4_deliver_35 : Cond.fieldLink RX4 35 "QuorumRegisterModel" "seenTag" "[I" ∈ wsX4_deliver := by decide +kernel
theorem lkX4_deliver_26 : Cond.fieldLink RX4 26 "QuorumRegisterModel" "writes" "[Z" ∈ wsX4_deliver := by decide +kernel
theorem lkX4_deliver_38 : Cond.fieldLink RX4 38 "QuorumRegisterModel" "seenValue" "[I" ∈ wsX4_deliver := by decide +kernel
theorem lkX4_deliver_41 : Cond.fieldLink RX4 41 "QuorumRegisterModel" "made" "[I" ∈ wsX4_deliver := by decide +kernel
theorem lkX4_deliver_29 : Cond.fieldLink RX4 29 "QuorumRegisterModel" "wanted" "[I" ∈ wsX4_deliver := by decide +kernel
theorem lkX4_deliver_78 : Cond.fieldLink RX4 78 "QuorumRegisterModel" "finished" "I" ∈ wsX4_deliver := by decide +kernel
theorem lkX4_deliver_47 : Cond.fieldLink RX4 47 "QuorumRegisterModel" "done" "[I" ∈ wsX4_deliver := by decide +kernel
set_option maxHeartbeats 4000000 in
set_option maxRecDepth 100000 in
/-- deliver(i) -/
theorem k_X4_deliver (l : Launch) (dC : Nat → ClassId) (dI : Nat → Nat → Nat) (o : Nat → Nat) (k : Nat → ClassId) (R C : Nat → Nat → Int32) (an : Nat → Int32) (n : Nat) (f : Nat → Int32) (d : Nat) (g : Nat → Int32) (hn : n ≤ 77) (hm : ∀ i, i < n → (∃ c, c < 3 ∧ f (i * 6 + 1) = nI c) ∧ (∃ r, r < 5 ∧ f (i * 6 + 2) = nI r)) (ha : ∀ c, c < 3 → ∃ a, a < 32 ∧ C c 4 = nI a) (hd : d ≤ 39) (hAn : ∀ c, c < 3 → ¬ C c 0 = 0 → an c = C c 4) (p0 : Int32) : MetJ l yX4_deliver wsX4_deliver ({ frames := 2, cells := 0, slots := 0, locals := 52 } : Room) (dC, dI) vwCl (wMs o k (R, C, n, f, d, g) an) (tyM k) [.ref (o 0), .int p0] (dlX (R, C, n, f, d, g) p0) (fun u => wMs o k (dlS (R, C, n, f, d, g) p0) u) (fun u => ∀ c, c < 3 → ¬ (dlS (R, C, n, f, d, g) p0).2.1 c 0 = 0 → u c = (dlS (R, C, n, f, d, g) p0).2.1 c 4) := by
  refine MetJ.of (cc := cX4_deliver) (maxL := 10) (ret := (some .int)) (by decide) rfl (Nat.le_of_ble_eq_true rfl) rfl ?_
  intro p e s m below meth cd ls A hx hb hr hlk hml hown hts hK hP hD hS hA hl
  have hl : lv_has ls 10 [(0, .ref (o 0)), (1, .int p0)] := hl
  refine lv_iload_n hx hb dX4_deliver_0 rfl (lv_at hl 1 rfl) ?_
  refine lv_iconst (v := nI 0) hx hb dX4_deliver_1 (by decide) ?_
  refine lv_aload_n hx hb dX4_deliver_2 rfl (lv_at hl 0 rfl) ?_
  refine va_get (D := (dC, dI)) (ci := 4) (v := .int (nI n)) (C := RX4) (T := TX4) (N := 16) hx hb hts inX4_deliver_X4 hown hK hP (0) rfl rfl 13 (by decide) (hts _ lkX4_deliver_50) (fun _ h9 => h9) rfl dX4_deliver_3 ?_
  refine lv_iconst (v := nI 1) hx hb dX4_deliver_6 (by decide) ?_
  refine lv_isub hx hb dX4_deliver_7 ?_
  refine goS (va_runS (rm := ({ frames := 0, cells := 0, slots := 0, locals := 0 } : Room)) (As := [.int p0, .int (nI 0), .int ((nI n) - (nI 1))]) (rest := []) ⟨hx, hb, hml, hown, hts⟩ (MetS.at (k_X4_within l dC dI p0 (nI 0) ((nI n) - (nI 1)))) (va_cwS 3 hts gX4_deliver_X4_within rfl rfl rfl (by decide +kernel) ⟨Nat.le_of_ble_eq_true rfl, Nat.le_of_ble_eq_true rfl⟩) (preSS (hK.sub [] rfl) va_P0) rfl rfl hl.1 rfl (lv_room (Nat.le_of_ble_eq_true rfl)) dX4_deliver_8 ⟨Nat.le_of_ble_eq_true rfl, Nat.le_of_ble_eq_true rfl⟩) ?_
  refine lv_if_ne (tgt := 16) hx hb dX4_deliver_11 (by decide) (fun c_11 => ?_) (fun c_11 => ?_)
  · have c_11 := it_yes c_11
    have c_11 := (wi_n (x := p0) n (by omega)).mp c_11
    obtain ⟨i, lt_i, rfl⟩ := okI_of c_11 (by omega)
    obtain ⟨⟨c, lt_c, e_c⟩, ⟨r, lt_r, e_r⟩⟩ := hm i lt_i
    obtain ⟨a, lt_a, e_a⟩ := ha c lt_c
    refine lv_aload_n hx hb dX4_deliver_16 rfl (lv_at hl 0 rfl) ?_
    refine va_get (D := (dC, dI)) (ci := 4) (v := .ref (o 12)) (C := RX4) (T := TX4) (N := 16) hx hb hts inX4_deliver_X4 hown hK hP (0) rfl rfl 12 (by decide) (hts _ lkX4_deliver_44) (fun _ h9 => h9) rfl dX4_deliver_17 ?_
    refine lv_bipush (v := nI 6) hx hb dX4_deliver_20 (by decide) ?_
    refine lv_iload_n hx hb dX4_deliver_22 rfl (lv_at hl 1 rfl) ?_
    refine lv_imul hx hb dX4_deliver_23 ?_
    refine qtop (y := nI (i * 6)) (mulc _ _) ?_
    refine q_iald hx hb hK hP (12) 11 (j := i * 6) rfl rfl (by omega) (Nat.le_of_ble_eq_true rfl) dX4_deliver_24 ?_
    refine lv_istore_n (lv' := [(2, .int (f (i * 6))), (0, .ref (o 0)), (1, .int (nI i))]) hx hb dX4_deliver_25 rfl hl (by decide) rfl (fun ls hl => ?_)
    refine lv_aload_n hx hb dX4_deliver_26 rfl (lv_at hl 1 rfl) ?_
    refine va_get (D := (dC, dI)) (ci := 4) (v := .ref (o 12)) (C := RX4) (T := TX4) (N := 16) hx hb hts inX4_deliver_X4 hown hK hP (0) rfl rfl 12 (by decide) (hts _ lkX4_deliver_44) (fun _ h9 => h9) rfl dX4_deliver_27 ?_
    refine lv_bipush (v := nI 6) hx hb dX4_deliver_30 (by decide) ?_
    refine lv_iload_n hx hb dX4_deliver_32 rfl (lv_at hl 2 rfl) ?_
    refine lv_imul hx hb dX4_deliver_33 ?_
    refine qtop (y := nI (i * 6)) (mulc _ _) ?_
    refine lv_iconst (v := nI 1) hx hb dX4_deliver_34 (by decide) ?_
    refine lv_iadd hx hb dX4_deliver_35 ?_
    refine qtop (y := nI ((i * 6) + 1)) (nI_add _ _) ?_
    refine q_iald hx hb hK hP (12) 11 (j := (i * 6) + 1) rfl rfl (by omega) (Nat.le_of_ble_eq_true rfl) dX4_deliver_36 ?_
    refine qtop (y := nI c) e_c ?_
    refine lv_istore_n (lv' := [(3, .int (nI c)), (2, .int (f (i * 6))), (0, .ref (o 0)), (1, .int (nI i))]) hx hb dX4_deliver_37 rfl hl (by decide) rfl (fun ls hl => ?_)
    refine lv_aload_n hx hb dX4_deliver_38 rfl (lv_at hl 2 rfl) ?_
    refine va_get (D := (dC, dI)) (ci := 4) (v := .ref (o 12)) (C := RX4) (T := TX4) (N := 16) hx hb hts inX4_deliver_X4 hown hK hP (0) rfl rfl 12 (by decide) (hts _ lkX4_deliver_44) (fun _ h9 => h9) rfl dX4_deliver_39 ?_
    refine lv_bipush (v := nI 6) hx hb dX4_deliver_42 (by decide) ?_
    refine lv_iload_n hx hb dX4_deliver_44 rfl (lv_at hl 3 rfl) ?_
    refine lv_imul hx hb dX4_deliver_45 ?_
    refine qtop (y := nI (i * 6)) (mulc _ _) ?_
    refine lv_iconst (v := nI 2) hx hb dX4_deliver_46 (by decide) ?_
    refine lv_iadd hx hb dX4_deliver_47 ?_
    refine qtop (y := nI ((i * 6) + 2)) (nI_add _ _) ?_
    refine q_iald hx hb hK hP (12) 11 (j := (i * 6) + 2) rfl rfl (by omega) (Nat.le_of_ble_eq_true rfl) dX4_deliver_48 ?_
    refine qtop (y := nI r) e_r ?_
    refine lv_istore (lv' := [(4, .int (nI r)), (3, .int (nI c)), (2, .int (f (i * 6))), (0, .ref (o 0)), (1, .int (nI i))]) hx hb dX4_deliver_49 hl (by decide) rfl (fun ls hl => ?_)
    refine lv_aload_n hx hb dX4_deliver_51 rfl (lv_at hl 3 rfl) ?_
    refine va_get (D := (dC, dI)) (ci := 4) (v := .ref (o 12)) (C := RX4) (T := TX4) (N := 16) hx hb hts inX4_deliver_X4 hown hK hP (0) rfl rfl 12 (by decide) (hts _ lkX4_deliver_44) (fun _ h9 => h9) rfl dX4_deliver_52 ?_
    refine lv_bipush (v := nI 6) hx hb dX4_deliver_55 (by decide) ?_
    refine lv_iload_n hx hb dX4_deliver_57 rfl (lv_at hl 4 rfl) ?_
    refine lv_imul hx hb dX4_deliver_58 ?_
    refine qtop (y := nI (i * 6)) (mulc _ _) ?_
    refine lv_iconst (v := nI 3) hx hb dX4_deliver_59 (by decide) ?_
    refine lv_iadd hx hb dX4_deliver_60 ?_
    refine qtop (y := nI ((i * 6) + 3)) (nI_add _ _) ?_
    refine q_iald hx hb hK hP (12) 11 (j := (i * 6) + 3) rfl rfl (by omega) (Nat.le_of_ble_eq_true rfl) dX4_deliver_61 ?_
    refine lv_istore (lv' := [(5, .int (f ((i * 6) + 3))), (4, .int (nI r)), (3, .int (nI c)), (2, .int (f (i * 6))), (0, .ref (o 0)), (1, .int (nI i))]) hx hb dX4_deliver_62 hl (by decide) rfl (fun ls hl => ?_)
    refine lv_aload_n hx hb dX4_deliver_64 rfl (lv_at hl 4 rfl) ?_
    refine va_get (D := (dC, dI)) (ci := 4) (v := .ref (o 12)) (C := RX4) (T := TX4) (N := 16) hx hb hts inX4_deliver_X4 hown hK hP (0) rfl rfl 12 (by decide) (hts _ lkX4_deliver_44) (fun _ h9 => h9) rfl dX4_deliver_65 ?_
    refine lv_bipush (v := nI 6) hx hb dX4_deliver_68 (by decide) ?_
    refine lv_iload_n hx hb dX4_deliver_70 rfl (lv_at hl 5 rfl) ?_
    refine lv_imul hx hb dX4_deliver_71 ?_
    refine qtop (y := nI (i * 6)) (mulc _ _) ?_
    refine lv_iconst (v := nI 4) hx hb dX4_deliver_72 (by decide) ?_
    refine lv_iadd hx hb dX4_deliver_73 ?_
    refine qtop (y := nI ((i * 6) + 4)) (nI_add _ _) ?_
    refine q_iald hx hb hK hP (12) 11 (j := (i * 6) + 4) rfl rfl (by omega) (Nat.le_of_ble_eq_true rfl) dX4_deliver_74 ?_
    refine lv_istore (lv' := [(6, .int (f ((i * 6) + 4))), (5, .int (f ((i * 6) + 3))), (4, .int (nI r)), (3, .int (nI c)), (2, .int (f (i * 6))), (0, .ref (o 0)), (1, .int (nI i))]) hx hb dX4_deliver_75 hl (by decide) rfl (fun ls hl => ?_)
    refine lv_aload_n hx hb dX4_deliver_77 rfl (lv_at hl 5 rfl) ?_
    refine va_get (D := (dC, dI)) (ci := 4) (v := .ref (o 12)) (C := RX4) (T := TX4) (N := 16) hx hb hts inX4_deliver_X4 hown hK hP (0) rfl rfl 12 (by decide) (hts _ lkX4_deliver_44) (fun _ h9 => h9) rfl dX4_deliver_78 ?_
    refine lv_bipush (v := nI 6) hx hb dX4_deliver_81 (by decide) ?_
    refine lv_iload_n hx hb dX4_deliver_83 rfl (lv_at hl 6 rfl) ?_
    refine lv_imul hx hb dX4_deliver_84 ?_
    refine qtop (y := nI (i * 6)) (mulc _ _) ?_
    refine lv_iconst (v := nI 5) hx hb dX4_deliver_85 (by decide) ?_
    refine lv_iadd hx hb dX4_deliver_86 ?_
    refine qtop (y := nI ((i * 6) + 5)) (nI_add _ _) ?_
    refine q_iald hx hb hK hP (12) 11 (j := (i * 6) + 5) rfl rfl (by omega) (Nat.le_of_ble_eq_true rfl) dX4_deliver_87 ?_
    refine lv_istore (lv' := [(7, .int (f ((i * 6) + 5))), (6, .int (f ((i * 6) + 4))), (5, .int (f ((i * 6) + 3))), (4, .int (nI r)), (3, .int (nI c)), (2, .int (f (i * 6))), (0, .ref (o 0)), (1, .int (nI i))]) hx hb dX4_deliver_88 hl (by decide) rfl (fun ls hl => ?_)
    refine lv_aload_n hx hb dX4_deliver_90 rfl (lv_at hl 6 rfl) ?_
    refine lv_iload_n hx hb dX4_deliver_91 rfl (lv_at hl 7 rfl) ?_
    refine goV (ws := (wMs o k (R, C, n, f, d, g) an)) (ws' := (wMc o k (fun j => R j 0) (fun j => R j 1) (fun j => R j 2) (fun j => C j 0) (fun j => C j 1) (fun j => C j 2) (fun j => C j 3) an (fun j => C j 5) (fun j => C j 6) (fun j => C j 7) (drp f n i) g (cnF R 5) (n - 1) d)) (qFit_all rfl) hP hD hS hA (va_runV (rm := ({ frames := 0, cells := 0, slots := 0, locals := 0 } : Room)) (As := [.int (nI i)]) (rest := []) ⟨hx, hb, hml, hown, hts⟩ (MetV.at (k_X4_drop l dC dI o k (fun j => R j 0) (fun j => R j 1) (fun j => R j 2) (fun j => C j 0) (fun j => C j 1) (fun j => C j 2) (fun j => C j 3) an (fun j => C j 5) (fun j => C j 6) (fun j => C j 7) f g (cnF R 5) n d (by omega) i lt_i) s.heap.size) (cwV 1 hts gX4_deliver_X4_drop rfl rfl rfl (by decide +kernel) ⟨Nat.le_of_ble_eq_true rfl, Nat.le_of_ble_eq_true rfl⟩) (preWV hK hP hD (va_recv hK hP (ci := 4) (q0 := 0) rfl rfl)) rfl rfl hl.1 rfl (lv_room (Nat.le_of_ble_eq_true rfl)) dX4_deliver_92 ⟨Nat.le_of_ble_eq_true rfl, Nat.le_of_ble_eq_true rfl⟩) (fun H locs hP hD hS => ?_)
    refine lv_aload_n hx hb dX4_deliver_95 rfl (lv_at hl 6 rfl) ?_
    refine va_get (D := (dC, dI)) (ci := 4) (v := .int (nI (n - 1))) (C := RX4) (T := TX4) (N := 16) hx hb hts inX4_deliver_X4 hown hK hP (0) rfl rfl 13 (by decide) (hts _ lkX4_deliver_50) (fun _ h9 => h9) rfl dX4_deliver_96 ?_
    refine lv_istore (lv' := [(8, .int (nI (n - 1))), (7, .int (f ((i * 6) + 5))), (6, .int (f ((i * 6) + 4))), (5, .int (f ((i * 6) + 3))), (4, .int (nI r)), (3, .int (nI c)), (2, .int (f (i * 6))), (0, .ref (o 0)), (1, .int (nI i))]) hx hb dX4_deliver_99 hl (by decide) rfl (fun ls hl => ?_)
    by_cases h_0 : f (i * 6 + 0) = nI 0
    · have e_d : dlS (R, C, n, f, d, g) (nI i) = stAsk (R, C, n - 1, drp f n i, d, g) c r (f (i * 6 + 3)) := (dlS_at (R := R) (C := C) (d := d) (g := g) lt_i (by omega) lt_c lt_r e_c e_r).trans (dlM_0 h_0)
      have hl : lv_has ls 10 [(8, .int (nI (n - 1))), (7, .int (f ((i * 6) + 5))), (6, .int (f ((i * 6) + 4))), (5, .int (f ((i * 6) + 3))), (4, .int (nI r)), (3, .int (nI c)), (2, .int (nI 0)), (0, .ref (o 0)), (1, .int (nI i))] := by rw [show f (i * 6) = nI 0 from h_0] at hl; exact hl
      refine lv_iload_n hx hb dX4_deliver_101 rfl (lv_at hl 6 rfl) ?_
      refine lv_if_eq (tgt := 110) hx hb dX4_deliver_102 (by decide) (fun _ => ?_) (fun c9 => absurd (by decide +kernel) c9)
      refine lv_aload_n hx hb dX4_deliver_110 rfl (lv_at hl 7 rfl) ?_
      refine va_get (D := (dC, dI)) (ci := 4) (v := .ref (o 3)) (C := RX4) (T := TX4) (N := 16) hx hb hts inX4_deliver_X4 hown hK hP (0) rfl rfl 2 (by decide) (hts _ lkX4_deliver_16) (fun _ h9 => h9) rfl dX4_deliver_111 ?_
      refine lv_iload hx hb dX4_deliver_114 (lv_at hl 4 rfl) ?_
      refine q_zald hx hb hK hP (3) 2 (j := r) rfl rfl lt_r (Nat.le_of_ble_eq_true rfl) dX4_deliver_116 ?_
      refine lv_if_eq (tgt := 122) hx hb dX4_deliver_117 (by decide) (fun c_117_0 => ?_) (fun c_117_0 => ?_)
      · refine lv_iload_n hx hb dX4_deliver_122 rfl (lv_at hl 6 rfl) ?_
        refine lv_if_ne (tgt := 153) hx hb dX4_deliver_123 (by decide) (fun c9 => absurd (by decide +kernel) c9) (fun _ => ?_)
        refine lv_aload_n hx hb dX4_deliver_126 rfl (lv_at hl 7 rfl) ?_
        refine lv_iconst (v := nI 1) hx hb dX4_deliver_127 (by decide) ?_
        refine lv_iload_n hx hb dX4_deliver_128 rfl (lv_at hl 5 rfl) ?_
        refine lv_iload hx hb dX4_deliver_129 (lv_at hl 4 rfl) ?_
        refine lv_iload hx hb dX4_deliver_131 (lv_at hl 3 rfl) ?_
        refine lv_aload_n hx hb dX4_deliver_133 rfl (lv_at hl 7 rfl) ?_
        refine va_get (D := (dC, dI)) (ci := 4) (v := .ref (o 1)) (C := RX4) (T := TX4) (N := 16) hx hb hts inX4_deliver_X4 hown hK hP (0) rfl rfl 0 (by decide) (hts _ lkX4_deliver_7) (fun _ h9 => h9) rfl dX4_deliver_134 ?_
        refine lv_iload hx hb dX4_deliver_137 (lv_at hl 4 rfl) ?_
        refine q_iald hx hb hK hP (1) 0 (j := r) rfl rfl lt_r (Nat.le_of_ble_eq_true rfl) dX4_deliver_139 ?_
        refine lv_aload_n hx hb dX4_deliver_140 rfl (lv_at hl 7 rfl) ?_
        refine va_get (D := (dC, dI)) (ci := 4) (v := .ref (o 2)) (C := RX4) (T := TX4) (N := 16) hx hb hts inX4_deliver_X4 hown hK hP (0) rfl rfl 1 (by decide) (hts _ lkX4_deliver_13) (fun _ h9 => h9) rfl dX4_deliver_141 ?_
        refine lv_iload hx hb dX4_deliver_144 (lv_at hl 4 rfl) ?_
        refine q_iald hx hb hK hP (2) 1 (j := r) rfl rfl lt_r (Nat.le_of_ble_eq_true rfl) dX4_deliver_146 ?_
        refine goV (ws := (wMc o k (fun j => R j 0) (fun j => R j 1) (fun j => R j 2) (fun j => C j 0) (fun j => C j 1) (fun j => C j 2) (fun j => C j 3) an (fun j => C j 5) (fun j => C j 6) (fun j => C j 7) (drp f n i) g (cnF R 5) (n - 1) d)) (ws' := (wMc o k (fun j => R j 0) (fun j => R j 1) (fun j => R j 2) (fun j => C j 0) (fun j => C j 1) (fun j => C j 2) (fun j => C j 3) an (fun j => C j 5) (fun j => C j 6) (fun j => C j 7) (snd6 (drp f n i) (n - 1) (nI 1) (nI c) (nI r) (f ((i * 6) + 3)) (R r 0) (R r 1)) g (cnF R 5) ((n - 1) + 1) d)) (qFit_all rfl) hP hD hS hA (va_runV (rm := ({ frames := 0, cells := 0, slots := 0, locals := 0 } : Room)) (As := [.int (nI 1), .int (nI c), .int (nI r), .int (f ((i * 6) + 3)), .int (R r 0), .int (R r 1)]) (rest := []) ⟨hx, hb, hml, hown, hts⟩ (MetV.at (k_X4_send l dC dI o k (fun j => R j 0) (fun j => R j 1) (fun j => R j 2) (fun j => C j 0) (fun j => C j 1) (fun j => C j 2) (fun j => C j 3) an (fun j => C j 5) (fun j => C j 6) (fun j => C j 7) (drp f n i) g (cnF R 5) (n - 1) d (by omega) (nI 1) (nI c) (nI r) (f ((i * 6) + 3)) (R r 0) (R r 1)) H.size) (cwV 6 hts gX4_deliver_X4_send rfl rfl rfl (by decide +kernel) ⟨Nat.le_of_ble_eq_true rfl, Nat.le_of_ble_eq_true rfl⟩) (preWV hK hP hD (va_recv hK hP (ci := 4) (q0 := 0) rfl rfl)) rfl rfl hl.1 rfl (lv_room (Nat.le_of_ble_eq_true rfl)) dX4_deliver_147 ⟨Nat.le_of_ble_eq_true rfl, Nat.le_of_ble_eq_true rfl⟩) (fun H locs hP hD hS => ?_)
        refine lv_goto (tgt := 195) hx hb dX4_deliver_150 (by decide) ?_
        refine lv_iconst (v := nI 1) hx hb dX4_deliver_195 (by decide) ?_
        have e_d : dlS (R, C, n, f, d, g) (nI i) = (R, C, n - 1 + 1, snd6 (drp f n i) (n - 1) (nI 1) (nI c) (nI r) (f (i * 6 + 3)) (R r 0) (R r 1), d, g) := e_d.trans (if_pos c_117_0)
        exact retJ hx hb hr hlk dX4_deliver_196 hS (an) (by rw [e_d]; exact hP) (by rw [e_d]; exact hAn) (by rw [dl_v (σ := (R, C, n, f, d, g)) lt_i (show n < 2 ^ 31 by omega) e_d]; exact (sub_1 (n - 1)).symm)
      · refine lv_iconst (v := nI 0) hx hb dX4_deliver_120 (by decide) ?_
        have e_d : dlS (R, C, n, f, d, g) (nI i) = (R, C, n - 1, drp f n i, d, g) := e_d.trans (ask_no c_117_0)
        exact retJ hx hb hr hlk dX4_deliver_121 hS (an) (by rw [e_d]; exact hP) (by rw [e_d]; exact hAn) (by rw [dl_v (σ := (R, C, n, f, d, g)) lt_i (show n < 2 ^ 31 by omega) e_d]; exact (sub_0 (n - 1)).symm)
    · by_cases h_1 : f (i * 6 + 0) = nI 1
      · have e_d : dlS (R, C, n, f, d, g) (nI i) = stTel (R, C, n - 1, drp f n i, d, g) c r (f (i * 6 + 3)) (f (i * 6 + 4)) (f (i * 6 + 5)) := (dlS_at (R := R) (C := C) (d := d) (g := g) lt_i (by omega) lt_c lt_r e_c e_r).trans (dlM_1 h_1)
        have hl : lv_has ls 10 [(8, .int (nI (n - 1))), (7, .int (f ((i * 6) + 5))), (6, .int (f ((i * 6) + 4))), (5, .int (f ((i * 6) + 3))), (4, .int (nI r)), (3, .int (nI c)), (2, .int (nI 1)), (0, .ref (o 0)), (1, .int (nI i))] := by rw [show f (i * 6) = nI 1 from h_1] at hl; exact hl
        refine lv_iload_n hx hb dX4_deliver_101 rfl (lv_at hl 6 rfl) ?_
        refine lv_if_eq (tgt := 110) hx hb dX4_deliver_102 (by decide) (fun c9 => absurd c9 (by decide +kernel)) (fun _ => ?_)
        refine lv_iload_n hx hb dX4_deliver_105 rfl (lv_at hl 6 rfl) ?_
        refine lv_iconst (v := nI 2) hx hb dX4_deliver_106 (by decide) ?_
        refine lv_icmp_ne (tgt := 197) hx hb dX4_deliver_107 (by decide) (fun _ => ?_) (fun c9 => absurd c9 (by decide +kernel))
        refine lv_aload_n hx hb dX4_deliver_197 rfl (lv_at hl 7 rfl) ?_
        refine va_get (D := (dC, dI)) (ci := 4) (v := .ref (o 5)) (C := RX4) (T := TX4) (N := 16) hx hb hts inX4_deliver_X4 hown hK hP (0) rfl rfl 5 (by decide) (hts _ lkX4_deliver_23) (fun _ h9 => h9) rfl dX4_deliver_198 ?_
        refine lv_iload_n hx hb dX4_deliver_201 rfl (lv_at hl 5 rfl) ?_
        refine q_iald hx hb hK hP (5) 4 (j := c) rfl rfl lt_c (Nat.le_of_ble_eq_true rfl) dX4_deliver_202 ?_
        refine lv_iload hx hb dX4_deliver_203 (lv_at hl 3 rfl) ?_
        refine lv_icmp_ne (tgt := 242) hx hb dX4_deliver_205 (by decide) (fun c_205_1 => ?_) (fun c_205_1 => ?_)
        · refine lv_iconst (v := nI 0) hx hb dX4_deliver_242 (by decide) ?_
          have e_d : dlS (R, C, n, f, d, g) (nI i) = (R, C, n - 1, drp f n i, d, g) := e_d.trans (tel_no (fun z => c_205_1 z.1))
          exact retJ hx hb hr hlk dX4_deliver_243 hS (an) (by rw [e_d]; exact hP) (by rw [e_d]; exact hAn) (by rw [dl_v (σ := (R, C, n, f, d, g)) lt_i (show n < 2 ^ 31 by omega) e_d]; exact (sub_0 (n - 1)).symm)
        · refine lv_aload_n hx hb dX4_deliver_208 rfl (lv_at hl 7 rfl) ?_
          refine va_get (D := (dC, dI)) (ci := 4) (v := .ref (o 4)) (C := RX4) (T := TX4) (N := 16) hx hb hts inX4_deliver_X4 hown hK hP (0) rfl rfl 4 (by decide) (hts _ lkX4_deliver_20) (fun _ h9 => h9) rfl dX4_deliver_209 ?_
          refine lv_iload_n hx hb dX4_deliver_212 rfl (lv_at hl 5 rfl) ?_
          refine q_iald hx hb hK hP (4) 3 (j := c) rfl rfl lt_c (Nat.le_of_ble_eq_true rfl) dX4_deliver_213 ?_
          refine lv_iload_n hx hb dX4_deliver_214 rfl (lv_at hl 6 rfl) ?_
          refine lv_iconst (v := nI 1) hx hb dX4_deliver_215 (by decide) ?_
          refine lv_icmp_ne (tgt := 223) hx hb dX4_deliver_216 (by decide) (fun c9 => absurd (by decide +kernel) c9) (fun _ => ?_)
          refine lv_iconst (v := nI 1) hx hb dX4_deliver_219 (by decide) ?_
          refine lv_goto (tgt := 224) hx hb dX4_deliver_220 (by decide) ?_
          refine lv_icmp_ne (tgt := 242) hx hb dX4_deliver_224 (by decide) (fun c_224_1 => ?_) (fun c_224_1 => ?_)
          · refine lv_iconst (v := nI 0) hx hb dX4_deliver_242 (by decide) ?_
            have e_d : dlS (R, C, n, f, d, g) (nI i) = (R, C, n - 1, drp f n i, d, g) := e_d.trans (tel_no (fun z => c_224_1 z.2.1))
            exact retJ hx hb hr hlk dX4_deliver_243 hS (an) (by rw [e_d]; exact hP) (by rw [e_d]; exact hAn) (by rw [dl_v (σ := (R, C, n, f, d, g)) lt_i (show n < 2 ^ 31 by omega) e_d]; exact (sub_0 (n - 1)).symm)
          · have e_n : an c = nI a := (hAn c lt_c (by rw [c_224_1]; decide +kernel)).trans e_a
            refine lv_aload_n hx hb dX4_deliver_227 rfl (lv_at hl 7 rfl) ?_
            refine va_get (D := (dC, dI)) (ci := 4) (v := .ref (o 8)) (C := RX4) (T := TX4) (N := 16) hx hb hts inX4_deliver_X4 hown hK hP (0) rfl rfl 8 (by decide) (hts _ lkX4_deliver_32) (fun _ h9 => h9) rfl dX4_deliver_228 ?_
            refine lv_iload_n hx hb dX4_deliver_231 rfl (lv_at hl 5 rfl) ?_
            refine q_iald hx hb hK hP (8) 7 (j := c) rfl rfl lt_c (Nat.le_of_ble_eq_true rfl) dX4_deliver_232 ?_
            refine lv_iload hx hb dX4_deliver_233 (lv_at hl 4 rfl) ?_
            refine lv_ishr hx hb dX4_deliver_235 ?_
            refine lv_iconst (v := nI 1) hx hb dX4_deliver_236 (by decide) ?_
            refine lv_iand hx hb dX4_deliver_237 ?_
            refine lv_iconst (v := nI 1) hx hb dX4_deliver_238 (by decide) ?_
            refine W.eq (g2 := F0 m 239 ls [.int (nI 1), .int ((nI a >>> (nI r &&& 31)) &&& nI 1)]) (by rw [e_n]) ?_
            refine lv_icmp_ne (tgt := 244) hx hb dX4_deliver_239 (by decide) (fun c_239_1 => ?_) (fun c_239_1 => ?_)
            · refine lv_aload_n hx hb dX4_deliver_244 rfl (lv_at hl 7 rfl) ?_
              refine va_get (D := (dC, dI)) (ci := 4) (v := .ref (o 8)) (C := RX4) (T := TX4) (N := 16) hx hb hts inX4_deliver_X4 hown hK hP (0) rfl rfl 8 (by decide) (hts _ lkX4_deliver_32) (fun _ h9 => h9) rfl dX4_deliver_245 ?_
              refine lv_iload_n hx hb dX4_deliver_248 rfl (lv_at hl 5 rfl) ?_
              refine lv_aload_n hx hb dX4_deliver_249 rfl (lv_at hl 7 rfl) ?_
              refine va_get (D := (dC, dI)) (ci := 4) (v := .ref (o 8)) (C := RX4) (T := TX4) (N := 16) hx hb hts inX4_deliver_X4 hown hK hP (0) rfl rfl 8 (by decide) (hts _ lkX4_deliver_32) (fun _ h9 => h9) rfl dX4_deliver_250 ?_
              refine lv_iload_n hx hb dX4_deliver_253 rfl (lv_at hl 5 rfl) ?_
              refine q_iald hx hb hK hP (8) 7 (j := c) rfl rfl lt_c (Nat.le_of_ble_eq_true rfl) dX4_deliver_254 ?_
              refine lv_iconst (v := nI 1) hx hb dX4_deliver_255 (by decide) ?_
              refine lv_iload hx hb dX4_deliver_256 (lv_at hl 4 rfl) ?_
              refine lv_ishl hx hb dX4_deliver_258 ?_
              refine lv_ior hx hb dX4_deliver_259 ?_
              refine qtop (y := nI (a ||| 2 ^ r)) (by rw [e_n]; exact (hear_bits a lt_a r lt_r).1) ?_
              refine q_iast (ws' := (wMc o k (fun j => R j 0) (fun j => R j 1) (fun j => R j 2) (fun j => C j 0) (fun j => C j 1) (fun j => C j 2) (fun j => C j 3) (upd an c (nI (a ||| 2 ^ r))) (fun j => C j 5) (fun j => C j 6) (fun j => C j 7) (drp f n i) g (cnF R 5) (n - 1) d)) hx hb hK hP hD hS (8) 7 (j := c) rfl rfl lt_c (Nat.le_of_ble_eq_true rfl) rfl dX4_deliver_260 (fun H locs hP hD hS => ?_)
              refine lv_iload_n hx hb dX4_deliver_261 rfl (lv_at hl 6 rfl) ?_
              refine lv_iconst (v := nI 1) hx hb dX4_deliver_262 (by decide) ?_
              refine lv_icmp_ne (tgt := 293) hx hb dX4_deliver_263 (by decide) (fun c9 => absurd (by decide +kernel) c9) (fun _ => ?_)
              refine lv_iload hx hb dX4_deliver_266 (lv_at hl 2 rfl) ?_
              refine lv_aload_n hx hb dX4_deliver_268 rfl (lv_at hl 7 rfl) ?_
              refine va_get (D := (dC, dI)) (ci := 4) (v := .ref (o 9)) (C := RX4) (T := TX4) (N := 16) hx hb hts inX4_deliver_X4 hown hK hP (0) rfl rfl 9 (by decide) (hts _ lkX4_deliver_35) (fun _ h9 => h9) rfl dX4_deliver_269 ?_
              refine lv_iload_n hx hb dX4_deliver_272 rfl (lv_at hl 5 rfl) ?_
              refine q_iald hx hb hK hP (9) 8 (j := c) rfl rfl lt_c (Nat.le_of_ble_eq_true rfl) dX4_deliver_273 ?_
              refine lv_icmp_le (tgt := 293) hx hb dX4_deliver_274 (by decide) (fun c_274_1 => ?_) (fun c_274_1 => ?_)
              · have e_T4 : (telC C c (nI r) (f (i * 6 + 4)) (f (i * 6 + 5))) c 4 = nI (a ||| 2 ^ r) := by rw [telC4, e_a]; exact (hear_bits a lt_a r lt_r).1
                have e_W : (wMc o k (fun j => R j 0) (fun j => R j 1) (fun j => R j 2) (fun j => C j 0) (fun j => C j 1) (fun j => C j 2) (fun j => C j 3) (upd an c (nI (a ||| 2 ^ r))) (fun j => C j 5) (fun j => C j 6) (fun j => C j 7) (drp f n i) g (cnF R 5) (n - 1) d) = (wMc o k (fun j => R j 0) (fun j => R j 1) (fun j => R j 2) (fun j => (telC C c (nI r) (f (i * 6 + 4)) (f (i * 6 + 5))) j 0) (fun j => (telC C c (nI r) (f (i * 6 + 4)) (f (i * 6 + 5))) j 1) (fun j => (telC C c (nI r) (f (i * 6 + 4)) (f (i * 6 + 5))) j 2) (fun j => (telC C c (nI r) (f (i * 6 + 4)) (f (i * 6 + 5))) j 3) (upd an c (nI (a ||| 2 ^ r))) (fun j => (telC C c (nI r) (f (i * 6 + 4)) (f (i * 6 + 5))) j 5) (fun j => (telC C c (nI r) (f (i * 6 + 4)) (f (i * 6 + 5))) j 6) (fun j => (telC C c (nI r) (f (i * 6 + 4)) (f (i * 6 + 5))) j 7) (drp f n i) g (cnF R 5) (n - 1) d) := (wM_of (fun _ => rfl) (fun _ => rfl) (fun _ => rfl) (fun q => by simp [upd, telC, heaC, up2, c_274_1]) (fun q => by simp [upd, telC, heaC, up2, c_274_1]) (fun q => by simp [upd, telC, heaC, up2, c_274_1]) (fun q => by simp [upd, telC, heaC, up2, c_274_1]) (fun q => by simp [upd, telC, heaC, up2, c_274_1]) (fun q => by simp [upd, telC, heaC, up2, c_274_1]) (fun q => by simp [upd, telC, heaC, up2, c_274_1]))
                have hP : va_P (dC, dI) vwCl (wMc o k (fun j => R j 0) (fun j => R j 1) (fun j => R j 2) (fun j => (telC C c (nI r) (f (i * 6 + 4)) (f (i * 6 + 5))) j 0) (fun j => (telC C c (nI r) (f (i * 6 + 4)) (f (i * 6 + 5))) j 1) (fun j => (telC C c (nI r) (f (i * 6 + 4)) (f (i * 6 + 5))) j 2) (fun j => (telC C c (nI r) (f (i * 6 + 4)) (f (i * 6 + 5))) j 3) (upd an c (nI (a ||| 2 ^ r))) (fun j => (telC C c (nI r) (f (i * 6 + 4)) (f (i * 6 + 5))) j 5) (fun j => (telC C c (nI r) (f (i * 6 + 4)) (f (i * 6 + 5))) j 6) (fun j => (telC C c (nI r) (f (i * 6 + 4)) (f (i * 6 + 5))) j 7) (drp f n i) g (cnF R 5) (n - 1) d) H := va_Pe e_W hP
                have hD : va_D A (wMc o k (fun j => R j 0) (fun j => R j 1) (fun j => R j 2) (fun j => (telC C c (nI r) (f (i * 6 + 4)) (f (i * 6 + 5))) j 0) (fun j => (telC C c (nI r) (f (i * 6 + 4)) (f (i * 6 + 5))) j 1) (fun j => (telC C c (nI r) (f (i * 6 + 4)) (f (i * 6 + 5))) j 2) (fun j => (telC C c (nI r) (f (i * 6 + 4)) (f (i * 6 + 5))) j 3) (upd an c (nI (a ||| 2 ^ r))) (fun j => (telC C c (nI r) (f (i * 6 + 4)) (f (i * 6 + 5))) j 5) (fun j => (telC C c (nI r) (f (i * 6 + 4)) (f (i * 6 + 5))) j 6) (fun j => (telC C c (nI r) (f (i * 6 + 4)) (f (i * 6 + 5))) j 7) (drp f n i) g (cnF R 5) (n - 1) d) := va_De e_W hD
                have e_A : aw (C c) (nI 1) (nI r) (f (i * 6 + 3)) := ⟨c_205_1, c_224_1, by rw [e_a]; exact Classical.byContradiction (fun z => c_239_1 ((shr_bit a lt_a r lt_r).mpr z))⟩
                have n_T : ∀ q b, q ≠ c → (telC C c (nI r) (f (i * 6 + 4)) (f (i * 6 + 5))) q b = C q b := fun q b h => telC_ne h
                have e_T1 : (telC C c (nI r) (f (i * 6 + 4)) (f (i * 6 + 5))) c 1 = C c 1 := telC1
                have e_d : dlS (R, C, n, f, d, g) (nI i) = (if 3 ≤ bts ((telC C c (nI r) (f (i * 6 + 4)) (f (i * 6 + 5))) c 4) then stSto (R, telC C c (nI r) (f (i * 6 + 4)) (f (i * 6 + 5)), n - 1, drp f n i, d, g) c else (R, telC C c (nI r) (f (i * 6 + 4)) (f (i * 6 + 5)), n - 1, drp f n i, d, g)) := e_d.trans (if_pos e_A)
                clear e_W
                generalize telC C c (nI r) (f (i * 6 + 4)) (f (i * 6 + 5)) = T at hP hD e_T4 n_T e_T1 e_d
                rw [e_T4, bts_nI (hear_bits a lt_a r lt_r).2] at e_d
                refine lv_aload_n hx hb dX4_deliver_293 rfl (lv_at hl 7 rfl) ?_
                refine va_get (D := (dC, dI)) (ci := 4) (v := .ref (o 8)) (C := RX4) (T := TX4) (N := 16) hx hb hts inX4_deliver_X4 hown hK hP (0) rfl rfl 8 (by decide) (hts _ lkX4_deliver_32) (fun _ h9 => h9) rfl dX4_deliver_294 ?_
                refine lv_iload_n hx hb dX4_deliver_297 rfl (lv_at hl 5 rfl) ?_
                refine q_iald hx hb hK hP (8) 7 (j := c) rfl rfl lt_c (Nat.le_of_ble_eq_true rfl) dX4_deliver_298 ?_
                refine goS (va_runS (rm := ({ frames := 0, cells := 0, slots := 0, locals := 0 } : Room)) (As := [.int ((upd an c (nI (a ||| 2 ^ r))) c)]) (rest := []) ⟨hx, hb, hml, hown, hts⟩ (MetS.at (k_X4_bits l dC dI ((upd an c (nI (a ||| 2 ^ r))) c))) (va_cwS 1 hts gX4_deliver_X4_bits rfl rfl rfl (by decide +kernel) ⟨Nat.le_of_ble_eq_true rfl, Nat.le_of_ble_eq_true rfl⟩) (preSS (hK.sub [] rfl) va_P0) rfl rfl hl.1 rfl (lv_room (Nat.le_of_ble_eq_true rfl)) dX4_deliver_299 ⟨Nat.le_of_ble_eq_true rfl, Nat.le_of_ble_eq_true rfl⟩) ?_
                refine qtop (y := nI (bits (a ||| 2 ^ r))) (by rw [pk_us]; exact bitM_bits _ (hear_bits a lt_a r lt_r).2) ?_
                refine lv_iconst (v := nI 3) hx hb dX4_deliver_302 (by decide) ?_
                refine lv_icmp_ge (tgt := 308) hx hb dX4_deliver_303 (by decide) (fun c_303_1 => ?_) (fun c_303_1 => ?_)
                · have h_Q : 3 ≤ bits (a ||| 2 ^ r) := (Nat.lt_or_ge (bits (a ||| 2 ^ r)) 3).elim (fun w => absurd c_303_1 (nI_ge w (by decide))) id
                  rw [if_pos h_Q] at e_d
                  refine lv_iload_n hx hb dX4_deliver_308 rfl (lv_at hl 6 rfl) ?_
                  refine lv_iconst (v := nI 1) hx hb dX4_deliver_309 (by decide) ?_
                  refine lv_icmp_ne (tgt := 431) hx hb dX4_deliver_310 (by decide) (fun c9 => absurd (by decide +kernel) c9) (fun _ => ?_)
                  refine lv_aload_n hx hb dX4_deliver_313 rfl (lv_at hl 7 rfl) ?_
                  refine va_get (D := (dC, dI)) (ci := 4) (v := .ref (o 6)) (C := RX4) (T := TX4) (N := 16) hx hb hts inX4_deliver_X4 hown hK hP (0) rfl rfl 6 (by decide) (hts _ lkX4_deliver_26) (fun _ h9 => h9) rfl dX4_deliver_314 ?_
                  refine lv_iload_n hx hb dX4_deliver_317 rfl (lv_at hl 5 rfl) ?_
                  refine q_zald hx hb hK hP (6) 5 (j := c) rfl rfl lt_c (Nat.le_of_ble_eq_true rfl) dX4_deliver_318 ?_
                  refine lv_if_eq (tgt := 396) hx hb dX4_deliver_319 (by decide) (fun c_319_1 => ?_) (fun c_319_1 => ?_)
                  · refine lv_aload_n hx hb dX4_deliver_396 rfl (lv_at hl 7 rfl) ?_
                    refine va_get (D := (dC, dI)) (ci := 4) (v := .ref (o 4)) (C := RX4) (T := TX4) (N := 16) hx hb hts inX4_deliver_X4 hown hK hP (0) rfl rfl 4 (by decide) (hts _ lkX4_deliver_20) (fun _ h9 => h9) rfl dX4_deliver_397 ?_
                    refine lv_iload_n hx hb dX4_deliver_400 rfl (lv_at hl 5 rfl) ?_
                    refine lv_iconst (v := nI 2) hx hb dX4_deliver_401 (by decide) ?_
                    refine q_iast (ws' := (wMc o k (fun j => R j 0) (fun j => R j 1) (fun j => R j 2) (upd (fun j => T j 0) c (nI 2)) (fun j => T j 1) (fun j => T j 2) (fun j => T j 3) (upd an c (nI (a ||| 2 ^ r))) (fun j => T j 5) (fun j => T j 6) (fun j => T j 7) (drp f n i) g (cnF R 5) (n - 1) d)) hx hb hK hP hD hS (4) 3 (j := c) rfl rfl lt_c (Nat.le_of_ble_eq_true rfl) rfl dX4_deliver_402 (fun H locs hP hD hS => ?_)
                    refine lv_aload_n hx hb dX4_deliver_403 rfl (lv_at hl 7 rfl) ?_
                    refine va_get (D := (dC, dI)) (ci := 4) (v := .ref (o 8)) (C := RX4) (T := TX4) (N := 16) hx hb hts inX4_deliver_X4 hown hK hP (0) rfl rfl 8 (by decide) (hts _ lkX4_deliver_32) (fun _ h9 => h9) rfl dX4_deliver_404 ?_
                    refine lv_iload_n hx hb dX4_deliver_407 rfl (lv_at hl 5 rfl) ?_
                    refine lv_iconst (v := nI 0) hx hb dX4_deliver_408 (by decide) ?_
                    refine q_iast (ws' := (wMc o k (fun j => R j 0) (fun j => R j 1) (fun j => R j 2) (upd (fun j => T j 0) c (nI 2)) (fun j => T j 1) (fun j => T j 2) (fun j => T j 3) (upd (upd an c (nI (a ||| 2 ^ r))) c (nI 0)) (fun j => T j 5) (fun j => T j 6) (fun j => T j 7) (drp f n i) g (cnF R 5) (n - 1) d)) hx hb hK hP hD hS (8) 7 (j := c) rfl rfl lt_c (Nat.le_of_ble_eq_true rfl) rfl dX4_deliver_409 (fun H locs hP hD hS => ?_)
                    have e_W : (wMc o k (fun j => R j 0) (fun j => R j 1) (fun j => R j 2) (upd (fun j => T j 0) c (nI 2)) (fun j => T j 1) (fun j => T j 2) (fun j => T j 3) (upd (upd an c (nI (a ||| 2 ^ r))) c (nI 0)) (fun j => T j 5) (fun j => T j 6) (fun j => T j 7) (drp f n i) g (cnF R 5) (n - 1) d) = (wMc o k (fun j => R j 0) (fun j => R j 1) (fun j => R j 2) (fun j => (stoC T c) j 0) (fun j => (stoC T c) j 1) (fun j => (stoC T c) j 2) (fun j => (stoC T c) j 3) (upd (upd an c (nI (a ||| 2 ^ r))) c (nI 0)) (fun j => (stoC T c) j 5) (fun j => (stoC T c) j 6) (fun j => (stoC T c) j 7) (drp f n i) g (cnF R 5) (n - 1) d) := (by rw [sto_a c_319_1]; exact (wM_of (fun _ => rfl) (fun _ => rfl) (fun _ => rfl) (fun q => by simp [upd, up2]) (fun q => by simp [upd, up2]) (fun q => by simp [upd, up2]) (fun q => by simp [upd, up2]) (fun q => by simp [upd, up2]) (fun q => by simp [upd, up2]) (fun q => by simp [upd, up2])))
                    have hP : va_P (dC, dI) vwCl (wMc o k (fun j => R j 0) (fun j => R j 1) (fun j => R j 2) (fun j => (stoC T c) j 0) (fun j => (stoC T c) j 1) (fun j => (stoC T c) j 2) (fun j => (stoC T c) j 3) (upd (upd an c (nI (a ||| 2 ^ r))) c (nI 0)) (fun j => (stoC T c) j 5) (fun j => (stoC T c) j 6) (fun j => (stoC T c) j 7) (drp f n i) g (cnF R 5) (n - 1) d) H := va_Pe e_W hP
                    have hD : va_D A (wMc o k (fun j => R j 0) (fun j => R j 1) (fun j => R j 2) (fun j => (stoC T c) j 0) (fun j => (stoC T c) j 1) (fun j => (stoC T c) j 2) (fun j => (stoC T c) j 3) (upd (upd an c (nI (a ||| 2 ^ r))) c (nI 0)) (fun j => (stoC T c) j 5) (fun j => (stoC T c) j 6) (fun j => (stoC T c) j 7) (drp f n i) g (cnF R 5) (n - 1) d) := va_De e_W hD
                    clear e_W
                    refine lv_aload_n hx hb dX4_deliver_410 rfl (lv_at hl 7 rfl) ?_
                    refine lv_iconst (v := nI 2) hx hb dX4_deliver_411 (by decide) ?_
                    refine lv_iload_n hx hb dX4_deliver_412 rfl (lv_at hl 5 rfl) ?_
                    refine lv_aload_n hx hb dX4_deliver_413 rfl (lv_at hl 7 rfl) ?_
                    refine va_get (D := (dC, dI)) (ci := 4) (v := .ref (o 9)) (C := RX4) (T := TX4) (N := 16) hx hb hts inX4_deliver_X4 hown hK hP (0) rfl rfl 9 (by decide) (hts _ lkX4_deliver_35) (fun _ h9 => h9) rfl dX4_deliver_414 ?_
                    refine lv_iload_n hx hb dX4_deliver_417 rfl (lv_at hl 5 rfl) ?_
                    refine q_iald hx hb hK hP (9) 8 (j := c) rfl rfl lt_c (Nat.le_of_ble_eq_true rfl) dX4_deliver_418 ?_
                    refine lv_aload_n hx hb dX4_deliver_419 rfl (lv_at hl 7 rfl) ?_
                    refine va_get (D := (dC, dI)) (ci := 4) (v := .ref (o 10)) (C := RX4) (T := TX4) (N := 16) hx hb hts inX4_deliver_X4 hown hK hP (0) rfl rfl 10 (by decide) (hts _ lkX4_deliver_38) (fun _ h9 => h9) rfl dX4_deliver_420 ?_
                    refine lv_iload_n hx hb dX4_deliver_423 rfl (lv_at hl 5 rfl) ?_
                    refine q_iald hx hb hK hP (10) 9 (j := c) rfl rfl lt_c (Nat.le_of_ble_eq_true rfl) dX4_deliver_424 ?_
                    refine goV (ws := (wMc o k (fun j => R j 0) (fun j => R j 1) (fun j => R j 2) (fun j => (stoC T c) j 0) (fun j => (stoC T c) j 1) (fun j => (stoC T c) j 2) (fun j => (stoC T c) j 3) (upd (upd an c (nI (a ||| 2 ^ r))) c (nI 0)) (fun j => (stoC T c) j 5) (fun j => (stoC T c) j 6) (fun j => (stoC T c) j 7) (drp f n i) g (cnF R 5) (n - 1) d)) (ws' := (wMc o k (fun j => R j 0) (fun j => R j 1) (fun j => R j 2) (fun j => (stoC T c) j 0) (fun j => (stoC T c) j 1) (fun j => (stoC T c) j 2) (fun j => (stoC T c) j 3) (upd (upd an c (nI (a ||| 2 ^ r))) c (nI 0)) (fun j => (stoC T c) j 5) (fun j => (stoC T c) j 6) (fun j => (stoC T c) j 7) (sndN (nI 2) (nI c) ((stoC T c) c 1) ((stoC T c) c 5) ((stoC T c) c 6) (drp f n i) (n - 1) 5) g (cnF R 5) ((n - 1) + 5) d)) (qFit_all rfl) hP hD hS hA (va_runV (rm := ({ frames := 1, cells := 0, slots := 0, locals := 27 } : Room)) (As := [.int (nI 2), .int (nI c), .int ((stoC T c) c 5), .int ((stoC T c) c 6)]) (rest := []) ⟨hx, hb, hml, hown, hts⟩ (MetV.at (k_X4_sendAll l dC dI o k (fun j => R j 0) (fun j => R j 1) (fun j => R j 2) (fun j => (stoC T c) j 0) (fun j => (stoC T c) j 1) (fun j => (stoC T c) j 2) (fun j => (stoC T c) j 3) (upd (upd an c (nI (a ||| 2 ^ r))) c (nI 0)) (fun j => (stoC T c) j 5) (fun j => (stoC T c) j 6) (fun j => (stoC T c) j 7) (drp f n i) g (cnF R 5) (n - 1) d (by omega) c lt_c (nI 2) ((stoC T c) c 5) ((stoC T c) c 6)) H.size) (cwV 4 hts gX4_deliver_X4_sendAll rfl rfl rfl (by decide +kernel) ⟨Nat.le_of_ble_eq_true rfl, Nat.le_of_ble_eq_true rfl⟩) (preWV hK hP hD (va_recv hK hP (ci := 4) (q0 := 0) rfl rfl)) rfl rfl hl.1 rfl (lv_room (Nat.le_of_ble_eq_true rfl)) dX4_deliver_425 ⟨Nat.le_of_ble_eq_true rfl, Nat.le_of_ble_eq_true rfl⟩) (fun H locs hP hD hS => ?_)
                    rw [stoC1] at hP
                    refine lv_goto (tgt := 528) hx hb dX4_deliver_428 (by decide) ?_
                    refine lv_aload_n hx hb dX4_deliver_528 rfl (lv_at hl 7 rfl) ?_
                    refine va_get (D := (dC, dI)) (ci := 4) (v := .int (nI ((n - 1) + 5))) (C := RX4) (T := TX4) (N := 16) hx hb hts inX4_deliver_X4 hown hK hP (0) rfl rfl 13 (by decide) (hts _ lkX4_deliver_50) (fun _ h9 => h9) rfl dX4_deliver_529 ?_
                    refine lv_iload hx hb dX4_deliver_532 (lv_at hl 0 rfl) ?_
                    refine lv_isub hx hb dX4_deliver_534 ?_
                    exact retJ hx hb hr hlk dX4_deliver_535 hS (upd (upd an c (nI (a ||| 2 ^ r))) c (nI 0)) (by rw [e_d]; show va_P _ _ (wM o k R (stoC T c) (upd (upd an c (nI (a ||| 2 ^ r))) c (nI 0)) (n - 1 + 5) (sndN (nI 2) (nI c) (T c 1) (stoC T c c 5) (stoC T c c 6) (drp f n i) (n - 1) 5) d g (cnF R 5)) _; exact hP) (st_u hAn e_d n_T) (by rw [dl_v (σ := (R, C, n, f, d, g)) lt_i (show n < 2 ^ 31 by omega) e_d]; rfl)
                  · refine lv_aload_n hx hb dX4_deliver_322 rfl (lv_at hl 7 rfl) ?_
                    refine va_get (D := (dC, dI)) (ci := 4) (v := .ref (o 9)) (C := RX4) (T := TX4) (N := 16) hx hb hts inX4_deliver_X4 hown hK hP (0) rfl rfl 9 (by decide) (hts _ lkX4_deliver_35) (fun _ h9 => h9) rfl dX4_deliver_323 ?_
                    refine lv_iload_n hx hb dX4_deliver_326 rfl (lv_at hl 5 rfl) ?_
                    refine q_iald hx hb hK hP (9) 8 (j := c) rfl rfl lt_c (Nat.le_of_ble_eq_true rfl) dX4_deliver_327 ?_
                    refine lv_iconst (v := nI 4) hx hb dX4_deliver_328 (by decide) ?_
                    refine lv_idiv hx hb dX4_deliver_329 (by decide) ?_
                    refine lv_aload_n hx hb dX4_deliver_330 rfl (lv_at hl 7 rfl) ?_
                    refine va_get (D := (dC, dI)) (ci := 4) (v := .ref (o 11)) (C := RX4) (T := TX4) (N := 16) hx hb hts inX4_deliver_X4 hown hK hP (0) rfl rfl 11 (by decide) (hts _ lkX4_deliver_41) (fun _ h9 => h9) rfl dX4_deliver_331 ?_
                    refine lv_iload_n hx hb dX4_deliver_334 rfl (lv_at hl 5 rfl) ?_
                    refine q_iald hx hb hK hP (11) 10 (j := c) rfl rfl lt_c (Nat.le_of_ble_eq_true rfl) dX4_deliver_335 ?_
                    refine lv_icmp_le (tgt := 350) hx hb dX4_deliver_336 (by decide) (fun c_336_1 => ?_) (fun c_336_1 => ?_)
                    · refine lv_aload_n hx hb dX4_deliver_350 rfl (lv_at hl 7 rfl) ?_
                      refine va_get (D := (dC, dI)) (ci := 4) (v := .ref (o 11)) (C := RX4) (T := TX4) (N := 16) hx hb hts inX4_deliver_X4 hown hK hP (0) rfl rfl 11 (by decide) (hts _ lkX4_deliver_41) (fun _ h9 => h9) rfl dX4_deliver_351 ?_
                      refine lv_iload_n hx hb dX4_deliver_354 rfl (lv_at hl 5 rfl) ?_
                      refine q_iald hx hb hK hP (11) 10 (j := c) rfl rfl lt_c (Nat.le_of_ble_eq_true rfl) dX4_deliver_355 ?_
                      refine lv_istore (lv' := [(9, .int (T c 7)), (8, .int (nI (n - 1))), (7, .int (f ((i * 6) + 5))), (6, .int (f ((i * 6) + 4))), (5, .int (f ((i * 6) + 3))), (4, .int (nI r)), (3, .int (nI c)), (2, .int (nI 1)), (0, .ref (o 0)), (1, .int (nI i))]) hx hb dX4_deliver_356 hl (by decide) rfl (fun ls hl => ?_)
                      refine lv_aload_n hx hb dX4_deliver_358 rfl (lv_at hl 8 rfl) ?_
                      refine va_get (D := (dC, dI)) (ci := 4) (v := .ref (o 11)) (C := RX4) (T := TX4) (N := 16) hx hb hts inX4_deliver_X4 hown hK hP (0) rfl rfl 11 (by decide) (hts _ lkX4_deliver_41) (fun _ h9 => h9) rfl dX4_deliver_359 ?_
                      refine lv_iload_n hx hb dX4_deliver_362 rfl (lv_at hl 6 rfl) ?_
                      refine lv_iload hx hb dX4_deliver_363 (lv_at hl 0 rfl) ?_
                      refine lv_iconst (v := nI 1) hx hb dX4_deliver_365 (by decide) ?_
                      refine lv_iadd hx hb dX4_deliver_366 ?_
                      refine qtop (y := numC T c) (num_a c_336_1) ?_
                      refine q_iast (ws' := (wMc o k (fun j => R j 0) (fun j => R j 1) (fun j => R j 2) (fun j => T j 0) (fun j => T j 1) (fun j => T j 2) (fun j => T j 3) (upd an c (nI (a ||| 2 ^ r))) (fun j => T j 5) (fun j => T j 6) (upd (fun j => T j 7) c (numC T c)) (drp f n i) g (cnF R 5) (n - 1) d)) hx hb hK hP hD hS (11) 10 (j := c) rfl rfl lt_c (Nat.le_of_ble_eq_true rfl) rfl dX4_deliver_367 (fun H locs hP hD hS => ?_)
                      refine lv_aload_n hx hb dX4_deliver_368 rfl (lv_at hl 8 rfl) ?_
                      refine va_get (D := (dC, dI)) (ci := 4) (v := .ref (o 9)) (C := RX4) (T := TX4) (N := 16) hx hb hts inX4_deliver_X4 hown hK hP (0) rfl rfl 9 (by decide) (hts _ lkX4_deliver_35) (fun _ h9 => h9) rfl dX4_deliver_369 ?_
                      refine lv_iload_n hx hb dX4_deliver_372 rfl (lv_at hl 6 rfl) ?_
                      refine lv_iconst (v := nI 4) hx hb dX4_deliver_373 (by decide) ?_
                      refine lv_aload_n hx hb dX4_deliver_374 rfl (lv_at hl 8 rfl) ?_
                      refine va_get (D := (dC, dI)) (ci := 4) (v := .ref (o 11)) (C := RX4) (T := TX4) (N := 16) hx hb hts inX4_deliver_X4 hown hK hP (0) rfl rfl 11 (by decide) (hts _ lkX4_deliver_41) (fun _ h9 => h9) rfl dX4_deliver_375 ?_
                      refine lv_iload_n hx hb dX4_deliver_378 rfl (lv_at hl 6 rfl) ?_
                      refine q_iald hx hb hK hP (11) 10 (j := c) rfl rfl lt_c (Nat.le_of_ble_eq_true rfl) dX4_deliver_379 ?_
                      refine qtop (y := numC T c) pk_us ?_
                      refine lv_imul hx hb dX4_deliver_380 ?_
                      refine lv_iload_n hx hb dX4_deliver_381 rfl (lv_at hl 6 rfl) ?_
                      refine lv_iadd hx hb dX4_deliver_382 ?_
                      refine q_iast (ws' := (wMc o k (fun j => R j 0) (fun j => R j 1) (fun j => R j 2) (fun j => T j 0) (fun j => T j 1) (fun j => T j 2) (fun j => T j 3) (upd an c (nI (a ||| 2 ^ r))) (upd (fun j => T j 5) c (((nI 4) * (numC T c)) + (nI c))) (fun j => T j 6) (upd (fun j => T j 7) c (numC T c)) (drp f n i) g (cnF R 5) (n - 1) d)) hx hb hK hP hD hS (9) 8 (j := c) rfl rfl lt_c (Nat.le_of_ble_eq_true rfl) rfl dX4_deliver_383 (fun H locs hP hD hS => ?_)
                      refine lv_aload_n hx hb dX4_deliver_384 rfl (lv_at hl 8 rfl) ?_
                      refine va_get (D := (dC, dI)) (ci := 4) (v := .ref (o 10)) (C := RX4) (T := TX4) (N := 16) hx hb hts inX4_deliver_X4 hown hK hP (0) rfl rfl 10 (by decide) (hts _ lkX4_deliver_38) (fun _ h9 => h9) rfl dX4_deliver_385 ?_
                      refine lv_iload_n hx hb dX4_deliver_388 rfl (lv_at hl 6 rfl) ?_
                      refine lv_aload_n hx hb dX4_deliver_389 rfl (lv_at hl 8 rfl) ?_
                      refine va_get (D := (dC, dI)) (ci := 4) (v := .ref (o 7)) (C := RX4) (T := TX4) (N := 16) hx hb hts inX4_deliver_X4 hown hK hP (0) rfl rfl 7 (by decide) (hts _ lkX4_deliver_29) (fun _ h9 => h9) rfl dX4_deliver_390 ?_
                      refine lv_iload_n hx hb dX4_deliver_393 rfl (lv_at hl 6 rfl) ?_
                      refine q_iald hx hb hK hP (7) 6 (j := c) rfl rfl lt_c (Nat.le_of_ble_eq_true rfl) dX4_deliver_394 ?_
                      refine q_iast (ws' := (wMc o k (fun j => R j 0) (fun j => R j 1) (fun j => R j 2) (fun j => T j 0) (fun j => T j 1) (fun j => T j 2) (fun j => T j 3) (upd an c (nI (a ||| 2 ^ r))) (upd (fun j => T j 5) c (((nI 4) * (numC T c)) + (nI c))) (upd (fun j => T j 6) c (T c 3)) (upd (fun j => T j 7) c (numC T c)) (drp f n i) g (cnF R 5) (n - 1) d)) hx hb hK hP hD hS (10) 9 (j := c) rfl rfl lt_c (Nat.le_of_ble_eq_true rfl) rfl dX4_deliver_395 (fun H locs hP hD hS => ?_)
                      have e_W : (wMc o k (fun j => R j 0) (fun j => R j 1) (fun j => R j 2) (fun j => T j 0) (fun j => T j 1) (fun j => T j 2) (fun j => T j 3) (upd an c (nI (a ||| 2 ^ r))) (upd (fun j => T j 5) c (((nI 4) * (numC T c)) + (nI c))) (upd (fun j => T j 6) c (T c 3)) (upd (fun j => T j 7) c (numC T c)) (drp f n i) g (cnF R 5) (n - 1) d) = (wMc o k (fun j => R j 0) (fun j => R j 1) (fun j => R j 2) (fun j => (wriC T c) j 0) (fun j => (wriC T c) j 1) (fun j => (wriC T c) j 2) (fun j => (wriC T c) j 3) (upd an c (nI (a ||| 2 ^ r))) (fun j => (wriC T c) j 5) (fun j => (wriC T c) j 6) (fun j => (wriC T c) j 7) (drp f n i) g (cnF R 5) (n - 1) d) := (wM_of (fun _ => rfl) (fun _ => rfl) (fun _ => rfl) (fun q => by simp [upd, wriC, up2]) (fun q => by simp [upd, wriC, up2]) (fun q => by simp [upd, wriC, up2]) (fun q => by simp [upd, wriC, up2]) (fun q => by simp [upd, wriC, up2]) (fun q => by simp [upd, wriC, up2]) (fun q => by simp [upd, wriC, up2]))
                      have hP : va_P (dC, dI) vwCl (wMc o k (fun j => R j 0) (fun j => R j 1) (fun j => R j 2) (fun j => (wriC T c) j 0) (fun j => (wriC T c) j 1) (fun j => (wriC T c) j 2) (fun j => (wriC T c) j 3) (upd an c (nI (a ||| 2 ^ r))) (fun j => (wriC T c) j 5) (fun j => (wriC T c) j 6) (fun j => (wriC T c) j 7) (drp f n i) g (cnF R 5) (n - 1) d) H := va_Pe e_W hP
                      have hD : va_D A (wMc o k (fun j => R j 0) (fun j => R j 1) (fun j => R j 2) (fun j => (wriC T c) j 0) (fun j => (wriC T c) j 1) (fun j => (wriC T c) j 2) (fun j => (wriC T c) j 3) (upd an c (nI (a ||| 2 ^ r))) (fun j => (wriC T c) j 5) (fun j => (wriC T c) j 6) (fun j => (wriC T c) j 7) (drp f n i) g (cnF R 5) (n - 1) d) := va_De e_W hD
                      clear e_W
                      refine lv_aload_n hx hb dX4_deliver_396 rfl (lv_at hl 8 rfl) ?_
                      refine va_get (D := (dC, dI)) (ci := 4) (v := .ref (o 4)) (C := RX4) (T := TX4) (N := 16) hx hb hts inX4_deliver_X4 hown hK hP (0) rfl rfl 4 (by decide) (hts _ lkX4_deliver_20) (fun _ h9 => h9) rfl dX4_deliver_397 ?_
                      refine lv_iload_n hx hb dX4_deliver_400 rfl (lv_at hl 6 rfl) ?_
                      refine lv_iconst (v := nI 2) hx hb dX4_deliver_401 (by decide) ?_
                      refine q_iast (ws' := (wMc o k (fun j => R j 0) (fun j => R j 1) (fun j => R j 2) (upd (fun j => (wriC T c) j 0) c (nI 2)) (fun j => (wriC T c) j 1) (fun j => (wriC T c) j 2) (fun j => (wriC T c) j 3) (upd an c (nI (a ||| 2 ^ r))) (fun j => (wriC T c) j 5) (fun j => (wriC T c) j 6) (fun j => (wriC T c) j 7) (drp f n i) g (cnF R 5) (n - 1) d)) hx hb hK hP hD hS (4) 3 (j := c) rfl rfl lt_c (Nat.le_of_ble_eq_true rfl) rfl dX4_deliver_402 (fun H locs hP hD hS => ?_)
                      refine lv_aload_n hx hb dX4_deliver_403 rfl (lv_at hl 8 rfl) ?_
                      refine va_get (D := (dC, dI)) (ci := 4) (v := .ref (o 8)) (C := RX4) (T := TX4) (N := 16) hx hb hts inX4_deliver_X4 hown hK hP (0) rfl rfl 8 (by decide) (hts _ lkX4_deliver_32) (fun _ h9 => h9) rfl dX4_deliver_404 ?_
                      refine lv_iload_n hx hb dX4_deliver_407 rfl (lv_at hl 6 rfl) ?_
                      refine lv_iconst (v := nI 0) hx hb dX4_deliver_408 (by decide) ?_
                      refine q_iast (ws' := (wMc o k (fun j => R j 0) (fun j => R j 1) (fun j => R j 2) (upd (fun j => (wriC T c) j 0) c (nI 2)) (fun j => (wriC T c) j 1) (fun j => (wriC T c) j 2) (fun j => (wriC T c) j 3) (upd (upd an c (nI (a ||| 2 ^ r))) c (nI 0)) (fun j => (wriC T c) j 5) (fun j => (wriC T c) j 6) (fun j => (wriC T c) j 7) (drp f n i) g (cnF R 5) (n - 1) d)) hx hb hK hP hD hS (8) 7 (j := c) rfl rfl lt_c (Nat.le_of_ble_eq_true rfl) rfl dX4_deliver_409 (fun H locs hP hD hS => ?_)
                      have e_W : (wMc o k (fun j => R j 0) (fun j => R j 1) (fun j => R j 2) (upd (fun j => (wriC T c) j 0) c (nI 2)) (fun j => (wriC T c) j 1) (fun j => (wriC T c) j 2) (fun j => (wriC T c) j 3) (upd (upd an c (nI (a ||| 2 ^ r))) c (nI 0)) (fun j => (wriC T c) j 5) (fun j => (wriC T c) j 6) (fun j => (wriC T c) j 7) (drp f n i) g (cnF R 5) (n - 1) d) = (wMc o k (fun j => R j 0) (fun j => R j 1) (fun j => R j 2) (fun j => (stoC T c) j 0) (fun j => (stoC T c) j 1) (fun j => (stoC T c) j 2) (fun j => (stoC T c) j 3) (upd (upd an c (nI (a ||| 2 ^ r))) c (nI 0)) (fun j => (stoC T c) j 5) (fun j => (stoC T c) j 6) (fun j => (stoC T c) j 7) (drp f n i) g (cnF R 5) (n - 1) d) := (by rw [sto_b c_319_1]; exact (wM_of (fun _ => rfl) (fun _ => rfl) (fun _ => rfl) (fun q => by simp [upd, up2]) (fun q => by simp [upd, up2]) (fun q => by simp [upd, up2]) (fun q => by simp [upd, up2]) (fun q => by simp [upd, up2]) (fun q => by simp [upd, up2]) (fun q => by simp [upd, up2])))
                      have hP : va_P (dC, dI) vwCl (wMc o k (fun j => R j 0) (fun j => R j 1) (fun j => R j 2) (fun j => (stoC T c) j 0) (fun j => (stoC T c) j 1) (fun j => (stoC T c) j 2) (fun j => (stoC T c) j 3) (upd (upd an c (nI (a ||| 2 ^ r))) c (nI 0)) (fun j => (stoC T c) j 5) (fun j => (stoC T c) j 6) (fun j => (stoC T c) j 7) (drp f n i) g (cnF R 5) (n - 1) d) H := va_Pe e_W hP
                      have hD : va_D A (wMc o k (fun j => R j 0) (fun j => R j 1) (fun j => R j 2) (fun j => (stoC T c) j 0) (fun j => (stoC T c) j 1) (fun j => (stoC T c) j 2) (fun j => (stoC T c) j 3) (upd (upd an c (nI (a ||| 2 ^ r))) c (nI 0)) (fun j => (stoC T c) j 5) (fun j => (stoC T c) j 6) (fun j => (stoC T c) j 7) (drp f n i) g (cnF R 5) (n - 1) d) := va_De e_W hD
                      clear e_W
                      refine lv_aload_n hx hb dX4_deliver_410 rfl (lv_at hl 8 rfl) ?_
                      refine lv_iconst (v := nI 2) hx hb dX4_deliver_411 (by decide) ?_
                      refine lv_iload_n hx hb dX4_deliver_412 rfl (lv_at hl 6 rfl) ?_
                      refine lv_aload_n hx hb dX4_deliver_413 rfl (lv_at hl 8 rfl) ?_
                      refine va_get (D := (dC, dI)) (ci := 4) (v := .ref (o 9)) (C := RX4) (T := TX4) (N := 16) hx hb hts inX4_deliver_X4 hown hK hP (0) rfl rfl 9 (by decide) (hts _ lkX4_deliver_35) (fun _ h9 => h9) rfl dX4_deliver_414 ?_
                      refine lv_iload_n hx hb dX4_deliver_417 rfl (lv_at hl 6 rfl) ?_
                      refine q_iald hx hb hK hP (9) 8 (j := c) rfl rfl lt_c (Nat.le_of_ble_eq_true rfl) dX4_deliver_418 ?_
                      refine lv_aload_n hx hb dX4_deliver_419 rfl (lv_at hl 8 rfl) ?_
                      refine va_get (D := (dC, dI)) (ci := 4) (v := .ref (o 10)) (C := RX4) (T := TX4) (N := 16) hx hb hts inX4_deliver_X4 hown hK hP (0) rfl rfl 10 (by decide) (hts _ lkX4_deliver_38) (fun _ h9 => h9) rfl dX4_deliver_420 ?_
                      refine lv_iload_n hx hb dX4_deliver_423 rfl (lv_at hl 6 rfl) ?_
                      refine q_iald hx hb hK hP (10) 9 (j := c) rfl rfl lt_c (Nat.le_of_ble_eq_true rfl) dX4_deliver_424 ?_
                      refine goV (ws := (wMc o k (fun j => R j 0) (fun j => R j 1) (fun j => R j 2) (fun j => (stoC T c) j 0) (fun j => (stoC T c) j 1) (fun j => (stoC T c) j 2) (fun j => (stoC T c) j 3) (upd (upd an c (nI (a ||| 2 ^ r))) c (nI 0)) (fun j => (stoC T c) j 5) (fun j => (stoC T c) j 6) (fun j => (stoC T c) j 7) (drp f n i) g (cnF R 5) (n - 1) d)) (ws' := (wMc o k (fun j => R j 0) (fun j => R j 1) (fun j => R j 2) (fun j => (stoC T c) j 0) (fun j => (stoC T c) j 1) (fun j => (stoC T c) j 2) (fun j => (stoC T c) j 3) (upd (upd an c (nI (a ||| 2 ^ r))) c (nI 0)) (fun j => (stoC T c) j 5) (fun j => (stoC T c) j 6) (fun j => (stoC T c) j 7) (sndN (nI 2) (nI c) ((stoC T c) c 1) ((stoC T c) c 5) ((stoC T c) c 6) (drp f n i) (n - 1) 5) g (cnF R 5) ((n - 1) + 5) d)) (qFit_all rfl) hP hD hS hA (va_runV (rm := ({ frames := 1, cells := 0, slots := 0, locals := 27 } : Room)) (As := [.int (nI 2), .int (nI c), .int ((stoC T c) c 5), .int ((stoC T c) c 6)]) (rest := []) ⟨hx, hb, hml, hown, hts⟩ (MetV.at (k_X4_sendAll l dC dI o k (fun j => R j 0) (fun j => R j 1) (fun j => R j 2) (fun j => (stoC T c) j 0) (fun j => (stoC T c) j 1) (fun j => (stoC T c) j 2) (fun j => (stoC T c) j 3) (upd (upd an c (nI (a ||| 2 ^ r))) c (nI 0)) (fun j => (stoC T c) j 5) (fun j => (stoC T c) j 6) (fun j => (stoC T c) j 7) (drp f n i) g (cnF R 5) (n - 1) d (by omega) c lt_c (nI 2) ((stoC T c) c 5) ((stoC T c) c 6)) H.size) (cwV 4 hts gX4_deliver_X4_sendAll rfl rfl rfl (by decide +kernel) ⟨Nat.le_of_ble_eq_true rfl, Nat.le_of_ble_eq_true rfl⟩) (preWV hK hP hD (va_recv hK hP (ci := 4) (q0 := 0) rfl rfl)) rfl rfl hl.1 rfl (lv_room (Nat.le_of_ble_eq_true rfl)) dX4_deliver_425 ⟨Nat.le_of_ble_eq_true rfl, Nat.le_of_ble_eq_true rfl⟩) (fun H locs hP hD hS => ?_)
                      rw [stoC1] at hP
                      refine lv_goto (tgt := 528) hx hb dX4_deliver_428 (by decide) ?_
                      refine lv_aload_n hx hb dX4_deliver_528 rfl (lv_at hl 8 rfl) ?_
                      refine va_get (D := (dC, dI)) (ci := 4) (v := .int (nI ((n - 1) + 5))) (C := RX4) (T := TX4) (N := 16) hx hb hts inX4_deliver_X4 hown hK hP (0) rfl rfl 13 (by decide) (hts _ lkX4_deliver_50) (fun _ h9 => h9) rfl dX4_deliver_529 ?_
                      refine lv_iload hx hb dX4_deliver_532 (lv_at hl 1 rfl) ?_
                      refine lv_isub hx hb dX4_deliver_534 ?_
                      exact retJ hx hb hr hlk dX4_deliver_535 hS (upd (upd an c (nI (a ||| 2 ^ r))) c (nI 0)) (by rw [e_d]; show va_P _ _ (wM o k R (stoC T c) (upd (upd an c (nI (a ||| 2 ^ r))) c (nI 0)) (n - 1 + 5) (sndN (nI 2) (nI c) (T c 1) (stoC T c c 5) (stoC T c c 6) (drp f n i) (n - 1) 5) d g (cnF R 5)) _; exact hP) (st_u hAn e_d n_T) (by rw [dl_v (σ := (R, C, n, f, d, g)) lt_i (show n < 2 ^ 31 by omega) e_d]; rfl)
                    · refine lv_aload_n hx hb dX4_deliver_339 rfl (lv_at hl 7 rfl) ?_
                      refine va_get (D := (dC, dI)) (ci := 4) (v := .ref (o 9)) (C := RX4) (T := TX4) (N := 16) hx hb hts inX4_deliver_X4 hown hK hP (0) rfl rfl 9 (by decide) (hts _ lkX4_deliver_35) (fun _ h9 => h9) rfl dX4_deliver_340 ?_
                      refine lv_iload_n hx hb dX4_deliver_343 rfl (lv_at hl 5 rfl) ?_
                      refine q_iald hx hb hK hP (9) 8 (j := c) rfl rfl lt_c (Nat.le_of_ble_eq_true rfl) dX4_deliver_344 ?_
                      refine lv_iconst (v := nI 4) hx hb dX4_deliver_345 (by decide) ?_
                      refine lv_idiv hx hb dX4_deliver_346 (by decide) ?_
                      refine lv_goto (tgt := 356) hx hb dX4_deliver_347 (by decide) ?_
                      refine lv_istore (lv' := [(9, .int ((T c 5) / (nI 4))), (8, .int (nI (n - 1))), (7, .int (f ((i * 6) + 5))), (6, .int (f ((i * 6) + 4))), (5, .int (f ((i * 6) + 3))), (4, .int (nI r)), (3, .int (nI c)), (2, .int (nI 1)), (0, .ref (o 0)), (1, .int (nI i))]) hx hb dX4_deliver_356 hl (by decide) rfl (fun ls hl => ?_)
                      refine lv_aload_n hx hb dX4_deliver_358 rfl (lv_at hl 8 rfl) ?_
                      refine va_get (D := (dC, dI)) (ci := 4) (v := .ref (o 11)) (C := RX4) (T := TX4) (N := 16) hx hb hts inX4_deliver_X4 hown hK hP (0) rfl rfl 11 (by decide) (hts _ lkX4_deliver_41) (fun _ h9 => h9) rfl dX4_deliver_359 ?_
                      refine lv_iload_n hx hb dX4_deliver_362 rfl (lv_at hl 6 rfl) ?_
                      refine lv_iload hx hb dX4_deliver_363 (lv_at hl 0 rfl) ?_
                      refine lv_iconst (v := nI 1) hx hb dX4_deliver_365 (by decide) ?_
                      refine lv_iadd hx hb dX4_deliver_366 ?_
                      refine qtop (y := numC T c) (num_b c_336_1) ?_
                      refine q_iast (ws' := (wMc o k (fun j => R j 0) (fun j => R j 1) (fun j => R j 2) (fun j => T j 0) (fun j => T j 1) (fun j => T j 2) (fun j => T j 3) (upd an c (nI (a ||| 2 ^ r))) (fun j => T j 5) (fun j => T j 6) (upd (fun j => T j 7) c (numC T c)) (drp f n i) g (cnF R 5) (n - 1) d)) hx hb hK hP hD hS (11) 10 (j := c) rfl rfl lt_c (Nat.le_of_ble_eq_true rfl) rfl dX4_deliver_367 (fun H locs hP hD hS => ?_)
                      refine lv_aload_n hx hb dX4_deliver_368 rfl (lv_at hl 8 rfl) ?_
                      refine va_get (D := (dC, dI)) (ci := 4) (v := .ref (o 9)) (C := RX4) (T := TX4) (N := 16) hx hb hts inX4_deliver_X4 hown hK hP (0) rfl rfl 9 (by decide) (hts _ lkX4_deliver_35) (fun _ h9 => h9) rfl dX4_deliver_369 ?_
                      refine lv_iload_n hx hb dX4_deliver_372 rfl (lv_at hl 6 rfl) ?_
                      refine lv_iconst (v := nI 4) hx hb dX4_deliver_373 (by decide) ?_
                      refine lv_aload_n hx hb dX4_deliver_374 rfl (lv_at hl 8 rfl) ?_
                      refine va_get (D := (dC, dI)) (ci := 4) (v := .ref (o 11)) (C := RX4) (T := TX4) (N := 16) hx hb hts inX4_deliver_X4 hown hK hP (0) rfl rfl 11 (by decide) (hts _ lkX4_deliver_41) (fun _ h9 => h9) rfl dX4_deliver_375 ?_
                      refine lv_iload_n hx hb dX4_deliver_378 rfl (lv_at hl 6 rfl) ?_
                      refine q_iald hx hb hK hP (11) 10 (j := c) rfl rfl lt_c (Nat.le_of_ble_eq_true rfl) dX4_deliver_379 ?_
                      refine qtop (y := numC T c) pk_us ?_
                      refine lv_imul hx hb dX4_deliver_380 ?_
                      refine lv_iload_n hx hb dX4_deliver_381 rfl (lv_at hl 6 rfl) ?_
                      refine lv_iadd hx hb dX4_deliver_382 ?_
                      refine q_iast (ws' := (wMc o k (fun j => R j 0) (fun j => R j 1) (fun j => R j 2) (fun j => T j 0) (fun j => T j 1) (fun j => T j 2) (fun j => T j 3) (upd an c (nI (a ||| 2 ^ r))) (upd (fun j => T j 5) c (((nI 4) * (numC T c)) + (nI c))) (fun j => T j 6) (upd (fun j => T j 7) c (numC T c)) (drp f n i) g (cnF R 5) (n - 1) d)) hx hb hK hP hD hS (9) 8 (j := c) rfl rfl lt_c (Nat.le_of_ble_eq_true rfl) rfl dX4_deliver_383 (fun H locs hP hD hS => ?_)
                      refine lv_aload_n hx hb dX4_deliver_384 rfl (lv_at hl 8 rfl) ?_
                      refine va_get (D := (dC, dI)) (ci := 4) (v := .ref (o 10)) (C := RX4) (T := TX4) (N := 16) hx hb hts inX4_deliver_X4 hown hK hP (0) rfl rfl 10 (by decide) (hts _ lkX4_deliver_38) (fun _ h9 => h9) rfl dX4_deliver_385 ?_
                      refine lv_iload_n hx hb dX4_deliver_388 rfl (lv_at hl 6 rfl) ?_
                      refine lv_aload_n hx hb dX4_deliver_389 rfl (lv_at hl 8 rfl) ?_
                      refine va_get (D := (dC, dI)) (ci := 4) (v := .ref (o 7)) (C := RX4) (T := TX4) (N := 16) hx hb hts inX4_deliver_X4 hown hK hP (0) rfl rfl 7 (by decide) (hts _ lkX4_deliver_29) (fun _ h9 => h9) rfl dX4_deliver_390 ?_
                      refine lv_iload_n hx hb dX4_deliver_393 rfl (lv_at hl 6 rfl) ?_
                      refine q_iald hx hb hK hP (7) 6 (j := c) rfl rfl lt_c (Nat.le_of_ble_eq_true rfl) dX4_deliver_394 ?_
                      refine q_iast (ws' := (wMc o k (fun j => R j 0) (fun j => R j 1) (fun j => R j 2) (fun j => T j 0) (fun j => T j 1) (fun j => T j 2) (fun j => T j 3) (upd an c (nI (a ||| 2 ^ r))) (upd (fun j => T j 5) c (((nI 4) * (numC T c)) + (nI c))) (upd (fun j => T j 6) c (T c 3)) (upd (fun j => T j 7) c (numC T c)) (drp f n i) g (cnF R 5) (n - 1) d)) hx hb hK hP hD hS (10) 9 (j := c) rfl rfl lt_c (Nat.le_of_ble_eq_true rfl) rfl dX4_deliver_395 (fun H locs hP hD hS => ?_)
                      have e_W : (wMc o k (fun j => R j 0) (fun j => R j 1) (fun j => R j 2) (fun j => T j 0) (fun j => T j 1) (fun j => T j 2) (fun j => T j 3) (upd an c (nI (a ||| 2 ^ r))) (upd (fun j => T j 5) c (((nI 4) * (numC T c)) + (nI c))) (upd (fun j => T j 6) c (T c 3)) (upd (fun j => T j 7) c (numC T c)) (drp f n i) g (cnF R 5) (n - 1) d) = (wMc o k (fun j => R j 0) (fun j => R j 1) (fun j => R j 2) (fun j => (wriC T c) j 0) (fun j => (wriC T c) j 1) (fun j => (wriC T c) j 2) (fun j => (wriC T c) j 3) (upd an c (nI (a ||| 2 ^ r))) (fun j => (wriC T c) j 5) (fun j => (wriC T c) j 6) (fun j => (wriC T c) j 7) (drp f n i) g (cnF R 5) (n - 1) d) := (wM_of (fun _ => rfl) (fun _ => rfl) (fun _ => rfl) (fun q => by simp [upd, wriC, up2]) (fun q => by simp [upd, wriC, up2]) (fun q => by simp [upd, wriC, up2]) (fun q => by simp [upd, wriC, up2]) (fun q => by simp [upd, wriC, up2]) (fun q => by simp [upd, wriC, up2]) (fun q => by simp [upd, wriC, up2]))
                      have hP : va_P (dC, dI) vwCl (wMc o k (fun j => R j 0) (fun j => R j 1) (fun j => R j 2) (fun j => (wriC T c) j 0) (fun j => (wriC T c) j 1) (fun j => (wriC T c) j 2) (fun j => (wriC T c) j 3) (upd an c (nI (a ||| 2 ^ r))) (fun j => (wriC T c) j 5) (fun j => (wriC T c) j 6) (fun j => (wriC T c) j 7) (drp f n i) g (cnF R 5) (n - 1) d) H := va_Pe e_W hP
                      have hD : va_D A (wMc o k (fun j => R j 0) (fun j => R j 1) (fun j => R j 2) (fun j => (wriC T c) j 0) (fun j => (wriC T c) j 1) (fun j => (wriC T c) j 2) (fun j => (wriC T c) j 3) (upd an c (nI (a ||| 2 ^ r))) (fun j => (wriC T c) j 5) (fun j => (wriC T c) j 6) (fun j => (wriC T c) j 7) (drp f n i) g (cnF R 5) (n - 1) d) := va_De e_W hD
                      clear e_W
                      refine lv_aload_n hx hb dX4_deliver_396 rfl (lv_at hl 8 rfl) ?_
                      refine va_get (D := (dC, dI)) (ci := 4) (v := .ref (o 4)) (C := RX4) (T := TX4) (N := 16) hx hb hts inX4_deliver_X4 hown hK hP (0) rfl rfl 4 (by decide) (hts _ lkX4_deliver_20) (fun _ h9 => h9) rfl dX4_deliver_397 ?_
                      refine lv_iload_n hx hb dX4_deliver_400 rfl (lv_at hl 6 rfl) ?_
                      refine lv_iconst (v := nI 2) hx hb dX4_deliver_401 (by decide) ?_
                      refine q_iast (ws' := (wMc o k (fun j => R j 0) (fun j => R j 1) (fun j => R j 2) (upd (fun j => (wriC T c) j 0) c (nI 2)) (fun j => (wriC T c) j 1) (fun j => (wriC T c) j 2) (fun j => (wriC T c) j 3) (upd an c (nI (a ||| 2 ^ r))) (fun j => (wriC T c) j 5) (fun j => (wriC T c) j 6) (fun j => (wriC T c) j 7) (drp f n i) g (cnF R 5) (n - 1) d)) hx hb hK hP hD hS (4) 3 (j := c) rfl rfl lt_c (Nat.le_of_ble_eq_true rfl) rfl dX4_deliver_402 (fun H locs hP hD hS => ?_)
                      refine lv_aload_n hx hb dX4_deliver_403 rfl (lv_at hl 8 rfl) ?_
                      refine va_get (D := (dC, dI)) (ci := 4) (v := .ref (o 8)) (C := RX4) (T := TX4) (N := 16) hx hb hts inX4_deliver_X4 hown hK hP (0) rfl rfl 8 (by decide) (hts _ lkX4_deliver_32) (fun _ h9 => h9) rfl dX4_deliver_404 ?_
                      refine lv_iload_n hx hb dX4_deliver_407 rfl (lv_at hl 6 rfl) ?_
                      refine lv_iconst (v := nI 0) hx hb dX4_deliver_408 (by decide) ?_
                      refine q_iast (ws' := (wMc o k (fun j => R j 0) (fun j => R j 1) (fun j => R j 2) (upd (fun j => (wriC T c) j 0) c (nI 2)) (fun j => (wriC T c) j 1) (fun j => (wriC T c) j 2) (fun j => (wriC T c) j 3) (upd (upd an c (nI (a ||| 2 ^ r))) c (nI 0)) (fun j => (wriC T c) j 5) (fun j => (wriC T c) j 6) (fun j => (wriC T c) j 7) (drp f n i) g (cnF R 5) (n - 1) d)) hx hb hK hP hD hS (8) 7 (j := c) rfl rfl lt_c (Nat.le_of_ble_eq_true rfl) rfl dX4_deliver_409 (fun H locs hP hD hS => ?_)
                      have e_W : (wMc o k (fun j => R j 0) (fun j => R j 1) (fun j => R j 2) (upd (fun j => (wriC T c) j 0) c (nI 2)) (fun j => (wriC T c) j 1) (fun j => (wriC T c) j 2) (fun j => (wriC T c) j 3) (upd (upd an c (nI (a ||| 2 ^ r))) c (nI 0)) (fun j => (wriC T c) j 5) (fun j => (wriC T c) j 6) (fun j => (wriC T c) j 7) (drp f n i) g (cnF R 5) (n - 1) d) = (wMc o k (fun j => R j 0) (fun j => R j 1) (fun j => R j 2) (fun j => (stoC T c) j 0) (fun j => (stoC T c) j 1) (fun j => (stoC T c) j 2) (fun j => (stoC T c) j 3) (upd (upd an c (nI (a ||| 2 ^ r))) c (nI 0)) (fun j => (stoC T c) j 5) (fun j => (stoC T c) j 6) (fun j => (stoC T c) j 7) (drp f n i) g (cnF R 5) (n - 1) d) := (by rw [sto_b c_319_1]; exact (wM_of (fun _ => rfl) (fun _ => rfl) (fun _ => rfl) (fun q => by simp [upd, up2]) (fun q => by simp [upd, up2]) (fun q => by simp [upd, up2]) (fun q => by simp [upd, up2]) (fun q => by simp [upd, up2]) (fun q => by simp [upd, up2]) (fun q => by simp [upd, up2])))
                      have hP : va_P (dC, dI) vwCl (wMc o k (fun j => R j 0) (fun j => R j 1) (fun j => R j 2) (fun j => (stoC T c) j 0) (fun j => (stoC T c) j 1) (fun j => (stoC T c) j 2) (fun j => (stoC T c) j 3) (upd (upd an c (nI (a ||| 2 ^ r))) c (nI 0)) (fun j => (stoC T c) j 5) (fun j => (stoC T c) j 6) (fun j => (stoC T c) j 7) (drp f n i) g (cnF R 5) (n - 1) d) H := va_Pe e_W hP
                      have hD : va_D A (wMc o k (fun j => R j 0) (fun j => R j 1) (fun j => R j 2) (fun j => (stoC T c) j 0) (fun j => (stoC T c) j 1) (fun j => (stoC T c) j 2) (fun j => (stoC T c) j 3) (upd (upd an c (nI (a ||| 2 ^ r))) c (nI 0)) (fun j => (stoC T c) j 5) (fun j => (stoC T c) j 6) (fun j => (stoC T c) j 7) (drp f n i) g (cnF R 5) (n - 1) d) := va_De e_W hD
                      clear e_W
                      refine lv_aload_n hx hb dX4_deliver_410 rfl (lv_at hl 8 rfl) ?_
                      refine lv_iconst (v := nI 2) hx hb dX4_deliver_411 (by decide) ?_
                      refine lv_iload_n hx hb dX4_deliver_412 rfl (lv_at hl 6 rfl) ?_
                      refine lv_aload_n hx hb dX4_deliver_413 rfl (lv_at hl 8 rfl) ?_
                      refine va_get (D := (dC, dI)) (ci := 4) (v := .ref (o 9)) (C := RX4) (T := TX4) (N := 16) hx hb hts inX4_deliver_X4 hown hK hP (0) rfl rfl 9 (by decide) (hts _ lkX4_deliver_35) (fun _ h9 => h9) rfl dX4_deliver_414 ?_
                      refine lv_iload_n hx hb dX4_deliver_417 rfl (lv_at hl 6 rfl) ?_
                      refine q_iald hx hb hK hP (9) 8 (j := c) rfl rfl lt_c (Nat.le_of_ble_eq_true rfl) dX4_deliver_418 ?_
                      refine lv_aload_n hx hb dX4_deliver_419 rfl (lv_at hl 8 rfl) ?_
                      refine va_get (D := (dC, dI)) (ci := 4) (v := .ref (o 10)) (C := RX4) (T := TX4) (N := 16) hx hb hts inX4_deliver_X4 hown hK hP (0) rfl rfl 10 (by decide) (hts _ lkX4_deliver_38) (fun _ h9 => h9) rfl dX4_deliver_420 ?_
                      refine lv_iload_n hx hb dX4_deliver_423 rfl (lv_at hl 6 rfl) ?_
                      refine q_iald hx hb hK hP (10) 9 (j := c) rfl rfl lt_c (Nat.le_of_ble_eq_true rfl) dX4_deliver_424 ?_
                      refine goV (ws := (wMc o k (fun j => R j 0) (fun j => R j 1) (fun j => R j 2) (fun j => (stoC T c) j 0) (fun j => (stoC T c) j 1) (fun j => (stoC T c) j 2) (fun j => (stoC T c) j 3) (upd (upd an c (nI (a ||| 2 ^ r))) c (nI 0)) (fun j => (stoC T c) j 5) (fun j => (stoC T c) j 6) (fun j => (stoC T c) j 7) (drp f n i) g (cnF R 5) (n - 1) d)) (ws' := (wMc o k (fun j => R j 0) (fun j => R j 1) (fun j => R j 2) (fun j => (stoC T c) j 0) (fun j => (stoC T c) j 1) (fun j => (stoC T c) j 2) (fun j => (stoC T c) j 3) (upd (upd an c (nI (a ||| 2 ^ r))) c (nI 0)) (fun j => (stoC T c) j 5) (fun j => (stoC T c) j 6) (fun j => (stoC T c) j 7) (sndN (nI 2) (nI c) ((stoC T c) c 1) ((stoC T c) c 5) ((stoC T c) c 6) (drp f n i) (n - 1) 5) g (cnF R 5) ((n - 1) + 5) d)) (qFit_all rfl) hP hD hS hA (va_runV (rm := ({ frames := 1, cells := 0, slots := 0, locals := 27 } : Room)) (As := [.int (nI 2), .int (nI c), .int ((stoC T c) c 5), .int ((stoC T c) c 6)]) (rest := []) ⟨hx, hb, hml, hown, hts⟩ (MetV.at (k_X4_sendAll l dC dI o k (fun j => R j 0) (fun j => R j 1) (fun j => R j 2) (fun j => (stoC T c) j 0) (fun j => (stoC T c) j 1) (fun j => (stoC T c) j 2) (fun j => (stoC T c) j 3) (upd (upd an c (nI (a ||| 2 ^ r))) c (nI 0)) (fun j => (stoC T c) j 5) (fun j => (stoC T c) j 6) (fun j => (stoC T c) j 7) (drp f n i) g (cnF R 5) (n - 1) d (by omega) c lt_c (nI 2) ((stoC T c) c 5) ((stoC T c) c 6)) H.size) (cwV 4 hts gX4_deliver_X4_sendAll rfl rfl rfl (by decide +kernel) ⟨Nat.le_of_ble_eq_true rfl, Nat.le_of_ble_eq_true rfl⟩) (preWV hK hP hD (va_recv hK hP (ci := 4) (q0 := 0) rfl rfl)) rfl rfl hl.1 rfl (lv_room (Nat.le_of_ble_eq_true rfl)) dX4_deliver_425 ⟨Nat.le_of_ble_eq_true rfl, Nat.le_of_ble_eq_true rfl⟩) (fun H locs hP hD hS => ?_)
                      rw [stoC1] at hP
                      refine lv_goto (tgt := 528) hx hb dX4_deliver_428 (by decide) ?_
                      refine lv_aload_n hx hb dX4_deliver_528 rfl (lv_at hl 8 rfl) ?_
                      refine va_get (D := (dC, dI)) (ci := 4) (v := .int (nI ((n - 1) + 5))) (C := RX4) (T := TX4) (N := 16) hx hb hts inX4_deliver_X4 hown hK hP (0) rfl rfl 13 (by decide) (hts _ lkX4_deliver_50) (fun _ h9 => h9) rfl dX4_deliver_529 ?_
                      refine lv_iload hx hb dX4_deliver_532 (lv_at hl 1 rfl) ?_
                      refine lv_isub hx hb dX4_deliver_534 ?_
                      exact retJ hx hb hr hlk dX4_deliver_535 hS (upd (upd an c (nI (a ||| 2 ^ r))) c (nI 0)) (by rw [e_d]; show va_P _ _ (wM o k R (stoC T c) (upd (upd an c (nI (a ||| 2 ^ r))) c (nI 0)) (n - 1 + 5) (sndN (nI 2) (nI c) (T c 1) (stoC T c c 5) (stoC T c c 6) (drp f n i) (n - 1) 5) d g (cnF R 5)) _; exact hP) (st_u hAn e_d n_T) (by rw [dl_v (σ := (R, C, n, f, d, g)) lt_i (show n < 2 ^ 31 by omega) e_d]; rfl)
                · refine lv_iconst (v := nI 0) hx hb dX4_deliver_306 (by decide) ?_
                  rw [if_neg (fun w => c_303_1 (nI_le w (by have := bits_le (a ||| 2 ^ r); omega)))] at e_d
                  exact retJ hx hb hr hlk dX4_deliver_307 hS (upd an c (nI (a ||| 2 ^ r))) (by rw [e_d]; exact hP) (nq_u hAn e_d e_T4 n_T) (by rw [dl_v (σ := (R, C, n, f, d, g)) lt_i (show n < 2 ^ 31 by omega) e_d]; exact (sub_0 (n - 1)).symm)
              · refine lv_aload_n hx hb dX4_deliver_277 rfl (lv_at hl 7 rfl) ?_
                refine va_get (D := (dC, dI)) (ci := 4) (v := .ref (o 9)) (C := RX4) (T := TX4) (N := 16) hx hb hts inX4_deliver_X4 hown hK hP (0) rfl rfl 9 (by decide) (hts _ lkX4_deliver_35) (fun _ h9 => h9) rfl dX4_deliver_278 ?_
                refine lv_iload_n hx hb dX4_deliver_281 rfl (lv_at hl 5 rfl) ?_
                refine lv_iload hx hb dX4_deliver_282 (lv_at hl 2 rfl) ?_
                refine q_iast (ws' := (wMc o k (fun j => R j 0) (fun j => R j 1) (fun j => R j 2) (fun j => C j 0) (fun j => C j 1) (fun j => C j 2) (fun j => C j 3) (upd an c (nI (a ||| 2 ^ r))) (upd (fun j => C j 5) c (f ((i * 6) + 4))) (fun j => C j 6) (fun j => C j 7) (drp f n i) g (cnF R 5) (n - 1) d)) hx hb hK hP hD hS (9) 8 (j := c) rfl rfl lt_c (Nat.le_of_ble_eq_true rfl) rfl dX4_deliver_284 (fun H locs hP hD hS => ?_)
                refine lv_aload_n hx hb dX4_deliver_285 rfl (lv_at hl 7 rfl) ?_
                refine va_get (D := (dC, dI)) (ci := 4) (v := .ref (o 10)) (C := RX4) (T := TX4) (N := 16) hx hb hts inX4_deliver_X4 hown hK hP (0) rfl rfl 10 (by decide) (hts _ lkX4_deliver_38) (fun _ h9 => h9) rfl dX4_deliver_286 ?_
                refine lv_iload_n hx hb dX4_deliver_289 rfl (lv_at hl 5 rfl) ?_
                refine lv_iload hx hb dX4_deliver_290 (lv_at hl 1 rfl) ?_
                refine q_iast (ws' := (wMc o k (fun j => R j 0) (fun j => R j 1) (fun j => R j 2) (fun j => C j 0) (fun j => C j 1) (fun j => C j 2) (fun j => C j 3) (upd an c (nI (a ||| 2 ^ r))) (upd (fun j => C j 5) c (f ((i * 6) + 4))) (upd (fun j => C j 6) c (f ((i * 6) + 5))) (fun j => C j 7) (drp f n i) g (cnF R 5) (n - 1) d)) hx hb hK hP hD hS (10) 9 (j := c) rfl rfl lt_c (Nat.le_of_ble_eq_true rfl) rfl dX4_deliver_292 (fun H locs hP hD hS => ?_)
                have e_T4 : (telC C c (nI r) (f (i * 6 + 4)) (f (i * 6 + 5))) c 4 = nI (a ||| 2 ^ r) := by rw [telC4, e_a]; exact (hear_bits a lt_a r lt_r).1
                have e_W : (wMc o k (fun j => R j 0) (fun j => R j 1) (fun j => R j 2) (fun j => C j 0) (fun j => C j 1) (fun j => C j 2) (fun j => C j 3) (upd an c (nI (a ||| 2 ^ r))) (upd (fun j => C j 5) c (f ((i * 6) + 4))) (upd (fun j => C j 6) c (f ((i * 6) + 5))) (fun j => C j 7) (drp f n i) g (cnF R 5) (n - 1) d) = (wMc o k (fun j => R j 0) (fun j => R j 1) (fun j => R j 2) (fun j => (telC C c (nI r) (f (i * 6 + 4)) (f (i * 6 + 5))) j 0) (fun j => (telC C c (nI r) (f (i * 6 + 4)) (f (i * 6 + 5))) j 1) (fun j => (telC C c (nI r) (f (i * 6 + 4)) (f (i * 6 + 5))) j 2) (fun j => (telC C c (nI r) (f (i * 6 + 4)) (f (i * 6 + 5))) j 3) (upd an c (nI (a ||| 2 ^ r))) (fun j => (telC C c (nI r) (f (i * 6 + 4)) (f (i * 6 + 5))) j 5) (fun j => (telC C c (nI r) (f (i * 6 + 4)) (f (i * 6 + 5))) j 6) (fun j => (telC C c (nI r) (f (i * 6 + 4)) (f (i * 6 + 5))) j 7) (drp f n i) g (cnF R 5) (n - 1) d) := (wM_of (fun _ => rfl) (fun _ => rfl) (fun _ => rfl) (fun q => by simp [upd, telC, heaC, up2, c_274_1]) (fun q => by simp [upd, telC, heaC, up2, c_274_1]) (fun q => by simp [upd, telC, heaC, up2, c_274_1]) (fun q => by simp [upd, telC, heaC, up2, c_274_1]) (fun q => by simp [upd, telC, heaC, up2, c_274_1]) (fun q => by simp [upd, telC, heaC, up2, c_274_1]) (fun q => by simp [upd, telC, heaC, up2, c_274_1]))
                have hP : va_P (dC, dI) vwCl (wMc o k (fun j => R j 0) (fun j => R j 1) (fun j => R j 2) (fun j => (telC C c (nI r) (f (i * 6 + 4)) (f (i * 6 + 5))) j 0) (fun j => (telC C c (nI r) (f (i * 6 + 4)) (f (i * 6 + 5))) j 1) (fun j => (telC C c (nI r) (f (i * 6 + 4)) (f (i * 6 + 5))) j 2) (fun j => (telC C c (nI r) (f (i * 6 + 4)) (f (i * 6 + 5))) j 3) (upd an c (nI (a ||| 2 ^ r))) (fun j => (telC C c (nI r) (f (i * 6 + 4)) (f (i * 6 + 5))) j 5) (fun j => (telC C c (nI r) (f (i * 6 + 4)) (f (i * 6 + 5))) j 6) (fun j => (telC C c (nI r) (f (i * 6 + 4)) (f (i * 6 + 5))) j 7) (drp f n i) g (cnF R 5) (n - 1) d) H := va_Pe e_W hP
                have hD : va_D A (wMc o k (fun j => R j 0) (fun j => R j 1) (fun j => R j 2) (fun j => (telC C c (nI r) (f (i * 6 + 4)) (f (i * 6 + 5))) j 0) (fun j => (telC C c (nI r) (f (i * 6 + 4)) (f (i * 6 + 5))) j 1) (fun j => (telC C c (nI r) (f (i * 6 + 4)) (f (i * 6 + 5))) j 2) (fun j => (telC C c (nI r) (f (i * 6 + 4)) (f (i * 6 + 5))) j 3) (upd an c (nI (a ||| 2 ^ r))) (fun j => (telC C c (nI r) (f (i * 6 + 4)) (f (i * 6 + 5))) j 5) (fun j => (telC C c (nI r) (f (i * 6 + 4)) (f (i * 6 + 5))) j 6) (fun j => (telC C c (nI r) (f (i * 6 + 4)) (f (i * 6 + 5))) j 7) (drp f n i) g (cnF R 5) (n - 1) d) := va_De e_W hD
                have e_A : aw (C c) (nI 1) (nI r) (f (i * 6 + 3)) := ⟨c_205_1, c_224_1, by rw [e_a]; exact Classical.byContradiction (fun z => c_239_1 ((shr_bit a lt_a r lt_r).mpr z))⟩
                have n_T : ∀ q b, q ≠ c → (telC C c (nI r) (f (i * 6 + 4)) (f (i * 6 + 5))) q b = C q b := fun q b h => telC_ne h
                have e_T1 : (telC C c (nI r) (f (i * 6 + 4)) (f (i * 6 + 5))) c 1 = C c 1 := telC1
                have e_d : dlS (R, C, n, f, d, g) (nI i) = (if 3 ≤ bts ((telC C c (nI r) (f (i * 6 + 4)) (f (i * 6 + 5))) c 4) then stSto (R, telC C c (nI r) (f (i * 6 + 4)) (f (i * 6 + 5)), n - 1, drp f n i, d, g) c else (R, telC C c (nI r) (f (i * 6 + 4)) (f (i * 6 + 5)), n - 1, drp f n i, d, g)) := e_d.trans (if_pos e_A)
                clear e_W
                generalize telC C c (nI r) (f (i * 6 + 4)) (f (i * 6 + 5)) = T at hP hD e_T4 n_T e_T1 e_d
                rw [e_T4, bts_nI (hear_bits a lt_a r lt_r).2] at e_d
                refine lv_aload_n hx hb dX4_deliver_293 rfl (lv_at hl 7 rfl) ?_
                refine va_get (D := (dC, dI)) (ci := 4) (v := .ref (o 8)) (C := RX4) (T := TX4) (N := 16) hx hb hts inX4_deliver_X4 hown hK hP (0) rfl rfl 8 (by decide) (hts _ lkX4_deliver_32) (fun _ h9 => h9) rfl dX4_deliver_294 ?_
                refine lv_iload_n hx hb dX4_deliver_297 rfl (lv_at hl 5 rfl) ?_
                refine q_iald hx hb hK hP (8) 7 (j := c) rfl rfl lt_c (Nat.le_of_ble_eq_true rfl) dX4_deliver_298 ?_
                refine goS (va_runS (rm := ({ frames := 0, cells := 0, slots := 0, locals := 0 } : Room)) (As := [.int ((upd an c (nI (a ||| 2 ^ r))) c)]) (rest := []) ⟨hx, hb, hml, hown, hts⟩ (MetS.at (k_X4_bits l dC dI ((upd an c (nI (a ||| 2 ^ r))) c))) (va_cwS 1 hts gX4_deliver_X4_bits rfl rfl rfl (by decide +kernel) ⟨Nat.le_of_ble_eq_true rfl, Nat.le_of_ble_eq_true rfl⟩) (preSS (hK.sub [] rfl) va_P0) rfl rfl hl.1 rfl (lv_room (Nat.le_of_ble_eq_true rfl)) dX4_deliver_299 ⟨Nat.le_of_ble_eq_true rfl, Nat.le_of_ble_eq_true rfl⟩) ?_
                refine qtop (y := nI (bits (a ||| 2 ^ r))) (by rw [pk_us]; exact bitM_bits _ (hear_bits a lt_a r lt_r).2) ?_
                refine lv_iconst (v := nI 3) hx hb dX4_deliver_302 (by decide) ?_
                refine lv_icmp_ge (tgt := 308) hx hb dX4_deliver_303 (by decide) (fun c_303_1 => ?_) (fun c_303_1 => ?_)
                · have h_Q : 3 ≤ bits (a ||| 2 ^ r) := (Nat.lt_or_ge (bits (a ||| 2 ^ r)) 3).elim (fun w => absurd c_303_1 (nI_ge w (by decide))) id
                  rw [if_pos h_Q] at e_d
                  refine lv_iload_n hx hb dX4_deliver_308 rfl (lv_at hl 6 rfl) ?_
                  refine lv_iconst (v := nI 1) hx hb dX4_deliver_309 (by decide) ?_
                  refine lv_icmp_ne (tgt := 431) hx hb dX4_deliver_310 (by decide) (fun c9 => absurd (by decide +kernel) c9) (fun _ => ?_)
                  refine lv_aload_n hx hb dX4_deliver_313 rfl (lv_at hl 7 rfl) ?_
                  refine va_get (D := (dC, dI)) (ci := 4) (v := .ref (o 6)) (C := RX4) (T := TX4) (N := 16) hx hb hts inX4_deliver_X4 hown hK hP (0) rfl rfl 6 (by decide) (hts _ lkX4_deliver_26) (fun _ h9 => h9) rfl dX4_deliver_314 ?_
                  refine lv_iload_n hx hb dX4_deliver_317 rfl (lv_at hl 5 rfl) ?_
                  refine q_zald hx hb hK hP (6) 5 (j := c) rfl rfl lt_c (Nat.le_of_ble_eq_true rfl) dX4_deliver_318 ?_
                  refine lv_if_eq (tgt := 396) hx hb dX4_deliver_319 (by decide) (fun c_319_1 => ?_) (fun c_319_1 => ?_)
                  · refine lv_aload_n hx hb dX4_deliver_396 rfl (lv_at hl 7 rfl) ?_
                    refine va_get (D := (dC, dI)) (ci := 4) (v := .ref (o 4)) (C := RX4) (T := TX4) (N := 16) hx hb hts inX4_deliver_X4 hown hK hP (0) rfl rfl 4 (by decide) (hts _ lkX4_deliver_20) (fun _ h9 => h9) rfl dX4_deliver_397 ?_
                    refine lv_iload_n hx hb dX4_deliver_400 rfl (lv_at hl 5 rfl) ?_
                    refine lv_iconst (v := nI 2) hx hb dX4_deliver_401 (by decide) ?_
                    refine q_iast (ws' := (wMc o k (fun j => R j 0) (fun j => R j 1) (fun j => R j 2) (upd (fun j => T j 0) c (nI 2)) (fun j => T j 1) (fun j => T j 2) (fun j => T j 3) (upd an c (nI (a ||| 2 ^ r))) (fun j => T j 5) (fun j => T j 6) (fun j => T j 7) (drp f n i) g (cnF R 5) (n - 1) d)) hx hb hK hP hD hS (4) 3 (j := c) rfl rfl lt_c (Nat.le_of_ble_eq_true rfl) rfl dX4_deliver_402 (fun H locs hP hD hS => ?_)
                    refine lv_aload_n hx hb dX4_deliver_403 rfl (lv_at hl 7 rfl) ?_
                    refine va_get (D := (dC, dI)) (ci := 4) (v := .ref (o 8)) (C := RX4) (T := TX4) (N := 16) hx hb hts inX4_deliver_X4 hown hK hP (0) rfl rfl 8 (by decide) (hts _ lkX4_deliver_32) (fun _ h9 => h9) rfl dX4_deliver_404 ?_
                    refine lv_iload_n hx hb dX4_deliver_407 rfl (lv_at hl 5 rfl) ?_
                    refine lv_iconst (v := nI 0) hx hb dX4_deliver_408 (by decide) ?_
                    refine q_iast (ws' := (wMc o k (fun j => R j 0) (fun j => R j 1) (fun j => R j 2) (upd (fun j => T j 0) c (nI 2)) (fun j => T j 1) (fun j => T j 2) (fun j => T j 3) (upd (upd an c (nI (a ||| 2 ^ r))) c (nI 0)) (fun j => T j 5) (fun j => T j 6) (fun j => T j 7) (drp f n i) g (cnF R 5) (n - 1) d)) hx hb hK hP hD hS (8) 7 (j := c) rfl rfl lt_c (Nat.le_of_ble_eq_true rfl) rfl dX4_deliver_409 (fun H locs hP hD hS => ?_)
                    have e_W : (wMc o k (fun j => R j 0) (fun j => R j 1) (fun j => R j 2) (upd (fun j => T j 0) c (nI 2)) (fun j => T j 1) (fun j => T j 2) (fun j => T j 3) (upd (upd an c (nI (a ||| 2 ^ r))) c (nI 0)) (fun j => T j 5) (fun j => T j 6) (fun j => T j 7) (drp f n i) g (cnF R 5) (n - 1) d) = (wMc o k (fun j => R j 0) (fun j => R j 1) (fun j => R j 2) (fun j => (stoC T c) j 0) (fun j => (stoC T c) j 1) (fun j => (stoC T c) j 2) (fun j => (stoC T c) j 3) (upd (upd an c (nI (a ||| 2 ^ r))) c (nI 0)) (fun j => (stoC T c) j 5) (fun j => (stoC T c) j 6) (fun j => (stoC T c) j 7) (drp f n i) g (cnF R 5) (n - 1) d) := (by rw [sto_a c_319_1]; exact (wM_of (fun _ => rfl) (fun _ => rfl) (fun _ => rfl) (fun q => by simp [upd, up2]) (fun q => by simp [upd, up2]) (fun q => by simp [upd, up2]) (fun q => by simp [upd, up2]) (fun q => by simp [upd, up2]) (fun q => by simp [upd, up2]) (fun q => by simp [upd, up2])))
                    have hP : va_P (dC, dI) vwCl (wMc o k (fun j => R j 0) (fun j => R j 1) (fun j => R j 2) (fun j => (stoC T c) j 0) (fun j => (stoC T c) j 1) (fun j => (stoC T c) j 2) (fun j => (stoC T c) j 3) (upd (upd an c (nI (a ||| 2 ^ r))) c (nI 0)) (fun j => (stoC T c) j 5) (fun j => (stoC T c) j 6) (fun j => (stoC T c) j 7) (drp f n i) g (cnF R 5) (n - 1) d) H := va_Pe e_W hP
                    have hD : va_D A (wMc o k (fun j => R j 0) (fun j => R j 1) (fun j => R j 2) (fun j => (stoC T c) j 0) (fun j => (stoC T c) j 1) (fun j => (stoC T c) j 2) (fun j => (stoC T c) j 3) (upd (upd an c (nI (a ||| 2 ^ r))) c (nI 0)) (fun j => (stoC T c) j 5) (fun j => (stoC T c) j 6) (fun j => (stoC T c) j 7) (drp f n i) g (cnF R 5) (n - 1) d) := va_De e_W hD
                    clear e_W
                    refine lv_aload_n hx hb dX4_deliver_410 rfl (lv_at hl 7 rfl) ?_
                    refine lv_iconst (v := nI 2) hx hb dX4_deliver_411 (by decide) ?_
                    refine lv_iload_n hx hb dX4_deliver_412 rfl (lv_at hl 5 rfl) ?_
                    refine lv_aload_n hx hb dX4_deliver_413 rfl (lv_at hl 7 rfl) ?_
                    refine va_get (D := (dC, dI)) (ci := 4) (v := .ref (o 9)) (C := RX4) (T := TX4) (N := 16) hx hb hts inX4_deliver_X4 hown hK hP (0) rfl rfl 9 (by decide) (hts _ lkX4_deliver_35) (fun _ h9 => h9) rfl dX4_deliver_414 ?_
                    refine lv_iload_n hx hb dX4_deliver_417 rfl (lv_at hl 5 rfl) ?_
                    refine q_iald hx hb hK hP (9) 8 (j := c) rfl rfl lt_c (Nat.le_of_ble_eq_true rfl) dX4_deliver_418 ?_
                    refine lv_aload_n hx hb dX4_deliver_419 rfl (lv_at hl 7 rfl) ?_
                    refine va_get (D := (dC, dI)) (ci := 4) (v := .ref (o 10)) (C := RX4) (T := TX4) (N := 16) hx hb hts inX4_deliver_X4 hown hK hP (0) rfl rfl 10 (by decide) (hts _ lkX4_deliver_38) (fun _ h9 => h9) rfl dX4_deliver_420 ?_
                    refine lv_iload_n hx hb dX4_deliver_423 rfl (lv_at hl 5 rfl) ?_
                    refine q_iald hx hb hK hP (10) 9 (j := c) rfl rfl lt_c (Nat.le_of_ble_eq_true rfl) dX4_deliver_424 ?_
                    refine goV (ws := (wMc o k (fun j => R j 0) (fun j => R j 1) (fun j => R j 2) (fun j => (stoC T c) j 0) (fun j => (stoC T c) j 1) (fun j => (stoC T c) j 2) (fun j => (stoC T c) j 3) (upd (upd an c (nI (a ||| 2 ^ r))) c (nI 0)) (fun j => (stoC T c) j 5) (fun j => (stoC T c) j 6) (fun j => (stoC T c) j 7) (drp f n i) g (cnF R 5) (n - 1) d)) (ws' := (wMc o k (fun j => R j 0) (fun j => R j 1) (fun j => R j 2) (fun j => (stoC T c) j 0) (fun j => (stoC T c) j 1) (fun j => (stoC T c) j 2) (fun j => (stoC T c) j 3) (upd (upd an c (nI (a ||| 2 ^ r))) c (nI 0)) (fun j => (stoC T c) j 5) (fun j => (stoC T c) j 6) (fun j => (stoC T c) j 7) (sndN (nI 2) (nI c) ((stoC T c) c 1) ((stoC T c) c 5) ((stoC T c) c 6) (drp f n i) (n - 1) 5) g (cnF R 5) ((n - 1) + 5) d)) (qFit_all rfl) hP hD hS hA (va_runV (rm := ({ frames := 1, cells := 0, slots := 0, locals := 27 } : Room)) (As := [.int (nI 2), .int (nI c), .int ((stoC T c) c 5), .int ((stoC T c) c 6)]) (rest := []) ⟨hx, hb, hml, hown, hts⟩ (MetV.at (k_X4_sendAll l dC dI o k (fun j => R j 0) (fun j => R j 1) (fun j => R j 2) (fun j => (stoC T c) j 0) (fun j => (stoC T c) j 1) (fun j => (stoC T c) j 2) (fun j => (stoC T c) j 3) (upd (upd an c (nI (a ||| 2 ^ r))) c (nI 0)) (fun j => (stoC T c) j 5) (fun j => (stoC T c) j 6) (fun j => (stoC T c) j 7) (drp f n i) g (cnF R 5) (n - 1) d (by omega) c lt_c (nI 2) ((stoC T c) c 5) ((stoC T c) c 6)) H.size) (cwV 4 hts gX4_deliver_X4_sendAll rfl rfl rfl (by decide +kernel) ⟨Nat.le_of_ble_eq_true rfl, Nat.le_of_ble_eq_true rfl⟩) (preWV hK hP hD (va_recv hK hP (ci := 4) (q0 := 0) rfl rfl)) rfl rfl hl.1 rfl (lv_room (Nat.le_of_ble_eq_true rfl)) dX4_deliver_425 ⟨Nat.le_of_ble_eq_true rfl, Nat.le_of_ble_eq_true rfl⟩) (fun H locs hP hD hS => ?_)
                    rw [stoC1] at hP
                    refine lv_goto (tgt := 528) hx hb dX4_deliver_428 (by decide) ?_
                    refine lv_aload_n hx hb dX4_deliver_528 rfl (lv_at hl 7 rfl) ?_
                    refine va_get (D := (dC, dI)) (ci := 4) (v := .int (nI ((n - 1) + 5))) (C := RX4) (T := TX4) (N := 16) hx hb hts inX4_deliver_X4 hown hK hP (0) rfl rfl 13 (by decide) (hts _ lkX4_deliver_50) (fun _ h9 => h9) rfl dX4_deliver_529 ?_
                    refine lv_iload hx hb dX4_deliver_532 (lv_at hl 0 rfl) ?_
                    refine lv_isub hx hb dX4_deliver_534 ?_
                    exact retJ hx hb hr hlk dX4_deliver_535 hS (upd (upd an c (nI (a ||| 2 ^ r))) c (nI 0)) (by rw [e_d]; show va_P _ _ (wM o k R (stoC T c) (upd (upd an c (nI (a ||| 2 ^ r))) c (nI 0)) (n - 1 + 5) (sndN (nI 2) (nI c) (T c 1) (stoC T c c 5) (stoC T c c 6) (drp f n i) (n - 1) 5) d g (cnF R 5)) _; exact hP) (st_u hAn e_d n_T) (by rw [dl_v (σ := (R, C, n, f, d, g)) lt_i (show n < 2 ^ 31 by omega) e_d]; rfl)
                  · refine lv_aload_n hx hb dX4_deliver_322 rfl (lv_at hl 7 rfl) ?_
                    refine va_get (D := (dC, dI)) (ci := 4) (v := .ref (o 9)) (C := RX4) (T := TX4) (N := 16) hx hb hts inX4_deliver_X4 hown hK hP (0) rfl rfl 9 (by decide) (hts _ lkX4_deliver_35) (fun _ h9 => h9) rfl dX4_deliver_323 ?_
                    refine lv_iload_n hx hb dX4_deliver_326 rfl (lv_at hl 5 rfl) ?_
                    refine q_iald hx hb hK hP (9) 8 (j := c) rfl rfl lt_c (Nat.le_of_ble_eq_true rfl) dX4_deliver_327 ?_
                    refine lv_iconst (v := nI 4) hx hb dX4_deliver_328 (by decide) ?_
                    refine lv_idiv hx hb dX4_deliver_329 (by decide) ?_
                    refine lv_aload_n hx hb dX4_deliver_330 rfl (lv_at hl 7 rfl) ?_
                    refine va_get (D := (dC, dI)) (ci := 4) (v := .ref (o 11)) (C := RX4) (T := TX4) (N := 16) hx hb hts inX4_deliver_X4 hown hK hP (0) rfl rfl 11 (by decide) (hts _ lkX4_deliver_41) (fun _ h9 => h9) rfl dX4_deliver_331 ?_
                    refine lv_iload_n hx hb dX4_deliver_334 rfl (lv_at hl 5 rfl) ?_
                    refine q_iald hx hb hK hP (11) 10 (j := c) rfl rfl lt_c (Nat.le_of_ble_eq_true rfl) dX4_deliver_335 ?_
                    refine lv_icmp_le (tgt := 350) hx hb dX4_deliver_336 (by decide) (fun c_336_1 => ?_) (fun c_336_1 => ?_)
                    · refine lv_aload_n hx hb dX4_deliver_350 rfl (lv_at hl 7 rfl) ?_
                      refine va_get (D := (dC, dI)) (ci := 4) (v := .ref (o 11)) (C := RX4) (T := TX4) (N := 16) hx hb hts inX4_deliver_X4 hown hK hP (0) rfl rfl 11 (by decide) (hts _ lkX4_deliver_41) (fun _ h9 => h9) rfl dX4_deliver_351 ?_
                      refine lv_iload_n hx hb dX4_deliver_354 rfl (lv_at hl 5 rfl) ?_
                      refine q_iald hx hb hK hP (11) 10 (j := c) rfl rfl lt_c (Nat.le_of_ble_eq_true rfl) dX4_deliver_355 ?_
                      refine lv_istore (lv' := [(9, .int (T c 7)), (8, .int (nI (n - 1))), (7, .int (f ((i * 6) + 5))), (6, .int (f ((i * 6) + 4))), (5, .int (f ((i * 6) + 3))), (4, .int (nI r)), (3, .int (nI c)), (2, .int (nI 1)), (0, .ref (o 0)), (1, .int (nI i))]) hx hb dX4_deliver_356 hl (by decide) rfl (fun ls hl => ?_)
                      refine lv_aload_n hx hb dX4_deliver_358 rfl (lv_at hl 8 rfl) ?_
                      refine va_get (D := (dC, dI)) (ci := 4) (v := .ref (o 11)) (C := RX4) (T := TX4) (N := 16) hx hb hts inX4_deliver_X4 hown hK hP (0) rfl rfl 11 (by decide) (hts _ lkX4_deliver_41) (fun _ h9 => h9) rfl dX4_deliver_359 ?_
                      refine lv_iload_n hx hb dX4_deliver_362 rfl (lv_at hl 6 rfl) ?_
                      refine lv_iload hx hb dX4_deliver_363 (lv_at hl 0 rfl) ?_
                      refine lv_iconst (v := nI 1) hx hb dX4_deliver_365 (by decide) ?_
                      refine lv_iadd hx hb dX4_deliver_366 ?_
                      refine qtop (y := numC T c) (num_a c_336_1) ?_
                      refine q_iast (ws' := (wMc o k (fun j => R j 0) (fun j => R j 1) (fun j => R j 2) (fun j => T j 0) (fun j => T j 1) (fun j => T j 2) (fun j => T j 3) (upd an c (nI (a ||| 2 ^ r))) (fun j => T j 5) (fun j => T j 6) (upd (fun j => T j 7) c (numC T c)) (drp f n i) g (cnF R 5) (n - 1) d)) hx hb hK hP hD hS (11) 10 (j := c) rfl rfl lt_c (Nat.le_of_ble_eq_true rfl) rfl dX4_deliver_367 (fun H locs hP hD hS => ?_)
                      refine lv_aload_n hx hb dX4_deliver_368 rfl (lv_at hl 8 rfl) ?_
                      refine va_get (D := (dC, dI)) (ci := 4) (v := .ref (o 9)) (C := RX4) (T := TX4) (N := 16) hx hb hts inX4_deliver_X4 hown hK hP (0) rfl rfl 9 (by decide) (hts _ lkX4_deliver_35) (fun _ h9 => h9) rfl dX4_deliver_369 ?_
                      refine lv_iload_n hx hb dX4_deliver_372 rfl (lv_at hl 6 rfl) ?_
                      refine lv_iconst (v := nI 4) hx hb dX4_deliver_373 (by decide) ?_
                      refine lv_aload_n hx hb dX4_deliver_374 rfl (lv_at hl 8 rfl) ?_
                      refine va_get (D := (dC, dI)) (ci := 4) (v := .ref (o 11)) (C := RX4) (T := TX4) (N := 16) hx hb hts inX4_deliver_X4 hown hK hP (0) rfl rfl 11 (by decide) (hts _ lkX4_deliver_41) (fun _ h9 => h9) rfl dX4_deliver_375 ?_
                      refine lv_iload_n hx hb dX4_deliver_378 rfl (lv_at hl 6 rfl) ?_
                      refine q_iald hx hb hK hP (11) 10 (j := c) rfl rfl lt_c (Nat.le_of_ble_eq_true rfl) dX4_deliver_379 ?_
                      refine qtop (y := numC T c) pk_us ?_
                      refine lv_imul hx hb dX4_deliver_380 ?_
                      refine lv_iload_n hx hb dX4_deliver_381 rfl (lv_at hl 6 rfl) ?_
                      refine lv_iadd hx hb dX4_deliver_382 ?_
                      refine q_iast (ws' := (wMc o k (fun j => R j 0) (fun j => R j 1) (fun j => R j 2) (fun j => T j 0) (fun j => T j 1) (fun j => T j 2) (fun j => T j 3) (upd an c (nI (a ||| 2 ^ r))) (upd (fun j => T j 5) c (((nI 4) * (numC T c)) + (nI c))) (fun j => T j 6) (upd (fun j => T j 7) c (numC T c)) (drp f n i) g (cnF R 5) (n - 1) d)) hx hb hK hP hD hS (9) 8 (j := c) rfl rfl lt_c (Nat.le_of_ble_eq_true rfl) rfl dX4_deliver_383 (fun H locs hP hD hS => ?_)
                      refine lv_aload_n hx hb dX4_deliver_384 rfl (lv_at hl 8 rfl) ?_
                      refine va_get (D := (dC, dI)) (ci := 4) (v := .ref (o 10)) (C := RX4) (T := TX4) (N := 16) hx hb hts inX4_deliver_X4 hown hK hP (0) rfl rfl 10 (by decide) (hts _ lkX4_deliver_38) (fun _ h9 => h9) rfl dX4_deliver_385 ?_
                      refine lv_iload_n hx hb dX4_deliver_388 rfl (lv_at hl 6 rfl) ?_
                      refine lv_aload_n hx hb dX4_deliver_389 rfl (lv_at hl 8 rfl) ?_
                      refine va_get (D := (dC, dI)) (ci := 4) (v := .ref (o 7)) (C := RX4) (T := TX4) (N := 16) hx hb hts inX4_deliver_X4 hown hK hP (0) rfl rfl 7 (by decide) (hts _ lkX4_deliver_29) (fun _ h9 => h9) rfl dX4_deliver_390 ?_
                      refine lv_iload_n hx hb dX4_deliver_393 rfl (lv_at hl 6 rfl) ?_
                      refine q_iald hx hb hK hP (7) 6 (j := c) rfl rfl lt_c (Nat.le_of_ble_eq_true rfl) dX4_deliver_394 ?_
                      refine q_iast (ws' := (wMc o k (fun j => R j 0) (fun j => R j 1) (fun j => R j 2) (fun j => T j 0) (fun j => T j 1) (fun j => T j 2) (fun j => T j 3) (upd an c (nI (a ||| 2 ^ r))) (upd (fun j => T j 5) c (((nI 4) * (numC T c)) + (nI c))) (upd (fun j => T j 6) c (T c 3)) (upd (fun j => T j 7) c (numC T c)) (drp f n i) g (cnF R 5) (n - 1) d)) hx hb hK hP hD hS (10) 9 (j := c) rfl rfl lt_c (Nat.le_of_ble_eq_true rfl) rfl dX4_deliver_395 (fun H locs hP hD hS => ?_)
                      have e_W : (wMc o k (fun j => R j 0) (fun j => R j 1) (fun j => R j 2) (fun j => T j 0) (fun j => T j 1) (fun j => T j 2) (fun j => T j 3) (upd an c (nI (a ||| 2 ^ r))) (upd (fun j => T j 5) c (((nI 4) * (numC T c)) + (nI c))) (upd (fun j => T j 6) c (T c 3)) (upd (fun j => T j 7) c (numC T c)) (drp f n i) g (cnF R 5) (n - 1) d) = (wMc o k (fun j => R j 0) (fun j => R j 1) (fun j => R j 2) (fun j => (wriC T c) j 0) (fun j => (wriC T c) j 1) (fun j => (wriC T c) j 2) (fun j => (wriC T c) j 3) (upd an c (nI (a ||| 2 ^ r))) (fun j => (wriC T c) j 5) (fun j => (wriC T c) j 6) (fun j => (wriC T c) j 7) (drp f n i) g (cnF R 5) (n - 1) d) := (wM_of (fun _ => rfl) (fun _ => rfl) (fun _ => rfl) (fun q => by simp [upd, wriC, up2]) (fun q => by simp [upd, wriC, up2]) (fun q => by simp [upd, wriC, up2]) (fun q => by simp [upd, wriC, up2]) (fun q => by simp [upd, wriC, up2]) (fun q => by simp [upd, wriC, up2]) (fun q => by simp [upd, wriC, up2]))
                      have hP : va_P (dC, dI) vwCl (wMc o k (fun j => R j 0) (fun j => R j 1) (fun j => R j 2) (fun j => (wriC T c) j 0) (fun j => (wriC T c) j 1) (fun j => (wriC T c) j 2) (fun j => (wriC T c) j 3) (upd an c (nI (a ||| 2 ^ r))) (fun j => (wriC T c) j 5) (fun j => (wriC T c) j 6) (fun j => (wriC T c) j 7) (drp f n i) g (cnF R 5) (n - 1) d) H := va_Pe e_W hP
                      have hD : va_D A (wMc o k (fun j => R j 0) (fun j => R j 1) (fun j => R j 2) (fun j => (wriC T c) j 0) (fun j => (wriC T c) j 1) (fun j => (wriC T c) j 2) (fun j => (wriC T c) j 3) (upd an c (nI (a ||| 2 ^ r))) (fun j => (wriC T c) j 5) (fun j => (wriC T c) j 6) (fun j => (wriC T c) j 7) (drp f n i) g (cnF R 5) (n - 1) d) := va_De e_W hD
                      clear e_W
                      refine lv_aload_n hx hb dX4_deliver_396 rfl (lv_at hl 8 rfl) ?_
                      refine va_get (D := (dC, dI)) (ci := 4) (v := .ref (o 4)) (C := RX4) (T := TX4) (N := 16) hx hb hts inX4_deliver_X4 hown hK hP (0) rfl rfl 4 (by decide) (hts _ lkX4_deliver_20) (fun _ h9 => h9) rfl dX4_deliver_397 ?_
                      refine lv_iload_n hx hb dX4_deliver_400 rfl (lv_at hl 6 rfl) ?_
                      refine lv_iconst (v := nI 2) hx hb dX4_deliver_401 (by decide) ?_
                      refine q_iast (ws' := (wMc o k (fun j => R j 0) (fun j => R j 1) (fun j => R j 2) (upd (fun j => (wriC T c) j 0) c (nI 2)) (fun j => (wriC T c) j 1) (fun j => (wriC T c) j 2) (fun j => (wriC T c) j 3) (upd an c (nI (a ||| 2 ^ r))) (fun j => (wriC T c) j 5) (fun j => (wriC T c) j 6) (fun j => (wriC T c) j 7) (drp f n i) g (cnF R 5) (n - 1) d)) hx hb hK hP hD hS (4) 3 (j := c) rfl rfl lt_c (Nat.le_of_ble_eq_true rfl) rfl dX4_deliver_402 (fun H locs hP hD hS => ?_)
                      refine lv_aload_n hx hb dX4_deliver_403 rfl (lv_at hl 8 rfl) ?_
                      refine va_get (D := (dC, dI)) (ci := 4) (v := .ref (o 8)) (C := RX4) (T := TX4) (N := 16) hx hb hts inX4_deliver_X4 hown hK hP (0) rfl rfl 8 (by decide) (hts _ lkX4_deliver_32) (fun _ h9 => h9) rfl dX4_deliver_404 ?_
                      refine lv_iload_n hx hb dX4_deliver_407 rfl (lv_at hl 6 rfl) ?_
                      refine lv_iconst (v := nI 0) hx hb dX4_deliver_408 (by decide) ?_
                      refine q_iast (ws' := (wMc o k (fun j => R j 0) (fun j => R j 1) (fun j => R j 2) (upd (fun j => (wriC T c) j 0) c (nI 2)) (fun j => (wriC T c) j 1) (fun j => (wriC T c) j 2) (fun j => (wriC T c) j 3) (upd (upd an c (nI (a ||| 2 ^ r))) c (nI 0)) (fun j => (wriC T c) j 5) (fun j => (wriC T c) j 6) (fun j => (wriC T c) j 7) (drp f n i) g (cnF R 5) (n - 1) d)) hx hb hK hP hD hS (8) 7 (j := c) rfl rfl lt_c (Nat.le_of_ble_eq_true rfl) rfl dX4_deliver_409 (fun H locs hP hD hS => ?_)
                      have e_W : (wMc o k (fun j => R j 0) (fun j => R j 1) (fun j => R j 2) (upd (fun j => (wriC T c) j 0) c (nI 2)) (fun j => (wriC T c) j 1) (fun j => (wriC T c) j 2) (fun j => (wriC T c) j 3) (upd (upd an c (nI (a ||| 2 ^ r))) c (nI 0)) (fun j => (wriC T c) j 5) (fun j => (wriC T c) j 6) (fun j => (wriC T c) j 7) (drp f n i) g (cnF R 5) (n - 1) d) = (wMc o k (fun j => R j 0) (fun j => R j 1) (fun j => R j 2) (fun j => (stoC T c) j 0) (fun j => (stoC T c) j 1) (fun j => (stoC T c) j 2) (fun j => (stoC T c) j 3) (upd (upd an c (nI (a ||| 2 ^ r))) c (nI 0)) (fun j => (stoC T c) j 5) (fun j => (stoC T c) j 6) (fun j => (stoC T c) j 7) (drp f n i) g (cnF R 5) (n - 1) d) := (by rw [sto_b c_319_1]; exact (wM_of (fun _ => rfl) (fun _ => rfl) (fun _ => rfl) (fun q => by simp [upd, up2]) (fun q => by simp [upd, up2]) (fun q => by simp [upd, up2]) (fun q => by simp [upd, up2]) (fun q => by simp [upd, up2]) (fun q => by simp [upd, up2]) (fun q => by simp [upd, up2])))
                      have hP : va_P (dC, dI) vwCl (wMc o k (fun j => R j 0) (fun j => R j 1) (fun j => R j 2) (fun j => (stoC T c) j 0) (fun j => (stoC T c) j 1) (fun j => (stoC T c) j 2) (fun j => (stoC T c) j 3) (upd (upd an c (nI (a ||| 2 ^ r))) c (nI 0)) (fun j => (stoC T c) j 5) (fun j => (stoC T c) j 6) (fun j => (stoC T c) j 7) (drp f n i) g (cnF R 5) (n - 1) d) H := va_Pe e_W hP
                      have hD : va_D A (wMc o k (fun j => R j 0) (fun j => R j 1) (fun j => R j 2) (fun j => (stoC T c) j 0) (fun j => (stoC T c) j 1) (fun j => (stoC T c) j 2) (fun j => (stoC T c) j 3) (upd (upd an c (nI (a ||| 2 ^ r))) c (nI 0)) (fun j => (stoC T c) j 5) (fun j => (stoC T c) j 6) (fun j => (stoC T c) j 7) (drp f n i) g (cnF R 5) (n - 1) d) := va_De e_W hD
                      clear e_W
                      refine lv_aload_n hx hb dX4_deliver_410 rfl (lv_at hl 8 rfl) ?_
                      refine lv_iconst (v := nI 2) hx hb dX4_deliver_411 (by decide) ?_
                      refine lv_iload_n hx hb dX4_deliver_412 rfl (lv_at hl 6 rfl) ?_
                      refine lv_aload_n hx hb dX4_deliver_413 rfl (lv_at hl 8 rfl) ?_
                      refine va_get (D := (dC, dI)) (ci := 4) (v := .ref (o 9)) (C := RX4) (T := TX4) (N := 16) hx hb hts inX4_deliver_X4 hown hK hP (0) rfl rfl 9 (by decide) (hts _ lkX4_deliver_35) (fun _ h9 => h9) rfl dX4_deliver_414 ?_
                      refine lv_iload_n hx hb dX4_deliver_417 rfl (lv_at hl 6 rfl) ?_
                      refine q_iald hx hb hK hP (9) 8 (j := c) rfl rfl lt_c (Nat.le_of_ble_eq_true rfl) dX4_deliver_418 ?_
                      refine lv_aload_n hx hb dX4_deliver_419 rfl (lv_at hl 8 rfl) ?_
                      refine va_get (D := (dC, dI)) (ci := 4) (v := .ref (o 10)) (C := RX4) (T := TX4) (N := 16) hx hb hts inX4_deliver_X4 hown hK hP (0) rfl rfl 10 (by decide) (hts _ lkX4_deliver_38) (fun _ h9 => h9) rfl dX4_deliver_420 ?_
                      refine lv_iload_n hx hb dX4_deliver_423 rfl (lv_at hl 6 rfl) ?_
                      refine q_iald hx hb hK hP (10) 9 (j := c) rfl rfl lt_c (Nat.le_of_ble_eq_true rfl) dX4_deliver_424 ?_
                      refine goV (ws := (wMc o k (fun j => R j 0) (fun j => R j 1) (fun j => R j 2) (fun j => (stoC T c) j 0) (fun j => (stoC T c) j 1) (fun j => (stoC T c) j 2) (fun j => (stoC T c) j 3) (upd (upd an c (nI (a ||| 2 ^ r))) c (nI 0)) (fun j => (stoC T c) j 5) (fun j => (stoC T c) j 6) (fun j => (stoC T c) j 7) (drp f n i) g (cnF R 5) (n - 1) d)) (ws' := (wMc o k (fun j => R j 0) (fun j => R j 1) (fun j => R j 2) (fun j => (stoC T c) j 0) (fun j => (stoC T c) j 1) (fun j => (stoC T c) j 2) (fun j => (stoC T c) j 3) (upd (upd an c (nI (a ||| 2 ^ r))) c (nI 0)) (fun j => (stoC T c) j 5) (fun j => (stoC T c) j 6) (fun j => (stoC T c) j 7) (sndN (nI 2) (nI c) ((stoC T c) c 1) ((stoC T c) c 5) ((stoC T c) c 6) (drp f n i) (n - 1) 5) g (cnF R 5) ((n - 1) + 5) d)) (qFit_all rfl) hP hD hS hA (va_runV (rm := ({ frames := 1, cells := 0, slots := 0, locals := 27 } : Room)) (As := [.int (nI 2), .int (nI c), .int ((stoC T c) c 5), .int ((stoC T c) c 6)]) (rest := []) ⟨hx, hb, hml, hown, hts⟩ (MetV.at (k_X4_sendAll l dC dI o k (fun j => R j 0) (fun j => R j 1) (fun j => R j 2) (fun j => (stoC T c) j 0) (fun j => (stoC T c) j 1) (fun j => (stoC T c) j 2) (fun j => (stoC T c) j 3) (upd (upd an c (nI (a ||| 2 ^ r))) c (nI 0)) (fun j => (stoC T c) j 5) (fun j => (stoC T c) j 6) (fun j => (stoC T c) j 7) (drp f n i) g (cnF R 5) (n - 1) d (by omega) c lt_c (nI 2) ((stoC T c) c 5) ((stoC T c) c 6)) H.size) (cwV 4 hts gX4_deliver_X4_sendAll rfl rfl rfl (by decide +kernel) ⟨Nat.le_of_ble_eq_true rfl, Nat.le_of_ble_eq_true rfl⟩) (preWV hK hP hD (va_recv hK hP (ci := 4) (q0 := 0) rfl rfl)) rfl rfl hl.1 rfl (lv_room (Nat.le_of_ble_eq_true rfl)) dX4_deliver_425 ⟨Nat.le_of_ble_eq_true rfl, Nat.le_of_ble_eq_true rfl⟩) (fun H locs hP hD hS => ?_)
                      rw [stoC1] at hP
                      refine lv_goto (tgt := 528) hx hb dX4_deliver_428 (by decide) ?_
                      refine lv_aload_n hx hb dX4_deliver_528 rfl (lv_at hl 8 rfl) ?_
                      refine va_get (D := (dC, dI)) (ci := 4) (v := .int (nI ((n - 1) + 5))) (C := RX4) (T := TX4) (N := 16) hx hb hts inX4_deliver_X4 hown hK hP (0) rfl rfl 13 (by decide) (hts _ lkX4_deliver_50) (fun _ h9 => h9) rfl dX4_deliver_529 ?_
                      refine lv_iload hx hb dX4_deliver_532 (lv_at hl 1 rfl) ?_
                      refine lv_isub hx hb dX4_deliver_534 ?_
                      exact retJ hx hb hr hlk dX4_deliver_535 hS (upd (upd an c (nI (a ||| 2 ^ r))) c (nI 0)) (by rw [e_d]; show va_P _ _ (wM o k R (stoC T c) (upd (upd an c (nI (a ||| 2 ^ r))) c (nI 0)) (n - 1 + 5) (sndN (nI 2) (nI c) (T c 1) (stoC T c c 5) (stoC T c c 6) (drp f n i) (n - 1) 5) d g (cnF R 5)) _; exact hP) (st_u hAn e_d n_T) (by rw [dl_v (σ := (R, C, n, f, d, g)) lt_i (show n < 2 ^ 31 by omega) e_d]; rfl)
                    · refine lv_aload_n hx hb dX4_deliver_339 rfl (lv_at hl 7 rfl) ?_
                      refine va_get (D := (dC, dI)) (ci := 4) (v := .ref (o 9)) (C := RX4) (T := TX4) (N := 16) hx hb hts inX4_deliver_X4 hown hK hP (0) rfl rfl 9 (by decide) (hts _ lkX4_deliver_35) (fun _ h9 => h9) rfl dX4_deliver_340 ?_
                      refine lv_iload_n hx hb dX4_deliver_343 rfl (lv_at hl 5 rfl) ?_
                      refine q_iald hx hb hK hP (9) 8 (j := c) rfl rfl lt_c (Nat.le_of_ble_eq_true rfl) dX4_deliver_344 ?_
                      refine lv_iconst (v := nI 4) hx hb dX4_deliver_345 (by decide) ?_
                      refine lv_idiv hx hb dX4_deliver_346 (by decide) ?_
                      refine lv_goto (tgt := 356) hx hb dX4_deliver_347 (by decide) ?_
                      refine lv_istore (lv' := [(9, .int ((T c 5) / (nI 4))), (8, .int (nI (n - 1))), (7, .int (f ((i * 6) + 5))), (6, .int (f ((i * 6) + 4))), (5, .int (f ((i * 6) + 3))), (4, .int (nI r)), (3, .int (nI c)), (2, .int (nI 1)), (0, .ref (o 0)), (1, .int (nI i))]) hx hb dX4_deliver_356 hl (by decide) rfl (fun ls hl => ?_)
                      refine lv_aload_n hx hb dX4_deliver_358 rfl (lv_at hl 8 rfl) ?_
                      refine va_get (D := (dC, dI)) (ci := 4) (v := .ref (o 11)) (C := RX4) (T := TX4) (N := 16) hx hb hts inX4_deliver_X4 hown hK hP (0) rfl rfl 11 (by decide) (hts _ lkX4_deliver_41) (fun _ h9 => h9) rfl dX4_deliver_359 ?_
                      refine lv_iload_n hx hb dX4_deliver_362 rfl (lv_at hl 6 rfl) ?_
                      refine lv_iload hx hb dX4_deliver_363 (lv_at hl 0 rfl) ?_
                      refine lv_iconst (v := nI 1) hx hb dX4_deliver_365 (by decide) ?_
                      refine lv_iadd hx hb dX4_deliver_366 ?_
                      refine qtop (y := numC T c) (num_b c_336_1) ?_
                      refine q_iast (ws' := (wMc o k (fun j => R j 0) (fun j => R j 1) (fun j => R j 2) (fun j => T j 0) (fun j => T j 1) (fun j => T j 2) (fun j => T j 3) (upd an c (nI (a ||| 2 ^ r))) (fun j => T j 5) (fun j => T j 6) (upd (fun j => T j 7) c (numC T c)) (drp f n i) g (cnF R 5) (n - 1) d)) hx hb hK hP hD hS (11) 10 (j := c) rfl rfl lt_c (Nat.le_of_ble_eq_true rfl) rfl dX4_deliver_367 (fun H locs hP hD hS => ?_)
                      refine lv_aload_n hx hb dX4_deliver_368 rfl (lv_at hl 8 rfl) ?_
                      refine va_get (D := (dC, dI)) (ci := 4) (v := .ref (o 9)) (C := RX4) (T := TX4) (N := 16) hx hb hts inX4_deliver_X4 hown hK hP (0) rfl rfl 9 (by decide) (hts _ lkX4_deliver_35) (fun _ h9 => h9) rfl dX4_deliver_369 ?_
                      refine lv_iload_n hx hb dX4_deliver_372 rfl (lv_at hl 6 rfl) ?_
                      refine lv_iconst (v := nI 4) hx hb dX4_deliver_373 (by decide) ?_
                      refine lv_aload_n hx hb dX4_deliver_374 rfl (lv_at hl 8 rfl) ?_
                      refine va_get (D := (dC, dI)) (ci := 4) (v := .ref (o 11)) (C := RX4) (T := TX4) (N := 16) hx hb hts inX4_deliver_X4 hown hK hP (0) rfl rfl 11 (by decide) (hts _ lkX4_deliver_41) (fun _ h9 => h9) rfl dX4_deliver_375 ?_
                      refine lv_iload_n hx hb dX4_deliver_378 rfl (lv_at hl 6 rfl) ?_
                      refine q_iald hx hb hK hP (11) 10 (j := c) rfl rfl lt_c (Nat.le_of_ble_eq_true rfl) dX4_deliver_379 ?_
                      refine qtop (y := numC T c) pk_us ?_
                      refine lv_imul hx hb dX4_deliver_380 ?_
                      refine lv_iload_n hx hb dX4_deliver_381 rfl (lv_at hl 6 rfl) ?_
                      refine lv_iadd hx hb dX4_deliver_382 ?_
                      refine q_iast (ws' := (wMc o k (fun j => R j 0) (fun j => R j 1) (fun j => R j 2) (fun j => T j 0) (fun j => T j 1) (fun j => T j 2) (fun j => T j 3) (upd an c (nI (a ||| 2 ^ r))) (upd (fun j => T j 5) c (((nI 4) * (numC T c)) + (nI c))) (fun j => T j 6) (upd (fun j => T j 7) c (numC T c)) (drp f n i) g (cnF R 5) (n - 1) d)) hx hb hK hP hD hS (9) 8 (j := c) rfl rfl lt_c (Nat.le_of_ble_eq_true rfl) rfl dX4_deliver_383 (fun H locs hP hD hS => ?_)
                      refine lv_aload_n hx hb dX4_deliver_384 rfl (lv_at hl 8 rfl) ?_
                      refine va_get (D := (dC, dI)) (ci := 4) (v := .ref (o 10)) (C := RX4) (T := TX4) (N := 16) hx hb hts inX4_deliver_X4 hown hK hP (0) rfl rfl 10 (by decide) (hts _ lkX4_deliver_38) (fun _ h9 => h9) rfl dX4_deliver_385 ?_
                      refine lv_iload_n hx hb dX4_deliver_388 rfl (lv_at hl 6 rfl) ?_
                      refine lv_aload_n hx hb dX4_deliver_389 rfl (lv_at hl 8 rfl) ?_
                      refine va_get (D := (dC, dI)) (ci := 4) (v := .ref (o 7)) (C := RX4) (T := TX4) (N := 16) hx hb hts inX4_deliver_X4 hown hK hP (0) rfl rfl 7 (by decide) (hts _ lkX4_deliver_29) (fun _ h9 => h9) rfl dX4_deliver_390 ?_
                      refine lv_iload_n hx hb dX4_deliver_393 rfl (lv_at hl 6 rfl) ?_
                      refine q_iald hx hb hK hP (7) 6 (j := c) rfl rfl lt_c (Nat.le_of_ble_eq_true rfl) dX4_deliver_394 ?_
                      refine q_iast (ws' := (wMc o k (fun j => R j 0) (fun j => R j 1) (fun j => R j 2) (fun j => T j 0) (fun j => T j 1) (fun j => T j 2) (fun j => T j 3) (upd an c (nI (a ||| 2 ^ r))) (upd (fun j => T j 5) c (((nI 4) * (numC T c)) + (nI c))) (upd (fun j => T j 6) c (T c 3)) (upd (fun j => T j 7) c (numC T c)) (drp f n i) g (cnF R 5) (n - 1) d)) hx hb hK hP hD hS (10) 9 (j := c) rfl rfl lt_c (Nat.le_of_ble_eq_true rfl) rfl dX4_deliver_395 (fun H locs hP hD hS => ?_)
                      have e_W : (wMc o k (fun j => R j 0) (fun j => R j 1) (fun j => R j 2) (fun j => T j 0) (fun j => T j 1) (fun j => T j 2) (fun j => T j 3) (upd an c (nI (a ||| 2 ^ r))) (upd (fun j => T j 5) c (((nI 4) * (numC T c)) + (nI c))) (upd (fun j => T j 6) c (T c 3)) (upd (fun j => T j 7) c (numC T c)) (drp f n i) g (cnF R 5) (n - 1) d) = (wMc o k (fun j => R j 0) (fun j => R j 1) (fun j => R j 2) (fun j => (wriC T c) j 0) (fun j => (wriC T c) j 1) (fun j => (wriC T c) j 2) (fun j => (wriC T c) j 3) (upd an c (nI (a ||| 2 ^ r))) (fun j => (wriC T c) j 5) (fun j => (wriC T c) j 6) (fun j => (wriC T c) j 7) (drp f n i) g (cnF R 5) (n - 1) d) := (wM_of (fun _ => rfl) (fun _ => rfl) (fun _ => rfl) (fun q => by simp [upd, wriC, up2]) (fun q => by simp [upd, wriC, up2]) (fun q => by simp [upd, wriC, up2]) (fun q => by simp [upd, wriC, up2]) (fun q => by simp [upd, wriC, up2]) (fun q => by simp [upd, wriC, up2]) (fun q => by simp [upd, wriC, up2]))
                      have hP : va_P (dC, dI) vwCl (wMc o k (fun j => R j 0) (fun j => R j 1) (fun j => R j 2) (fun j => (wriC T c) j 0) (fun j => (wriC T c) j 1) (fun j => (wriC T c) j 2) (fun j => (wriC T c) j 3) (upd an c (nI (a ||| 2 ^ r))) (fun j => (wriC T c) j 5) (fun j => (wriC T c) j 6) (fun j => (wriC T c) j 7) (drp f n i) g (cnF R 5) (n - 1) d) H := va_Pe e_W hP
                      have hD : va_D A (wMc o k (fun j => R j 0) (fun j => R j 1) (fun j => R j 2) (fun j => (wriC T c) j 0) (fun j => (wriC T c) j 1) (fun j => (wriC T c) j 2) (fun j => (wriC T c) j 3) (upd an c (nI (a ||| 2 ^ r))) (fun j => (wriC T c) j 5) (fun j => (wriC T c) j 6) (fun j => (wriC T c) j 7) (drp f n i) g (cnF R 5) (n - 1) d) := va_De e_W hD
                      clear e_W
                      refine lv_aload_n hx hb dX4_deliver_396 rfl (lv_at hl 8 rfl) ?_
                      refine va_get (D := (dC, dI)) (ci := 4) (v := .ref (o 4)) (C := RX4) (T := TX4) (N := 16) hx hb hts inX4_deliver_X4 hown hK hP (0) rfl rfl 4 (by decide) (hts _ lkX4_deliver_20) (fun _ h9 => h9) rfl dX4_deliver_397 ?_
                      refine lv_iload_n hx hb dX4_deliver_400 rfl (lv_at hl 6 rfl) ?_
                      refine lv_iconst (v := nI 2) hx hb dX4_deliver_401 (by decide) ?_
                      refine q_iast (ws' := (wMc o k (fun j => R j 0) (fun j => R j 1) (fun j => R j 2) (upd (fun j => (wriC T c) j 0) c (nI 2)) (fun j => (wriC T c) j 1) (fun j => (wriC T c) j 2) (fun j => (wriC T c) j 3) (upd an c (nI (a ||| 2 ^ r))) (fun j => (wriC T c) j 5) (fun j => (wriC T c) j 6) (fun j => (wriC T c) j 7) (drp f n i) g (cnF R 5) (n - 1) d)) hx hb hK hP hD hS (4) 3 (j := c) rfl rfl lt_c (Nat.le_of_ble_eq_true rfl) rfl dX4_deliver_402 (fun H locs hP hD hS => ?_)
                      refine lv_aload_n hx hb dX4_deliver_403 rfl (lv_at hl 8 rfl) ?_
                      refine va_get (D := (dC, dI)) (ci := 4) (v := .ref (o 8)) (C := RX4) (T := TX4) (N := 16) hx hb hts inX4_deliver_X4 hown hK hP (0) rfl rfl 8 (by decide) (hts _ lkX4_deliver_32) (fun _ h9 => h9) rfl dX4_deliver_404 ?_
                      refine lv_iload_n hx hb dX4_deliver_407 rfl (lv_at hl 6 rfl) ?_
                      refine lv_iconst (v := nI 0) hx hb dX4_deliver_408 (by decide) ?_
                      refine q_iast (ws' := (wMc o k (fun j => R j 0) (fun j => R j 1) (fun j => R j 2) (upd (fun j => (wriC T c) j 0) c (nI 2)) (fun j => (wriC T c) j 1) (fun j => (wriC T c) j 2) (fun j => (wriC T c) j 3) (upd (upd an c (nI (a ||| 2 ^ r))) c (nI 0)) (fun j => (wriC T c) j 5) (fun j => (wriC T c) j 6) (fun j => (wriC T c) j 7) (drp f n i) g (cnF R 5) (n - 1) d)) hx hb hK hP hD hS (8) 7 (j := c) rfl rfl lt_c (Nat.le_of_ble_eq_true rfl) rfl dX4_deliver_409 (fun H locs hP hD hS => ?_)
                      have e_W : (wMc o k (fun j => R j 0) (fun j => R j 1) (fun j => R j 2) (upd (fun j => (wriC T c) j 0) c (nI 2)) (fun j => (wriC T c) j 1) (fun j => (wriC T c) j 2) (fun j => (wriC T c) j 3) (upd (upd an c (nI (a ||| 2 ^ r))) c (nI 0)) (fun j => (wriC T c) j 5) (fun j => (wriC T c) j 6) (fun j => (wriC T c) j 7) (drp f n i) g (cnF R 5) (n - 1) d) = (wMc o k (fun j => R j 0) (fun j => R j 1) (fun j => R j 2) (fun j => (stoC T c) j 0) (fun j => (stoC T c) j 1) (fun j => (stoC T c) j 2) (fun j => (stoC T c) j 3) (upd (upd an c (nI (a ||| 2 ^ r))) c (nI 0)) (fun j => (stoC T c) j 5) (fun j => (stoC T c) j 6) (fun j => (stoC T c) j 7) (drp f n i) g (cnF R 5) (n - 1) d) := (by rw [sto_b c_319_1]; exact (wM_of (fun _ => rfl) (fun _ => rfl) (fun _ => rfl) (fun q => by simp [upd, up2]) (fun q => by simp [upd, up2]) (fun q => by simp [upd, up2]) (fun q => by simp [upd, up2]) (fun q => by simp [upd, up2]) (fun q => by simp [upd, up2]) (fun q => by simp [upd, up2])))
                      have hP : va_P (dC, dI) vwCl (wMc o k (fun j => R j 0) (fun j => R j 1) (fun j => R j 2) (fun j => (stoC T c) j 0) (fun j => (stoC T c) j 1) (fun j => (stoC T c) j 2) (fun j => (stoC T c) j 3) (upd (upd an c (nI (a ||| 2 ^ r))) c (nI 0)) (fun j => (stoC T c) j 5) (fun j => (stoC T c) j 6) (fun j => (stoC T c) j 7) (drp f n i) g (cnF R 5) (n - 1) d) H := va_Pe e_W hP
                      have hD : va_D A (wMc o k (fun j => R j 0) (fun j => R j 1) (fun j => R j 2) (fun j => (stoC T c) j 0) (fun j => (stoC T c) j 1) (fun j => (stoC T c) j 2) (fun j => (stoC T c) j 3) (upd (upd an c (nI (a ||| 2 ^ r))) c (nI 0)) (fun j => (stoC T c) j 5) (fun j => (stoC T c) j 6) (fun j => (stoC T c) j 7) (drp f n i) g (cnF R 5) (n - 1) d) := va_De e_W hD
                      clear e_W
                      refine lv_aload_n hx hb dX4_deliver_410 rfl (lv_at hl 8 rfl) ?_
                      refine lv_iconst (v := nI 2) hx hb dX4_deliver_411 (by decide) ?_
                      refine lv_iload_n hx hb dX4_deliver_412 rfl (lv_at hl 6 rfl) ?_
                      refine lv_aload_n hx hb dX4_deliver_413 rfl (lv_at hl 8 rfl) ?_
                      refine va_get (D := (dC, dI)) (ci := 4) (v := .ref (o 9)) (C := RX4) (T := TX4) (N := 16) hx hb hts inX4_deliver_X4 hown hK hP (0) rfl rfl 9 (by decide) (hts _ lkX4_deliver_35) (fun _ h9 => h9) rfl dX4_deliver_414 ?_
                      refine lv_iload_n hx hb dX4_deliver_417 rfl (lv_at hl 6 rfl) ?_
                      refine q_iald hx hb hK hP (9) 8 (j := c) rfl rfl lt_c (Nat.le_of_ble_eq_true rfl) dX4_deliver_418 ?_
                      refine lv_aload_n hx hb dX4_deliver_419 rfl (lv_at hl 8 rfl) ?_
                      refine va_get (D := (dC, dI)) (ci := 4) (v := .ref (o 10)) (C := RX4) (T := TX4) (N := 16) hx hb hts inX4_deliver_X4 hown hK hP (0) rfl rfl 10 (by decide) (hts _ lkX4_deliver_38) (fun _ h9 => h9) rfl dX4_deliver_420 ?_
                      refine lv_iload_n hx hb dX4_deliver_423 rfl (lv_at hl 6 rfl) ?_
                      refine q_iald hx hb hK hP (10) 9 (j := c) rfl rfl lt_c (Nat.le_of_ble_eq_true rfl) dX4_deliver_424 ?_
                      refine goV (ws := (wMc o k (fun j => R j 0) (fun j => R j 1) (fun j => R j 2) (fun j => (stoC T c) j 0) (fun j => (stoC T c) j 1) (fun j => (stoC T c) j 2) (fun j => (stoC T c) j 3) (upd (upd an c (nI (a ||| 2 ^ r))) c (nI 0)) (fun j => (stoC T c) j 5) (fun j => (stoC T c) j 6) (fun j => (stoC T c) j 7) (drp f n i) g (cnF R 5) (n - 1) d)) (ws' := (wMc o k (fun j => R j 0) (fun j => R j 1) (fun j => R j 2) (fun j => (stoC T c) j 0) (fun j => (stoC T c) j 1) (fun j => (stoC T c) j 2) (fun j => (stoC T c) j 3) (upd (upd an c (nI (a ||| 2 ^ r))) c (nI 0)) (fun j => (stoC T c) j 5) (fun j => (stoC T c) j 6) (fun j => (stoC T c) j 7) (sndN (nI 2) (nI c) ((stoC T c) c 1) ((stoC T c) c 5) ((stoC T c) c 6) (drp f n i) (n - 1) 5) g (cnF R 5) ((n - 1) + 5) d)) (qFit_all rfl) hP hD hS hA (va_runV (rm := ({ frames := 1, cells := 0, slots := 0, locals := 27 } : Room)) (As := [.int (nI 2), .int (nI c), .int ((stoC T c) c 5), .int ((stoC T c) c 6)]) (rest := []) ⟨hx, hb, hml, hown, hts⟩ (MetV.at (k_X4_sendAll l dC dI o k (fun j => R j 0) (fun j => R j 1) (fun j => R j 2) (fun j => (stoC T c) j 0) (fun j => (stoC T c) j 1) (fun j => (stoC T c) j 2) (fun j => (stoC T c) j 3) (upd (upd an c (nI (a ||| 2 ^ r))) c (nI 0)) (fun j => (stoC T c) j 5) (fun j => (stoC T c) j 6) (fun j => (stoC T c) j 7) (drp f n i) g (cnF R 5) (n - 1) d (by omega) c lt_c (nI 2) ((stoC T c) c 5) ((stoC T c) c 6)) H.size) (cwV 4 hts gX4_deliver_X4_sendAll rfl rfl rfl (by decide +kernel) ⟨Nat.le_of_ble_eq_true rfl, Nat.le_of_ble_eq_true rfl⟩) (preWV hK hP hD (va_recv hK hP (ci := 4) (q0 := 0) rfl rfl)) rfl rfl hl.1 rfl (lv_room (Nat.le_of_ble_eq_true rfl)) dX4_deliver_425 ⟨Nat.le_of_ble_eq_true rfl, Nat.le_of_ble_eq_true rfl⟩) (fun H locs hP hD hS => ?_)
                      rw [stoC1] at hP
                      refine lv_goto (tgt := 528) hx hb dX4_deliver_428 (by decide) ?_
                      refine lv_aload_n hx hb dX4_deliver_528 rfl (lv_at hl 8 rfl) ?_
                      refine va_get (D := (dC, dI)) (ci := 4) (v := .int (nI ((n - 1) + 5))) (C := RX4) (T := TX4) (N := 16) hx hb hts inX4_deliver_X4 hown hK hP (0) rfl rfl 13 (by decide) (hts _ lkX4_deliver_50) (fun _ h9 => h9) rfl dX4_deliver_529 ?_
                      refine lv_iload hx hb dX4_deliver_532 (lv_at hl 1 rfl) ?_
                      refine lv_isub hx hb dX4_deliver_534 ?_
                      exact retJ hx hb hr hlk dX4_deliver_535 hS (upd (upd an c (nI (a ||| 2 ^ r))) c (nI 0)) (by rw [e_d]; show va_P _ _ (wM o k R (stoC T c) (upd (upd an c (nI (a ||| 2 ^ r))) c (nI 0)) (n - 1 + 5) (sndN (nI 2) (nI c) (T c 1) (stoC T c c 5) (stoC T c c 6) (drp f n i) (n - 1) 5) d g (cnF R 5)) _; exact hP) (st_u hAn e_d n_T) (by rw [dl_v (σ := (R, C, n, f, d, g)) lt_i (show n < 2 ^ 31 by omega) e_d]; rfl)
                · refine lv_iconst (v := nI 0) hx hb dX4_deliver_306 (by decide) ?_
                  rw [if_neg (fun w => c_303_1 (nI_le w (by have := bits_le (a ||| 2 ^ r); omega)))] at e_d
                  exact retJ hx hb hr hlk dX4_deliver_307 hS (upd an c (nI (a ||| 2 ^ r))) (by rw [e_d]; exact hP) (nq_u hAn e_d e_T4 n_T) (by rw [dl_v (σ := (R, C, n, f, d, g)) lt_i (show n < 2 ^ 31 by omega) e_d]; exact (sub_0 (n - 1)).symm)
            · refine lv_iconst (v := nI 0) hx hb dX4_deliver_242 (by decide) ?_
              have e_d : dlS (R, C, n, f, d, g) (nI i) = (R, C, n - 1, drp f n i, d, g) := e_d.trans (tel_no (fun z => absurd z.2.2 (by show ¬ C c 4 &&& (nI 1 <<< (nI r &&& 31)) = 0; rw [e_a]; exact (shr_bit a lt_a r lt_r).mp c_239_1)))
              exact retJ hx hb hr hlk dX4_deliver_243 hS (an) (by rw [e_d]; exact hP) (by rw [e_d]; exact hAn) (by rw [dl_v (σ := (R, C, n, f, d, g)) lt_i (show n < 2 ^ 31 by omega) e_d]; exact (sub_0 (n - 1)).symm)
      · by_cases h_2 : f (i * 6 + 0) = nI 2
        · have e_d : dlS (R, C, n, f, d, g) (nI i) = stStr (R, C, n - 1, drp f n i, d, g) c r (f (i * 6 + 3)) (f (i * 6 + 4)) (f (i * 6 + 5)) := (dlS_at (R := R) (C := C) (d := d) (g := g) lt_i (by omega) lt_c lt_r e_c e_r).trans (dlM_2 h_2)
          have hl : lv_has ls 10 [(8, .int (nI (n - 1))), (7, .int (f ((i * 6) + 5))), (6, .int (f ((i * 6) + 4))), (5, .int (f ((i * 6) + 3))), (4, .int (nI r)), (3, .int (nI c)), (2, .int (nI 2)), (0, .ref (o 0)), (1, .int (nI i))] := by rw [show f (i * 6) = nI 2 from h_2] at hl; exact hl
          refine lv_iload_n hx hb dX4_deliver_101 rfl (lv_at hl 6 rfl) ?_
          refine lv_if_eq (tgt := 110) hx hb dX4_deliver_102 (by decide) (fun c9 => absurd c9 (by decide +kernel)) (fun _ => ?_)
          refine lv_iload_n hx hb dX4_deliver_105 rfl (lv_at hl 6 rfl) ?_
          refine lv_iconst (v := nI 2) hx hb dX4_deliver_106 (by decide) ?_
          refine lv_icmp_ne (tgt := 197) hx hb dX4_deliver_107 (by decide) (fun c9 => absurd (by decide +kernel) c9) (fun _ => ?_)
          refine lv_aload_n hx hb dX4_deliver_110 rfl (lv_at hl 7 rfl) ?_
          refine va_get (D := (dC, dI)) (ci := 4) (v := .ref (o 3)) (C := RX4) (T := TX4) (N := 16) hx hb hts inX4_deliver_X4 hown hK hP (0) rfl rfl 2 (by decide) (hts _ lkX4_deliver_16) (fun _ h9 => h9) rfl dX4_deliver_111 ?_
          refine lv_iload hx hb dX4_deliver_114 (lv_at hl 4 rfl) ?_
          refine q_zald hx hb hK hP (3) 2 (j := r) rfl rfl lt_r (Nat.le_of_ble_eq_true rfl) dX4_deliver_116 ?_
          refine lv_if_eq (tgt := 122) hx hb dX4_deliver_117 (by decide) (fun c_117_2 => ?_) (fun c_117_2 => ?_)
          · refine lv_iload_n hx hb dX4_deliver_122 rfl (lv_at hl 6 rfl) ?_
            refine lv_if_ne (tgt := 153) hx hb dX4_deliver_123 (by decide) (fun _ => ?_) (fun c9 => absurd c9 (by decide +kernel))
            refine lv_iload hx hb dX4_deliver_153 (lv_at hl 2 rfl) ?_
            refine lv_aload_n hx hb dX4_deliver_155 rfl (lv_at hl 7 rfl) ?_
            refine va_get (D := (dC, dI)) (ci := 4) (v := .ref (o 1)) (C := RX4) (T := TX4) (N := 16) hx hb hts inX4_deliver_X4 hown hK hP (0) rfl rfl 0 (by decide) (hts _ lkX4_deliver_7) (fun _ h9 => h9) rfl dX4_deliver_156 ?_
            refine lv_iload hx hb dX4_deliver_159 (lv_at hl 4 rfl) ?_
            refine q_iald hx hb hK hP (1) 0 (j := r) rfl rfl lt_r (Nat.le_of_ble_eq_true rfl) dX4_deliver_161 ?_
            refine lv_icmp_le (tgt := 183) hx hb dX4_deliver_162 (by decide) (fun c_162_2 => ?_) (fun c_162_2 => ?_)
            · refine lv_aload_n hx hb dX4_deliver_183 rfl (lv_at hl 7 rfl) ?_
              refine lv_iconst (v := nI 3) hx hb dX4_deliver_184 (by decide) ?_
              refine lv_iload_n hx hb dX4_deliver_185 rfl (lv_at hl 5 rfl) ?_
              refine lv_iload hx hb dX4_deliver_186 (lv_at hl 4 rfl) ?_
              refine lv_iload hx hb dX4_deliver_188 (lv_at hl 3 rfl) ?_
              refine lv_iconst (v := nI 0) hx hb dX4_deliver_190 (by decide) ?_
              refine lv_iconst (v := nI 0) hx hb dX4_deliver_191 (by decide) ?_
              refine goV (ws := (wMc o k (fun j => R j 0) (fun j => R j 1) (fun j => R j 2) (fun j => C j 0) (fun j => C j 1) (fun j => C j 2) (fun j => C j 3) an (fun j => C j 5) (fun j => C j 6) (fun j => C j 7) (drp f n i) g (cnF R 5) (n - 1) d)) (ws' := (wMc o k (fun j => R j 0) (fun j => R j 1) (fun j => R j 2) (fun j => C j 0) (fun j => C j 1) (fun j => C j 2) (fun j => C j 3) an (fun j => C j 5) (fun j => C j 6) (fun j => C j 7) (snd6 (drp f n i) (n - 1) (nI 3) (nI c) (nI r) (f ((i * 6) + 3)) (nI 0) (nI 0)) g (cnF R 5) ((n - 1) + 1) d)) (qFit_all rfl) hP hD hS hA (va_runV (rm := ({ frames := 0, cells := 0, slots := 0, locals := 0 } : Room)) (As := [.int (nI 3), .int (nI c), .int (nI r), .int (f ((i * 6) + 3)), .int (nI 0), .int (nI 0)]) (rest := []) ⟨hx, hb, hml, hown, hts⟩ (MetV.at (k_X4_send l dC dI o k (fun j => R j 0) (fun j => R j 1) (fun j => R j 2) (fun j => C j 0) (fun j => C j 1) (fun j => C j 2) (fun j => C j 3) an (fun j => C j 5) (fun j => C j 6) (fun j => C j 7) (drp f n i) g (cnF R 5) (n - 1) d (by omega) (nI 3) (nI c) (nI r) (f ((i * 6) + 3)) (nI 0) (nI 0)) H.size) (cwV 6 hts gX4_deliver_X4_send rfl rfl rfl (by decide +kernel) ⟨Nat.le_of_ble_eq_true rfl, Nat.le_of_ble_eq_true rfl⟩) (preWV hK hP hD (va_recv hK hP (ci := 4) (q0 := 0) rfl rfl)) rfl rfl hl.1 rfl (lv_room (Nat.le_of_ble_eq_true rfl)) dX4_deliver_192 ⟨Nat.le_of_ble_eq_true rfl, Nat.le_of_ble_eq_true rfl⟩) (fun H locs hP hD hS => ?_)
              refine lv_iconst (v := nI 1) hx hb dX4_deliver_195 (by decide) ?_
              have e_d : dlS (R, C, n, f, d, g) (nI i) = (if (f (i * 6 + 4)) ≤ R r 0 then R else up2 (up2 R r 0 (f (i * 6 + 4))) r 1 (f (i * 6 + 5)), C, n - 1 + 1, snd6 (drp f n i) (n - 1) (nI 3) (nI c) (nI r) (f (i * 6 + 3)) (nI 0) (nI 0), d, g) := e_d.trans (if_pos c_117_2)
              rw [if_pos c_162_2] at e_d
              exact retJ hx hb hr hlk dX4_deliver_196 hS (an) (by rw [e_d]; exact hP) (by rw [e_d]; exact hAn) (by rw [dl_v (σ := (R, C, n, f, d, g)) lt_i (show n < 2 ^ 31 by omega) e_d]; exact (sub_1 (n - 1)).symm)
            · refine lv_aload_n hx hb dX4_deliver_165 rfl (lv_at hl 7 rfl) ?_
              refine va_get (D := (dC, dI)) (ci := 4) (v := .ref (o 1)) (C := RX4) (T := TX4) (N := 16) hx hb hts inX4_deliver_X4 hown hK hP (0) rfl rfl 0 (by decide) (hts _ lkX4_deliver_7) (fun _ h9 => h9) rfl dX4_deliver_166 ?_
              refine lv_iload hx hb dX4_deliver_169 (lv_at hl 4 rfl) ?_
              refine lv_iload hx hb dX4_deliver_171 (lv_at hl 2 rfl) ?_
              refine q_iast (ws' := (wMc o k (upd (fun j => R j 0) r (f ((i * 6) + 4))) (fun j => R j 1) (fun j => R j 2) (fun j => C j 0) (fun j => C j 1) (fun j => C j 2) (fun j => C j 3) an (fun j => C j 5) (fun j => C j 6) (fun j => C j 7) (drp f n i) g (cnF R 5) (n - 1) d)) hx hb hK hP hD hS (1) 0 (j := r) rfl rfl lt_r (Nat.le_of_ble_eq_true rfl) rfl dX4_deliver_173 (fun H locs hP hD hS => ?_)
              refine lv_aload_n hx hb dX4_deliver_174 rfl (lv_at hl 7 rfl) ?_
              refine va_get (D := (dC, dI)) (ci := 4) (v := .ref (o 2)) (C := RX4) (T := TX4) (N := 16) hx hb hts inX4_deliver_X4 hown hK hP (0) rfl rfl 1 (by decide) (hts _ lkX4_deliver_13) (fun _ h9 => h9) rfl dX4_deliver_175 ?_
              refine lv_iload hx hb dX4_deliver_178 (lv_at hl 4 rfl) ?_
              refine lv_iload hx hb dX4_deliver_180 (lv_at hl 1 rfl) ?_
              refine q_iast (ws' := (wMc o k (upd (fun j => R j 0) r (f ((i * 6) + 4))) (upd (fun j => R j 1) r (f ((i * 6) + 5))) (fun j => R j 2) (fun j => C j 0) (fun j => C j 1) (fun j => C j 2) (fun j => C j 3) an (fun j => C j 5) (fun j => C j 6) (fun j => C j 7) (drp f n i) g (cnF R 5) (n - 1) d)) hx hb hK hP hD hS (2) 1 (j := r) rfl rfl lt_r (Nat.le_of_ble_eq_true rfl) rfl dX4_deliver_182 (fun H locs hP hD hS => ?_)
              refine lv_aload_n hx hb dX4_deliver_183 rfl (lv_at hl 7 rfl) ?_
              refine lv_iconst (v := nI 3) hx hb dX4_deliver_184 (by decide) ?_
              refine lv_iload_n hx hb dX4_deliver_185 rfl (lv_at hl 5 rfl) ?_
              refine lv_iload hx hb dX4_deliver_186 (lv_at hl 4 rfl) ?_
              refine lv_iload hx hb dX4_deliver_188 (lv_at hl 3 rfl) ?_
              refine lv_iconst (v := nI 0) hx hb dX4_deliver_190 (by decide) ?_
              refine lv_iconst (v := nI 0) hx hb dX4_deliver_191 (by decide) ?_
              refine goV (ws := (wMc o k (upd (fun j => R j 0) r (f ((i * 6) + 4))) (upd (fun j => R j 1) r (f ((i * 6) + 5))) (fun j => R j 2) (fun j => C j 0) (fun j => C j 1) (fun j => C j 2) (fun j => C j 3) an (fun j => C j 5) (fun j => C j 6) (fun j => C j 7) (drp f n i) g (cnF R 5) (n - 1) d)) (ws' := (wMc o k (upd (fun j => R j 0) r (f ((i * 6) + 4))) (upd (fun j => R j 1) r (f ((i * 6) + 5))) (fun j => R j 2) (fun j => C j 0) (fun j => C j 1) (fun j => C j 2) (fun j => C j 3) an (fun j => C j 5) (fun j => C j 6) (fun j => C j 7) (snd6 (drp f n i) (n - 1) (nI 3) (nI c) (nI r) (f ((i * 6) + 3)) (nI 0) (nI 0)) g (cnF R 5) ((n - 1) + 1) d)) (qFit_all rfl) hP hD hS hA (va_runV (rm := ({ frames := 0, cells := 0, slots := 0, locals := 0 } : Room)) (As := [.int (nI 3), .int (nI c), .int (nI r), .int (f ((i * 6) + 3)), .int (nI 0), .int (nI 0)]) (rest := []) ⟨hx, hb, hml, hown, hts⟩ (MetV.at (k_X4_send l dC dI o k (upd (fun j => R j 0) r (f ((i * 6) + 4))) (upd (fun j => R j 1) r (f ((i * 6) + 5))) (fun j => R j 2) (fun j => C j 0) (fun j => C j 1) (fun j => C j 2) (fun j => C j 3) an (fun j => C j 5) (fun j => C j 6) (fun j => C j 7) (drp f n i) g (cnF R 5) (n - 1) d (by omega) (nI 3) (nI c) (nI r) (f ((i * 6) + 3)) (nI 0) (nI 0)) H.size) (cwV 6 hts gX4_deliver_X4_send rfl rfl rfl (by decide +kernel) ⟨Nat.le_of_ble_eq_true rfl, Nat.le_of_ble_eq_true rfl⟩) (preWV hK hP hD (va_recv hK hP (ci := 4) (q0 := 0) rfl rfl)) rfl rfl hl.1 rfl (lv_room (Nat.le_of_ble_eq_true rfl)) dX4_deliver_192 ⟨Nat.le_of_ble_eq_true rfl, Nat.le_of_ble_eq_true rfl⟩) (fun H locs hP hD hS => ?_)
              refine lv_iconst (v := nI 1) hx hb dX4_deliver_195 (by decide) ?_
              have e_d : dlS (R, C, n, f, d, g) (nI i) = (if (f (i * 6 + 4)) ≤ R r 0 then R else up2 (up2 R r 0 (f (i * 6 + 4))) r 1 (f (i * 6 + 5)), C, n - 1 + 1, snd6 (drp f n i) (n - 1) (nI 3) (nI c) (nI r) (f (i * 6 + 3)) (nI 0) (nI 0), d, g) := e_d.trans (if_pos c_117_2)
              rw [if_neg c_162_2] at e_d
              exact retJ hx hb hr hlk dX4_deliver_196 hS (an) (by rw [e_d]; show va_P _ _ (wM o k (up2 (up2 R r 0 (f (i * 6 + 4))) r 1 (f (i * 6 + 5))) C an (n - 1 + 1) (snd6 (drp f n i) (n - 1) (nI 3) (nI c) (nI r) (f (i * 6 + 3)) (nI 0) (nI 0)) d g (cnF (up2 (up2 R r 0 (f (i * 6 + 4))) r 1 (f (i * 6 + 5))) 5)) _; rw [cnF_01]; exact va_Pe (wM_of (fun q => by simp [upd, up2]) (fun q => by simp [upd, up2]) (fun q => by simp [up2]) (fun _ => rfl) (fun _ => rfl) (fun _ => rfl) (fun _ => rfl) (fun _ => rfl) (fun _ => rfl) (fun _ => rfl)) hP) (by rw [e_d]; exact hAn) (by rw [dl_v (σ := (R, C, n, f, d, g)) lt_i (show n < 2 ^ 31 by omega) e_d]; exact (sub_1 (n - 1)).symm)
          · refine lv_iconst (v := nI 0) hx hb dX4_deliver_120 (by decide) ?_
            have e_d : dlS (R, C, n, f, d, g) (nI i) = (R, C, n - 1, drp f n i, d, g) := e_d.trans (str_no c_117_2)
            exact retJ hx hb hr hlk dX4_deliver_121 hS (an) (by rw [e_d]; exact hP) (by rw [e_d]; exact hAn) (by rw [dl_v (σ := (R, C, n, f, d, g)) lt_i (show n < 2 ^ 31 by omega) e_d]; exact (sub_0 (n - 1)).symm)
        · have e_d : dlS (R, C, n, f, d, g) (nI i) = stStd (R, C, n - 1, drp f n i, d, g) c r (f (i * 6 + 3)) := (dlS_at (R := R) (C := C) (d := d) (g := g) lt_i (by omega) lt_c lt_r e_c e_r).trans (dlM_3 h_0 h_1 h_2)
          refine lv_iload_n hx hb dX4_deliver_101 rfl (lv_at hl 6 rfl) ?_
          refine lv_if_eq (tgt := 110) hx hb dX4_deliver_102 (by decide) (fun c_102_3 => ?_) (fun c_102_3 => ?_)
          · exact absurd c_102_3 h_0
          · refine lv_iload_n hx hb dX4_deliver_105 rfl (lv_at hl 6 rfl) ?_
            refine lv_iconst (v := nI 2) hx hb dX4_deliver_106 (by decide) ?_
            refine lv_icmp_ne (tgt := 197) hx hb dX4_deliver_107 (by decide) (fun c_107_3 => ?_) (fun c_107_3 => ?_)
            · refine lv_aload_n hx hb dX4_deliver_197 rfl (lv_at hl 7 rfl) ?_
              refine va_get (D := (dC, dI)) (ci := 4) (v := .ref (o 5)) (C := RX4) (T := TX4) (N := 16) hx hb hts inX4_deliver_X4 hown hK hP (0) rfl rfl 5 (by decide) (hts _ lkX4_deliver_23) (fun _ h9 => h9) rfl dX4_deliver_198 ?_
              refine lv_iload_n hx hb dX4_deliver_201 rfl (lv_at hl 5 rfl) ?_
              refine q_iald hx hb hK hP (5) 4 (j := c) rfl rfl lt_c (Nat.le_of_ble_eq_true rfl) dX4_deliver_202 ?_
              refine lv_iload hx hb dX4_deliver_203 (lv_at hl 3 rfl) ?_
              refine lv_icmp_ne (tgt := 242) hx hb dX4_deliver_205 (by decide) (fun c_205_3 => ?_) (fun c_205_3 => ?_)
              · refine lv_iconst (v := nI 0) hx hb dX4_deliver_242 (by decide) ?_
                have e_d : dlS (R, C, n, f, d, g) (nI i) = (R, C, n - 1, drp f n i, d, g) := e_d.trans (std_no (fun z => c_205_3 z.1))
                exact retJ hx hb hr hlk dX4_deliver_243 hS (an) (by rw [e_d]; exact hP) (by rw [e_d]; exact hAn) (by rw [dl_v (σ := (R, C, n, f, d, g)) lt_i (show n < 2 ^ 31 by omega) e_d]; exact (sub_0 (n - 1)).symm)
              · refine lv_aload_n hx hb dX4_deliver_208 rfl (lv_at hl 7 rfl) ?_
                refine va_get (D := (dC, dI)) (ci := 4) (v := .ref (o 4)) (C := RX4) (T := TX4) (N := 16) hx hb hts inX4_deliver_X4 hown hK hP (0) rfl rfl 4 (by decide) (hts _ lkX4_deliver_20) (fun _ h9 => h9) rfl dX4_deliver_209 ?_
                refine lv_iload_n hx hb dX4_deliver_212 rfl (lv_at hl 5 rfl) ?_
                refine q_iald hx hb hK hP (4) 3 (j := c) rfl rfl lt_c (Nat.le_of_ble_eq_true rfl) dX4_deliver_213 ?_
                refine lv_iload_n hx hb dX4_deliver_214 rfl (lv_at hl 6 rfl) ?_
                refine lv_iconst (v := nI 1) hx hb dX4_deliver_215 (by decide) ?_
                refine lv_icmp_ne (tgt := 223) hx hb dX4_deliver_216 (by decide) (fun c_216_3 => ?_) (fun c_216_3 => ?_)
                · refine lv_iconst (v := nI 2) hx hb dX4_deliver_223 (by decide) ?_
                  refine lv_icmp_ne (tgt := 242) hx hb dX4_deliver_224 (by decide) (fun c_224_3 => ?_) (fun c_224_3 => ?_)
                  · refine lv_iconst (v := nI 0) hx hb dX4_deliver_242 (by decide) ?_
                    have e_d : dlS (R, C, n, f, d, g) (nI i) = (R, C, n - 1, drp f n i, d, g) := e_d.trans (std_no (fun z => c_224_3 z.2.1))
                    exact retJ hx hb hr hlk dX4_deliver_243 hS (an) (by rw [e_d]; exact hP) (by rw [e_d]; exact hAn) (by rw [dl_v (σ := (R, C, n, f, d, g)) lt_i (show n < 2 ^ 31 by omega) e_d]; exact (sub_0 (n - 1)).symm)
                  · have e_n : an c = nI a := (hAn c lt_c (by rw [c_224_3]; decide +kernel)).trans e_a
                    refine lv_aload_n hx hb dX4_deliver_227 rfl (lv_at hl 7 rfl) ?_
                    refine va_get (D := (dC, dI)) (ci := 4) (v := .ref (o 8)) (C := RX4) (T := TX4) (N := 16) hx hb hts inX4_deliver_X4 hown hK hP (0) rfl rfl 8 (by decide) (hts _ lkX4_deliver_32) (fun _ h9 => h9) rfl dX4_deliver_228 ?_
                    refine lv_iload_n hx hb dX4_deliver_231 rfl (lv_at hl 5 rfl) ?_
                    refine q_iald hx hb hK hP (8) 7 (j := c) rfl rfl lt_c (Nat.le_of_ble_eq_true rfl) dX4_deliver_232 ?_
                    refine lv_iload hx hb dX4_deliver_233 (lv_at hl 4 rfl) ?_
                    refine lv_ishr hx hb dX4_deliver_235 ?_
                    refine lv_iconst (v := nI 1) hx hb dX4_deliver_236 (by decide) ?_
                    refine lv_iand hx hb dX4_deliver_237 ?_
                    refine lv_iconst (v := nI 1) hx hb dX4_deliver_238 (by decide) ?_
                    refine W.eq (g2 := F0 m 239 ls [.int (nI 1), .int ((nI a >>> (nI r &&& 31)) &&& nI 1)]) (by rw [e_n]) ?_
                    refine lv_icmp_ne (tgt := 244) hx hb dX4_deliver_239 (by decide) (fun c_239_3 => ?_) (fun c_239_3 => ?_)
                    · refine lv_aload_n hx hb dX4_deliver_244 rfl (lv_at hl 7 rfl) ?_
                      refine va_get (D := (dC, dI)) (ci := 4) (v := .ref (o 8)) (C := RX4) (T := TX4) (N := 16) hx hb hts inX4_deliver_X4 hown hK hP (0) rfl rfl 8 (by decide) (hts _ lkX4_deliver_32) (fun _ h9 => h9) rfl dX4_deliver_245 ?_
                      refine lv_iload_n hx hb dX4_deliver_248 rfl (lv_at hl 5 rfl) ?_
                      refine lv_aload_n hx hb dX4_deliver_249 rfl (lv_at hl 7 rfl) ?_
                      refine va_get (D := (dC, dI)) (ci := 4) (v := .ref (o 8)) (C := RX4) (T := TX4) (N := 16) hx hb hts inX4_deliver_X4 hown hK hP (0) rfl rfl 8 (by decide) (hts _ lkX4_deliver_32) (fun _ h9 => h9) rfl dX4_deliver_250 ?_
                      refine lv_iload_n hx hb dX4_deliver_253 rfl (lv_at hl 5 rfl) ?_
                      refine q_iald hx hb hK hP (8) 7 (j := c) rfl rfl lt_c (Nat.le_of_ble_eq_true rfl) dX4_deliver_254 ?_
                      refine lv_iconst (v := nI 1) hx hb dX4_deliver_255 (by decide) ?_
                      refine lv_iload hx hb dX4_deliver_256 (lv_at hl 4 rfl) ?_
                      refine lv_ishl hx hb dX4_deliver_258 ?_
                      refine lv_ior hx hb dX4_deliver_259 ?_
                      refine qtop (y := nI (a ||| 2 ^ r)) (by rw [e_n]; exact (hear_bits a lt_a r lt_r).1) ?_
                      refine q_iast (ws' := (wMc o k (fun j => R j 0) (fun j => R j 1) (fun j => R j 2) (fun j => C j 0) (fun j => C j 1) (fun j => C j 2) (fun j => C j 3) (upd an c (nI (a ||| 2 ^ r))) (fun j => C j 5) (fun j => C j 6) (fun j => C j 7) (drp f n i) g (cnF R 5) (n - 1) d)) hx hb hK hP hD hS (8) 7 (j := c) rfl rfl lt_c (Nat.le_of_ble_eq_true rfl) rfl dX4_deliver_260 (fun H locs hP hD hS => ?_)
                      refine lv_iload_n hx hb dX4_deliver_261 rfl (lv_at hl 6 rfl) ?_
                      refine lv_iconst (v := nI 1) hx hb dX4_deliver_262 (by decide) ?_
                      refine lv_icmp_ne (tgt := 293) hx hb dX4_deliver_263 (by decide) (fun c_263_3 => ?_) (fun c_263_3 => ?_)
                      · have e_T4 : (heaC C c (nI r)) c 4 = nI (a ||| 2 ^ r) := by rw [heaC4, e_a]; exact (hear_bits a lt_a r lt_r).1
                        have e_W : (wMc o k (fun j => R j 0) (fun j => R j 1) (fun j => R j 2) (fun j => C j 0) (fun j => C j 1) (fun j => C j 2) (fun j => C j 3) (upd an c (nI (a ||| 2 ^ r))) (fun j => C j 5) (fun j => C j 6) (fun j => C j 7) (drp f n i) g (cnF R 5) (n - 1) d) = (wMc o k (fun j => R j 0) (fun j => R j 1) (fun j => R j 2) (fun j => (heaC C c (nI r)) j 0) (fun j => (heaC C c (nI r)) j 1) (fun j => (heaC C c (nI r)) j 2) (fun j => (heaC C c (nI r)) j 3) (upd an c (nI (a ||| 2 ^ r))) (fun j => (heaC C c (nI r)) j 5) (fun j => (heaC C c (nI r)) j 6) (fun j => (heaC C c (nI r)) j 7) (drp f n i) g (cnF R 5) (n - 1) d) := (wM_of (fun _ => rfl) (fun _ => rfl) (fun _ => rfl) (fun q => by simp [upd, heaC, up2]) (fun q => by simp [upd, heaC, up2]) (fun q => by simp [upd, heaC, up2]) (fun q => by simp [upd, heaC, up2]) (fun q => by simp [upd, heaC, up2]) (fun q => by simp [upd, heaC, up2]) (fun q => by simp [upd, heaC, up2]))
                        have hP : va_P (dC, dI) vwCl (wMc o k (fun j => R j 0) (fun j => R j 1) (fun j => R j 2) (fun j => (heaC C c (nI r)) j 0) (fun j => (heaC C c (nI r)) j 1) (fun j => (heaC C c (nI r)) j 2) (fun j => (heaC C c (nI r)) j 3) (upd an c (nI (a ||| 2 ^ r))) (fun j => (heaC C c (nI r)) j 5) (fun j => (heaC C c (nI r)) j 6) (fun j => (heaC C c (nI r)) j 7) (drp f n i) g (cnF R 5) (n - 1) d) H := va_Pe e_W hP
                        have hD : va_D A (wMc o k (fun j => R j 0) (fun j => R j 1) (fun j => R j 2) (fun j => (heaC C c (nI r)) j 0) (fun j => (heaC C c (nI r)) j 1) (fun j => (heaC C c (nI r)) j 2) (fun j => (heaC C c (nI r)) j 3) (upd an c (nI (a ||| 2 ^ r))) (fun j => (heaC C c (nI r)) j 5) (fun j => (heaC C c (nI r)) j 6) (fun j => (heaC C c (nI r)) j 7) (drp f n i) g (cnF R 5) (n - 1) d) := va_De e_W hD
                        have e_A : aw (C c) (nI 2) (nI r) (f (i * 6 + 3)) := ⟨c_205_3, c_224_3, by rw [e_a]; exact Classical.byContradiction (fun z => c_239_3 ((shr_bit a lt_a r lt_r).mpr z))⟩
                        have n_T : ∀ q b, q ≠ c → (heaC C c (nI r)) q b = C q b := fun q b h => heaC_ne h
                        have e_T1 : (heaC C c (nI r)) c 1 = C c 1 := by simp [heaC, up2]
                        have e_d : dlS (R, C, n, f, d, g) (nI i) = (if 3 ≤ bts ((heaC C c (nI r)) c 4) then stFin (R, heaC C c (nI r), n - 1, drp f n i, d, g) c else (R, heaC C c (nI r), n - 1, drp f n i, d, g)) := e_d.trans (if_pos e_A)
                        clear e_W
                        generalize heaC C c (nI r) = T at hP hD e_T4 n_T e_T1 e_d
                        rw [e_T4, bts_nI (hear_bits a lt_a r lt_r).2] at e_d
                        refine lv_aload_n hx hb dX4_deliver_293 rfl (lv_at hl 7 rfl) ?_
                        refine va_get (D := (dC, dI)) (ci := 4) (v := .ref (o 8)) (C := RX4) (T := TX4) (N := 16) hx hb hts inX4_deliver_X4 hown hK hP (0) rfl rfl 8 (by decide) (hts _ lkX4_deliver_32) (fun _ h9 => h9) rfl dX4_deliver_294 ?_
                        refine lv_iload_n hx hb dX4_deliver_297 rfl (lv_at hl 5 rfl) ?_
                        refine q_iald hx hb hK hP (8) 7 (j := c) rfl rfl lt_c (Nat.le_of_ble_eq_true rfl) dX4_deliver_298 ?_
                        refine goS (va_runS (rm := ({ frames := 0, cells := 0, slots := 0, locals := 0 } : Room)) (As := [.int ((upd an c (nI (a ||| 2 ^ r))) c)]) (rest := []) ⟨hx, hb, hml, hown, hts⟩ (MetS.at (k_X4_bits l dC dI ((upd an c (nI (a ||| 2 ^ r))) c))) (va_cwS 1 hts gX4_deliver_X4_bits rfl rfl rfl (by decide +kernel) ⟨Nat.le_of_ble_eq_true rfl, Nat.le_of_ble_eq_true rfl⟩) (preSS (hK.sub [] rfl) va_P0) rfl rfl hl.1 rfl (lv_room (Nat.le_of_ble_eq_true rfl)) dX4_deliver_299 ⟨Nat.le_of_ble_eq_true rfl, Nat.le_of_ble_eq_true rfl⟩) ?_
                        refine qtop (y := nI (bits (a ||| 2 ^ r))) (by rw [pk_us]; exact bitM_bits _ (hear_bits a lt_a r lt_r).2) ?_
                        refine lv_iconst (v := nI 3) hx hb dX4_deliver_302 (by decide) ?_
                        refine lv_icmp_ge (tgt := 308) hx hb dX4_deliver_303 (by decide) (fun c_303_3 => ?_) (fun c_303_3 => ?_)
                        · have h_Q : 3 ≤ bits (a ||| 2 ^ r) := (Nat.lt_or_ge (bits (a ||| 2 ^ r)) 3).elim (fun w => absurd c_303_3 (nI_ge w (by decide))) id
                          rw [if_pos h_Q] at e_d
                          refine lv_iload_n hx hb dX4_deliver_308 rfl (lv_at hl 6 rfl) ?_
                          refine lv_iconst (v := nI 1) hx hb dX4_deliver_309 (by decide) ?_
                          refine lv_icmp_ne (tgt := 431) hx hb dX4_deliver_310 (by decide) (fun c_310_3 => ?_) (fun c_310_3 => ?_)
                          · refine lv_aload_n hx hb dX4_deliver_431 rfl (lv_at hl 7 rfl) ?_
                            refine va_get (D := (dC, dI)) (ci := 4) (v := .ref (o 4)) (C := RX4) (T := TX4) (N := 16) hx hb hts inX4_deliver_X4 hown hK hP (0) rfl rfl 4 (by decide) (hts _ lkX4_deliver_20) (fun _ h9 => h9) rfl dX4_deliver_432 ?_
                            refine lv_iload_n hx hb dX4_deliver_435 rfl (lv_at hl 5 rfl) ?_
                            refine lv_iconst (v := nI 0) hx hb dX4_deliver_436 (by decide) ?_
                            refine q_iast (ws' := (wMc o k (fun j => R j 0) (fun j => R j 1) (fun j => R j 2) (upd (fun j => T j 0) c (nI 0)) (fun j => T j 1) (fun j => T j 2) (fun j => T j 3) (upd an c (nI (a ||| 2 ^ r))) (fun j => T j 5) (fun j => T j 6) (fun j => T j 7) (drp f n i) g (cnF R 5) (n - 1) d)) hx hb hK hP hD hS (4) 3 (j := c) rfl rfl lt_c (Nat.le_of_ble_eq_true rfl) rfl dX4_deliver_437 (fun H locs hP hD hS => ?_)
                            refine lv_iconst (v := nI 5) hx hb dX4_deliver_438 (by decide) ?_
                            refine lv_aload_n hx hb dX4_deliver_439 rfl (lv_at hl 7 rfl) ?_
                            refine va_get (D := (dC, dI)) (ci := 4) (v := .int (nI d)) (C := RX4) (T := TX4) (N := 16) hx hb hts inX4_deliver_X4 hown hK hP (0) rfl rfl 15 (by decide) (hts _ lkX4_deliver_78) (fun _ h9 => h9) rfl dX4_deliver_440 ?_
                            refine lv_imul hx hb dX4_deliver_443 ?_
                            refine qtop (y := nI (d * 5)) (mulc _ _) ?_
                            refine lv_istore (lv' := [(9, .int (nI (d * 5))), (8, .int (nI (n - 1))), (7, .int (f ((i * 6) + 5))), (6, .int (f ((i * 6) + 4))), (5, .int (f ((i * 6) + 3))), (4, .int (nI r)), (3, .int (nI c)), (2, .int (f (i * 6))), (0, .ref (o 0)), (1, .int (nI i))]) hx hb dX4_deliver_444 hl (by decide) rfl (fun ls hl => ?_)
                            refine lv_aload_n hx hb dX4_deliver_446 rfl (lv_at hl 8 rfl) ?_
                            refine va_get (D := (dC, dI)) (ci := 4) (v := .ref (o 13)) (C := RX4) (T := TX4) (N := 16) hx hb hts inX4_deliver_X4 hown hK hP (0) rfl rfl 14 (by decide) (hts _ lkX4_deliver_47) (fun _ h9 => h9) rfl dX4_deliver_447 ?_
                            refine lv_iload hx hb dX4_deliver_450 (lv_at hl 0 rfl) ?_
                            refine lv_iload_n hx hb dX4_deliver_452 rfl (lv_at hl 6 rfl) ?_
                            refine q_iast (ws' := (wMc o k (fun j => R j 0) (fun j => R j 1) (fun j => R j 2) (upd (fun j => T j 0) c (nI 0)) (fun j => T j 1) (fun j => T j 2) (fun j => T j 3) (upd an c (nI (a ||| 2 ^ r))) (fun j => T j 5) (fun j => T j 6) (fun j => T j 7) (drp f n i) (upd g (d * 5) (nI c)) (cnF R 5) (n - 1) d)) hx hb hK hP hD hS (13) 12 (j := d * 5) rfl rfl (by omega) (Nat.le_of_ble_eq_true rfl) rfl dX4_deliver_453 (fun H locs hP hD hS => ?_)
                            refine lv_aload_n hx hb dX4_deliver_454 rfl (lv_at hl 8 rfl) ?_
                            refine va_get (D := (dC, dI)) (ci := 4) (v := .ref (o 13)) (C := RX4) (T := TX4) (N := 16) hx hb hts inX4_deliver_X4 hown hK hP (0) rfl rfl 14 (by decide) (hts _ lkX4_deliver_47) (fun _ h9 => h9) rfl dX4_deliver_455 ?_
                            refine lv_iload hx hb dX4_deliver_458 (lv_at hl 0 rfl) ?_
                            refine lv_iconst (v := nI 1) hx hb dX4_deliver_460 (by decide) ?_
                            refine lv_iadd hx hb dX4_deliver_461 ?_
                            refine qtop (y := nI ((d * 5) + 1)) (nI_add _ _) ?_
                            refine lv_iload hx hb dX4_deliver_462 (lv_at hl 4 rfl) ?_
                            refine q_iast (ws' := (wMc o k (fun j => R j 0) (fun j => R j 1) (fun j => R j 2) (upd (fun j => T j 0) c (nI 0)) (fun j => T j 1) (fun j => T j 2) (fun j => T j 3) (upd an c (nI (a ||| 2 ^ r))) (fun j => T j 5) (fun j => T j 6) (fun j => T j 7) (drp f n i) (upd (upd g (d * 5) (nI c)) ((d * 5) + 1) (f ((i * 6) + 3))) (cnF R 5) (n - 1) d)) hx hb hK hP hD hS (13) 12 (j := (d * 5) + 1) rfl rfl (by omega) (Nat.le_of_ble_eq_true rfl) rfl dX4_deliver_464 (fun H locs hP hD hS => ?_)
                            refine lv_aload_n hx hb dX4_deliver_465 rfl (lv_at hl 8 rfl) ?_
                            refine va_get (D := (dC, dI)) (ci := 4) (v := .ref (o 13)) (C := RX4) (T := TX4) (N := 16) hx hb hts inX4_deliver_X4 hown hK hP (0) rfl rfl 14 (by decide) (hts _ lkX4_deliver_47) (fun _ h9 => h9) rfl dX4_deliver_466 ?_
                            refine lv_iload hx hb dX4_deliver_469 (lv_at hl 0 rfl) ?_
                            refine lv_iconst (v := nI 2) hx hb dX4_deliver_471 (by decide) ?_
                            refine lv_iadd hx hb dX4_deliver_472 ?_
                            refine qtop (y := nI ((d * 5) + 2)) (nI_add _ _) ?_
                            refine lv_aload_n hx hb dX4_deliver_473 rfl (lv_at hl 8 rfl) ?_
                            refine va_get (D := (dC, dI)) (ci := 4) (v := .ref (o 6)) (C := RX4) (T := TX4) (N := 16) hx hb hts inX4_deliver_X4 hown hK hP (0) rfl rfl 6 (by decide) (hts _ lkX4_deliver_26) (fun _ h9 => h9) rfl dX4_deliver_474 ?_
                            refine lv_iload_n hx hb dX4_deliver_477 rfl (lv_at hl 6 rfl) ?_
                            refine q_zald hx hb hK hP (6) 5 (j := c) rfl rfl lt_c (Nat.le_of_ble_eq_true rfl) dX4_deliver_478 ?_
                            refine lv_if_eq (tgt := 486) hx hb dX4_deliver_479 (by decide) (fun c_479_3 => ?_) (fun c_479_3 => ?_)
                            · refine lv_iconst (v := nI 0) hx hb dX4_deliver_486 (by decide) ?_
                              refine q_iast (ws' := (wMc o k (fun j => R j 0) (fun j => R j 1) (fun j => R j 2) (upd (fun j => T j 0) c (nI 0)) (fun j => T j 1) (fun j => T j 2) (fun j => T j 3) (upd an c (nI (a ||| 2 ^ r))) (fun j => T j 5) (fun j => T j 6) (fun j => T j 7) (drp f n i) (upd (upd (upd g (d * 5) (nI c)) ((d * 5) + 1) (f ((i * 6) + 3))) ((d * 5) + 2) (nI 0)) (cnF R 5) (n - 1) d)) hx hb hK hP hD hS (13) 12 (j := (d * 5) + 2) rfl rfl (by omega) (Nat.le_of_ble_eq_true rfl) rfl dX4_deliver_487 (fun H locs hP hD hS => ?_)
                              refine lv_aload_n hx hb dX4_deliver_488 rfl (lv_at hl 8 rfl) ?_
                              refine va_get (D := (dC, dI)) (ci := 4) (v := .ref (o 13)) (C := RX4) (T := TX4) (N := 16) hx hb hts inX4_deliver_X4 hown hK hP (0) rfl rfl 14 (by decide) (hts _ lkX4_deliver_47) (fun _ h9 => h9) rfl dX4_deliver_489 ?_
                              refine lv_iload hx hb dX4_deliver_492 (lv_at hl 0 rfl) ?_
                              refine lv_iconst (v := nI 3) hx hb dX4_deliver_494 (by decide) ?_
                              refine lv_iadd hx hb dX4_deliver_495 ?_
                              refine qtop (y := nI ((d * 5) + 3)) (nI_add _ _) ?_
                              refine lv_aload_n hx hb dX4_deliver_496 rfl (lv_at hl 8 rfl) ?_
                              refine va_get (D := (dC, dI)) (ci := 4) (v := .ref (o 10)) (C := RX4) (T := TX4) (N := 16) hx hb hts inX4_deliver_X4 hown hK hP (0) rfl rfl 10 (by decide) (hts _ lkX4_deliver_38) (fun _ h9 => h9) rfl dX4_deliver_497 ?_
                              refine lv_iload_n hx hb dX4_deliver_500 rfl (lv_at hl 6 rfl) ?_
                              refine q_iald hx hb hK hP (10) 9 (j := c) rfl rfl lt_c (Nat.le_of_ble_eq_true rfl) dX4_deliver_501 ?_
                              refine q_iast (ws' := (wMc o k (fun j => R j 0) (fun j => R j 1) (fun j => R j 2) (upd (fun j => T j 0) c (nI 0)) (fun j => T j 1) (fun j => T j 2) (fun j => T j 3) (upd an c (nI (a ||| 2 ^ r))) (fun j => T j 5) (fun j => T j 6) (fun j => T j 7) (drp f n i) (upd (upd (upd (upd g (d * 5) (nI c)) ((d * 5) + 1) (f ((i * 6) + 3))) ((d * 5) + 2) (nI 0)) ((d * 5) + 3) (T c 6)) (cnF R 5) (n - 1) d)) hx hb hK hP hD hS (13) 12 (j := (d * 5) + 3) rfl rfl (by omega) (Nat.le_of_ble_eq_true rfl) rfl dX4_deliver_502 (fun H locs hP hD hS => ?_)
                              refine lv_aload_n hx hb dX4_deliver_503 rfl (lv_at hl 8 rfl) ?_
                              refine va_get (D := (dC, dI)) (ci := 4) (v := .ref (o 13)) (C := RX4) (T := TX4) (N := 16) hx hb hts inX4_deliver_X4 hown hK hP (0) rfl rfl 14 (by decide) (hts _ lkX4_deliver_47) (fun _ h9 => h9) rfl dX4_deliver_504 ?_
                              refine lv_iload hx hb dX4_deliver_507 (lv_at hl 0 rfl) ?_
                              refine lv_iconst (v := nI 4) hx hb dX4_deliver_509 (by decide) ?_
                              refine lv_iadd hx hb dX4_deliver_510 ?_
                              refine qtop (y := nI ((d * 5) + 4)) (nI_add _ _) ?_
                              refine lv_aload_n hx hb dX4_deliver_511 rfl (lv_at hl 8 rfl) ?_
                              refine va_get (D := (dC, dI)) (ci := 4) (v := .ref (o 9)) (C := RX4) (T := TX4) (N := 16) hx hb hts inX4_deliver_X4 hown hK hP (0) rfl rfl 9 (by decide) (hts _ lkX4_deliver_35) (fun _ h9 => h9) rfl dX4_deliver_512 ?_
                              refine lv_iload_n hx hb dX4_deliver_515 rfl (lv_at hl 6 rfl) ?_
                              refine q_iald hx hb hK hP (9) 8 (j := c) rfl rfl lt_c (Nat.le_of_ble_eq_true rfl) dX4_deliver_516 ?_
                              refine q_iast (ws' := (wMc o k (fun j => R j 0) (fun j => R j 1) (fun j => R j 2) (upd (fun j => T j 0) c (nI 0)) (fun j => T j 1) (fun j => T j 2) (fun j => T j 3) (upd an c (nI (a ||| 2 ^ r))) (fun j => T j 5) (fun j => T j 6) (fun j => T j 7) (drp f n i) (upd (upd (upd (upd (upd g (d * 5) (nI c)) ((d * 5) + 1) (f ((i * 6) + 3))) ((d * 5) + 2) (nI 0)) ((d * 5) + 3) (T c 6)) ((d * 5) + 4) (T c 5)) (cnF R 5) (n - 1) d)) hx hb hK hP hD hS (13) 12 (j := (d * 5) + 4) rfl rfl (by omega) (Nat.le_of_ble_eq_true rfl) rfl dX4_deliver_517 (fun H locs hP hD hS => ?_)
                              refine lv_aload_n hx hb dX4_deliver_518 rfl (lv_at hl 8 rfl) ?_
                              refine lv_dup hx hb dX4_deliver_519 rfl ?_
                              refine va_get (D := (dC, dI)) (ci := 4) (v := .int (nI d)) (C := RX4) (T := TX4) (N := 16) hx hb hts inX4_deliver_X4 hown hK hP (0) rfl rfl 15 (by decide) (hts _ lkX4_deliver_78) (fun _ h9 => h9) rfl dX4_deliver_520 ?_
                              refine lv_iconst (v := nI 1) hx hb dX4_deliver_523 (by decide) ?_
                              refine lv_iadd hx hb dX4_deliver_524 ?_
                              refine qtop (y := nI (d + 1)) (nI_add _ _) ?_
                              refine q_put (D := (dC, dI)) (ci := 4) (v := .int (nI (d + 1))) (ty := .int) (C := RX4) (T := TX4) (N := 16) (ws' := (wMc o k (fun j => R j 0) (fun j => R j 1) (fun j => R j 2) (upd (fun j => T j 0) c (nI 0)) (fun j => T j 1) (fun j => T j 2) (fun j => T j 3) (upd an c (nI (a ||| 2 ^ r))) (fun j => T j 5) (fun j => T j 6) (fun j => T j 7) (drp f n i) (upd (upd (upd (upd (upd g (d * 5) (nI c)) ((d * 5) + 1) (f ((i * 6) + 3))) ((d * 5) + 2) (nI 0)) ((d * 5) + 3) (T c 6)) ((d * 5) + 4) (T c 5)) (cnF R 5) (n - 1) (d + 1))) hx hb hts inX4_deliver_X4 tyX4 tyX4_ok nmX4 hown hK hP hD hS (0) rfl rfl 15 (by decide) (hts _ lkX4_deliver_78) (fun _ h9 => h9) rfl (by decide +kernel) rfl rfl (Nat.le_of_ble_eq_true rfl) rfl dX4_deliver_525 (fun H locs hP hD hS => ?_)
                              refine lv_aload_n hx hb dX4_deliver_528 rfl (lv_at hl 8 rfl) ?_
                              refine va_get (D := (dC, dI)) (ci := 4) (v := .int (nI (n - 1))) (C := RX4) (T := TX4) (N := 16) hx hb hts inX4_deliver_X4 hown hK hP (0) rfl rfl 13 (by decide) (hts _ lkX4_deliver_50) (fun _ h9 => h9) rfl dX4_deliver_529 ?_
                              refine lv_iload hx hb dX4_deliver_532 (lv_at hl 1 rfl) ?_
                              refine lv_isub hx hb dX4_deliver_534 ?_
                              exact retJ hx hb hr hlk dX4_deliver_535 hS (upd an c (nI (a ||| 2 ^ r))) (by rw [e_d]; show va_P _ _ (wM o k R (idlC T c) (upd an c (nI (a ||| 2 ^ r))) (n - 1) (drp f n i) (d + 1) (fin5 g d (nI c) (T c 1) (if T c 2 = 0 then nI 0 else nI 1) (T c 6) (T c 5)) (cnF R 5)) _; rw [if_pos c_479_3, e_T1, c_205_3]; exact va_Pe (wM_of (fun _ => rfl) (fun _ => rfl) (fun _ => rfl) (fun q => by simp [upd, idlC, up2]) (fun q => by simp [upd, idlC, up2]) (fun q => by simp [upd, idlC, up2]) (fun q => by simp [upd, idlC, up2]) (fun q => by simp [upd, idlC, up2]) (fun q => by simp [upd, idlC, up2]) (fun q => by simp [upd, idlC, up2])) hP) (fi_u hAn e_d n_T) (by rw [dl_v (σ := (R, C, n, f, d, g)) lt_i (show n < 2 ^ 31 by omega) e_d]; rfl)
                            · refine lv_iconst (v := nI 1) hx hb dX4_deliver_482 (by decide) ?_
                              refine lv_goto (tgt := 487) hx hb dX4_deliver_483 (by decide) ?_
                              refine q_iast (ws' := (wMc o k (fun j => R j 0) (fun j => R j 1) (fun j => R j 2) (upd (fun j => T j 0) c (nI 0)) (fun j => T j 1) (fun j => T j 2) (fun j => T j 3) (upd an c (nI (a ||| 2 ^ r))) (fun j => T j 5) (fun j => T j 6) (fun j => T j 7) (drp f n i) (upd (upd (upd g (d * 5) (nI c)) ((d * 5) + 1) (f ((i * 6) + 3))) ((d * 5) + 2) (nI 1)) (cnF R 5) (n - 1) d)) hx hb hK hP hD hS (13) 12 (j := (d * 5) + 2) rfl rfl (by omega) (Nat.le_of_ble_eq_true rfl) rfl dX4_deliver_487 (fun H locs hP hD hS => ?_)
                              refine lv_aload_n hx hb dX4_deliver_488 rfl (lv_at hl 8 rfl) ?_
                              refine va_get (D := (dC, dI)) (ci := 4) (v := .ref (o 13)) (C := RX4) (T := TX4) (N := 16) hx hb hts inX4_deliver_X4 hown hK hP (0) rfl rfl 14 (by decide) (hts _ lkX4_deliver_47) (fun _ h9 => h9) rfl dX4_deliver_489 ?_
                              refine lv_iload hx hb dX4_deliver_492 (lv_at hl 0 rfl) ?_
                              refine lv_iconst (v := nI 3) hx hb dX4_deliver_494 (by decide) ?_
                              refine lv_iadd hx hb dX4_deliver_495 ?_
                              refine qtop (y := nI ((d * 5) + 3)) (nI_add _ _) ?_
                              refine lv_aload_n hx hb dX4_deliver_496 rfl (lv_at hl 8 rfl) ?_
                              refine va_get (D := (dC, dI)) (ci := 4) (v := .ref (o 10)) (C := RX4) (T := TX4) (N := 16) hx hb hts inX4_deliver_X4 hown hK hP (0) rfl rfl 10 (by decide) (hts _ lkX4_deliver_38) (fun _ h9 => h9) rfl dX4_deliver_497 ?_
                              refine lv_iload_n hx hb dX4_deliver_500 rfl (lv_at hl 6 rfl) ?_
                              refine q_iald hx hb hK hP (10) 9 (j := c) rfl rfl lt_c (Nat.le_of_ble_eq_true rfl) dX4_deliver_501 ?_
                              refine q_iast (ws' := (wMc o k (fun j => R j 0) (fun j => R j 1) (fun j => R j 2) (upd (fun j => T j 0) c (nI 0)) (fun j => T j 1) (fun j => T j 2) (fun j => T j 3) (upd an c (nI (a ||| 2 ^ r))) (fun j => T j 5) (fun j => T j 6) (fun j => T j 7) (drp f n i) (upd (upd (upd (upd g (d * 5) (nI c)) ((d * 5) + 1) (f ((i * 6) + 3))) ((d * 5) + 2) (nI 1)) ((d * 5) + 3) (T c 6)) (cnF R 5) (n - 1) d)) hx hb hK hP hD hS (13) 12 (j := (d * 5) + 3) rfl rfl (by omega) (Nat.le_of_ble_eq_true rfl) rfl dX4_deliver_502 (fun H locs hP hD hS => ?_)
                              refine lv_aload_n hx hb dX4_deliver_503 rfl (lv_at hl 8 rfl) ?_
                              refine va_get (D := (dC, dI)) (ci := 4) (v := .ref (o 13)) (C := RX4) (T := TX4) (N := 16) hx hb hts inX4_deliver_X4 hown hK hP (0) rfl rfl 14 (by decide) (hts _ lkX4_deliver_47) (fun _ h9 => h9) rfl dX4_deliver_504 ?_
                              refine lv_iload hx hb dX4_deliver_507 (lv_at hl 0 rfl) ?_
                              refine lv_iconst (v := nI 4) hx hb dX4_deliver_509 (by decide) ?_
                              refine lv_iadd hx hb dX4_deliver_510 ?_
                              refine qtop (y := nI ((d * 5) + 4)) (nI_add _ _) ?_
                              refine lv_aload_n hx hb dX4_deliver_511 rfl (lv_at hl 8 rfl) ?_
                              refine va_get (D := (dC, dI)) (ci := 4) (v := .ref (o 9)) (C := RX4) (T := TX4) (N := 16) hx hb hts inX4_deliver_X4 hown hK hP (0) rfl rfl 9 (by decide) (hts _ lkX4_deliver_35) (fun _ h9 => h9) rfl dX4_deliver_512 ?_
                              refine lv_iload_n hx hb dX4_deliver_515 rfl (lv_at hl 6 rfl) ?_
                              refine q_iald hx hb hK hP (9) 8 (j := c) rfl rfl lt_c (Nat.le_of_ble_eq_true rfl) dX4_deliver_516 ?_
                              refine q_iast (ws' := (wMc o k (fun j => R j 0) (fun j => R j 1) (fun j => R j 2) (upd (fun j => T j 0) c (nI 0)) (fun j => T j 1) (fun j => T j 2) (fun j => T j 3) (upd an c (nI (a ||| 2 ^ r))) (fun j => T j 5) (fun j => T j 6) (fun j => T j 7) (drp f n i) (upd (upd (upd (upd (upd g (d * 5) (nI c)) ((d * 5) + 1) (f ((i * 6) + 3))) ((d * 5) + 2) (nI 1)) ((d * 5) + 3) (T c 6)) ((d * 5) + 4) (T c 5)) (cnF R 5) (n - 1) d)) hx hb hK hP hD hS (13) 12 (j := (d * 5) + 4) rfl rfl (by omega) (Nat.le_of_ble_eq_true rfl) rfl dX4_deliver_517 (fun H locs hP hD hS => ?_)
                              refine lv_aload_n hx hb dX4_deliver_518 rfl (lv_at hl 8 rfl) ?_
                              refine lv_dup hx hb dX4_deliver_519 rfl ?_
                              refine va_get (D := (dC, dI)) (ci := 4) (v := .int (nI d)) (C := RX4) (T := TX4) (N := 16) hx hb hts inX4_deliver_X4 hown hK hP (0) rfl rfl 15 (by decide) (hts _ lkX4_deliver_78) (fun _ h9 => h9) rfl dX4_deliver_520 ?_
                              refine lv_iconst (v := nI 1) hx hb dX4_deliver_523 (by decide) ?_
                              refine lv_iadd hx hb dX4_deliver_524 ?_
                              refine qtop (y := nI (d + 1)) (nI_add _ _) ?_
                              refine q_put (D := (dC, dI)) (ci := 4) (v := .int (nI (d + 1))) (ty := .int) (C := RX4) (T := TX4) (N := 16) (ws' := (wMc o k (fun j => R j 0) (fun j => R j 1) (fun j => R j 2) (upd (fun j => T j 0) c (nI 0)) (fun j => T j 1) (fun j => T j 2) (fun j => T j 3) (upd an c (nI (a ||| 2 ^ r))) (fun j => T j 5) (fun j => T j 6) (fun j => T j 7) (drp f n i) (upd (upd (upd (upd (upd g (d * 5) (nI c)) ((d * 5) + 1) (f ((i * 6) + 3))) ((d * 5) + 2) (nI 1)) ((d * 5) + 3) (T c 6)) ((d * 5) + 4) (T c 5)) (cnF R 5) (n - 1) (d + 1))) hx hb hts inX4_deliver_X4 tyX4 tyX4_ok nmX4 hown hK hP hD hS (0) rfl rfl 15 (by decide) (hts _ lkX4_deliver_78) (fun _ h9 => h9) rfl (by decide +kernel) rfl rfl (Nat.le_of_ble_eq_true rfl) rfl dX4_deliver_525 (fun H locs hP hD hS => ?_)
                              refine lv_aload_n hx hb dX4_deliver_528 rfl (lv_at hl 8 rfl) ?_
                              refine va_get (D := (dC, dI)) (ci := 4) (v := .int (nI (n - 1))) (C := RX4) (T := TX4) (N := 16) hx hb hts inX4_deliver_X4 hown hK hP (0) rfl rfl 13 (by decide) (hts _ lkX4_deliver_50) (fun _ h9 => h9) rfl dX4_deliver_529 ?_
                              refine lv_iload hx hb dX4_deliver_532 (lv_at hl 1 rfl) ?_
                              refine lv_isub hx hb dX4_deliver_534 ?_
                              exact retJ hx hb hr hlk dX4_deliver_535 hS (upd an c (nI (a ||| 2 ^ r))) (by rw [e_d]; show va_P _ _ (wM o k R (idlC T c) (upd an c (nI (a ||| 2 ^ r))) (n - 1) (drp f n i) (d + 1) (fin5 g d (nI c) (T c 1) (if T c 2 = 0 then nI 0 else nI 1) (T c 6) (T c 5)) (cnF R 5)) _; rw [if_neg c_479_3, e_T1, c_205_3]; exact va_Pe (wM_of (fun _ => rfl) (fun _ => rfl) (fun _ => rfl) (fun q => by simp [upd, idlC, up2]) (fun q => by simp [upd, idlC, up2]) (fun q => by simp [upd, idlC, up2]) (fun q => by simp [upd, idlC, up2]) (fun q => by simp [upd, idlC, up2]) (fun q => by simp [upd, idlC, up2]) (fun q => by simp [upd, idlC, up2])) hP) (fi_u hAn e_d n_T) (by rw [dl_v (σ := (R, C, n, f, d, g)) lt_i (show n < 2 ^ 31 by omega) e_d]; rfl)
                          · exact absurd c_310_3 h_1
                        · refine lv_iconst (v := nI 0) hx hb dX4_deliver_306 (by decide) ?_
                          rw [if_neg (fun w => c_303_3 (nI_le w (by have := bits_le (a ||| 2 ^ r); omega)))] at e_d
                          exact retJ hx hb hr hlk dX4_deliver_307 hS (upd an c (nI (a ||| 2 ^ r))) (by rw [e_d]; exact hP) (nq_u hAn e_d e_T4 n_T) (by rw [dl_v (σ := (R, C, n, f, d, g)) lt_i (show n < 2 ^ 31 by omega) e_d]; exact (sub_0 (n - 1)).symm)
                      · exact absurd c_263_3 h_1
                    · refine lv_iconst (v := nI 0) hx hb dX4_deliver_242 (by decide) ?_
                      have e_d : dlS (R, C, n, f, d, g) (nI i) = (R, C, n - 1, drp f n i, d, g) := e_d.trans (std_no (fun z => absurd z.2.2 (by show ¬ C c 4 &&& (nI 1 <<< (nI r &&& 31)) = 0; rw [e_a]; exact (shr_bit a lt_a r lt_r).mp c_239_3)))
                      exact retJ hx hb hr hlk dX4_deliver_243 hS (an) (by rw [e_d]; exact hP) (by rw [e_d]; exact hAn) (by rw [dl_v (σ := (R, C, n, f, d, g)) lt_i (show n < 2 ^ 31 by omega) e_d]; exact (sub_0 (n - 1)).symm)
                · exact absurd c_216_3 h_1
            · exact absurd c_107_3 h_2
  · have c_11 := it_no c_11
    have c_11 := mt (wi_n (x := p0) n (by omega)).mpr c_11
    refine lv_iconst (v := (-1)) hx hb dX4_deliver_14 (by decide) ?_
    exact retJ hx hb hr hlk dX4_deliver_15 hS (an) (by rw [dlS, if_neg c_11]; exact hP) (by rw [dlS, if_neg c_11]; exact hAn) (by rw [dlX, if_neg c_11])
end
section
/-! WHAT HOLDS between the calls: k calls have been made -/
def pr (f : Nat → Int32) (i : Nat) : Nat := if f (i * 6 + 0) = nI 0 ∨ f (i * 6 + 0) = nI 2 then 0 else 1
def mc (f : Nat → Int32) : Nat → Nat
  | 0 => 0
  | n + 1 => mc f n + pr f n
def okm (f : Nat → Int32) (n : Nat) : Prop := ∀ i, i < n → (∃ c, c < 3 ∧ f (i * 6 + 1) = nI c) ∧ (∃ r, r < 5 ∧ f (i * 6 + 2) = nI r)
def sum3 (F : Nat → Nat) : Nat := F 0 + F 1 + F 2
def asC (C : Nat → Nat → Int32) (c : Nat) : Nat := if C c 0 = nI 1 then 1 else 0
def wkC (C : Nat → Nat → Int32) (c : Nat) : Nat := if C c 0 = nI 1 then 1 + 2 * bts (C c 4) else if C c 0 = nI 2 then 7 + 2 * bts (C c 4) else 0
def Cok (C : Nat → Nat → Int32) (an : Nat → Int32) : Prop := ∀ c, c < 3 → (C c 0 = nI 0 ∨ C c 0 = nI 1 ∨ C c 0 = nI 2) ∧ (∃ a, a < 32 ∧ C c 4 = nI a) ∧ (C c 0 = 0 → C c 4 = 0) ∧ (¬ C c 0 = 0 → an c = C c 4)
def Inv (σ : St) (an : Nat → Int32) (k : Nat) : Prop := okm σ.2.2.2.1 σ.2.2.1 ∧ Cok σ.2.1 an ∧ σ.2.2.1 + 4 * sum3 (asC σ.2.1) ≤ 77 ∧ 13 * σ.2.2.2.2.1 + sum3 (wkC σ.2.1) + mc σ.2.2.2.1 σ.2.2.1 ≤ k ∧ cnF σ.1 5 ≤ 2
theorem sum3_at {F F' : Nat → Nat} {c : Nat} (hc : c < 3) (h : ∀ q, q ≠ c → F' q = F q) : sum3 F' + F c = sum3 F + F' c := by
  unfold sum3
  rcases lt3 hc with rfl | rfl | rfl
  · rw [h 1 (by decide), h 2 (by decide)]; omega
  · rw [h 0 (by decide), h 2 (by decide)]; omega
  · rw [h 0 (by decide), h 1 (by decide)]; omega
theorem asC_le (C : Nat → Nat → Int32) (c : Nat) : asC C c ≤ 1 := by unfold asC; split <;> omega
theorem sum3_as (C : Nat → Nat → Int32) : sum3 (asC C) ≤ 3 := by
  have h0 := asC_le C 0; have h1 := asC_le C 1; have h2 := asC_le C 2
  unfold sum3; omega
theorem pr_le (f : Nat → Int32) (i : Nat) : pr f i ≤ 1 := by unfold pr; split <;> omega
theorem mc_congr {f f' : Nat → Int32} {n : Nat} (h : ∀ i, i < n → f' (i * 6 + 0) = f (i * 6 + 0)) : mc f' n = mc f n := by
  induction n with
  | zero => rfl
  | succ n ih =>
    unfold mc
    rw [ih (fun i hi => h i (by omega))]
    unfold pr
    rw [h n (by omega)]
theorem snd6_old {f : Nat → Int32} {n q : Nat} {kd c r s t v : Int32} (h : q < n * 6) : snd6 f n kd c r s t v q = f q := by
  unfold snd6
  rw [pk_un (by omega), pk_un (by omega), pk_un (by omega), pk_un (by omega), pk_un (by omega), pk_un (by omega)]
theorem snd6_0 {f : Nat → Int32} {n : Nat} {kd c r s t v : Int32} : snd6 f n kd c r s t v (n * 6 + 0) = kd := by
  unfold snd6
  rw [pk_un (by omega), pk_un (by omega), pk_un (by omega), pk_un (by omega), pk_un (by omega), pk_us]
theorem snd6_1 {f : Nat → Int32} {n : Nat} {kd c r s t v : Int32} : snd6 f n kd c r s t v (n * 6 + 1) = c := by
  unfold snd6
  rw [pk_un (by omega), pk_un (by omega), pk_un (by omega), pk_un (by omega), pk_us]
theorem snd6_2 {f : Nat → Int32} {n : Nat} {kd c r s t v : Int32} : snd6 f n kd c r s t v (n * 6 + 2) = r := by
  unfold snd6
  rw [pk_un (by omega), pk_un (by omega), pk_un (by omega), pk_us]
theorem mc_snd {f : Nat → Int32} {n : Nat} {kd c r s t v : Int32} : mc (snd6 f n kd c r s t v) (n + 1) = mc f n + (if kd = nI 0 ∨ kd = nI 2 then 0 else 1) := by
  show mc (snd6 f n kd c r s t v) n + pr (snd6 f n kd c r s t v) n = _
  rw [mc_congr (f := f) (fun i hi => snd6_old (by omega))]
  unfold pr
  rw [snd6_0]
theorem okm_snd {f : Nat → Int32} {n : Nat} {kd s t v : Int32} {zc zr : Int32} (h : okm f n) (hc : ∃ c, c < 3 ∧ zc = nI c) (hr : ∃ r, r < 5 ∧ zr = nI r) : okm (snd6 f n kd zc zr s t v) (n + 1) := by
  intro i hi
  rcases Nat.lt_or_ge i n with q | q
  · rw [snd6_old (by omega), snd6_old (by omega)]
    exact h i q
  · have e : i = n := by omega
    subst e
    rw [snd6_1, snd6_2]
    exact ⟨hc, hr⟩
theorem sndN_ok {f : Nat → Int32} {n c : Nat} {kd s t v : Int32} (h : okm f n) (hc : c < 3) (hk : kd = nI 0 ∨ kd = nI 2) : ∀ j, j ≤ 5 → okm (sndN kd (nI c) s t v f n j) (n + j) ∧ mc (sndN kd (nI c) s t v f n j) (n + j) = mc f n := by
  intro j
  induction j with
  | zero => exact fun _ => ⟨h, rfl⟩
  | succ j ih =>
    intro hj
    obtain ⟨h1, h2⟩ := ih (by omega)
    refine ⟨okm_snd h1 ⟨c, hc, rfl⟩ ⟨j, by omega, rfl⟩, ?_⟩
    show mc (snd6 (sndN kd (nI c) s t v f n j) (n + j) kd (nI c) (nI j) s t v) (n + j + 1) = mc f n
    rw [mc_snd, if_pos hk, h2]
    rfl
theorem drp_lo {f : Nat → Int32} {n i j b : Nat} (hj : j < i) (hb : b < 6) : drp f n i (j * 6 + b) = f (j * 6 + b) := pk_cpy_out (by omega)
theorem drp_hi {f : Nat → Int32} {n i j b : Nat} (hi : i ≤ j) (hj : j + 1 < n) (hb : b < 6) : drp f n i (j * 6 + b) = f ((j + 1) * 6 + b) := by
  unfold drp
  rw [pk_cpy_in (by omega) (by omega)]
  congr 1
  omega
theorem okm_drp {f : Nat → Int32} {n i : Nat} (h : okm f n) : okm (drp f n i) (n - 1) := by
  intro j hj
  rcases Nat.lt_or_ge j i with q | q
  · rw [drp_lo q (by decide), drp_lo q (by decide)]
    exact h j (by omega)
  · rw [drp_hi q (by omega) (by decide), drp_hi q (by omega) (by decide)]
    exact h (j + 1) (by omega)
theorem mc_drp {f : Nat → Int32} {n i : Nat} (hi : i < n) : mc (drp f n i) (n - 1) + pr f i = mc f n := by
  have key : ∀ m, m + 1 ≤ n → (m ≤ i → mc (drp f n i) m = mc f m) ∧ (i ≤ m → mc (drp f n i) m + pr f i = mc f (m + 1)) := by
    intro m
    induction m with
    | zero =>
      intro hm
      refine ⟨fun _ => rfl, fun h0 => ?_⟩
      have e : i = 0 := by omega
      subst e
      rfl
    | succ m ih =>
      intro hm
      obtain ⟨h1, h2⟩ := ih (by omega)
      refine ⟨fun hle => ?_, fun hge => ?_⟩
      · show mc (drp f n i) m + pr (drp f n i) m = mc f m + pr f m
        rw [h1 (by omega)]
        unfold pr
        rw [drp_lo (by omega) (by decide)]
      · show mc (drp f n i) m + pr (drp f n i) m + pr f i = mc f (m + 1) + pr f (m + 1)
        rcases Nat.lt_or_ge m i with q | q
        · have e : i = m + 1 := by omega
          subst e
          rw [h1 (by omega)]
          have e2 : pr (drp f n (m + 1)) m = pr f m := by
            unfold pr
            rw [drp_lo (by omega) (by decide)]
          rw [e2]
          rfl
        · have e2 : pr (drp f n i) m = pr f (m + 1) := by
            unfold pr
            rw [drp_hi q (by omega) (by decide)]
          rw [e2, ← h2 q]
          omega
  have h := (key (n - 1) (by omega)).2 (by omega)
  rw [h, show n - 1 + 1 = n by omega]
theorem bits_up : ∀ a, a < 32 → ∀ r, r < 5 → nI a &&& (nI 1 <<< (nI r &&& 31)) = 0 → bits (a ||| 2 ^ r) = bits a + 1 := by decide +kernel
theorem bts_0 : bts (nI 0) = 0 := by decide +kernel
theorem n01 : ¬ nI 0 = nI 1 := by decide +kernel
theorem n02 : ¬ nI 0 = nI 2 := by decide +kernel
theorem n10 : ¬ nI 1 = nI 0 := by decide +kernel
theorem n12 : ¬ nI 1 = nI 2 := by decide +kernel
theorem n20 : ¬ nI 2 = nI 0 := by decide +kernel
theorem n21 : ¬ nI 2 = nI 1 := by decide +kernel
theorem asC_ne {C C' : Nat → Nat → Int32} {c : Nat} (h : ∀ q b, q ≠ c → C' q b = C q b) : ∀ q, q ≠ c → asC C' q = asC C q := fun q hq => by
  unfold asC
  rw [h q 0 hq]
theorem wkC_ne {C C' : Nat → Nat → Int32} {c : Nat} (h : ∀ q b, q ≠ c → C' q b = C q b) : ∀ q, q ≠ c → wkC C' q = wkC C q := fun q hq => by
  unfold wkC
  rw [h q 0 hq, h q 4 hq]
theorem Cok_at {C C' : Nat → Nat → Int32} {an an' : Nat → Int32} {c : Nat} (h : Cok C an) (hne : ∀ q b, q ≠ c → C' q b = C q b) (hv : (C' c 0 = nI 0 ∨ C' c 0 = nI 1 ∨ C' c 0 = nI 2) ∧ (∃ a, a < 32 ∧ C' c 4 = nI a) ∧ (C' c 0 = 0 → C' c 4 = 0)) (hu : ∀ q, q < 3 → ¬ C' q 0 = 0 → an' q = C' q 4) : Cok C' an' := by
  intro q hq
  by_cases z : q = c
  · subst z
    exact ⟨hv.1, hv.2.1, hv.2.2, hu q hq⟩
  · obtain ⟨h1, h2, h3, h4⟩ := h q hq
    refine ⟨by rw [hne q 0 z]; exact h1, by rw [hne q 4 z]; exact h2, by rw [hne q 0 z, hne q 4 z]; exact h3, hu q hq⟩
theorem begC_ne {C : Nat → Nat → Int32} {c q b : Nat} {w v : Int32} (h : q ≠ c) : begC C c w v q b = C q b := by simp [begC, up2, h]
theorem begC_0 {C : Nat → Nat → Int32} {c : Nat} {w v : Int32} : begC C c w v c 0 = nI 1 := by simp [begC, up2]
theorem begC_4 {C : Nat → Nat → Int32} {c : Nat} {w v : Int32} : begC C c w v c 4 = nI 0 := by simp [begC, up2]
theorem idlC_0 {C : Nat → Nat → Int32} {c : Nat} : idlC C c c 0 = nI 0 := by simp [idlC, up2]
theorem idlC_4 {C : Nat → Nat → Int32} {c : Nat} : idlC C c c 4 = nI 0 := by simp [idlC, up2]
theorem stoC_0 {C : Nat → Nat → Int32} {c : Nat} : stoC C c c 0 = nI 2 := by simp [stoC, up2]
theorem telC_0 {C : Nat → Nat → Int32} {c : Nat} {r t v : Int32} : telC C c r t v c 0 = C c 0 := by
  unfold telC heaC
  split <;> simp [up2]
theorem heaC_0 {C : Nat → Nat → Int32} {c : Nat} {r : Int32} : heaC C c r c 0 = C c 0 := by simp [heaC, up2]
theorem asC_1 {C : Nat → Nat → Int32} {c : Nat} (h : C c 0 = nI 1) : asC C c = 1 := if_pos h
theorem asC_z {C : Nat → Nat → Int32} {c : Nat} (h : ¬ C c 0 = nI 1) : asC C c = 0 := if_neg h
theorem wkC_1 {C : Nat → Nat → Int32} {c : Nat} (h : C c 0 = nI 1) : wkC C c = 1 + 2 * bts (C c 4) := if_pos h
theorem wkC_2 {C : Nat → Nat → Int32} {c : Nat} (h : C c 0 = nI 2) : wkC C c = 7 + 2 * bts (C c 4) := by
  unfold wkC
  rw [if_neg (by rw [h]; exact n21), if_pos h]
theorem wkC_0 {C : Nat → Nat → Int32} {c : Nat} (h : C c 0 = nI 0) : wkC C c = 0 := by
  unfold wkC
  rw [if_neg (by rw [h]; exact n01), if_neg (by rw [h]; exact n02)]
/-- the parts of the state at a client's change: what the sums become -/
theorem sums_at {C C' : Nat → Nat → Int32} {c : Nat} (hc : c < 3) (hne : ∀ q b, q ≠ c → C' q b = C q b) : sum3 (asC C') + asC C c = sum3 (asC C) + asC C' c ∧ sum3 (wkC C') + wkC C c = sum3 (wkC C) + wkC C' c := ⟨sum3_at hc (asC_ne hne), sum3_at hc (wkC_ne hne)⟩
theorem inv_begin {σ : St} {an : Nat → Int32} {k : Nat} {p0 w v : Int32} (h : Inv σ an k) : Inv (bgS σ p0 w v) (bgA σ an p0) (k + 1) := by
  obtain ⟨R, C, n, f, d, g⟩ := σ
  obtain ⟨h1, h2, h3, h4, h5⟩ := h
  change okm f n at h1
  change Cok C an at h2
  change n + 4 * sum3 (asC C) ≤ 77 at h3
  change 13 * d + sum3 (wkC C) + mc f n ≤ k at h4
  change cnF R 5 ≤ 2 at h5
  unfold bgS bgA
  by_cases q : okI p0 3 ∧ C p0.toNatClampNeg 0 = 0 ∧ ¬ 60 < n
  · rw [if_pos q, if_pos q]
    obtain ⟨q1, q2, q3⟩ := q
    obtain ⟨c, hc, rfl⟩ := okI_of q1 (by decide)
    rw [nI_clamp (by omega)] at q2 ⊢
    have hne : ∀ q b, q ≠ c → begC C c w v q b = C q b := fun q b hq => begC_ne hq
    obtain ⟨s1, s2⟩ := sums_at hc hne
    rw [asC_1 begC_0, asC_z (by rw [show C c 0 = nI 0 from q2]; exact n01)] at s1
    rw [wkC_1 begC_0, begC_4, bts_0, wkC_0 (show C c 0 = nI 0 from q2)] at s2
    obtain ⟨m1, m2⟩ := sndN_ok (s := C c 1 + nI 1) (t := nI 0) (v := nI 0) h1 hc (Or.inl rfl) 5 (Nat.le_refl 5)
    have h6 := sum3_as (begC C c w v)
    refine ⟨m1, Cok_at h2 hne ⟨Or.inr (Or.inl begC_0), ⟨0, by decide, begC_4⟩, fun z => begC_4⟩ ?_, ?_, ?_, h5⟩
    · intro q hq hz
      by_cases e : q = c
      · subst e
        show upd an q (nI 0) q = begC C q w v q 4
        rw [pk_us, begC_4]
      · show upd an c (nI 0) q = begC C c w v q 4
        rw [pk_un e, begC_ne e]
        exact (h2 q hq).2.2.2 (fun y => hz (by show begC C c w v q 0 = 0; rw [begC_ne e]; exact y))
    · show n + 5 + 4 * sum3 (asC (begC C c w v)) ≤ 77
      omega
    · show 13 * d + sum3 (wkC (begC C c w v)) + mc (sndN (nI 0) (nI c) (C c 1 + nI 1) (nI 0) (nI 0) f n 5) (n + 5) ≤ k + 1
      rw [m2]
      have h4' : 13 * d + sum3 (wkC C) + mc f n ≤ k := h4
      omega
  · rw [if_neg q, if_neg q]
    exact ⟨h1, h2, h3, Nat.le_succ_of_le h4, h5⟩
theorem inv_leave {σ : St} {an : Nat → Int32} {k : Nat} {p0 : Int32} (h : Inv σ an k) : Inv (lvS σ p0) an (k + 1) := by
  obtain ⟨R, C, n, f, d, g⟩ := σ
  obtain ⟨h1, h2, h3, h4, h5⟩ := h
  change okm f n at h1
  change Cok C an at h2
  change n + 4 * sum3 (asC C) ≤ 77 at h3
  change 13 * d + sum3 (wkC C) + mc f n ≤ k at h4
  change cnF R 5 ≤ 2 at h5
  unfold lvS
  by_cases q : okI p0 3 ∧ ¬ C p0.toNatClampNeg 0 = 0
  · rw [if_pos q]
    obtain ⟨q1, q2⟩ := q
    obtain ⟨c, hc, rfl⟩ := okI_of q1 (by decide)
    rw [nI_clamp (by omega)] at q2 ⊢
    have hne : ∀ q b, q ≠ c → idlC C c q b = C q b := fun q b hq => idlC_ne hq
    obtain ⟨s1, s2⟩ := sums_at hc hne
    rw [asC_z (C := idlC C c) (by rw [idlC_0]; exact n01)] at s1
    rw [wkC_0 idlC_0] at s2
    refine ⟨h1, Cok_at h2 hne ⟨Or.inl idlC_0, ⟨0, by decide, idlC_4⟩, fun z => idlC_4⟩ ?_, ?_, ?_, h5⟩
    · intro q hq hz
      by_cases e : q = c
      · subst e
        exact absurd (show idlC C q q 0 = 0 from idlC_0) hz
      · show an q = idlC C c q 4
        rw [idlC_ne e]
        exact (h2 q hq).2.2.2 (fun y => hz (by show idlC C c q 0 = 0; rw [idlC_ne e]; exact y))
    · show n + 4 * sum3 (asC (idlC C c)) ≤ 77
      have h3' : n + 4 * sum3 (asC C) ≤ 77 := h3
      omega
    · show 13 * d + sum3 (wkC (idlC C c)) + mc f n ≤ k + 1
      have h4' : 13 * d + sum3 (wkC C) + mc f n ≤ k := h4
      omega
  · rw [if_neg q]
    exact ⟨h1, h2, h3, Nat.le_succ_of_le h4, h5⟩
theorem inv_lose {σ : St} {an : Nat → Int32} {k : Nat} {p0 : Int32} (h : Inv σ an k) : Inv (lsS σ p0) an (k + 1) := by
  obtain ⟨R, C, n, f, d, g⟩ := σ
  obtain ⟨h1, h2, h3, h4, h5⟩ := h
  change okm f n at h1
  change Cok C an at h2
  change n + 4 * sum3 (asC C) ≤ 77 at h3
  change 13 * d + sum3 (wkC C) + mc f n ≤ k at h4
  change cnF R 5 ≤ 2 at h5
  unfold lsS
  have h3' : n + 4 * sum3 (asC C) ≤ 77 := h3
  have h4' : 13 * d + sum3 (wkC C) + mc f n ≤ k := h4
  by_cases q : okI p0 n
  · rw [if_pos q]
    obtain ⟨i, hi, rfl⟩ := okI_of q (by omega)
    rw [nI_clamp (by omega)]
    refine ⟨okm_drp h1, h2, ?_, ?_, h5⟩
    · show n - 1 + 4 * sum3 (asC C) ≤ 77
      omega
    · show 13 * d + sum3 (wkC C) + mc (drp f n i) (n - 1) ≤ k + 1
      have := mc_drp (f := f) hi
      omega
  · rw [if_neg q]
    exact ⟨h1, h2, h3, Nat.le_succ_of_le h4, h5⟩
theorem inv_repeat {σ : St} {an : Nat → Int32} {k : Nat} {p0 : Int32} (h : Inv σ an k) : Inv (rpS σ p0) an (k + 1) := by
  obtain ⟨R, C, n, f, d, g⟩ := σ
  obtain ⟨h1, h2, h3, h4, h5⟩ := h
  change okm f n at h1
  change Cok C an at h2
  change n + 4 * sum3 (asC C) ≤ 77 at h3
  change 13 * d + sum3 (wkC C) + mc f n ≤ k at h4
  change cnF R 5 ≤ 2 at h5
  unfold rpS
  have h3' : n + 4 * sum3 (asC C) ≤ 77 := h3
  have h4' : 13 * d + sum3 (wkC C) + mc f n ≤ k := h4
  by_cases q : okI p0 n ∧ ¬ 60 < n
  · rw [if_pos q]
    obtain ⟨q1, q2⟩ := q
    obtain ⟨i, hi, rfl⟩ := okI_of q1 (by omega)
    rw [nI_clamp (by omega)]
    show Inv (R, C, n + 1, va_cpy f f (i * 6) (n * 6) 6, d, g) an (k + 1)
    rw [← rep_eq]
    have h6 := sum3_as C
    refine ⟨okm_snd h1 (h1 i hi).1 (h1 i hi).2, h2, ?_, ?_, h5⟩
    · show n + 1 + 4 * sum3 (asC C) ≤ 77
      omega
    · show 13 * d + sum3 (wkC C) + mc (snd6 f n (f (i * 6)) (f (i * 6 + 1)) (f (i * 6 + 2)) (f (i * 6 + 3)) (f (i * 6 + 4)) (f (i * 6 + 5))) (n + 1) ≤ k + 1
      rw [mc_snd]
      split <;> omega
  · rw [if_neg q]
    exact ⟨h1, h2, h3, Nat.le_succ_of_le h4, h5⟩
theorem inv_fail {σ : St} {an : Nat → Int32} {k : Nat} {p0 : Int32} (h : Inv σ an k) : Inv (flS σ p0) an (k + 1) := by
  obtain ⟨R, C, n, f, d, g⟩ := σ
  obtain ⟨h1, h2, h3, h4, h5⟩ := h
  change okm f n at h1
  change Cok C an at h2
  change n + 4 * sum3 (asC C) ≤ 77 at h3
  change 13 * d + sum3 (wkC C) + mc f n ≤ k at h4
  change cnF R 5 ≤ 2 at h5
  unfold flS
  by_cases q : okI p0 5 ∧ R p0.toNatClampNeg 2 = 0 ∧ cnF R 5 < 2
  · rw [if_pos q]
    obtain ⟨q1, q2, q3⟩ := q
    obtain ⟨j, hj, rfl⟩ := okI_of q1 (by decide)
    rw [nI_clamp (by omega)] at q2 ⊢
    refine ⟨h1, h2, h3, Nat.le_succ_of_le h4, ?_⟩
    show cnF (up2 R j 2 (nI 1)) 5 ≤ 2
    rw [cnF_up hj q2]
    omega
  · rw [if_neg q]
    exact ⟨h1, h2, h3, Nat.le_succ_of_le h4, h5⟩
theorem tel_b {C : Nat → Nat → Int32} {c r a : Nat} {ph s : Int32} (hr : r < 5) (ha : a < 32) (e : C c 4 = nI a) (h : aw (C c) ph (nI r) s) : bts (C c 4 ||| (nI 1 <<< (nI r &&& 31))) = bts (C c 4) + 1 ∧ ∃ b, b < 32 ∧ C c 4 ||| (nI 1 <<< (nI r &&& 31)) = nI b := by
  have h4 := h.2.2
  rw [e] at h4 ⊢
  obtain ⟨x1, x2⟩ := hear_bits a ha r hr
  rw [x1, bts_nI x2, bts_nI ha]
  exact ⟨bits_up a ha r hr h4, _, x2, rfl⟩
/-- a message is delivered -/
theorem inv_msg {R C : Nat → Nat → Int32} {n d : Nat} {f g an u : Nat → Int32} {k c r : Nat} {kd s t v : Int32} (h1 : okm f n) (h2 : Cok C an) (h3 : n + 1 + 4 * sum3 (asC C) ≤ 77) (h4 : 13 * d + sum3 (wkC C) + mc f n + (if kd = nI 0 ∨ kd = nI 2 then 0 else 1) ≤ k) (h5 : cnF R 5 ≤ 2) (hc : c < 3) (hr : r < 5) (hu : ∀ q, q < 3 → ¬ (dlM (R, C, n, f, d, g) kd c r s t v).2.1 q 0 = 0 → u q = (dlM (R, C, n, f, d, g) kd c r s t v).2.1 q 4) : Inv (dlM (R, C, n, f, d, g) kd c r s t v) u (k + 1) := by
  have same : ∀ (σ' : St), σ' = (R, C, n, f, d, g) → (∀ q, q < 3 → ¬ σ'.2.1 q 0 = 0 → u q = σ'.2.1 q 4) → Inv σ' u (k + 1) := by
    intro σ' e hz
    subst e
    have h4' : 13 * d + sum3 (wkC C) + mc f n ≤ k := Nat.le_trans (Nat.le_add_right _ _) h4
    refine ⟨h1, fun q hq => ⟨(h2 q hq).1, (h2 q hq).2.1, (h2 q hq).2.2.1, hz q hq⟩, ?_, Nat.le_succ_of_le h4', h5⟩
    show n + 4 * sum3 (asC C) ≤ 77
    omega
  by_cases k0 : kd = nI 0
  · rw [dlM_0 k0] at hu ⊢
    rw [if_pos (Or.inl k0)] at h4
    unfold stAsk at hu ⊢
    by_cases z : (R, C, n, f, d, g).1 r 2 = 0
    · rw [if_pos z] at hu ⊢
      refine ⟨okm_snd h1 ⟨c, hc, rfl⟩ ⟨r, hr, rfl⟩, fun q hq => ⟨(h2 q hq).1, (h2 q hq).2.1, (h2 q hq).2.2.1, hu q hq⟩, h3, ?_, h5⟩
      show 13 * d + sum3 (wkC C) + mc (snd6 f n (nI 1) (nI c) (nI r) s (R r 0) (R r 1)) (n + 1) ≤ k + 1
      rw [mc_snd]
      split <;> omega
    · rw [if_neg z] at hu ⊢
      exact same _ rfl hu
  by_cases k1 : kd = nI 1
  · rw [dlM_1 k1] at hu ⊢
    rw [if_neg (by rw [k1]; rintro (q | q); · exact n10 q
                   · exact n12 q)] at h4
    unfold stTel at hu ⊢
    by_cases z : aw ((R, C, n, f, d, g).2.1 c) (nI 1) (nI r) s
    · rw [if_pos z] at hu ⊢
      have z : aw (C c) (nI 1) (nI r) s := z
      obtain ⟨a, la, ea⟩ := (h2 c hc).2.1
      obtain ⟨b1, b2, lb, eb⟩ := tel_b hr la ea z
      have hne : ∀ q b, q ≠ c → telC C c (nI r) t v q b = C q b := fun q b hq => telC_ne hq
      obtain ⟨s1, s2⟩ := sums_at hc hne
      have t0 : telC C c (nI r) t v c 0 = nI 1 := telC_0.trans z.2.1
      rw [asC_1 t0, asC_1 z.2.1] at s1
      rw [wkC_1 t0, wkC_1 z.2.1, telC4, b1] at s2
      by_cases y : 3 ≤ bts (telC (R, C, n, f, d, g).2.1 c (nI r) t v c 4)
      · rw [if_pos y] at hu ⊢
        have y : 3 ≤ bts (telC C c (nI r) t v c 4) := y
        rw [telC4, b1] at y
        have hnf : ∀ q b, q ≠ c → stoC (telC C c (nI r) t v) c q b = C q b := fun q b hq => (stoC_ne hq).trans (telC_ne hq)
        obtain ⟨v1, v2⟩ := sums_at hc hnf
        rw [asC_z (C := stoC (telC C c (nI r) t v) c) (by rw [stoC_0]; exact n21), asC_1 z.2.1] at v1
        rw [wkC_2 stoC_0, sto4, bts_0, wkC_1 z.2.1] at v2
        obtain ⟨m1, m2⟩ := sndN_ok (s := telC C c (nI r) t v c 1) (t := stoC (telC C c (nI r) t v) c c 5) (v := stoC (telC C c (nI r) t v) c c 6) h1 hc (Or.inr rfl) 5 (Nat.le_refl 5)
        refine ⟨m1, Cok_at h2 hnf ⟨Or.inr (Or.inr stoC_0), ⟨0, by decide, sto4⟩, fun _ => sto4⟩ hu, ?_, ?_, h5⟩
        · show n + 5 + 4 * sum3 (asC (stoC (telC C c (nI r) t v) c)) ≤ 77
          omega
        · show 13 * d + sum3 (wkC (stoC (telC C c (nI r) t v) c)) + mc (sndN (nI 2) (nI c) (telC C c (nI r) t v c 1) (stoC (telC C c (nI r) t v) c c 5) (stoC (telC C c (nI r) t v) c c 6) f n 5) (n + 5) ≤ k + 1
          rw [m2]
          omega
      · rw [if_neg y] at hu ⊢
        refine ⟨h1, Cok_at h2 hne ⟨Or.inr (Or.inl t0), ⟨b2, lb, telC4.trans eb⟩, fun q => absurd (t0.symm.trans q) n10⟩ hu, ?_, ?_, h5⟩
        · show n + 4 * sum3 (asC (telC C c (nI r) t v)) ≤ 77
          omega
        · show 13 * d + sum3 (wkC (telC C c (nI r) t v)) + mc f n ≤ k + 1
          omega
    · rw [if_neg z] at hu ⊢
      exact same _ rfl hu
  by_cases k2 : kd = nI 2
  · rw [dlM_2 k2] at hu ⊢
    rw [if_pos (Or.inr k2)] at h4
    unfold stStr at hu ⊢
    by_cases z : (R, C, n, f, d, g).1 r 2 = 0
    · rw [if_pos z] at hu ⊢
      refine ⟨okm_snd h1 ⟨c, hc, rfl⟩ ⟨r, hr, rfl⟩, fun q hq => ⟨(h2 q hq).1, (h2 q hq).2.1, (h2 q hq).2.2.1, hu q hq⟩, h3, ?_, ?_⟩
      · show 13 * d + sum3 (wkC C) + mc (snd6 f n (nI 3) (nI c) (nI r) s (nI 0) (nI 0)) (n + 1) ≤ k + 1
        rw [mc_snd]
        split <;> omega
      · show cnF (if t ≤ R r 0 then R else up2 (up2 R r 0 t) r 1 v) 5 ≤ 2
        split
        · exact h5
        · rw [cnF_01]; exact h5
    · rw [if_neg z] at hu ⊢
      exact same _ rfl hu
  · rw [dlM_3 k0 k1 k2] at hu ⊢
    rw [if_neg (fun q => q.elim k0 k2)] at h4
    unfold stStd at hu ⊢
    by_cases z : aw ((R, C, n, f, d, g).2.1 c) (nI 2) (nI r) s
    · rw [if_pos z] at hu ⊢
      have z : aw (C c) (nI 2) (nI r) s := z
      obtain ⟨a, la, ea⟩ := (h2 c hc).2.1
      obtain ⟨b1, b2, lb, eb⟩ := tel_b hr la ea z
      have hne : ∀ q b, q ≠ c → heaC C c (nI r) q b = C q b := fun q b hq => heaC_ne hq
      obtain ⟨s1, s2⟩ := sums_at hc hne
      have t0 : heaC C c (nI r) c 0 = nI 2 := heaC_0.trans z.2.1
      rw [asC_z (C := heaC C c (nI r)) (by rw [t0]; exact n21), asC_z (C := C) (by rw [z.2.1]; exact n21)] at s1
      rw [wkC_2 t0, wkC_2 z.2.1, heaC4, b1] at s2
      by_cases y : 3 ≤ bts (heaC (R, C, n, f, d, g).2.1 c (nI r) c 4)
      · rw [if_pos y] at hu ⊢
        have y : 3 ≤ bts (heaC C c (nI r) c 4) := y
        rw [heaC4, b1] at y
        have hnf : ∀ q b, q ≠ c → idlC (heaC C c (nI r)) c q b = C q b := fun q b hq => (idlC_ne hq).trans (heaC_ne hq)
        obtain ⟨v1, v2⟩ := sums_at hc hnf
        rw [asC_z (C := idlC (heaC C c (nI r)) c) (by rw [idlC_0]; exact n01)] at v1
        rw [wkC_0 idlC_0, wkC_2 z.2.1] at v2
        refine ⟨h1, Cok_at h2 hnf ⟨Or.inl idlC_0, ⟨0, by decide, idlC_4⟩, fun _ => idlC_4⟩ hu, ?_, ?_, h5⟩
        · show n + 4 * sum3 (asC (idlC (heaC C c (nI r)) c)) ≤ 77
          omega
        · show 13 * (d + 1) + sum3 (wkC (idlC (heaC C c (nI r)) c)) + mc f n ≤ k + 1
          omega
      · rw [if_neg y] at hu ⊢
        refine ⟨h1, Cok_at h2 hne ⟨Or.inr (Or.inr t0), ⟨b2, lb, heaC4.trans eb⟩, fun q => absurd (t0.symm.trans q) n20⟩ hu, ?_, ?_, h5⟩
        · show n + 4 * sum3 (asC (heaC C c (nI r))) ≤ 77
          omega
        · show 13 * d + sum3 (wkC (heaC C c (nI r))) + mc f n ≤ k + 1
          omega
    · rw [if_neg z] at hu ⊢
      exact same _ rfl hu
theorem inv_deliver {σ : St} {an u : Nat → Int32} {k : Nat} {p0 : Int32} (h : Inv σ an k) (hu : ∀ q, q < 3 → ¬ (dlS σ p0).2.1 q 0 = 0 → u q = (dlS σ p0).2.1 q 4) : Inv (dlS σ p0) u (k + 1) := by
  obtain ⟨R, C, n, f, d, g⟩ := σ
  obtain ⟨h1, h2, h3, h4, h5⟩ := h
  change okm f n at h1
  change Cok C an at h2
  change n + 4 * sum3 (asC C) ≤ 77 at h3
  change 13 * d + sum3 (wkC C) + mc f n ≤ k at h4
  change cnF R 5 ≤ 2 at h5
  by_cases q : okI p0 n
  · obtain ⟨i, hi, rfl⟩ := okI_of q (by omega)
    obtain ⟨⟨c, hc, ec⟩, ⟨r, hr, er⟩⟩ := h1 i hi
    rw [dlS_at hi (by omega) hc hr ec er] at hu ⊢
    have e := mc_drp (f := f) hi
    unfold pr at e
    refine inv_msg (an := an) (okm_drp h1) h2 (by omega) ?_ h5 hc hr hu
    omega
  · rw [show dlS (R, C, n, f, d, g) p0 = (R, C, n, f, d, g) from if_neg q] at hu ⊢
    exact ⟨h1, fun q hq => ⟨(h2 q hq).1, (h2 q hq).2.1, (h2 q hq).2.2.1, hu q hq⟩, h3, Nat.le_succ_of_le h4, h5⟩
end
