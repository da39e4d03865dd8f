-- ===== PART A: goes FIRST, ahead of the names: the tables' words, and 'selects' of the private methods out of them =====
/-- a private method of a class that the tables say can be made, by its rows of tables_1 -/
def lw_okq (q : MethodName × Nat) : Prop := (q.1.cls ≠ "java/lang/invoke/MethodHandle" ∧ q.1.cls ≠ "java/lang/invoke/VarHandle") ∧ Cond.instantiable q.1.cls q.2 ∈ tables_1 ∧ Cond.privateMethod q.1 ∈ tables_1 ∧ Cond.instanceMethod q.1 ∈ tables_1
theorem lw_p0 : lw_okq (⟨"CodeBlocks", "beginSearch", "()V"⟩, 13) := ⟨⟨by decide +kernel, by decide +kernel⟩, List.mem_of_getElem? (i := 5) (by decide +kernel), List.mem_of_getElem? (i := 58) (by decide +kernel), List.mem_of_getElem? (i := 59) (by decide +kernel)⟩
theorem lw_p1 : lw_okq (⟨"CodeBlocks", "takeBit", "(J)V"⟩, 13) := ⟨⟨by decide +kernel, by decide +kernel⟩, List.mem_of_getElem? (i := 5) (by decide +kernel), List.mem_of_getElem? (i := 70) (by decide +kernel), List.mem_of_getElem? (i := 71) (by decide +kernel)⟩
theorem lw_p2 : lw_okq (⟨"CodeBlocks", "lookForStart", "()V"⟩, 13) := ⟨⟨by decide +kernel, by decide +kernel⟩, List.mem_of_getElem? (i := 5) (by decide +kernel), List.mem_of_getElem? (i := 74) (by decide +kernel), List.mem_of_getElem? (i := 75) (by decide +kernel)⟩
theorem lw_p3 : lw_okq (⟨"CodeBlocks", "beginTransmission", "()V"⟩, 13) := ⟨⟨by decide +kernel, by decide +kernel⟩, List.mem_of_getElem? (i := 5) (by decide +kernel), List.mem_of_getElem? (i := 86) (by decide +kernel), List.mem_of_getElem? (i := 87) (by decide +kernel)⟩
theorem lw_p4 : lw_okq (⟨"CodeBlocks", "lookAtBlock", "()V"⟩, 13) := ⟨⟨by decide +kernel, by decide +kernel⟩, List.mem_of_getElem? (i := 5) (by decide +kernel), List.mem_of_getElem? (i := 90) (by decide +kernel), List.mem_of_getElem? (i := 91) (by decide +kernel)⟩
theorem lw_p5 : lw_okq (⟨"CodeBlocks", "keepData", "(J)V"⟩, 13) := ⟨⟨by decide +kernel, by decide +kernel⟩, List.mem_of_getElem? (i := 5) (by decide +kernel), List.mem_of_getElem? (i := 104) (by decide +kernel), List.mem_of_getElem? (i := 105) (by decide +kernel)⟩
theorem lw_p6 : lw_okq (⟨"CodeBlocks", "endTransmission", "()V"⟩, 13) := ⟨⟨by decide +kernel, by decide +kernel⟩, List.mem_of_getElem? (i := 5) (by decide +kernel), List.mem_of_getElem? (i := 111) (by decide +kernel), List.mem_of_getElem? (i := 112) (by decide +kernel)⟩
theorem lw_p7 : lw_okq (⟨"CodeBlocks", "fillLastBlock", "()V"⟩, 13) := ⟨⟨by decide +kernel, by decide +kernel⟩, List.mem_of_getElem? (i := 5) (by decide +kernel), List.mem_of_getElem? (i := 139) (by decide +kernel), List.mem_of_getElem? (i := 140) (by decide +kernel)⟩
theorem lw_p8 : lw_okq (⟨"CodeBlocks", "sendBytes", "(JI)V"⟩, 13) := ⟨⟨by decide +kernel, by decide +kernel⟩, List.mem_of_getElem? (i := 5) (by decide +kernel), List.mem_of_getElem? (i := 145) (by decide +kernel), List.mem_of_getElem? (i := 146) (by decide +kernel)⟩
theorem lw_p9 : lw_okq (⟨"CodeBlocks", "waitingData", "(I)J"⟩, 13) := ⟨⟨by decide +kernel, by decide +kernel⟩, List.mem_of_getElem? (i := 5) (by decide +kernel), List.mem_of_getElem? (i := 149) (by decide +kernel), List.mem_of_getElem? (i := 150) (by decide +kernel)⟩
theorem lw_p10 : lw_okq (⟨"CodeBlocksModel", "begins", "(I)V"⟩, 14) := ⟨⟨by decide +kernel, by decide +kernel⟩, List.mem_of_getElem? (i := 162) (by decide +kernel), List.mem_of_getElem? (i := 215) (by decide +kernel), List.mem_of_getElem? (i := 216) (by decide +kernel)⟩
theorem lw_p11 : lw_okq (⟨"CodeBlocksModel", "bit", "(I)I"⟩, 14) := ⟨⟨by decide +kernel, by decide +kernel⟩, List.mem_of_getElem? (i := 162) (by decide +kernel), List.mem_of_getElem? (i := 227) (by decide +kernel), List.mem_of_getElem? (i := 228) (by decide +kernel)⟩
theorem lw_p12 : lw_okq (⟨"CodeBlocksModel", "block", "()I"⟩, 14) := ⟨⟨by decide +kernel, by decide +kernel⟩, List.mem_of_getElem? (i := 162) (by decide +kernel), List.mem_of_getElem? (i := 231) (by decide +kernel), List.mem_of_getElem? (i := 232) (by decide +kernel)⟩
theorem lw_p13 : lw_okq (⟨"CodeBlocksModel", "wrong", "()I"⟩, 14) := ⟨⟨by decide +kernel, by decide +kernel⟩, List.mem_of_getElem? (i := 162) (by decide +kernel), List.mem_of_getElem? (i := 235) (by decide +kernel), List.mem_of_getElem? (i := 236) (by decide +kernel)⟩
theorem lw_p14 : lw_okq (⟨"CodeBlocksModel", "divided", "(I)Z"⟩, 14) := ⟨⟨by decide +kernel, by decide +kernel⟩, List.mem_of_getElem? (i := 162) (by decide +kernel), List.mem_of_getElem? (i := 239) (by decide +kernel), List.mem_of_getElem? (i := 240) (by decide +kernel)⟩
theorem lw_p15 : lw_okq (⟨"CodeBlocksModel", "ends", "()V"⟩, 14) := ⟨⟨by decide +kernel, by decide +kernel⟩, List.mem_of_getElem? (i := 162) (by decide +kernel), List.mem_of_getElem? (i := 243) (by decide +kernel), List.mem_of_getElem? (i := 244) (by decide +kernel)⟩
def lw_privs_1 : List (MethodName × Nat) := [(⟨"CodeBlocks", "beginSearch", "()V"⟩, 13), (⟨"CodeBlocks", "takeBit", "(J)V"⟩, 13), (⟨"CodeBlocks", "lookForStart", "()V"⟩, 13), (⟨"CodeBlocks", "beginTransmission", "()V"⟩, 13), (⟨"CodeBlocks", "lookAtBlock", "()V"⟩, 13), (⟨"CodeBlocks", "keepData", "(J)V"⟩, 13), (⟨"CodeBlocks", "endTransmission", "()V"⟩, 13), (⟨"CodeBlocks", "fillLastBlock", "()V"⟩, 13), (⟨"CodeBlocks", "sendBytes", "(JI)V"⟩, 13), (⟨"CodeBlocks", "waitingData", "(I)J"⟩, 13), (⟨"CodeBlocksModel", "begins", "(I)V"⟩, 14), (⟨"CodeBlocksModel", "bit", "(I)I"⟩, 14), (⟨"CodeBlocksModel", "block", "()I"⟩, 14), (⟨"CodeBlocksModel", "wrong", "()I"⟩, 14), (⟨"CodeBlocksModel", "divided", "(I)Z"⟩, 14), (⟨"CodeBlocksModel", "ends", "()V"⟩, 14)]
theorem lw_r1 : ∀ q ∈ lw_privs_1, lw_okq q := List.forall_mem_cons.mpr ⟨lw_p0, List.forall_mem_cons.mpr ⟨lw_p1, List.forall_mem_cons.mpr ⟨lw_p2, List.forall_mem_cons.mpr ⟨lw_p3, List.forall_mem_cons.mpr ⟨lw_p4, List.forall_mem_cons.mpr ⟨lw_p5, List.forall_mem_cons.mpr ⟨lw_p6, List.forall_mem_cons.mpr ⟨lw_p7, List.forall_mem_cons.mpr ⟨lw_p8, List.forall_mem_cons.mpr ⟨lw_p9, List.forall_mem_cons.mpr ⟨lw_p10, List.forall_mem_cons.mpr ⟨lw_p11, List.forall_mem_cons.mpr ⟨lw_p12, List.forall_mem_cons.mpr ⟨lw_p13, List.forall_mem_cons.mpr ⟨lw_p14, List.forall_mem_cons.mpr ⟨lw_p15, fun _ h => absurd h List.not_mem_nil⟩⟩⟩⟩⟩⟩⟩⟩⟩⟩⟩⟩⟩⟩⟩⟩
theorem lw_p16 : lw_okq (⟨"CodeBlocksModel", "look", "()V"⟩, 14) := ⟨⟨by decide +kernel, by decide +kernel⟩, List.mem_of_getElem? (i := 162) (by decide +kernel), List.mem_of_getElem? (i := 247) (by decide +kernel), List.mem_of_getElem? (i := 248) (by decide +kernel)⟩
theorem lw_p17 : lw_okq (⟨"CodeBlocksModel", "out", "(I)V"⟩, 14) := ⟨⟨by decide +kernel, by decide +kernel⟩, List.mem_of_getElem? (i := 162) (by decide +kernel), List.mem_of_getElem? (i := 276) (by decide +kernel), List.mem_of_getElem? (i := 277) (by decide +kernel)⟩
theorem lw_p18 : lw_okq (⟨"CodeBlocksModel", "check", "(I)I"⟩, 14) := ⟨⟨by decide +kernel, by decide +kernel⟩, List.mem_of_getElem? (i := 162) (by decide +kernel), List.mem_of_getElem? (i := 280) (by decide +kernel), List.mem_of_getElem? (i := 281) (by decide +kernel)⟩
def lw_privs_2 : List (MethodName × Nat) := [(⟨"CodeBlocksModel", "look", "()V"⟩, 14), (⟨"CodeBlocksModel", "out", "(I)V"⟩, 14), (⟨"CodeBlocksModel", "check", "(I)I"⟩, 14)]
theorem lw_r2 : ∀ q ∈ lw_privs_2, lw_okq q := List.forall_mem_cons.mpr ⟨lw_p16, List.forall_mem_cons.mpr ⟨lw_p17, List.forall_mem_cons.mpr ⟨lw_p18, fun _ h => absurd h List.not_mem_nil⟩⟩⟩
def lw_privs : List (MethodName × Nat) := lw_privs_1 ++ (lw_privs_2)
def lw_tbl : List Cond := k2_sels lw_privs ++ tables_1
theorem lw_privs_ok : ∀ q ∈ lw_privs, lw_okq q := by
  show ∀ q ∈ lw_privs_1 ++ (lw_privs_2), lw_okq q
  exact List.forall_mem_append.mpr ⟨lw_r1, lw_r2⟩
/-! ===== BEGIN words of one list among another's, by their places ===== -/
theorem goodIn_r {big : List Cond} (ws : List Cond) (ps : List Nat) (hp : ws = ps.filterMap (fun i => big[i]?)) (h : ws.all goodWord = true) : GoodIn big ws := by
  intro w hw
  have h1 := List.all_eq_true.mp h w hw
  rw [hp] at hw
  obtain ⟨i, -, hi⟩ := List.mem_filterMap.mp hw
  have hm : w ∈ big := by first | exact List.mem_of_getElem? hi | exact List.getElem?_mem hi
  exact ⟨hm, good_of_word h1⟩
theorem goodIn_app {big a b : List Cond} (ha : GoodIn big a) (hb : GoodIn big b) : GoodIn big (a ++ b) := fun w h => (List.mem_append.mp h).elim (ha w) (hb w)
theorem goodIn_ca {big a b : List Cond} {c : Cond} (ha : GoodIn big (c :: a)) (hb : GoodIn big b) : GoodIn big (c :: (a ++ b)) := fun w h => (List.mem_cons.mp h).elim (fun e => ha w (List.mem_cons.mpr (Or.inl e))) (fun h => (List.mem_append.mp h).elim (fun h => ha w (List.mem_cons.mpr (Or.inr h))) (hb w))
theorem goodIn_sub {big ws : List Cond} (hm : ∀ w ∈ ws, w ∈ big) (h : ws.all goodWord = true) : GoodIn big ws := fun w hw => ⟨hm w hw, good_of_word (List.all_eq_true.mp h w hw)⟩
/-! ===== END ===== -/

/-! ===== BEGIN printed: names, fields, word lists, decode rows ===== -/
def RX0 : String := "CodeBlocks"
def TX0 : u_T := fun k => match k with
  | 0 => ("CodeBlocks", "state", "I", false)
  | 1 => ("CodeBlocks", "mends", "Z", false)
  | 2 => ("CodeBlocks", "bits", "J", false)
  | 3 => ("CodeBlocks", "came", "I", false)
  | 4 => ("CodeBlocks", "row", "[I", false)
  | 5 => ("CodeBlocks", "rowSize", "I", false)
  | 6 => ("CodeBlocks", "received", "[I", false)
  | 7 => ("CodeBlocks", "receivedSize", "I", false)
  | 8 => ("CodeBlocks", "counts", "[I", true)
  | 9 => ("CodeBlocks", "waiting", "[I", true)
  | 10 => ("CodeBlocks", "waitingSize", "I", false)
  | 11 => ("CodeBlocks", "sent", "[I", true)
  | _ => ("CodeBlocks", "sentSize", "I", false)
def tyX0 : Nat → FieldType := fun k => match k with
  | 0 => .int
  | 1 => .boolean
  | 2 => .long
  | 3 => .int
  | 4 => .array .int
  | 5 => .int
  | 6 => .array .int
  | 7 => .int
  | 8 => .array .int
  | 9 => .array .int
  | 10 => .int
  | 11 => .array .int
  | _ => .int
abbrev wsX00 : List Cond := u_ws RX0 TX0 13
theorem nmX0 : ∀ a, a < 13 → ∀ b, b < 13 → a ≠ b → (TX0 a).2.1 ≠ (TX0 b).2.1 := by decide +kernel
theorem tyX0_ok : ∀ k, k < 13 → parseFieldDescriptor (TX0 k).2.2.1 = some (tyX0 k) := by decide +kernel
abbrev cX0_init : ByteArray := prog_1_method_1_code
def yX0_init : MethodName := ⟨RX0, "<init>", "()V"⟩
abbrev cX0_turn : ByteArray := prog_1_method_2_code
def yX0_turn : MethodName := ⟨RX0, "turn", "(Z)Z"⟩
abbrev cX0_mending : ByteArray := prog_1_method_3_code
def yX0_mending : MethodName := ⟨RX0, "mending", "(Z)V"⟩
abbrev cX0_take : ByteArray := prog_1_method_4_code
def yX0_take : MethodName := ⟨RX0, "take", "(IJ)I"⟩
abbrev cX0_state : ByteArray := prog_1_method_5_code
def yX0_state : MethodName := ⟨RX0, "state", "()I"⟩
abbrev cX0_count : ByteArray := prog_1_method_6_code
def yX0_count : MethodName := ⟨RX0, "count", "(I)I"⟩
abbrev cX0_size : ByteArray := prog_1_method_7_code
def yX0_size : MethodName := ⟨RX0, "size", "()I"⟩
abbrev cX0_byteAt : ByteArray := prog_1_method_8_code
def yX0_byteAt : MethodName := ⟨RX0, "byteAt", "(I)I"⟩
abbrev cX0_put : ByteArray := prog_1_method_9_code
def yX0_put : MethodName := ⟨RX0, "put", "(I)I"⟩
abbrev cX0_send : ByteArray := prog_1_method_10_code
def yX0_send : MethodName := ⟨RX0, "send", "()I"⟩
abbrev cX0_sent : ByteArray := prog_1_method_11_code
def yX0_sent : MethodName := ⟨RX0, "sent", "(I)I"⟩
abbrev cX0_beginSearch : ByteArray := prog_1_method_12_code
def yX0_beginSearch : MethodName := ⟨RX0, "beginSearch", "()V"⟩
abbrev cX0_takeBit : ByteArray := prog_1_method_13_code
def yX0_takeBit : MethodName := ⟨RX0, "takeBit", "(J)V"⟩
abbrev cX0_lookForStart : ByteArray := prog_1_method_14_code
def yX0_lookForStart : MethodName := ⟨RX0, "lookForStart", "()V"⟩
abbrev cX0_beginTransmission : ByteArray := prog_1_method_15_code
def yX0_beginTransmission : MethodName := ⟨RX0, "beginTransmission", "()V"⟩
abbrev cX0_lookAtBlock : ByteArray := prog_1_method_16_code
def yX0_lookAtBlock : MethodName := ⟨RX0, "lookAtBlock", "()V"⟩
abbrev cX0_keepData : ByteArray := prog_1_method_17_code
def yX0_keepData : MethodName := ⟨RX0, "keepData", "(J)V"⟩
abbrev cX0_endTransmission : ByteArray := prog_1_method_18_code
def yX0_endTransmission : MethodName := ⟨RX0, "endTransmission", "()V"⟩
abbrev cX0_remainderOf : ByteArray := prog_1_method_19_code
def yX0_remainderOf : MethodName := ⟨RX0, "remainderOf", "(J)I"⟩
abbrev cX0_powerWithRemainder : ByteArray := prog_1_method_20_code
def yX0_powerWithRemainder : MethodName := ⟨RX0, "powerWithRemainder", "(I)I"⟩
abbrev cX0_reduced : ByteArray := prog_1_method_21_code
def yX0_reduced : MethodName := ⟨RX0, "reduced", "(I)I"⟩
abbrev cX0_blockOf : ByteArray := prog_1_method_22_code
def yX0_blockOf : MethodName := ⟨RX0, "blockOf", "(J)J"⟩
abbrev cX0_byteOf : ByteArray := prog_1_method_23_code
def yX0_byteOf : MethodName := ⟨RX0, "byteOf", "(JI)I"⟩
abbrev cX0_fillLastBlock : ByteArray := prog_1_method_24_code
def yX0_fillLastBlock : MethodName := ⟨RX0, "fillLastBlock", "()V"⟩
abbrev cX0_waitingData : ByteArray := prog_1_method_25_code
def yX0_waitingData : MethodName := ⟨RX0, "waitingData", "(I)J"⟩
abbrev cX0_sendBytes : ByteArray := prog_1_method_26_code
def yX0_sendBytes : MethodName := ⟨RX0, "sendBytes", "(JI)V"⟩
def RX1 : String := "CodeBlocksModel"
def TX1 : u_T := fun k => match k with
  | 0 => ("CodeBlocksModel", "thrown", "I", false)
  | 1 => ("CodeBlocksModel", "state", "I", false)
  | 2 => ("CodeBlocksModel", "mends", "Z", false)
  | 3 => ("CodeBlocksModel", "bits", "[I", true)
  | 4 => ("CodeBlocksModel", "many", "I", false)
  | 5 => ("CodeBlocksModel", "row", "[I", true)
  | 6 => ("CodeBlocksModel", "rows", "I", false)
  | 7 => ("CodeBlocksModel", "received", "[I", true)
  | 8 => ("CodeBlocksModel", "size", "I", false)
  | 9 => ("CodeBlocksModel", "wanted", "[I", true)
  | 10 => ("CodeBlocksModel", "wants", "I", false)
  | 11 => ("CodeBlocksModel", "sent", "[I", true)
  | 12 => ("CodeBlocksModel", "sends", "I", false)
  | _ => ("CodeBlocksModel", "counts", "[I", true)
def tyX1 : Nat → FieldType := fun k => match k with
  | 0 => .int
  | 1 => .int
  | 2 => .boolean
  | 3 => .array .int
  | 4 => .int
  | 5 => .array .int
  | 6 => .int
  | 7 => .array .int
  | 8 => .int
  | 9 => .array .int
  | 10 => .int
  | 11 => .array .int
  | 12 => .int
  | _ => .array .int
abbrev wsX10 : List Cond := u_ws RX1 TX1 14
theorem nmX1 : ∀ a, a < 14 → ∀ b, b < 14 → a ≠ b → (TX1 a).2.1 ≠ (TX1 b).2.1 := by decide +kernel
theorem tyX1_ok : ∀ k, k < 14 → parseFieldDescriptor (TX1 k).2.2.1 = some (tyX1 k) := by decide +kernel
abbrev cX1_init : ByteArray := prog_3_method_1_code
def yX1_init : MethodName := ⟨RX1, "<init>", "()V"⟩
abbrev cX1_wrong : ByteArray := prog_3_method_4_code
def yX1_wrong : MethodName := ⟨RX1, "wrong", "()I"⟩
abbrev cX1_begins : ByteArray := prog_3_method_5_code
def yX1_begins : MethodName := ⟨RX1, "begins", "(I)V"⟩
abbrev cX1_block : ByteArray := prog_3_method_7_code
def yX1_block : MethodName := ⟨RX1, "block", "()I"⟩
abbrev cX1_bit : ByteArray := prog_3_method_9_code
def yX1_bit : MethodName := ⟨RX1, "bit", "(I)I"⟩
abbrev cX1_turn : ByteArray := prog_3_method_10_code
def yX1_turn : MethodName := ⟨RX1, "turn", "(Z)Z"⟩
abbrev cX1_mending : ByteArray := prog_3_method_11_code
def yX1_mending : MethodName := ⟨RX1, "mending", "(Z)V"⟩
abbrev cX1_take : ByteArray := prog_3_method_12_code
def yX1_take : MethodName := ⟨RX1, "take", "(IJ)I"⟩
def RJ6 : String := "java/lang/Integer"
def TJ6 : u_T := fun k => match k with
  | _ => ("", "", "", false)
def tyJ6 : Nat → FieldType := fun k => match k with
  | _ => .int
abbrev wsJ60 : List Cond := u_ws RJ6 TJ6 0
theorem nmJ6 : ∀ a, a < 0 → ∀ b, b < 0 → a ≠ b → (TJ6 a).2.1 ≠ (TJ6 b).2.1 := by decide +kernel
theorem tyJ6_ok : ∀ k, k < 0 → parseFieldDescriptor (TJ6 k).2.2.1 = some (tyJ6 k) := by decide +kernel
abbrev cJ6_bitCount_0f7a4 : ByteArray := prog_4_method_49_code
def yJ6_bitCount_0f7a4 : MethodName := ⟨RJ6, "bitCount", "(I)I"⟩
def RL : String := "CodeBlocksLaw"
abbrev cL_law : ByteArray := code
def yL_law : MethodName := ⟨RL, "law", "([I)Z"⟩
def wsX0_init : List Cond := .code yX0_init cX0_init 1 none :: ([.methodLink RX0 3 objectInit, .instanceMethod objectInit, .code objectInit ⟨#[0xb1]⟩ 1 none, .fieldLink RX0 9 "CodeBlocks" "state" "I", .arrayClass .int, .fieldLink RX0 13 "CodeBlocks" "row" "[I", .fieldLink RX0 17 "CodeBlocks" "received" "[I", .fieldLink RX0 20 "CodeBlocks" "counts" "[I", .fieldLink RX0 23 "CodeBlocks" "waiting" "[I", .fieldLink RX0 26 "CodeBlocks" "sent" "[I"] ++ wsX00)
def wsX0_beginSearch : List Cond := .code yX0_beginSearch cX0_beginSearch 1 none :: ([.fieldLink RX0 9 "CodeBlocks" "state" "I", .fieldLink RX0 69 "CodeBlocks" "came" "I"] ++ wsX00)
def wsX0_turn : List Cond := .code yX0_turn cX0_turn 2 (some .boolean) :: ([.fieldLink RX0 9 "CodeBlocks" "state" "I", .methodLink RX0 29 yX0_beginSearch, .instanceMethod yX0_beginSearch, .selects RX0 yX0_beginSearch yX0_beginSearch, .initialized RX0, .code yX0_beginSearch cX0_beginSearch 1 none, .fieldLink RX0 69 "CodeBlocks" "came" "I"] ++ wsX00)
def wsX0_mending : List Cond := .code yX0_mending cX0_mending 2 none :: ([.fieldLink RX0 32 "CodeBlocks" "mends" "Z"] ++ wsX00)
def wsJ6_bitCount_0f7a4 : List Cond := .code yJ6_bitCount_0f7a4 cJ6_bitCount_0f7a4 1 (some .int) :: ([.constant RJ6 265 (1431655765), .constant RJ6 266 (858993459), .constant RJ6 267 (252645135)])
def wsX0_beginTransmission : List Cond := .code yX0_beginTransmission cX0_beginTransmission 1 none :: ([.fieldLink RX0 20 "CodeBlocks" "counts" "[I", .fieldLink RX0 9 "CodeBlocks" "state" "I", .fieldLink RX0 69 "CodeBlocks" "came" "I", .fieldLink RX0 94 "CodeBlocks" "rowSize" "I"] ++ wsX00)
def wsX0_lookForStart : List Cond := .code yX0_lookForStart cX0_lookForStart 2 none :: ([.fieldLink RX0 69 "CodeBlocks" "came" "I", .fieldLink RX0 72 "CodeBlocks" "bits" "J", .constantLong RX0 82 (65535), .constant RX0 84 (60304), .fieldLink RX0 32 "CodeBlocks" "mends" "Z", .fieldLink RX0 20 "CodeBlocks" "counts" "[I", .methodLink RX0 85 yJ6_bitCount_0f7a4, .static yJ6_bitCount_0f7a4, .initialized RJ6, .code yJ6_bitCount_0f7a4 cJ6_bitCount_0f7a4 1 (some .int), .constant RJ6 265 (1431655765), .constant RJ6 266 (858993459), .constant RJ6 267 (252645135), .methodLink RX0 91 yX0_beginTransmission, .instanceMethod yX0_beginTransmission, .selects RX0 yX0_beginTransmission yX0_beginTransmission, .initialized RX0, .code yX0_beginTransmission cX0_beginTransmission 1 none, .fieldLink RX0 9 "CodeBlocks" "state" "I", .fieldLink RX0 94 "CodeBlocks" "rowSize" "I"] ++ wsX00)
def wsX0_reduced : List Cond := .code yX0_reduced cX0_reduced 1 (some .int) :: ([])
def wsX0_remainderOf : List Cond := .code yX0_remainderOf cX0_remainderOf 4 (some .int) :: ([.methodLink RX0 116 yX0_reduced, .static yX0_reduced, .initialized RX0, .code yX0_reduced cX0_reduced 1 (some .int)])
def wsX0_powerWithRemainder : List Cond := .code yX0_powerWithRemainder cX0_powerWithRemainder 3 (some .int) :: ([.methodLink RX0 116 yX0_reduced, .static yX0_reduced, .initialized RX0, .code yX0_reduced cX0_reduced 1 (some .int)])
def wsX0_byteOf : List Cond := .code yX0_byteOf cX0_byteOf 3 (some .int) :: ([])
def wsX0_endTransmission : List Cond := .code yX0_endTransmission cX0_endTransmission 2 none :: ([.fieldLink RX0 20 "CodeBlocks" "counts" "[I", .fieldLink RX0 94 "CodeBlocks" "rowSize" "I", .fieldLink RX0 17 "CodeBlocks" "received" "[I", .fieldLink RX0 13 "CodeBlocks" "row" "[I", .fieldLink RX0 40 "CodeBlocks" "receivedSize" "I", .methodLink RX0 29 yX0_beginSearch, .instanceMethod yX0_beginSearch, .selects RX0 yX0_beginSearch yX0_beginSearch, .initialized RX0, .code yX0_beginSearch cX0_beginSearch 1 none, .fieldLink RX0 9 "CodeBlocks" "state" "I", .fieldLink RX0 69 "CodeBlocks" "came" "I"] ++ wsX00)
def wsX0_keepData : List Cond := .code yX0_keepData cX0_keepData 6 none :: ([.fieldLink RX0 20 "CodeBlocks" "counts" "[I", .fieldLink RX0 94 "CodeBlocks" "rowSize" "I", .fieldLink RX0 13 "CodeBlocks" "row" "[I", .methodLink RX0 112 yX0_byteOf, .static yX0_byteOf, .initialized RX0, .code yX0_byteOf cX0_byteOf 3 (some .int), .methodLink RX0 109 yX0_endTransmission, .instanceMethod yX0_endTransmission, .selects RX0 yX0_endTransmission yX0_endTransmission, .code yX0_endTransmission cX0_endTransmission 2 none, .fieldLink RX0 17 "CodeBlocks" "received" "[I", .fieldLink RX0 40 "CodeBlocks" "receivedSize" "I", .methodLink RX0 29 yX0_beginSearch, .instanceMethod yX0_beginSearch, .selects RX0 yX0_beginSearch yX0_beginSearch, .code yX0_beginSearch cX0_beginSearch 1 none, .fieldLink RX0 9 "CodeBlocks" "state" "I", .fieldLink RX0 69 "CodeBlocks" "came" "I"] ++ wsX00)
def wsX0_lookAtBlock_r1 : List Cond := [Cond.fieldLink RX0 72 "CodeBlocks" "bits" "J", Cond.constantLong RX0 97 (127), Cond.fieldLink RX0 32 "CodeBlocks" "mends" "Z", Cond.fieldLink RX0 20 "CodeBlocks" "counts" "[I", Cond.methodLink RX0 99 yX0_remainderOf, Cond.static yX0_remainderOf, Cond.initialized RX0, Cond.code yX0_remainderOf cX0_remainderOf 4 (some .int), Cond.methodLink RX0 116 yX0_reduced, Cond.static yX0_reduced, Cond.code yX0_reduced cX0_reduced 1 (some .int), Cond.methodLink RX0 103 yX0_powerWithRemainder, Cond.static yX0_powerWithRemainder, Cond.code yX0_powerWithRemainder cX0_powerWithRemainder 3 (some .int), Cond.methodLink RX0 106 yX0_keepData, Cond.instanceMethod yX0_keepData, Cond.selects RX0 yX0_keepData yX0_keepData, Cond.code yX0_keepData cX0_keepData 6 none, Cond.fieldLink RX0 94 "CodeBlocks" "rowSize" "I", Cond.fieldLink RX0 13 "CodeBlocks" "row" "[I", Cond.methodLink RX0 112 yX0_byteOf, Cond.static yX0_byteOf, Cond.code yX0_byteOf cX0_byteOf 3 (some .int), Cond.methodLink RX0 109 yX0_endTransmission]
def wsX0_lookAtBlock_r2 : List Cond := [Cond.instanceMethod yX0_endTransmission, Cond.selects RX0 yX0_endTransmission yX0_endTransmission, Cond.code yX0_endTransmission cX0_endTransmission 2 none, Cond.fieldLink RX0 17 "CodeBlocks" "received" "[I", Cond.fieldLink RX0 40 "CodeBlocks" "receivedSize" "I", Cond.methodLink RX0 29 yX0_beginSearch, Cond.instanceMethod yX0_beginSearch, Cond.selects RX0 yX0_beginSearch yX0_beginSearch, Cond.code yX0_beginSearch cX0_beginSearch 1 none, Cond.fieldLink RX0 9 "CodeBlocks" "state" "I", Cond.fieldLink RX0 69 "CodeBlocks" "came" "I"]
def wsX0_lookAtBlock : List Cond := .code yX0_lookAtBlock cX0_lookAtBlock 5 none :: ((wsX0_lookAtBlock_r1 ++ wsX0_lookAtBlock_r2) ++ wsX00)
def wsX0_takeBit_r1 : List Cond := [Cond.fieldLink RX0 72 "CodeBlocks" "bits" "J", Cond.fieldLink RX0 69 "CodeBlocks" "came" "I", Cond.fieldLink RX0 9 "CodeBlocks" "state" "I", Cond.methodLink RX0 76 yX0_lookForStart, Cond.instanceMethod yX0_lookForStart, Cond.selects RX0 yX0_lookForStart yX0_lookForStart, Cond.initialized RX0, Cond.code yX0_lookForStart cX0_lookForStart 2 none, Cond.constantLong RX0 82 (65535), Cond.constant RX0 84 (60304), Cond.fieldLink RX0 32 "CodeBlocks" "mends" "Z", Cond.fieldLink RX0 20 "CodeBlocks" "counts" "[I", Cond.methodLink RX0 85 yJ6_bitCount_0f7a4, Cond.static yJ6_bitCount_0f7a4, Cond.initialized RJ6, Cond.code yJ6_bitCount_0f7a4 cJ6_bitCount_0f7a4 1 (some .int), Cond.constant RJ6 265 (1431655765), Cond.constant RJ6 266 (858993459), Cond.constant RJ6 267 (252645135), Cond.methodLink RX0 91 yX0_beginTransmission, Cond.instanceMethod yX0_beginTransmission, Cond.selects RX0 yX0_beginTransmission yX0_beginTransmission, Cond.code yX0_beginTransmission cX0_beginTransmission 1 none, Cond.fieldLink RX0 94 "CodeBlocks" "rowSize" "I"]
def wsX0_takeBit_r2 : List Cond := [Cond.methodLink RX0 79 yX0_lookAtBlock, Cond.instanceMethod yX0_lookAtBlock, Cond.selects RX0 yX0_lookAtBlock yX0_lookAtBlock, Cond.code yX0_lookAtBlock cX0_lookAtBlock 5 none, Cond.constantLong RX0 97 (127), Cond.methodLink RX0 99 yX0_remainderOf, Cond.static yX0_remainderOf, Cond.code yX0_remainderOf cX0_remainderOf 4 (some .int), Cond.methodLink RX0 116 yX0_reduced, Cond.static yX0_reduced, Cond.code yX0_reduced cX0_reduced 1 (some .int), Cond.methodLink RX0 103 yX0_powerWithRemainder, Cond.static yX0_powerWithRemainder, Cond.code yX0_powerWithRemainder cX0_powerWithRemainder 3 (some .int), Cond.methodLink RX0 106 yX0_keepData, Cond.instanceMethod yX0_keepData, Cond.selects RX0 yX0_keepData yX0_keepData, Cond.code yX0_keepData cX0_keepData 6 none, Cond.fieldLink RX0 13 "CodeBlocks" "row" "[I", Cond.methodLink RX0 112 yX0_byteOf, Cond.static yX0_byteOf, Cond.code yX0_byteOf cX0_byteOf 3 (some .int), Cond.methodLink RX0 109 yX0_endTransmission, Cond.instanceMethod yX0_endTransmission]
def wsX0_takeBit_r3 : List Cond := [Cond.selects RX0 yX0_endTransmission yX0_endTransmission, Cond.code yX0_endTransmission cX0_endTransmission 2 none, Cond.fieldLink RX0 17 "CodeBlocks" "received" "[I", Cond.fieldLink RX0 40 "CodeBlocks" "receivedSize" "I", Cond.methodLink RX0 29 yX0_beginSearch, Cond.instanceMethod yX0_beginSearch, Cond.selects RX0 yX0_beginSearch yX0_beginSearch, Cond.code yX0_beginSearch cX0_beginSearch 1 none]
def wsX0_takeBit : List Cond := .code yX0_takeBit cX0_takeBit 3 none :: ((wsX0_takeBit_r1 ++ (wsX0_takeBit_r2 ++ wsX0_takeBit_r3)) ++ wsX00)
def wsX0_take_r1 : List Cond := [Cond.fieldLink RX0 9 "CodeBlocks" "state" "I", Cond.fieldLink RX0 20 "CodeBlocks" "counts" "[I", Cond.methodLink RX0 36 yX0_takeBit, Cond.instanceMethod yX0_takeBit, Cond.selects RX0 yX0_takeBit yX0_takeBit, Cond.initialized RX0, Cond.code yX0_takeBit cX0_takeBit 3 none, Cond.fieldLink RX0 72 "CodeBlocks" "bits" "J", Cond.fieldLink RX0 69 "CodeBlocks" "came" "I", Cond.methodLink RX0 76 yX0_lookForStart, Cond.instanceMethod yX0_lookForStart, Cond.selects RX0 yX0_lookForStart yX0_lookForStart, Cond.code yX0_lookForStart cX0_lookForStart 2 none, Cond.constantLong RX0 82 (65535), Cond.constant RX0 84 (60304), Cond.fieldLink RX0 32 "CodeBlocks" "mends" "Z", Cond.methodLink RX0 85 yJ6_bitCount_0f7a4, Cond.static yJ6_bitCount_0f7a4, Cond.initialized RJ6, Cond.code yJ6_bitCount_0f7a4 cJ6_bitCount_0f7a4 1 (some .int), Cond.constant RJ6 265 (1431655765), Cond.constant RJ6 266 (858993459), Cond.constant RJ6 267 (252645135), Cond.methodLink RX0 91 yX0_beginTransmission]
def wsX0_take_r2 : List Cond := [Cond.instanceMethod yX0_beginTransmission, Cond.selects RX0 yX0_beginTransmission yX0_beginTransmission, Cond.code yX0_beginTransmission cX0_beginTransmission 1 none, Cond.fieldLink RX0 94 "CodeBlocks" "rowSize" "I", Cond.methodLink RX0 79 yX0_lookAtBlock, Cond.instanceMethod yX0_lookAtBlock, Cond.selects RX0 yX0_lookAtBlock yX0_lookAtBlock, Cond.code yX0_lookAtBlock cX0_lookAtBlock 5 none, Cond.constantLong RX0 97 (127), Cond.methodLink RX0 99 yX0_remainderOf, Cond.static yX0_remainderOf, Cond.code yX0_remainderOf cX0_remainderOf 4 (some .int), Cond.methodLink RX0 116 yX0_reduced, Cond.static yX0_reduced, Cond.code yX0_reduced cX0_reduced 1 (some .int), Cond.methodLink RX0 103 yX0_powerWithRemainder, Cond.static yX0_powerWithRemainder, Cond.code yX0_powerWithRemainder cX0_powerWithRemainder 3 (some .int), Cond.methodLink RX0 106 yX0_keepData, Cond.instanceMethod yX0_keepData, Cond.selects RX0 yX0_keepData yX0_keepData, Cond.code yX0_keepData cX0_keepData 6 none, Cond.fieldLink RX0 13 "CodeBlocks" "row" "[I", Cond.methodLink RX0 112 yX0_byteOf]
def wsX0_take_r3 : List Cond := [Cond.static yX0_byteOf, Cond.code yX0_byteOf cX0_byteOf 3 (some .int), Cond.methodLink RX0 109 yX0_endTransmission, Cond.instanceMethod yX0_endTransmission, Cond.selects RX0 yX0_endTransmission yX0_endTransmission, Cond.code yX0_endTransmission cX0_endTransmission 2 none, Cond.fieldLink RX0 17 "CodeBlocks" "received" "[I", Cond.fieldLink RX0 40 "CodeBlocks" "receivedSize" "I", Cond.methodLink RX0 29 yX0_beginSearch, Cond.instanceMethod yX0_beginSearch, Cond.selects RX0 yX0_beginSearch yX0_beginSearch, Cond.code yX0_beginSearch cX0_beginSearch 1 none]
def wsX0_take : List Cond := .code yX0_take cX0_take 6 (some .int) :: ((wsX0_take_r1 ++ (wsX0_take_r2 ++ wsX0_take_r3)) ++ wsX00)
def wsX0_state : List Cond := .code yX0_state cX0_state 1 (some .int) :: ([.fieldLink RX0 9 "CodeBlocks" "state" "I"] ++ wsX00)
def wsX0_count : List Cond := .code yX0_count cX0_count 2 (some .int) :: ([.fieldLink RX0 20 "CodeBlocks" "counts" "[I"] ++ wsX00)
def wsX0_size : List Cond := .code yX0_size cX0_size 1 (some .int) :: ([.fieldLink RX0 40 "CodeBlocks" "receivedSize" "I"] ++ wsX00)
def wsX0_byteAt : List Cond := .code yX0_byteAt cX0_byteAt 2 (some .int) :: ([.fieldLink RX0 40 "CodeBlocks" "receivedSize" "I", .fieldLink RX0 17 "CodeBlocks" "received" "[I"] ++ wsX00)
def wsX0_put : List Cond := .code yX0_put cX0_put 2 (some .int) :: ([.fieldLink RX0 43 "CodeBlocks" "waitingSize" "I", .fieldLink RX0 23 "CodeBlocks" "waiting" "[I"] ++ wsX00)
def wsX0_fillLastBlock : List Cond := .code yX0_fillLastBlock cX0_fillLastBlock 2 none :: ([.fieldLink RX0 43 "CodeBlocks" "waitingSize" "I", .methodLink RX0 119 yX0_put, .instanceMethod yX0_put, .selects RX0 yX0_put yX0_put, .initialized RX0, .code yX0_put cX0_put 2 (some .int), .fieldLink RX0 23 "CodeBlocks" "waiting" "[I"] ++ wsX00)
def wsX0_sendBytes : List Cond := .code yX0_sendBytes cX0_sendBytes 5 none :: ([.fieldLink RX0 49 "CodeBlocks" "sentSize" "I", .fieldLink RX0 26 "CodeBlocks" "sent" "[I", .methodLink RX0 112 yX0_byteOf, .static yX0_byteOf, .initialized RX0, .code yX0_byteOf cX0_byteOf 3 (some .int)] ++ wsX00)
def wsX0_waitingData : List Cond := .code yX0_waitingData cX0_waitingData 5 (some .long) :: ([.fieldLink RX0 23 "CodeBlocks" "waiting" "[I"] ++ wsX00)
def wsX0_blockOf : List Cond := .code yX0_blockOf cX0_blockOf 4 (some .long) :: ([.methodLink RX0 99 yX0_remainderOf, .static yX0_remainderOf, .initialized RX0, .code yX0_remainderOf cX0_remainderOf 4 (some .int), .methodLink RX0 116 yX0_reduced, .static yX0_reduced, .code yX0_reduced cX0_reduced 1 (some .int)])
def wsX0_send_r1 : List Cond := [Cond.fieldLink RX0 43 "CodeBlocks" "waitingSize" "I", Cond.fieldLink RX0 49 "CodeBlocks" "sentSize" "I", Cond.constantLong RX0 52 (60304), Cond.fieldLink RX0 66 "CodeBlocks" "TAIL" "[I", Cond.methodLink RX0 46 yX0_fillLastBlock, Cond.instanceMethod yX0_fillLastBlock, Cond.selects RX0 yX0_fillLastBlock yX0_fillLastBlock, Cond.initialized RX0, Cond.code yX0_fillLastBlock cX0_fillLastBlock 2 none, Cond.methodLink RX0 119 yX0_put, Cond.instanceMethod yX0_put, Cond.selects RX0 yX0_put yX0_put, Cond.code yX0_put cX0_put 2 (some .int), Cond.fieldLink RX0 23 "CodeBlocks" "waiting" "[I", Cond.methodLink RX0 54 yX0_sendBytes, Cond.instanceMethod yX0_sendBytes, Cond.selects RX0 yX0_sendBytes yX0_sendBytes, Cond.code yX0_sendBytes cX0_sendBytes 5 none, Cond.fieldLink RX0 26 "CodeBlocks" "sent" "[I", Cond.methodLink RX0 112 yX0_byteOf, Cond.static yX0_byteOf, Cond.code yX0_byteOf cX0_byteOf 3 (some .int), Cond.methodLink RX0 58 yX0_waitingData, Cond.instanceMethod yX0_waitingData]
def wsX0_send_r2 : List Cond := [Cond.selects RX0 yX0_waitingData yX0_waitingData, Cond.code yX0_waitingData cX0_waitingData 5 (some .long), Cond.methodLink RX0 62 yX0_blockOf, Cond.static yX0_blockOf, Cond.code yX0_blockOf cX0_blockOf 4 (some .long), Cond.methodLink RX0 99 yX0_remainderOf, Cond.static yX0_remainderOf, Cond.code yX0_remainderOf cX0_remainderOf 4 (some .int), Cond.methodLink RX0 116 yX0_reduced, Cond.static yX0_reduced, Cond.code yX0_reduced cX0_reduced 1 (some .int)]
def wsX0_send : List Cond := .code yX0_send cX0_send 5 (some .int) :: ((wsX0_send_r1 ++ wsX0_send_r2) ++ wsX00)
def wsX0_sent : List Cond := .code yX0_sent cX0_sent 2 (some .int) :: ([.fieldLink RX0 49 "CodeBlocks" "sentSize" "I", .fieldLink RX0 26 "CodeBlocks" "sent" "[I"] ++ wsX00)
def wsX1_init : List Cond := .code yX1_init cX1_init 1 none :: ([.methodLink RX1 1 objectInit, .instanceMethod objectInit, .code objectInit ⟨#[0xb1]⟩ 1 none, .arrayClass .int, .fieldLink RX1 7 "CodeBlocksModel" "bits" "[I", .fieldLink RX1 13 "CodeBlocksModel" "row" "[I", .fieldLink RX1 16 "CodeBlocksModel" "received" "[I", .fieldLink RX1 19 "CodeBlocksModel" "wanted" "[I", .fieldLink RX1 22 "CodeBlocksModel" "sent" "[I", .fieldLink RX1 25 "CodeBlocksModel" "counts" "[I"] ++ wsX10)
def wsX1_wrong : List Cond := .code yX1_wrong cX1_wrong 3 (some .int) :: ([.fieldLink RX1 36 "CodeBlocksModel" "mends" "Z"] ++ wsX10)
def wsX1_begins : List Cond := .code yX1_begins cX1_begins 2 none :: ([.fieldLink RX1 40 "CodeBlocksModel" "state" "I", .fieldLink RX1 43 "CodeBlocksModel" "many" "I"] ++ wsX10)
def wsX1_block : List Cond := .code yX1_block cX1_block 5 (some .int) :: ([.fieldLink RX1 7 "CodeBlocksModel" "bits" "[I", .fieldLink RX1 13 "CodeBlocksModel" "row" "[I", .fieldLink RX1 46 "CodeBlocksModel" "rows" "I", .fieldLink RX1 25 "CodeBlocksModel" "counts" "[I", .fieldLink RX1 43 "CodeBlocksModel" "many" "I", .methodLink RX1 56 yX1_wrong, .instanceMethod yX1_wrong, .selects RX1 yX1_wrong yX1_wrong, .initialized RX1, .code yX1_wrong cX1_wrong 3 (some .int), .fieldLink RX1 36 "CodeBlocksModel" "mends" "Z"] ++ wsX10)
def wsX1_bit : List Cond := .code yX1_bit cX1_bit 3 (some .int) :: ([.fieldLink RX1 40 "CodeBlocksModel" "state" "I", .fieldLink RX1 7 "CodeBlocksModel" "bits" "[I", .fieldLink RX1 43 "CodeBlocksModel" "many" "I", .methodLink RX1 64 yX1_block, .instanceMethod yX1_block, .selects RX1 yX1_block yX1_block, .initialized RX1, .code yX1_block cX1_block 5 (some .int), .fieldLink RX1 13 "CodeBlocksModel" "row" "[I", .fieldLink RX1 46 "CodeBlocksModel" "rows" "I", .fieldLink RX1 25 "CodeBlocksModel" "counts" "[I", .methodLink RX1 56 yX1_wrong, .instanceMethod yX1_wrong, .selects RX1 yX1_wrong yX1_wrong, .code yX1_wrong cX1_wrong 3 (some .int), .fieldLink RX1 36 "CodeBlocksModel" "mends" "Z"] ++ wsX10)
def wsX1_turn : List Cond := .code yX1_turn cX1_turn 2 (some .boolean) :: ([.fieldLink RX1 28 "CodeBlocksModel" "thrown" "I", .fieldLink RX1 40 "CodeBlocksModel" "state" "I", .fieldLink RX1 46 "CodeBlocksModel" "rows" "I", .methodLink RX1 52 yX1_begins, .instanceMethod yX1_begins, .selects RX1 yX1_begins yX1_begins, .initialized RX1, .code yX1_begins cX1_begins 2 none, .fieldLink RX1 43 "CodeBlocksModel" "many" "I"] ++ wsX10)
def wsX1_mending : List Cond := .code yX1_mending cX1_mending 2 none :: ([.fieldLink RX1 28 "CodeBlocksModel" "thrown" "I", .fieldLink RX1 36 "CodeBlocksModel" "mends" "Z"] ++ wsX10)
def wsX1_take : List Cond := .code yX1_take cX1_take 6 (some .int) :: ([.fieldLink RX1 28 "CodeBlocksModel" "thrown" "I", .fieldLink RX1 40 "CodeBlocksModel" "state" "I", .methodLink RX1 70 yX1_bit, .instanceMethod yX1_bit, .selects RX1 yX1_bit yX1_bit, .initialized RX1, .code yX1_bit cX1_bit 3 (some .int), .fieldLink RX1 7 "CodeBlocksModel" "bits" "[I", .fieldLink RX1 43 "CodeBlocksModel" "many" "I", .methodLink RX1 64 yX1_block, .instanceMethod yX1_block, .selects RX1 yX1_block yX1_block, .code yX1_block cX1_block 5 (some .int), .fieldLink RX1 13 "CodeBlocksModel" "row" "[I", .fieldLink RX1 46 "CodeBlocksModel" "rows" "I", .fieldLink RX1 25 "CodeBlocksModel" "counts" "[I", .methodLink RX1 56 yX1_wrong, .instanceMethod yX1_wrong, .selects RX1 yX1_wrong yX1_wrong, .code yX1_wrong cX1_wrong 3 (some .int), .fieldLink RX1 36 "CodeBlocksModel" "mends" "Z"] ++ wsX10)
def wsL_law_r1 : List Cond := [Cond.classLink RL 7 RX0, Cond.instantiable RX0 13, Cond.initialized RX0, Cond.classLink RL 10 RX1, Cond.instantiable RX1 14, Cond.initialized RX1, Cond.methodLink RL 9 yX0_init, Cond.instanceMethod yX0_init, Cond.code yX0_init cX0_init 1 none, Cond.methodLink RX0 3 objectInit, Cond.instanceMethod objectInit, Cond.code objectInit ⟨#[0xb1]⟩ 1 none, Cond.fieldLink RX0 9 "CodeBlocks" "state" "I", Cond.arrayClass .int, Cond.fieldLink RX0 13 "CodeBlocks" "row" "[I", Cond.fieldLink RX0 17 "CodeBlocks" "received" "[I", Cond.fieldLink RX0 20 "CodeBlocks" "counts" "[I", Cond.fieldLink RX0 23 "CodeBlocks" "waiting" "[I", Cond.fieldLink RX0 26 "CodeBlocks" "sent" "[I", Cond.methodLink RL 12 yX1_init, Cond.instanceMethod yX1_init, Cond.code yX1_init cX1_init 1 none, Cond.methodLink RX1 1 objectInit, Cond.fieldLink RX1 7 "CodeBlocksModel" "bits" "[I"]
def wsL_law_r2 : List Cond := [Cond.fieldLink RX1 13 "CodeBlocksModel" "row" "[I", Cond.fieldLink RX1 16 "CodeBlocksModel" "received" "[I", Cond.fieldLink RX1 19 "CodeBlocksModel" "wanted" "[I", Cond.fieldLink RX1 22 "CodeBlocksModel" "sent" "[I", Cond.fieldLink RX1 25 "CodeBlocksModel" "counts" "[I", Cond.methodLink RL 13 yX0_turn, Cond.instanceMethod yX0_turn, Cond.selects RX0 yX0_turn yX0_turn, Cond.code yX0_turn cX0_turn 2 (some .boolean), Cond.methodLink RX0 29 yX0_beginSearch, Cond.instanceMethod yX0_beginSearch, Cond.selects RX0 yX0_beginSearch yX0_beginSearch, Cond.code yX0_beginSearch cX0_beginSearch 1 none, Cond.fieldLink RX0 69 "CodeBlocks" "came" "I", Cond.methodLink RL 17 yX1_turn, Cond.instanceMethod yX1_turn, Cond.selects RX1 yX1_turn yX1_turn, Cond.code yX1_turn cX1_turn 2 (some .boolean), Cond.fieldLink RX1 28 "CodeBlocksModel" "thrown" "I", Cond.fieldLink RX1 40 "CodeBlocksModel" "state" "I", Cond.fieldLink RX1 46 "CodeBlocksModel" "rows" "I", Cond.methodLink RX1 52 yX1_begins, Cond.instanceMethod yX1_begins, Cond.selects RX1 yX1_begins yX1_begins]
def wsL_law_r3 : List Cond := [Cond.code yX1_begins cX1_begins 2 none, Cond.fieldLink RX1 43 "CodeBlocksModel" "many" "I", Cond.methodLink RL 18 yX0_mending, Cond.instanceMethod yX0_mending, Cond.selects RX0 yX0_mending yX0_mending, Cond.code yX0_mending cX0_mending 2 none, Cond.fieldLink RX0 32 "CodeBlocks" "mends" "Z", Cond.methodLink RL 22 yX1_mending, Cond.instanceMethod yX1_mending, Cond.selects RX1 yX1_mending yX1_mending, Cond.code yX1_mending cX1_mending 2 none, Cond.fieldLink RX1 36 "CodeBlocksModel" "mends" "Z", Cond.methodLink RL 25 yX0_take, Cond.instanceMethod yX0_take, Cond.selects RX0 yX0_take yX0_take, Cond.code yX0_take cX0_take 6 (some .int), Cond.methodLink RX0 36 yX0_takeBit, Cond.instanceMethod yX0_takeBit, Cond.selects RX0 yX0_takeBit yX0_takeBit, Cond.code yX0_takeBit cX0_takeBit 3 none, Cond.fieldLink RX0 72 "CodeBlocks" "bits" "J", Cond.methodLink RX0 76 yX0_lookForStart, Cond.instanceMethod yX0_lookForStart, Cond.selects RX0 yX0_lookForStart yX0_lookForStart]
def wsL_law_r4 : List Cond := [Cond.code yX0_lookForStart cX0_lookForStart 2 none, Cond.constantLong RX0 82 (65535), Cond.constant RX0 84 (60304), Cond.methodLink RX0 85 yJ6_bitCount_0f7a4, Cond.static yJ6_bitCount_0f7a4, Cond.initialized RJ6, Cond.code yJ6_bitCount_0f7a4 cJ6_bitCount_0f7a4 1 (some .int), Cond.constant RJ6 265 (1431655765), Cond.constant RJ6 266 (858993459), Cond.constant RJ6 267 (252645135), Cond.methodLink RX0 91 yX0_beginTransmission, Cond.instanceMethod yX0_beginTransmission, Cond.selects RX0 yX0_beginTransmission yX0_beginTransmission, Cond.code yX0_beginTransmission cX0_beginTransmission 1 none, Cond.fieldLink RX0 94 "CodeBlocks" "rowSize" "I", Cond.methodLink RX0 79 yX0_lookAtBlock, Cond.instanceMethod yX0_lookAtBlock, Cond.selects RX0 yX0_lookAtBlock yX0_lookAtBlock, Cond.code yX0_lookAtBlock cX0_lookAtBlock 5 none, Cond.constantLong RX0 97 (127), Cond.methodLink RX0 99 yX0_remainderOf, Cond.static yX0_remainderOf, Cond.code yX0_remainderOf cX0_remainderOf 4 (some .int), Cond.methodLink RX0 116 yX0_reduced]
def wsL_law_r5 : List Cond := [Cond.static yX0_reduced, Cond.code yX0_reduced cX0_reduced 1 (some .int), Cond.methodLink RX0 103 yX0_powerWithRemainder, Cond.static yX0_powerWithRemainder, Cond.code yX0_powerWithRemainder cX0_powerWithRemainder 3 (some .int), Cond.methodLink RX0 106 yX0_keepData, Cond.instanceMethod yX0_keepData, Cond.selects RX0 yX0_keepData yX0_keepData, Cond.code yX0_keepData cX0_keepData 6 none, Cond.methodLink RX0 112 yX0_byteOf, Cond.static yX0_byteOf, Cond.code yX0_byteOf cX0_byteOf 3 (some .int), Cond.methodLink RX0 109 yX0_endTransmission, Cond.instanceMethod yX0_endTransmission, Cond.selects RX0 yX0_endTransmission yX0_endTransmission, Cond.code yX0_endTransmission cX0_endTransmission 2 none, Cond.fieldLink RX0 40 "CodeBlocks" "receivedSize" "I", Cond.methodLink RL 29 yX1_take, Cond.instanceMethod yX1_take, Cond.selects RX1 yX1_take yX1_take, Cond.code yX1_take cX1_take 6 (some .int), Cond.methodLink RX1 70 yX1_bit, Cond.instanceMethod yX1_bit, Cond.selects RX1 yX1_bit yX1_bit]
def wsL_law_r6 : List Cond := [Cond.code yX1_bit cX1_bit 3 (some .int), Cond.methodLink RX1 64 yX1_block, Cond.instanceMethod yX1_block, Cond.selects RX1 yX1_block yX1_block, Cond.code yX1_block cX1_block 5 (some .int), Cond.methodLink RX1 56 yX1_wrong, Cond.instanceMethod yX1_wrong, Cond.selects RX1 yX1_wrong yX1_wrong, Cond.code yX1_wrong cX1_wrong 3 (some .int), Cond.methodLink RL 30 yX0_state, Cond.instanceMethod yX0_state, Cond.selects RX0 yX0_state yX0_state, Cond.code yX0_state cX0_state 1 (some .int), Cond.methodLink RL 35 yX0_count, Cond.instanceMethod yX0_count, Cond.selects RX0 yX0_count yX0_count, Cond.code yX0_count cX0_count 2 (some .int), Cond.methodLink RL 40 yX0_size, Cond.instanceMethod yX0_size, Cond.selects RX0 yX0_size yX0_size, Cond.code yX0_size cX0_size 1 (some .int), Cond.methodLink RL 44 yX0_byteAt, Cond.instanceMethod yX0_byteAt, Cond.selects RX0 yX0_byteAt yX0_byteAt]
def wsL_law_r7 : List Cond := [Cond.code yX0_byteAt cX0_byteAt 2 (some .int), Cond.methodLink RL 48 yX0_put, Cond.instanceMethod yX0_put, Cond.selects RX0 yX0_put yX0_put, Cond.code yX0_put cX0_put 2 (some .int), Cond.fieldLink RX0 43 "CodeBlocks" "waitingSize" "I", Cond.methodLink RL 52 yX0_send, Cond.instanceMethod yX0_send, Cond.selects RX0 yX0_send yX0_send, Cond.code yX0_send cX0_send 5 (some .int), Cond.fieldLink RX0 49 "CodeBlocks" "sentSize" "I", Cond.constantLong RX0 52 (60304), Cond.fieldLink RX0 66 "CodeBlocks" "TAIL" "[I", Cond.methodLink RX0 46 yX0_fillLastBlock, Cond.instanceMethod yX0_fillLastBlock, Cond.selects RX0 yX0_fillLastBlock yX0_fillLastBlock, Cond.code yX0_fillLastBlock cX0_fillLastBlock 2 none, Cond.methodLink RX0 119 yX0_put, Cond.methodLink RX0 54 yX0_sendBytes, Cond.instanceMethod yX0_sendBytes, Cond.selects RX0 yX0_sendBytes yX0_sendBytes, Cond.code yX0_sendBytes cX0_sendBytes 5 none, Cond.methodLink RX0 58 yX0_waitingData, Cond.instanceMethod yX0_waitingData]
def wsL_law_r8 : List Cond := [Cond.selects RX0 yX0_waitingData yX0_waitingData, Cond.code yX0_waitingData cX0_waitingData 5 (some .long), Cond.methodLink RX0 62 yX0_blockOf, Cond.static yX0_blockOf, Cond.code yX0_blockOf cX0_blockOf 4 (some .long), Cond.methodLink RL 56 yX0_sent, Cond.instanceMethod yX0_sent, Cond.selects RX0 yX0_sent yX0_sent, Cond.code yX0_sent cX0_sent 2 (some .int)]
def wsL_law : List Cond := (wsL_law_r1 ++ (wsL_law_r2 ++ (wsL_law_r3 ++ (wsL_law_r4 ++ (wsL_law_r5 ++ (wsL_law_r6 ++ (wsL_law_r7 ++ wsL_law_r8))))))) ++ wsX00 ++ wsX10 ++ ([] : List Cond)
set_option maxRecDepth 20000 in
theorem wsL_law_in : ∀ w ∈ wsL_law, w ∈ lw_tbl := fun w h => (goodIn_p wsL_law [27, 30, 184, 75, 79, 232, 236, 83, 240, 87, 91, 95, 100, 107, 111, 115, 118, 121, 125, 128, 132, 244, 248, 252, 256, 136, 140, 144, 148, 152, 156, 160, 166, 170, 173, 179] (by decide +kernel) (by decide +kernel) w h).1
theorem inlX0 : ∀ w ∈ wsX00, w ∈ wsL_law := fun _ h => List.mem_append_left _ (List.mem_append_left _ (List.mem_append_right _ h))
theorem inX0 : ∀ w ∈ wsX00, w ∈ lw_tbl := fun w h => wsL_law_in w (inlX0 w h)
theorem inlX1 : ∀ w ∈ wsX10, w ∈ wsL_law := fun _ h => List.mem_append_left _ (List.mem_append_right _ h)
theorem inX1 : ∀ w ∈ wsX10, w ∈ lw_tbl := fun w h => wsL_law_in w (inlX1 w h)
theorem inJ6 : ∀ w ∈ wsJ60, w ∈ lw_tbl := by decide +kernel
theorem dX0_init_0 : decode cX0_init 0 = .ok (.aload_n 0, 1) := by decide +kernel
theorem dX0_init_1 : decode cX0_init 1 = .ok (.invokespecial 3, 3) := by decide +kernel
theorem dX0_init_4 : decode cX0_init 4 = .ok (.aload_n 0, 1) := by decide +kernel
theorem dX0_init_5 : decode cX0_init 5 = .ok (.iconst 0, 1) := by decide +kernel
theorem dX0_init_6 : decode cX0_init 6 = .ok (.putfield 9, 3) := by decide +kernel
theorem dX0_init_9 : decode cX0_init 9 = .ok (.aload_n 0, 1) := by decide +kernel
theorem dX0_init_10 : decode cX0_init 10 = .ok (.sipush 259, 3) := by decide +kernel
theorem dX0_init_13 : decode cX0_init 13 = .ok (.newarray .int, 2) := by decide +kernel
theorem dX0_init_15 : decode cX0_init 15 = .ok (.putfield 13, 3) := by decide +kernel
theorem dX0_init_18 : decode cX0_init 18 = .ok (.aload_n 0, 1) := by decide +kernel
theorem dX0_init_19 : decode cX0_init 19 = .ok (.sipush 259, 3) := by decide +kernel
theorem dX0_init_22 : decode cX0_init 22 = .ok (.newarray .int, 2) := by decide +kernel
theorem dX0_init_24 : decode cX0_init 24 = .ok (.putfield 17, 3) := by decide +kernel
theorem dX0_init_27 : decode cX0_init 27 = .ok (.aload_n 0, 1) := by decide +kernel
theorem dX0_init_28 : decode cX0_init 28 = .ok (.iconst 5, 1) := by decide +kernel
theorem dX0_init_29 : decode cX0_init 29 = .ok (.newarray .int, 2) := by decide +kernel
theorem dX0_init_31 : decode cX0_init 31 = .ok (.putfield 20, 3) := by decide +kernel
theorem dX0_init_34 : decode cX0_init 34 = .ok (.aload_n 0, 1) := by decide +kernel
theorem dX0_init_35 : decode cX0_init 35 = .ok (.sipush 259, 3) := by decide +kernel
theorem dX0_init_38 : decode cX0_init 38 = .ok (.newarray .int, 2) := by decide +kernel
theorem dX0_init_40 : decode cX0_init 40 = .ok (.putfield 23, 3) := by decide +kernel
theorem dX0_init_43 : decode cX0_init 43 = .ok (.aload_n 0, 1) := by decide +kernel
theorem dX0_init_44 : decode cX0_init 44 = .ok (.sipush 306, 3) := by decide +kernel
theorem dX0_init_47 : decode cX0_init 47 = .ok (.newarray .int, 2) := by decide +kernel
theorem dX0_init_49 : decode cX0_init 49 = .ok (.putfield 26, 3) := by decide +kernel
theorem dX0_init_52 : decode cX0_init 52 = .ok (.return_, 1) := by decide +kernel
set_option maxRecDepth 20000 in
theorem ggX0_turn_X0_beginSearch : GoodIn wsX0_turn wsX0_beginSearch := goodIn_r _ [6, 1, 7, 8, 9, 10, 11, 12, 13, 14, 15, 16, 17, 18, 19, 20] (by decide +kernel) (by decide +kernel)
set_option maxRecDepth 20000 in
theorem gX0_turn_X0_beginSearch : GoodIn wsX0_turn (wsV RX0 29 RX0 yX0_beginSearch wsX0_beginSearch) := goodIn_app (goodIn_of _ (by decide +kernel)) ggX0_turn_X0_beginSearch
theorem dX0_turn_0 : decode cX0_turn 0 = .ok (.iload_n 1, 1) := by decide +kernel
theorem dX0_turn_1 : decode cX0_turn 1 = .ok (.aload_n 0, 1) := by decide +kernel
theorem dX0_turn_2 : decode cX0_turn 2 = .ok (.getfield 9, 3) := by decide +kernel
theorem dX0_turn_5 : decode cX0_turn 5 = .ok (.ifCond .eq 7, 3) := by decide +kernel
theorem dX0_turn_8 : decode cX0_turn 8 = .ok (.iconst 1, 1) := by decide +kernel
theorem dX0_turn_9 : decode cX0_turn 9 = .ok (.goto 4, 3) := by decide +kernel
theorem dX0_turn_12 : decode cX0_turn 12 = .ok (.iconst 0, 1) := by decide +kernel
theorem dX0_turn_13 : decode cX0_turn 13 = .ok (.if_icmp .ne 5, 3) := by decide +kernel
theorem dX0_turn_16 : decode cX0_turn 16 = .ok (.iconst 0, 1) := by decide +kernel
theorem dX0_turn_17 : decode cX0_turn 17 = .ok (.ireturn, 1) := by decide +kernel
theorem dX0_turn_18 : decode cX0_turn 18 = .ok (.iload_n 1, 1) := by decide +kernel
theorem dX0_turn_19 : decode cX0_turn 19 = .ok (.ifCond .eq 10, 3) := by decide +kernel
theorem dX0_turn_22 : decode cX0_turn 22 = .ok (.aload_n 0, 1) := by decide +kernel
theorem dX0_turn_23 : decode cX0_turn 23 = .ok (.invokevirtual 29, 3) := by decide +kernel
theorem dX0_turn_26 : decode cX0_turn 26 = .ok (.goto 8, 3) := by decide +kernel
theorem dX0_turn_29 : decode cX0_turn 29 = .ok (.aload_n 0, 1) := by decide +kernel
theorem dX0_turn_30 : decode cX0_turn 30 = .ok (.iconst 0, 1) := by decide +kernel
theorem dX0_turn_31 : decode cX0_turn 31 = .ok (.putfield 9, 3) := by decide +kernel
theorem dX0_turn_34 : decode cX0_turn 34 = .ok (.iconst 1, 1) := by decide +kernel
theorem dX0_turn_35 : decode cX0_turn 35 = .ok (.ireturn, 1) := by decide +kernel
theorem dX0_mending_0 : decode cX0_mending 0 = .ok (.aload_n 0, 1) := by decide +kernel
theorem dX0_mending_1 : decode cX0_mending 1 = .ok (.iload_n 1, 1) := by decide +kernel
theorem dX0_mending_2 : decode cX0_mending 2 = .ok (.putfield 32, 3) := by decide +kernel
theorem dX0_mending_5 : decode cX0_mending 5 = .ok (.return_, 1) := by decide +kernel
set_option maxRecDepth 20000 in
theorem ggX0_take_X0_takeBit : GoodIn wsX0_take wsX0_takeBit := goodIn_r _ [7, 8, 9, 1, 10, 11, 12, 6, 13, 14, 15, 16, 2, 17, 18, 19, 20, 21, 22, 23, 24, 25, 26, 27, 28, 29, 30, 31, 32, 33, 34, 35, 36, 37, 38, 39, 40, 41, 42, 43, 44, 45, 46, 47, 48, 49, 50, 51, 52, 53, 54, 55, 56, 57, 58, 59, 60, 61, 62, 63, 64, 65, 66, 67, 68, 69, 70, 71, 72, 73] (by decide +kernel) (by decide +kernel)
set_option maxRecDepth 20000 in
theorem gX0_take_X0_takeBit : GoodIn wsX0_take (wsV RX0 36 RX0 yX0_takeBit wsX0_takeBit) := goodIn_app (goodIn_of _ (by decide +kernel)) ggX0_take_X0_takeBit
theorem dX0_take_0 : decode cX0_take 0 = .ok (.aload_n 0, 1) := by decide +kernel
theorem dX0_take_1 : decode cX0_take 1 = .ok (.getfield 9, 3) := by decide +kernel
theorem dX0_take_4 : decode cX0_take 4 = .ok (.ifCond .eq 14, 3) := by decide +kernel
theorem dX0_take_7 : decode cX0_take 7 = .ok (.iload_n 1, 1) := by decide +kernel
theorem dX0_take_8 : decode cX0_take 8 = .ok (.iconst 1, 1) := by decide +kernel
theorem dX0_take_9 : decode cX0_take 9 = .ok (.if_icmp .lt 9, 3) := by decide +kernel
theorem dX0_take_12 : decode cX0_take 12 = .ok (.iload_n 1, 1) := by decide +kernel
theorem dX0_take_13 : decode cX0_take 13 = .ok (.bipush 64, 2) := by decide +kernel
theorem dX0_take_15 : decode cX0_take 15 = .ok (.if_icmp .le 5, 3) := by decide +kernel
theorem dX0_take_18 : decode cX0_take 18 = .ok (.iconst (-1), 1) := by decide +kernel
theorem dX0_take_19 : decode cX0_take 19 = .ok (.ireturn, 1) := by decide +kernel
theorem dX0_take_20 : decode cX0_take 20 = .ok (.aload_n 0, 1) := by decide +kernel
theorem dX0_take_21 : decode cX0_take 21 = .ok (.getfield 20, 3) := by decide +kernel
theorem dX0_take_24 : decode cX0_take 24 = .ok (.iconst 1, 1) := by decide +kernel
theorem dX0_take_25 : decode cX0_take 25 = .ok (.iaload, 1) := by decide +kernel
theorem dX0_take_26 : decode cX0_take 26 = .ok (.istore 4, 2) := by decide +kernel
theorem dX0_take_28 : decode cX0_take 28 = .ok (.iload_n 1, 1) := by decide +kernel
theorem dX0_take_29 : decode cX0_take 29 = .ok (.iconst 1, 1) := by decide +kernel
theorem dX0_take_30 : decode cX0_take 30 = .ok (.isub, 1) := by decide +kernel
theorem dX0_take_31 : decode cX0_take 31 = .ok (.istore 5, 2) := by decide +kernel
theorem dX0_take_33 : decode cX0_take 33 = .ok (.iload 5, 2) := by decide +kernel
theorem dX0_take_35 : decode cX0_take 35 = .ok (.ifCond .lt 19, 3) := by decide +kernel
theorem dX0_take_38 : decode cX0_take 38 = .ok (.aload_n 0, 1) := by decide +kernel
theorem dX0_take_39 : decode cX0_take 39 = .ok (.lload_n 2, 1) := by decide +kernel
theorem dX0_take_40 : decode cX0_take 40 = .ok (.iload 5, 2) := by decide +kernel
theorem dX0_take_42 : decode cX0_take 42 = .ok (.lushr, 1) := by decide +kernel
theorem dX0_take_43 : decode cX0_take 43 = .ok (.lconst 1, 1) := by decide +kernel
theorem dX0_take_44 : decode cX0_take 44 = .ok (.land, 1) := by decide +kernel
theorem dX0_take_45 : decode cX0_take 45 = .ok (.invokevirtual 36, 3) := by decide +kernel
theorem dX0_take_48 : decode cX0_take 48 = .ok (.iinc 5 (-1), 3) := by decide +kernel
theorem dX0_take_51 : decode cX0_take 51 = .ok (.goto (-18), 3) := by decide +kernel
theorem dX0_take_54 : decode cX0_take 54 = .ok (.aload_n 0, 1) := by decide +kernel
theorem dX0_take_55 : decode cX0_take 55 = .ok (.getfield 20, 3) := by decide +kernel
theorem dX0_take_58 : decode cX0_take 58 = .ok (.iconst 1, 1) := by decide +kernel
theorem dX0_take_59 : decode cX0_take 59 = .ok (.iaload, 1) := by decide +kernel
theorem dX0_take_60 : decode cX0_take 60 = .ok (.iload 4, 2) := by decide +kernel
theorem dX0_take_62 : decode cX0_take 62 = .ok (.isub, 1) := by decide +kernel
theorem dX0_take_63 : decode cX0_take 63 = .ok (.ireturn, 1) := by decide +kernel
theorem dX0_state_0 : decode cX0_state 0 = .ok (.aload_n 0, 1) := by decide +kernel
theorem dX0_state_1 : decode cX0_state 1 = .ok (.getfield 9, 3) := by decide +kernel
theorem dX0_state_4 : decode cX0_state 4 = .ok (.ireturn, 1) := by decide +kernel
theorem dX0_count_0 : decode cX0_count 0 = .ok (.iload_n 1, 1) := by decide +kernel
theorem dX0_count_1 : decode cX0_count 1 = .ok (.ifCond .lt 21, 3) := by decide +kernel
theorem dX0_count_4 : decode cX0_count 4 = .ok (.iload_n 1, 1) := by decide +kernel
theorem dX0_count_5 : decode cX0_count 5 = .ok (.aload_n 0, 1) := by decide +kernel
theorem dX0_count_6 : decode cX0_count 6 = .ok (.getfield 20, 3) := by decide +kernel
theorem dX0_count_9 : decode cX0_count 9 = .ok (.arraylength, 1) := by decide +kernel
theorem dX0_count_10 : decode cX0_count 10 = .ok (.if_icmp .ge 12, 3) := by decide +kernel
theorem dX0_count_13 : decode cX0_count 13 = .ok (.aload_n 0, 1) := by decide +kernel
theorem dX0_count_14 : decode cX0_count 14 = .ok (.getfield 20, 3) := by decide +kernel
theorem dX0_count_17 : decode cX0_count 17 = .ok (.iload_n 1, 1) := by decide +kernel
theorem dX0_count_18 : decode cX0_count 18 = .ok (.iaload, 1) := by decide +kernel
theorem dX0_count_19 : decode cX0_count 19 = .ok (.goto 4, 3) := by decide +kernel
theorem dX0_count_22 : decode cX0_count 22 = .ok (.iconst (-1), 1) := by decide +kernel
theorem dX0_count_23 : decode cX0_count 23 = .ok (.ireturn, 1) := by decide +kernel
theorem dX0_size_0 : decode cX0_size 0 = .ok (.aload_n 0, 1) := by decide +kernel
theorem dX0_size_1 : decode cX0_size 1 = .ok (.getfield 40, 3) := by decide +kernel
theorem dX0_size_4 : decode cX0_size 4 = .ok (.ireturn, 1) := by decide +kernel
theorem dX0_byteAt_0 : decode cX0_byteAt 0 = .ok (.iload_n 1, 1) := by decide +kernel
theorem dX0_byteAt_1 : decode cX0_byteAt 1 = .ok (.ifCond .lt 29, 3) := by decide +kernel
theorem dX0_byteAt_4 : decode cX0_byteAt 4 = .ok (.iload_n 1, 1) := by decide +kernel
theorem dX0_byteAt_5 : decode cX0_byteAt 5 = .ok (.aload_n 0, 1) := by decide +kernel
theorem dX0_byteAt_6 : decode cX0_byteAt 6 = .ok (.getfield 40, 3) := by decide +kernel
theorem dX0_byteAt_9 : decode cX0_byteAt 9 = .ok (.if_icmp .ge 21, 3) := by decide +kernel
theorem dX0_byteAt_12 : decode cX0_byteAt 12 = .ok (.iload_n 1, 1) := by decide +kernel
theorem dX0_byteAt_13 : decode cX0_byteAt 13 = .ok (.aload_n 0, 1) := by decide +kernel
theorem dX0_byteAt_14 : decode cX0_byteAt 14 = .ok (.getfield 17, 3) := by decide +kernel
theorem dX0_byteAt_17 : decode cX0_byteAt 17 = .ok (.arraylength, 1) := by decide +kernel
theorem dX0_byteAt_18 : decode cX0_byteAt 18 = .ok (.if_icmp .ge 12, 3) := by decide +kernel
theorem dX0_byteAt_21 : decode cX0_byteAt 21 = .ok (.aload_n 0, 1) := by decide +kernel
theorem dX0_byteAt_22 : decode cX0_byteAt 22 = .ok (.getfield 17, 3) := by decide +kernel
theorem dX0_byteAt_25 : decode cX0_byteAt 25 = .ok (.iload_n 1, 1) := by decide +kernel
theorem dX0_byteAt_26 : decode cX0_byteAt 26 = .ok (.iaload, 1) := by decide +kernel
theorem dX0_byteAt_27 : decode cX0_byteAt 27 = .ok (.goto 4, 3) := by decide +kernel
theorem dX0_byteAt_30 : decode cX0_byteAt 30 = .ok (.iconst (-1), 1) := by decide +kernel
theorem dX0_byteAt_31 : decode cX0_byteAt 31 = .ok (.ireturn, 1) := by decide +kernel
theorem dX0_put_0 : decode cX0_put 0 = .ok (.aload_n 0, 1) := by decide +kernel
theorem dX0_put_1 : decode cX0_put 1 = .ok (.getfield 43, 3) := by decide +kernel
theorem dX0_put_4 : decode cX0_put 4 = .ok (.ifCond .lt 15, 3) := by decide +kernel
theorem dX0_put_7 : decode cX0_put 7 = .ok (.aload_n 0, 1) := by decide +kernel
theorem dX0_put_8 : decode cX0_put 8 = .ok (.getfield 43, 3) := by decide +kernel
theorem dX0_put_11 : decode cX0_put 11 = .ok (.aload_n 0, 1) := by decide +kernel
theorem dX0_put_12 : decode cX0_put 12 = .ok (.getfield 23, 3) := by decide +kernel
theorem dX0_put_15 : decode cX0_put 15 = .ok (.arraylength, 1) := by decide +kernel
theorem dX0_put_16 : decode cX0_put 16 = .ok (.if_icmp .lt 5, 3) := by decide +kernel
theorem dX0_put_19 : decode cX0_put 19 = .ok (.iconst (-1), 1) := by decide +kernel
theorem dX0_put_20 : decode cX0_put 20 = .ok (.ireturn, 1) := by decide +kernel
theorem dX0_put_21 : decode cX0_put 21 = .ok (.aload_n 0, 1) := by decide +kernel
theorem dX0_put_22 : decode cX0_put 22 = .ok (.getfield 23, 3) := by decide +kernel
theorem dX0_put_25 : decode cX0_put 25 = .ok (.aload_n 0, 1) := by decide +kernel
theorem dX0_put_26 : decode cX0_put 26 = .ok (.getfield 43, 3) := by decide +kernel
theorem dX0_put_29 : decode cX0_put 29 = .ok (.iload_n 1, 1) := by decide +kernel
theorem dX0_put_30 : decode cX0_put 30 = .ok (.sipush 255, 3) := by decide +kernel
theorem dX0_put_33 : decode cX0_put 33 = .ok (.iand, 1) := by decide +kernel
theorem dX0_put_34 : decode cX0_put 34 = .ok (.iastore, 1) := by decide +kernel
theorem dX0_put_35 : decode cX0_put 35 = .ok (.aload_n 0, 1) := by decide +kernel
theorem dX0_put_36 : decode cX0_put 36 = .ok (.dup, 1) := by decide +kernel
theorem dX0_put_37 : decode cX0_put 37 = .ok (.getfield 43, 3) := by decide +kernel
theorem dX0_put_40 : decode cX0_put 40 = .ok (.iconst 1, 1) := by decide +kernel
theorem dX0_put_41 : decode cX0_put 41 = .ok (.iadd, 1) := by decide +kernel
theorem dX0_put_42 : decode cX0_put 42 = .ok (.putfield 43, 3) := by decide +kernel
theorem dX0_put_45 : decode cX0_put 45 = .ok (.aload_n 0, 1) := by decide +kernel
theorem dX0_put_46 : decode cX0_put 46 = .ok (.getfield 43, 3) := by decide +kernel
theorem dX0_put_49 : decode cX0_put 49 = .ok (.ireturn, 1) := by decide +kernel
set_option maxRecDepth 20000 in
theorem ggX0_send_X0_fillLastBlock : GoodIn wsX0_send wsX0_fillLastBlock := goodIn_r _ [9, 1, 10, 11, 12, 8, 13, 14, 36, 37, 38, 39, 40, 41, 42, 43, 44, 45, 46, 47, 48] (by decide +kernel) (by decide +kernel)
set_option maxRecDepth 20000 in
theorem gX0_send_X0_fillLastBlock : GoodIn wsX0_send (wsV RX0 46 RX0 yX0_fillLastBlock wsX0_fillLastBlock) := goodIn_app (goodIn_of _ (by decide +kernel)) ggX0_send_X0_fillLastBlock
set_option maxRecDepth 20000 in
theorem ggX0_send_X0_sendBytes : GoodIn wsX0_send wsX0_sendBytes := goodIn_r _ [18, 2, 19, 20, 21, 8, 22, 36, 37, 38, 39, 40, 41, 42, 43, 44, 45, 46, 47, 48] (by decide +kernel) (by decide +kernel)
set_option maxRecDepth 20000 in
theorem gX0_send_X0_sendBytes : GoodIn wsX0_send (wsV RX0 54 RX0 yX0_sendBytes wsX0_sendBytes) := goodIn_app (goodIn_of _ (by decide +kernel)) ggX0_send_X0_sendBytes
set_option maxRecDepth 20000 in
theorem ggX0_send_X0_waitingData : GoodIn wsX0_send wsX0_waitingData := goodIn_r _ [26, 14, 36, 37, 38, 39, 40, 41, 42, 43, 44, 45, 46, 47, 48] (by decide +kernel) (by decide +kernel)
set_option maxRecDepth 20000 in
theorem gX0_send_X0_waitingData : GoodIn wsX0_send (wsV RX0 58 RX0 yX0_waitingData wsX0_waitingData) := goodIn_app (goodIn_of _ (by decide +kernel)) ggX0_send_X0_waitingData
set_option maxRecDepth 20000 in
theorem ggX0_send_X0_blockOf : GoodIn wsX0_send wsX0_blockOf := goodIn_r _ [29, 30, 31, 8, 32, 33, 34, 35] (by decide +kernel) (by decide +kernel)
set_option maxRecDepth 20000 in
theorem gX0_send_X0_blockOf : GoodIn wsX0_send (va_wsS RX0 62 yX0_blockOf wsX0_blockOf) := goodIn_app (goodIn_of _ (by decide +kernel)) ggX0_send_X0_blockOf
theorem dX0_send_0 : decode cX0_send 0 = .ok (.aload_n 0, 1) := by decide +kernel
theorem dX0_send_1 : decode cX0_send 1 = .ok (.getfield 43, 3) := by decide +kernel
theorem dX0_send_4 : decode cX0_send 4 = .ok (.ifCond .ne 5, 3) := by decide +kernel
theorem dX0_send_7 : decode cX0_send 7 = .ok (.iconst (-1), 1) := by decide +kernel
theorem dX0_send_8 : decode cX0_send 8 = .ok (.ireturn, 1) := by decide +kernel
theorem dX0_send_9 : decode cX0_send 9 = .ok (.aload_n 0, 1) := by decide +kernel
theorem dX0_send_10 : decode cX0_send 10 = .ok (.invokevirtual 46, 3) := by decide +kernel
theorem dX0_send_13 : decode cX0_send 13 = .ok (.aload_n 0, 1) := by decide +kernel
theorem dX0_send_14 : decode cX0_send 14 = .ok (.iconst 0, 1) := by decide +kernel
theorem dX0_send_15 : decode cX0_send 15 = .ok (.putfield 49, 3) := by decide +kernel
theorem dX0_send_18 : decode cX0_send 18 = .ok (.aload_n 0, 1) := by decide +kernel
theorem dX0_send_19 : decode cX0_send 19 = .ok (.ldc2_w 52, 3) := by decide +kernel
theorem dX0_send_22 : decode cX0_send 22 = .ok (.iconst 2, 1) := by decide +kernel
theorem dX0_send_23 : decode cX0_send 23 = .ok (.invokevirtual 54, 3) := by decide +kernel
theorem dX0_send_26 : decode cX0_send 26 = .ok (.iconst 0, 1) := by decide +kernel
theorem dX0_send_27 : decode cX0_send 27 = .ok (.istore_n 1, 1) := by decide +kernel
theorem dX0_send_28 : decode cX0_send 28 = .ok (.iload_n 1, 1) := by decide +kernel
theorem dX0_send_29 : decode cX0_send 29 = .ok (.aload_n 0, 1) := by decide +kernel
theorem dX0_send_30 : decode cX0_send 30 = .ok (.getfield 43, 3) := by decide +kernel
theorem dX0_send_33 : decode cX0_send 33 = .ok (.if_icmp .ge 23, 3) := by decide +kernel
theorem dX0_send_36 : decode cX0_send 36 = .ok (.aload_n 0, 1) := by decide +kernel
theorem dX0_send_37 : decode cX0_send 37 = .ok (.aload_n 0, 1) := by decide +kernel
theorem dX0_send_38 : decode cX0_send 38 = .ok (.iload_n 1, 1) := by decide +kernel
theorem dX0_send_39 : decode cX0_send 39 = .ok (.invokevirtual 58, 3) := by decide +kernel
theorem dX0_send_42 : decode cX0_send 42 = .ok (.invokestatic 62, 3) := by decide +kernel
theorem dX0_send_45 : decode cX0_send 45 = .ok (.bipush 8, 2) := by decide +kernel
theorem dX0_send_47 : decode cX0_send 47 = .ok (.invokevirtual 54, 3) := by decide +kernel
theorem dX0_send_50 : decode cX0_send 50 = .ok (.iinc 1 7, 3) := by decide +kernel
theorem dX0_send_53 : decode cX0_send 53 = .ok (.goto (-25), 3) := by decide +kernel
theorem dX0_send_56 : decode cX0_send 56 = .ok (.getstatic 66, 3) := by decide +kernel
theorem dX0_send_59 : decode cX0_send 59 = .ok (.astore_n 1, 1) := by decide +kernel
theorem dX0_send_60 : decode cX0_send 60 = .ok (.aload_n 1, 1) := by decide +kernel
theorem dX0_send_61 : decode cX0_send 61 = .ok (.arraylength, 1) := by decide +kernel
theorem dX0_send_62 : decode cX0_send 62 = .ok (.istore_n 2, 1) := by decide +kernel
theorem dX0_send_63 : decode cX0_send 63 = .ok (.iconst 0, 1) := by decide +kernel
theorem dX0_send_64 : decode cX0_send 64 = .ok (.istore_n 3, 1) := by decide +kernel
theorem dX0_send_65 : decode cX0_send 65 = .ok (.iload_n 3, 1) := by decide +kernel
theorem dX0_send_66 : decode cX0_send 66 = .ok (.iload_n 2, 1) := by decide +kernel
theorem dX0_send_67 : decode cX0_send 67 = .ok (.if_icmp .ge 22, 3) := by decide +kernel
theorem dX0_send_70 : decode cX0_send 70 = .ok (.aload_n 1, 1) := by decide +kernel
theorem dX0_send_71 : decode cX0_send 71 = .ok (.iload_n 3, 1) := by decide +kernel
theorem dX0_send_72 : decode cX0_send 72 = .ok (.iaload, 1) := by decide +kernel
theorem dX0_send_73 : decode cX0_send 73 = .ok (.istore 4, 2) := by decide +kernel
theorem dX0_send_75 : decode cX0_send 75 = .ok (.aload_n 0, 1) := by decide +kernel
theorem dX0_send_76 : decode cX0_send 76 = .ok (.iload 4, 2) := by decide +kernel
theorem dX0_send_78 : decode cX0_send 78 = .ok (.i2l, 1) := by decide +kernel
theorem dX0_send_79 : decode cX0_send 79 = .ok (.iconst 1, 1) := by decide +kernel
theorem dX0_send_80 : decode cX0_send 80 = .ok (.invokevirtual 54, 3) := by decide +kernel
theorem dX0_send_83 : decode cX0_send 83 = .ok (.iinc 3 1, 3) := by decide +kernel
theorem dX0_send_86 : decode cX0_send 86 = .ok (.goto (-21), 3) := by decide +kernel
theorem dX0_send_89 : decode cX0_send 89 = .ok (.aload_n 0, 1) := by decide +kernel
theorem dX0_send_90 : decode cX0_send 90 = .ok (.iconst 0, 1) := by decide +kernel
theorem dX0_send_91 : decode cX0_send 91 = .ok (.putfield 43, 3) := by decide +kernel
theorem dX0_send_94 : decode cX0_send 94 = .ok (.aload_n 0, 1) := by decide +kernel
theorem dX0_send_95 : decode cX0_send 95 = .ok (.getfield 49, 3) := by decide +kernel
theorem dX0_send_98 : decode cX0_send 98 = .ok (.ireturn, 1) := by decide +kernel
theorem dX0_sent_0 : decode cX0_sent 0 = .ok (.iload_n 1, 1) := by decide +kernel
theorem dX0_sent_1 : decode cX0_sent 1 = .ok (.ifCond .lt 29, 3) := by decide +kernel
theorem dX0_sent_4 : decode cX0_sent 4 = .ok (.iload_n 1, 1) := by decide +kernel
theorem dX0_sent_5 : decode cX0_sent 5 = .ok (.aload_n 0, 1) := by decide +kernel
theorem dX0_sent_6 : decode cX0_sent 6 = .ok (.getfield 49, 3) := by decide +kernel
theorem dX0_sent_9 : decode cX0_sent 9 = .ok (.if_icmp .ge 21, 3) := by decide +kernel
theorem dX0_sent_12 : decode cX0_sent 12 = .ok (.iload_n 1, 1) := by decide +kernel
theorem dX0_sent_13 : decode cX0_sent 13 = .ok (.aload_n 0, 1) := by decide +kernel
theorem dX0_sent_14 : decode cX0_sent 14 = .ok (.getfield 26, 3) := by decide +kernel
theorem dX0_sent_17 : decode cX0_sent 17 = .ok (.arraylength, 1) := by decide +kernel
theorem dX0_sent_18 : decode cX0_sent 18 = .ok (.if_icmp .ge 12, 3) := by decide +kernel
theorem dX0_sent_21 : decode cX0_sent 21 = .ok (.aload_n 0, 1) := by decide +kernel
theorem dX0_sent_22 : decode cX0_sent 22 = .ok (.getfield 26, 3) := by decide +kernel
theorem dX0_sent_25 : decode cX0_sent 25 = .ok (.iload_n 1, 1) := by decide +kernel
theorem dX0_sent_26 : decode cX0_sent 26 = .ok (.iaload, 1) := by decide +kernel
theorem dX0_sent_27 : decode cX0_sent 27 = .ok (.goto 4, 3) := by decide +kernel
theorem dX0_sent_30 : decode cX0_sent 30 = .ok (.iconst (-1), 1) := by decide +kernel
theorem dX0_sent_31 : decode cX0_sent 31 = .ok (.ireturn, 1) := by decide +kernel
theorem dX0_beginSearch_0 : decode cX0_beginSearch 0 = .ok (.aload_n 0, 1) := by decide +kernel
theorem dX0_beginSearch_1 : decode cX0_beginSearch 1 = .ok (.iconst 1, 1) := by decide +kernel
theorem dX0_beginSearch_2 : decode cX0_beginSearch 2 = .ok (.putfield 9, 3) := by decide +kernel
theorem dX0_beginSearch_5 : decode cX0_beginSearch 5 = .ok (.aload_n 0, 1) := by decide +kernel
theorem dX0_beginSearch_6 : decode cX0_beginSearch 6 = .ok (.iconst 0, 1) := by decide +kernel
theorem dX0_beginSearch_7 : decode cX0_beginSearch 7 = .ok (.putfield 69, 3) := by decide +kernel
theorem dX0_beginSearch_10 : decode cX0_beginSearch 10 = .ok (.return_, 1) := by decide +kernel
set_option maxRecDepth 20000 in
theorem ggX0_takeBit_X0_lookForStart : GoodIn wsX0_takeBit wsX0_lookForStart := goodIn_r _ [8, 2, 1, 9, 10, 11, 12, 13, 14, 15, 16, 17, 18, 19, 20, 21, 22, 7, 23, 3, 24, 57, 58, 59, 60, 61, 62, 63, 64, 65, 66, 67, 68, 69] (by decide +kernel) (by decide +kernel)
set_option maxRecDepth 20000 in
theorem gX0_takeBit_X0_lookForStart : GoodIn wsX0_takeBit (wsV RX0 76 RX0 yX0_lookForStart wsX0_lookForStart) := goodIn_app (goodIn_of _ (by decide +kernel)) ggX0_takeBit_X0_lookForStart
set_option maxRecDepth 20000 in
theorem ggX0_takeBit_X0_lookAtBlock : GoodIn wsX0_takeBit wsX0_lookAtBlock := goodIn_r _ [28, 1, 29, 11, 12, 30, 31, 7, 32, 33, 34, 35, 36, 37, 38, 39, 40, 41, 42, 24, 43, 44, 45, 46, 47, 48, 49, 50, 51, 52, 53, 54, 55, 56, 3, 2, 57, 58, 59, 60, 61, 62, 63, 64, 65, 66, 67, 68, 69] (by decide +kernel) (by decide +kernel)
set_option maxRecDepth 20000 in
theorem gX0_takeBit_X0_lookAtBlock : GoodIn wsX0_takeBit (wsV RX0 79 RX0 yX0_lookAtBlock wsX0_lookAtBlock) := goodIn_app (goodIn_of _ (by decide +kernel)) ggX0_takeBit_X0_lookAtBlock
theorem dX0_takeBit_0 : decode cX0_takeBit 0 = .ok (.aload_n 0, 1) := by decide +kernel
theorem dX0_takeBit_1 : decode cX0_takeBit 1 = .ok (.aload_n 0, 1) := by decide +kernel
theorem dX0_takeBit_2 : decode cX0_takeBit 2 = .ok (.getfield 72, 3) := by decide +kernel
theorem dX0_takeBit_5 : decode cX0_takeBit 5 = .ok (.iconst 1, 1) := by decide +kernel
theorem dX0_takeBit_6 : decode cX0_takeBit 6 = .ok (.lshl, 1) := by decide +kernel
theorem dX0_takeBit_7 : decode cX0_takeBit 7 = .ok (.lload_n 1, 1) := by decide +kernel
theorem dX0_takeBit_8 : decode cX0_takeBit 8 = .ok (.lor, 1) := by decide +kernel
theorem dX0_takeBit_9 : decode cX0_takeBit 9 = .ok (.putfield 72, 3) := by decide +kernel
theorem dX0_takeBit_12 : decode cX0_takeBit 12 = .ok (.aload_n 0, 1) := by decide +kernel
theorem dX0_takeBit_13 : decode cX0_takeBit 13 = .ok (.dup, 1) := by decide +kernel
theorem dX0_takeBit_14 : decode cX0_takeBit 14 = .ok (.getfield 69, 3) := by decide +kernel
theorem dX0_takeBit_17 : decode cX0_takeBit 17 = .ok (.iconst 1, 1) := by decide +kernel
theorem dX0_takeBit_18 : decode cX0_takeBit 18 = .ok (.iadd, 1) := by decide +kernel
theorem dX0_takeBit_19 : decode cX0_takeBit 19 = .ok (.putfield 69, 3) := by decide +kernel
theorem dX0_takeBit_22 : decode cX0_takeBit 22 = .ok (.aload_n 0, 1) := by decide +kernel
theorem dX0_takeBit_23 : decode cX0_takeBit 23 = .ok (.getfield 9, 3) := by decide +kernel
theorem dX0_takeBit_26 : decode cX0_takeBit 26 = .ok (.iconst 1, 1) := by decide +kernel
theorem dX0_takeBit_27 : decode cX0_takeBit 27 = .ok (.if_icmp .ne 10, 3) := by decide +kernel
theorem dX0_takeBit_30 : decode cX0_takeBit 30 = .ok (.aload_n 0, 1) := by decide +kernel
theorem dX0_takeBit_31 : decode cX0_takeBit 31 = .ok (.invokevirtual 76, 3) := by decide +kernel
theorem dX0_takeBit_34 : decode cX0_takeBit 34 = .ok (.goto 21, 3) := by decide +kernel
theorem dX0_takeBit_37 : decode cX0_takeBit 37 = .ok (.aload_n 0, 1) := by decide +kernel
theorem dX0_takeBit_38 : decode cX0_takeBit 38 = .ok (.getfield 69, 3) := by decide +kernel
theorem dX0_takeBit_41 : decode cX0_takeBit 41 = .ok (.bipush 64, 2) := by decide +kernel
theorem dX0_takeBit_43 : decode cX0_takeBit 43 = .ok (.if_icmp .ne 12, 3) := by decide +kernel
theorem dX0_takeBit_46 : decode cX0_takeBit 46 = .ok (.aload_n 0, 1) := by decide +kernel
theorem dX0_takeBit_47 : decode cX0_takeBit 47 = .ok (.iconst 0, 1) := by decide +kernel
theorem dX0_takeBit_48 : decode cX0_takeBit 48 = .ok (.putfield 69, 3) := by decide +kernel
theorem dX0_takeBit_51 : decode cX0_takeBit 51 = .ok (.aload_n 0, 1) := by decide +kernel
theorem dX0_takeBit_52 : decode cX0_takeBit 52 = .ok (.invokevirtual 79, 3) := by decide +kernel
theorem dX0_takeBit_55 : decode cX0_takeBit 55 = .ok (.return_, 1) := by decide +kernel
set_option maxRecDepth 20000 in
theorem ggX0_lookForStart_J6_bitCount_0f7a4 : GoodIn wsX0_lookForStart wsJ6_bitCount_0f7a4 := goodIn_r _ [10, 11, 12, 13] (by decide +kernel) (by decide +kernel)
set_option maxRecDepth 20000 in
theorem gX0_lookForStart_J6_bitCount_0f7a4 : GoodIn wsX0_lookForStart (va_wsS RX0 85 yJ6_bitCount_0f7a4 wsJ6_bitCount_0f7a4) := goodIn_app (goodIn_of _ (by decide +kernel)) ggX0_lookForStart_J6_bitCount_0f7a4
set_option maxRecDepth 20000 in
theorem ggX0_lookForStart_X0_beginTransmission : GoodIn wsX0_lookForStart wsX0_beginTransmission := goodIn_r _ [18, 6, 19, 1, 20, 21, 22, 23, 24, 25, 26, 27, 28, 29, 30, 31, 32, 33] (by decide +kernel) (by decide +kernel)
set_option maxRecDepth 20000 in
theorem gX0_lookForStart_X0_beginTransmission : GoodIn wsX0_lookForStart (wsV RX0 91 RX0 yX0_beginTransmission wsX0_beginTransmission) := goodIn_app (goodIn_of _ (by decide +kernel)) ggX0_lookForStart_X0_beginTransmission
theorem dX0_lookForStart_0 : decode cX0_lookForStart 0 = .ok (.aload_n 0, 1) := by decide +kernel
theorem dX0_lookForStart_1 : decode cX0_lookForStart 1 = .ok (.getfield 69, 3) := by decide +kernel
theorem dX0_lookForStart_4 : decode cX0_lookForStart 4 = .ok (.bipush 16, 2) := by decide +kernel
theorem dX0_lookForStart_6 : decode cX0_lookForStart 6 = .ok (.if_icmp .ge 4, 3) := by decide +kernel
theorem dX0_lookForStart_9 : decode cX0_lookForStart 9 = .ok (.return_, 1) := by decide +kernel
theorem dX0_lookForStart_10 : decode cX0_lookForStart 10 = .ok (.aload_n 0, 1) := by decide +kernel
theorem dX0_lookForStart_11 : decode cX0_lookForStart 11 = .ok (.getfield 72, 3) := by decide +kernel
theorem dX0_lookForStart_14 : decode cX0_lookForStart 14 = .ok (.ldc2_w 82, 3) := by decide +kernel
theorem dX0_lookForStart_17 : decode cX0_lookForStart 17 = .ok (.land, 1) := by decide +kernel
theorem dX0_lookForStart_18 : decode cX0_lookForStart 18 = .ok (.l2i, 1) := by decide +kernel
theorem dX0_lookForStart_19 : decode cX0_lookForStart 19 = .ok (.ldc 84, 2) := by decide +kernel
theorem dX0_lookForStart_21 : decode cX0_lookForStart 21 = .ok (.ixor, 1) := by decide +kernel
theorem dX0_lookForStart_22 : decode cX0_lookForStart 22 = .ok (.invokestatic 85, 3) := by decide +kernel
theorem dX0_lookForStart_25 : decode cX0_lookForStart 25 = .ok (.istore_n 1, 1) := by decide +kernel
theorem dX0_lookForStart_26 : decode cX0_lookForStart 26 = .ok (.iload_n 1, 1) := by decide +kernel
theorem dX0_lookForStart_27 : decode cX0_lookForStart 27 = .ok (.ifCond .ne 10, 3) := by decide +kernel
theorem dX0_lookForStart_30 : decode cX0_lookForStart 30 = .ok (.aload_n 0, 1) := by decide +kernel
theorem dX0_lookForStart_31 : decode cX0_lookForStart 31 = .ok (.invokevirtual 91, 3) := by decide +kernel
theorem dX0_lookForStart_34 : decode cX0_lookForStart 34 = .ok (.goto 29, 3) := by decide +kernel
theorem dX0_lookForStart_37 : decode cX0_lookForStart 37 = .ok (.iload_n 1, 1) := by decide +kernel
theorem dX0_lookForStart_38 : decode cX0_lookForStart 38 = .ok (.iconst 1, 1) := by decide +kernel
theorem dX0_lookForStart_39 : decode cX0_lookForStart 39 = .ok (.if_icmp .ne 24, 3) := by decide +kernel
theorem dX0_lookForStart_42 : decode cX0_lookForStart 42 = .ok (.aload_n 0, 1) := by decide +kernel
theorem dX0_lookForStart_43 : decode cX0_lookForStart 43 = .ok (.getfield 32, 3) := by decide +kernel
theorem dX0_lookForStart_46 : decode cX0_lookForStart 46 = .ok (.ifCond .eq 17, 3) := by decide +kernel
theorem dX0_lookForStart_49 : decode cX0_lookForStart 49 = .ok (.aload_n 0, 1) := by decide +kernel
theorem dX0_lookForStart_50 : decode cX0_lookForStart 50 = .ok (.getfield 20, 3) := by decide +kernel
theorem dX0_lookForStart_53 : decode cX0_lookForStart 53 = .ok (.iconst 4, 1) := by decide +kernel
theorem dX0_lookForStart_54 : decode cX0_lookForStart 54 = .ok (.dup2, 1) := by decide +kernel
theorem dX0_lookForStart_55 : decode cX0_lookForStart 55 = .ok (.iaload, 1) := by decide +kernel
theorem dX0_lookForStart_56 : decode cX0_lookForStart 56 = .ok (.iconst 1, 1) := by decide +kernel
theorem dX0_lookForStart_57 : decode cX0_lookForStart 57 = .ok (.iadd, 1) := by decide +kernel
theorem dX0_lookForStart_58 : decode cX0_lookForStart 58 = .ok (.iastore, 1) := by decide +kernel
theorem dX0_lookForStart_59 : decode cX0_lookForStart 59 = .ok (.aload_n 0, 1) := by decide +kernel
theorem dX0_lookForStart_60 : decode cX0_lookForStart 60 = .ok (.invokevirtual 91, 3) := by decide +kernel
theorem dX0_lookForStart_63 : decode cX0_lookForStart 63 = .ok (.return_, 1) := by decide +kernel
theorem dX0_beginTransmission_0 : decode cX0_beginTransmission 0 = .ok (.aload_n 0, 1) := by decide +kernel
theorem dX0_beginTransmission_1 : decode cX0_beginTransmission 1 = .ok (.getfield 20, 3) := by decide +kernel
theorem dX0_beginTransmission_4 : decode cX0_beginTransmission 4 = .ok (.iconst 0, 1) := by decide +kernel
theorem dX0_beginTransmission_5 : decode cX0_beginTransmission 5 = .ok (.dup2, 1) := by decide +kernel
theorem dX0_beginTransmission_6 : decode cX0_beginTransmission 6 = .ok (.iaload, 1) := by decide +kernel
theorem dX0_beginTransmission_7 : decode cX0_beginTransmission 7 = .ok (.iconst 1, 1) := by decide +kernel
theorem dX0_beginTransmission_8 : decode cX0_beginTransmission 8 = .ok (.iadd, 1) := by decide +kernel
theorem dX0_beginTransmission_9 : decode cX0_beginTransmission 9 = .ok (.iastore, 1) := by decide +kernel
theorem dX0_beginTransmission_10 : decode cX0_beginTransmission 10 = .ok (.aload_n 0, 1) := by decide +kernel
theorem dX0_beginTransmission_11 : decode cX0_beginTransmission 11 = .ok (.iconst 2, 1) := by decide +kernel
theorem dX0_beginTransmission_12 : decode cX0_beginTransmission 12 = .ok (.putfield 9, 3) := by decide +kernel
theorem dX0_beginTransmission_15 : decode cX0_beginTransmission 15 = .ok (.aload_n 0, 1) := by decide +kernel
theorem dX0_beginTransmission_16 : decode cX0_beginTransmission 16 = .ok (.iconst 0, 1) := by decide +kernel
theorem dX0_beginTransmission_17 : decode cX0_beginTransmission 17 = .ok (.putfield 69, 3) := by decide +kernel
theorem dX0_beginTransmission_20 : decode cX0_beginTransmission 20 = .ok (.aload_n 0, 1) := by decide +kernel
theorem dX0_beginTransmission_21 : decode cX0_beginTransmission 21 = .ok (.iconst 0, 1) := by decide +kernel
theorem dX0_beginTransmission_22 : decode cX0_beginTransmission 22 = .ok (.putfield 94, 3) := by decide +kernel
theorem dX0_beginTransmission_25 : decode cX0_beginTransmission 25 = .ok (.return_, 1) := by decide +kernel
set_option maxRecDepth 20000 in
theorem ggX0_lookAtBlock_X0_remainderOf : GoodIn wsX0_lookAtBlock wsX0_remainderOf := goodIn_r _ [8, 9, 10, 7, 11] (by decide +kernel) (by decide +kernel)
set_option maxRecDepth 20000 in
theorem gX0_lookAtBlock_X0_remainderOf : GoodIn wsX0_lookAtBlock (va_wsS RX0 99 yX0_remainderOf wsX0_remainderOf) := goodIn_app (goodIn_of _ (by decide +kernel)) ggX0_lookAtBlock_X0_remainderOf
set_option maxRecDepth 20000 in
theorem ggX0_lookAtBlock_X0_powerWithRemainder : GoodIn wsX0_lookAtBlock wsX0_powerWithRemainder := goodIn_r _ [14, 9, 10, 7, 11] (by decide +kernel) (by decide +kernel)
set_option maxRecDepth 20000 in
theorem gX0_lookAtBlock_X0_powerWithRemainder : GoodIn wsX0_lookAtBlock (va_wsS RX0 103 yX0_powerWithRemainder wsX0_powerWithRemainder) := goodIn_app (goodIn_of _ (by decide +kernel)) ggX0_lookAtBlock_X0_powerWithRemainder
set_option maxRecDepth 20000 in
theorem ggX0_lookAtBlock_X0_keepData : GoodIn wsX0_lookAtBlock wsX0_keepData := goodIn_r _ [18, 4, 19, 20, 21, 22, 7, 23, 24, 25, 26, 27, 28, 29, 30, 31, 32, 33, 34, 35, 36, 37, 38, 39, 40, 41, 42, 43, 44, 45, 46, 47, 48] (by decide +kernel) (by decide +kernel)
set_option maxRecDepth 20000 in
theorem gX0_lookAtBlock_X0_keepData : GoodIn wsX0_lookAtBlock (wsV RX0 106 RX0 yX0_keepData wsX0_keepData) := goodIn_app (goodIn_of _ (by decide +kernel)) ggX0_lookAtBlock_X0_keepData
set_option maxRecDepth 20000 in
theorem ggX0_lookAtBlock_X0_endTransmission : GoodIn wsX0_lookAtBlock wsX0_endTransmission := goodIn_r _ [27, 4, 19, 28, 20, 29, 30, 31, 32, 7, 33, 34, 35, 36, 37, 38, 39, 40, 41, 42, 43, 44, 45, 46, 47, 48] (by decide +kernel) (by decide +kernel)
set_option maxRecDepth 20000 in
theorem gX0_lookAtBlock_X0_endTransmission : GoodIn wsX0_lookAtBlock (wsV RX0 109 RX0 yX0_endTransmission wsX0_endTransmission) := goodIn_app (goodIn_of _ (by decide +kernel)) ggX0_lookAtBlock_X0_endTransmission
theorem dX0_lookAtBlock_0 : decode cX0_lookAtBlock 0 = .ok (.aload_n 0, 1) := by decide +kernel
theorem dX0_lookAtBlock_1 : decode cX0_lookAtBlock 1 = .ok (.getfield 72, 3) := by decide +kernel
theorem dX0_lookAtBlock_4 : decode cX0_lookAtBlock 4 = .ok (.iconst 1, 1) := by decide +kernel
theorem dX0_lookAtBlock_5 : decode cX0_lookAtBlock 5 = .ok (.lushr, 1) := by decide +kernel
theorem dX0_lookAtBlock_6 : decode cX0_lookAtBlock 6 = .ok (.ldc2_w 97, 3) := by decide +kernel
theorem dX0_lookAtBlock_9 : decode cX0_lookAtBlock 9 = .ok (.lxor, 1) := by decide +kernel
theorem dX0_lookAtBlock_10 : decode cX0_lookAtBlock 10 = .ok (.lstore_n 1, 1) := by decide +kernel
theorem dX0_lookAtBlock_11 : decode cX0_lookAtBlock 11 = .ok (.lload_n 1, 1) := by decide +kernel
theorem dX0_lookAtBlock_12 : decode cX0_lookAtBlock 12 = .ok (.invokestatic 99, 3) := by decide +kernel
theorem dX0_lookAtBlock_15 : decode cX0_lookAtBlock 15 = .ok (.istore_n 3, 1) := by decide +kernel
theorem dX0_lookAtBlock_16 : decode cX0_lookAtBlock 16 = .ok (.aload_n 0, 1) := by decide +kernel
theorem dX0_lookAtBlock_17 : decode cX0_lookAtBlock 17 = .ok (.getfield 32, 3) := by decide +kernel
theorem dX0_lookAtBlock_20 : decode cX0_lookAtBlock 20 = .ok (.ifCond .eq 10, 3) := by decide +kernel
theorem dX0_lookAtBlock_23 : decode cX0_lookAtBlock 23 = .ok (.iload_n 3, 1) := by decide +kernel
theorem dX0_lookAtBlock_24 : decode cX0_lookAtBlock 24 = .ok (.invokestatic 103, 3) := by decide +kernel
theorem dX0_lookAtBlock_27 : decode cX0_lookAtBlock 27 = .ok (.goto 4, 3) := by decide +kernel
theorem dX0_lookAtBlock_30 : decode cX0_lookAtBlock 30 = .ok (.iconst (-1), 1) := by decide +kernel
theorem dX0_lookAtBlock_31 : decode cX0_lookAtBlock 31 = .ok (.istore 4, 2) := by decide +kernel
theorem dX0_lookAtBlock_33 : decode cX0_lookAtBlock 33 = .ok (.iload_n 3, 1) := by decide +kernel
theorem dX0_lookAtBlock_34 : decode cX0_lookAtBlock 34 = .ok (.ifCond .ne 11, 3) := by decide +kernel
theorem dX0_lookAtBlock_37 : decode cX0_lookAtBlock 37 = .ok (.aload_n 0, 1) := by decide +kernel
theorem dX0_lookAtBlock_38 : decode cX0_lookAtBlock 38 = .ok (.lload_n 1, 1) := by decide +kernel
theorem dX0_lookAtBlock_39 : decode cX0_lookAtBlock 39 = .ok (.invokevirtual 106, 3) := by decide +kernel
theorem dX0_lookAtBlock_42 : decode cX0_lookAtBlock 42 = .ok (.goto 36, 3) := by decide +kernel
theorem dX0_lookAtBlock_45 : decode cX0_lookAtBlock 45 = .ok (.iload 4, 2) := by decide +kernel
theorem dX0_lookAtBlock_47 : decode cX0_lookAtBlock 47 = .ok (.iconst (-1), 1) := by decide +kernel
theorem dX0_lookAtBlock_48 : decode cX0_lookAtBlock 48 = .ok (.if_icmp .eq 26, 3) := by decide +kernel
theorem dX0_lookAtBlock_51 : decode cX0_lookAtBlock 51 = .ok (.aload_n 0, 1) := by decide +kernel
theorem dX0_lookAtBlock_52 : decode cX0_lookAtBlock 52 = .ok (.getfield 20, 3) := by decide +kernel
theorem dX0_lookAtBlock_55 : decode cX0_lookAtBlock 55 = .ok (.iconst 3, 1) := by decide +kernel
theorem dX0_lookAtBlock_56 : decode cX0_lookAtBlock 56 = .ok (.dup2, 1) := by decide +kernel
theorem dX0_lookAtBlock_57 : decode cX0_lookAtBlock 57 = .ok (.iaload, 1) := by decide +kernel
theorem dX0_lookAtBlock_58 : decode cX0_lookAtBlock 58 = .ok (.iconst 1, 1) := by decide +kernel
theorem dX0_lookAtBlock_59 : decode cX0_lookAtBlock 59 = .ok (.iadd, 1) := by decide +kernel
theorem dX0_lookAtBlock_60 : decode cX0_lookAtBlock 60 = .ok (.iastore, 1) := by decide +kernel
theorem dX0_lookAtBlock_61 : decode cX0_lookAtBlock 61 = .ok (.aload_n 0, 1) := by decide +kernel
theorem dX0_lookAtBlock_62 : decode cX0_lookAtBlock 62 = .ok (.lload_n 1, 1) := by decide +kernel
theorem dX0_lookAtBlock_63 : decode cX0_lookAtBlock 63 = .ok (.lconst 1, 1) := by decide +kernel
theorem dX0_lookAtBlock_64 : decode cX0_lookAtBlock 64 = .ok (.iload 4, 2) := by decide +kernel
theorem dX0_lookAtBlock_66 : decode cX0_lookAtBlock 66 = .ok (.lshl, 1) := by decide +kernel
theorem dX0_lookAtBlock_67 : decode cX0_lookAtBlock 67 = .ok (.lxor, 1) := by decide +kernel
theorem dX0_lookAtBlock_68 : decode cX0_lookAtBlock 68 = .ok (.invokevirtual 106, 3) := by decide +kernel
theorem dX0_lookAtBlock_71 : decode cX0_lookAtBlock 71 = .ok (.goto 7, 3) := by decide +kernel
theorem dX0_lookAtBlock_74 : decode cX0_lookAtBlock 74 = .ok (.aload_n 0, 1) := by decide +kernel
theorem dX0_lookAtBlock_75 : decode cX0_lookAtBlock 75 = .ok (.invokevirtual 109, 3) := by decide +kernel
theorem dX0_lookAtBlock_78 : decode cX0_lookAtBlock 78 = .ok (.return_, 1) := by decide +kernel
set_option maxRecDepth 20000 in
theorem ggX0_keepData_X0_byteOf : GoodIn wsX0_keepData wsX0_byteOf := goodIn_r _ [7] (by decide +kernel) (by decide +kernel)
set_option maxRecDepth 20000 in
theorem gX0_keepData_X0_byteOf : GoodIn wsX0_keepData (va_wsS RX0 112 yX0_byteOf wsX0_byteOf) := goodIn_app (goodIn_of _ (by decide +kernel)) ggX0_keepData_X0_byteOf
set_option maxRecDepth 20000 in
theorem ggX0_keepData_X0_endTransmission : GoodIn wsX0_keepData wsX0_endTransmission := goodIn_r _ [11, 1, 2, 12, 3, 13, 14, 15, 16, 6, 17, 18, 19, 20, 21, 22, 23, 24, 25, 26, 27, 28, 29, 30, 31, 32] (by decide +kernel) (by decide +kernel)
set_option maxRecDepth 20000 in
theorem gX0_keepData_X0_endTransmission : GoodIn wsX0_keepData (wsV RX0 109 RX0 yX0_endTransmission wsX0_endTransmission) := goodIn_app (goodIn_of _ (by decide +kernel)) ggX0_keepData_X0_endTransmission
theorem dX0_keepData_0 : decode cX0_keepData 0 = .ok (.aload_n 0, 1) := by decide +kernel
theorem dX0_keepData_1 : decode cX0_keepData 1 = .ok (.getfield 20, 3) := by decide +kernel
theorem dX0_keepData_4 : decode cX0_keepData 4 = .ok (.iconst 2, 1) := by decide +kernel
theorem dX0_keepData_5 : decode cX0_keepData 5 = .ok (.dup2, 1) := by decide +kernel
theorem dX0_keepData_6 : decode cX0_keepData 6 = .ok (.iaload, 1) := by decide +kernel
theorem dX0_keepData_7 : decode cX0_keepData 7 = .ok (.iconst 1, 1) := by decide +kernel
theorem dX0_keepData_8 : decode cX0_keepData 8 = .ok (.iadd, 1) := by decide +kernel
theorem dX0_keepData_9 : decode cX0_keepData 9 = .ok (.iastore, 1) := by decide +kernel
theorem dX0_keepData_10 : decode cX0_keepData 10 = .ok (.lload_n 1, 1) := by decide +kernel
theorem dX0_keepData_11 : decode cX0_keepData 11 = .ok (.bipush 7, 2) := by decide +kernel
theorem dX0_keepData_13 : decode cX0_keepData 13 = .ok (.lushr, 1) := by decide +kernel
theorem dX0_keepData_14 : decode cX0_keepData 14 = .ok (.lstore_n 3, 1) := by decide +kernel
theorem dX0_keepData_15 : decode cX0_keepData 15 = .ok (.bipush 6, 2) := by decide +kernel
theorem dX0_keepData_17 : decode cX0_keepData 17 = .ok (.istore 5, 2) := by decide +kernel
theorem dX0_keepData_19 : decode cX0_keepData 19 = .ok (.iload 5, 2) := by decide +kernel
theorem dX0_keepData_21 : decode cX0_keepData 21 = .ok (.ifCond .lt 53, 3) := by decide +kernel
theorem dX0_keepData_24 : decode cX0_keepData 24 = .ok (.aload_n 0, 1) := by decide +kernel
theorem dX0_keepData_25 : decode cX0_keepData 25 = .ok (.getfield 94, 3) := by decide +kernel
theorem dX0_keepData_28 : decode cX0_keepData 28 = .ok (.ifCond .lt 46, 3) := by decide +kernel
theorem dX0_keepData_31 : decode cX0_keepData 31 = .ok (.aload_n 0, 1) := by decide +kernel
theorem dX0_keepData_32 : decode cX0_keepData 32 = .ok (.getfield 94, 3) := by decide +kernel
theorem dX0_keepData_35 : decode cX0_keepData 35 = .ok (.aload_n 0, 1) := by decide +kernel
theorem dX0_keepData_36 : decode cX0_keepData 36 = .ok (.getfield 13, 3) := by decide +kernel
theorem dX0_keepData_39 : decode cX0_keepData 39 = .ok (.arraylength, 1) := by decide +kernel
theorem dX0_keepData_40 : decode cX0_keepData 40 = .ok (.if_icmp .ge 34, 3) := by decide +kernel
theorem dX0_keepData_43 : decode cX0_keepData 43 = .ok (.aload_n 0, 1) := by decide +kernel
theorem dX0_keepData_44 : decode cX0_keepData 44 = .ok (.getfield 13, 3) := by decide +kernel
theorem dX0_keepData_47 : decode cX0_keepData 47 = .ok (.aload_n 0, 1) := by decide +kernel
theorem dX0_keepData_48 : decode cX0_keepData 48 = .ok (.getfield 94, 3) := by decide +kernel
theorem dX0_keepData_51 : decode cX0_keepData 51 = .ok (.lload_n 3, 1) := by decide +kernel
theorem dX0_keepData_52 : decode cX0_keepData 52 = .ok (.iload 5, 2) := by decide +kernel
theorem dX0_keepData_54 : decode cX0_keepData 54 = .ok (.invokestatic 112, 3) := by decide +kernel
theorem dX0_keepData_57 : decode cX0_keepData 57 = .ok (.iastore, 1) := by decide +kernel
theorem dX0_keepData_58 : decode cX0_keepData 58 = .ok (.aload_n 0, 1) := by decide +kernel
theorem dX0_keepData_59 : decode cX0_keepData 59 = .ok (.dup, 1) := by decide +kernel
theorem dX0_keepData_60 : decode cX0_keepData 60 = .ok (.getfield 94, 3) := by decide +kernel
theorem dX0_keepData_63 : decode cX0_keepData 63 = .ok (.iconst 1, 1) := by decide +kernel
theorem dX0_keepData_64 : decode cX0_keepData 64 = .ok (.iadd, 1) := by decide +kernel
theorem dX0_keepData_65 : decode cX0_keepData 65 = .ok (.putfield 94, 3) := by decide +kernel
theorem dX0_keepData_68 : decode cX0_keepData 68 = .ok (.iinc 5 (-1), 3) := by decide +kernel
theorem dX0_keepData_71 : decode cX0_keepData 71 = .ok (.goto (-52), 3) := by decide +kernel
theorem dX0_keepData_74 : decode cX0_keepData 74 = .ok (.aload_n 0, 1) := by decide +kernel
theorem dX0_keepData_75 : decode cX0_keepData 75 = .ok (.getfield 94, 3) := by decide +kernel
theorem dX0_keepData_78 : decode cX0_keepData 78 = .ok (.sipush 259, 3) := by decide +kernel
theorem dX0_keepData_81 : decode cX0_keepData 81 = .ok (.if_icmp .ne 7, 3) := by decide +kernel
theorem dX0_keepData_84 : decode cX0_keepData 84 = .ok (.aload_n 0, 1) := by decide +kernel
theorem dX0_keepData_85 : decode cX0_keepData 85 = .ok (.invokevirtual 109, 3) := by decide +kernel
theorem dX0_keepData_88 : decode cX0_keepData 88 = .ok (.return_, 1) := by decide +kernel
set_option maxRecDepth 20000 in
theorem ggX0_endTransmission_X0_beginSearch : GoodIn wsX0_endTransmission wsX0_beginSearch := goodIn_r _ [10, 11, 12, 13, 14, 15, 16, 17, 18, 19, 20, 21, 22, 23, 24, 25] (by decide +kernel) (by decide +kernel)
set_option maxRecDepth 20000 in
theorem gX0_endTransmission_X0_beginSearch : GoodIn wsX0_endTransmission (wsV RX0 29 RX0 yX0_beginSearch wsX0_beginSearch) := goodIn_app (goodIn_of _ (by decide +kernel)) ggX0_endTransmission_X0_beginSearch
theorem dX0_endTransmission_0 : decode cX0_endTransmission 0 = .ok (.aload_n 0, 1) := by decide +kernel
theorem dX0_endTransmission_1 : decode cX0_endTransmission 1 = .ok (.getfield 20, 3) := by decide +kernel
theorem dX0_endTransmission_4 : decode cX0_endTransmission 4 = .ok (.iconst 1, 1) := by decide +kernel
theorem dX0_endTransmission_5 : decode cX0_endTransmission 5 = .ok (.dup2, 1) := by decide +kernel
theorem dX0_endTransmission_6 : decode cX0_endTransmission 6 = .ok (.iaload, 1) := by decide +kernel
theorem dX0_endTransmission_7 : decode cX0_endTransmission 7 = .ok (.iconst 1, 1) := by decide +kernel
theorem dX0_endTransmission_8 : decode cX0_endTransmission 8 = .ok (.iadd, 1) := by decide +kernel
theorem dX0_endTransmission_9 : decode cX0_endTransmission 9 = .ok (.iastore, 1) := by decide +kernel
theorem dX0_endTransmission_10 : decode cX0_endTransmission 10 = .ok (.aload_n 0, 1) := by decide +kernel
theorem dX0_endTransmission_11 : decode cX0_endTransmission 11 = .ok (.getfield 94, 3) := by decide +kernel
theorem dX0_endTransmission_14 : decode cX0_endTransmission 14 = .ok (.ifCond .le 29, 3) := by decide +kernel
theorem dX0_endTransmission_17 : decode cX0_endTransmission 17 = .ok (.aload_n 0, 1) := by decide +kernel
theorem dX0_endTransmission_18 : decode cX0_endTransmission 18 = .ok (.getfield 17, 3) := by decide +kernel
theorem dX0_endTransmission_21 : decode cX0_endTransmission 21 = .ok (.astore_n 1, 1) := by decide +kernel
theorem dX0_endTransmission_22 : decode cX0_endTransmission 22 = .ok (.aload_n 0, 1) := by decide +kernel
theorem dX0_endTransmission_23 : decode cX0_endTransmission 23 = .ok (.aload_n 0, 1) := by decide +kernel
theorem dX0_endTransmission_24 : decode cX0_endTransmission 24 = .ok (.getfield 13, 3) := by decide +kernel
theorem dX0_endTransmission_27 : decode cX0_endTransmission 27 = .ok (.putfield 17, 3) := by decide +kernel
theorem dX0_endTransmission_30 : decode cX0_endTransmission 30 = .ok (.aload_n 0, 1) := by decide +kernel
theorem dX0_endTransmission_31 : decode cX0_endTransmission 31 = .ok (.aload_n 0, 1) := by decide +kernel
theorem dX0_endTransmission_32 : decode cX0_endTransmission 32 = .ok (.getfield 94, 3) := by decide +kernel
theorem dX0_endTransmission_35 : decode cX0_endTransmission 35 = .ok (.putfield 40, 3) := by decide +kernel
theorem dX0_endTransmission_38 : decode cX0_endTransmission 38 = .ok (.aload_n 0, 1) := by decide +kernel
theorem dX0_endTransmission_39 : decode cX0_endTransmission 39 = .ok (.aload_n 1, 1) := by decide +kernel
theorem dX0_endTransmission_40 : decode cX0_endTransmission 40 = .ok (.putfield 13, 3) := by decide +kernel
theorem dX0_endTransmission_43 : decode cX0_endTransmission 43 = .ok (.aload_n 0, 1) := by decide +kernel
theorem dX0_endTransmission_44 : decode cX0_endTransmission 44 = .ok (.invokevirtual 29, 3) := by decide +kernel
theorem dX0_endTransmission_47 : decode cX0_endTransmission 47 = .ok (.return_, 1) := by decide +kernel
set_option maxRecDepth 20000 in
theorem ggX0_remainderOf_X0_reduced : GoodIn wsX0_remainderOf wsX0_reduced := goodIn_r _ [4] (by decide +kernel) (by decide +kernel)
set_option maxRecDepth 20000 in
theorem gX0_remainderOf_X0_reduced : GoodIn wsX0_remainderOf (va_wsS RX0 116 yX0_reduced wsX0_reduced) := goodIn_app (goodIn_of _ (by decide +kernel)) ggX0_remainderOf_X0_reduced
theorem dX0_remainderOf_0 : decode cX0_remainderOf 0 = .ok (.iconst 0, 1) := by decide +kernel
theorem dX0_remainderOf_1 : decode cX0_remainderOf 1 = .ok (.istore_n 2, 1) := by decide +kernel
theorem dX0_remainderOf_2 : decode cX0_remainderOf 2 = .ok (.bipush 62, 2) := by decide +kernel
theorem dX0_remainderOf_4 : decode cX0_remainderOf 4 = .ok (.istore_n 3, 1) := by decide +kernel
theorem dX0_remainderOf_5 : decode cX0_remainderOf 5 = .ok (.iload_n 3, 1) := by decide +kernel
theorem dX0_remainderOf_6 : decode cX0_remainderOf 6 = .ok (.ifCond .lt 23, 3) := by decide +kernel
theorem dX0_remainderOf_9 : decode cX0_remainderOf 9 = .ok (.iload_n 2, 1) := by decide +kernel
theorem dX0_remainderOf_10 : decode cX0_remainderOf 10 = .ok (.iconst 1, 1) := by decide +kernel
theorem dX0_remainderOf_11 : decode cX0_remainderOf 11 = .ok (.ishl, 1) := by decide +kernel
theorem dX0_remainderOf_12 : decode cX0_remainderOf 12 = .ok (.lload_n 0, 1) := by decide +kernel
theorem dX0_remainderOf_13 : decode cX0_remainderOf 13 = .ok (.iload_n 3, 1) := by decide +kernel
theorem dX0_remainderOf_14 : decode cX0_remainderOf 14 = .ok (.lushr, 1) := by decide +kernel
theorem dX0_remainderOf_15 : decode cX0_remainderOf 15 = .ok (.lconst 1, 1) := by decide +kernel
theorem dX0_remainderOf_16 : decode cX0_remainderOf 16 = .ok (.land, 1) := by decide +kernel
theorem dX0_remainderOf_17 : decode cX0_remainderOf 17 = .ok (.l2i, 1) := by decide +kernel
theorem dX0_remainderOf_18 : decode cX0_remainderOf 18 = .ok (.ior, 1) := by decide +kernel
theorem dX0_remainderOf_19 : decode cX0_remainderOf 19 = .ok (.invokestatic 116, 3) := by decide +kernel
theorem dX0_remainderOf_22 : decode cX0_remainderOf 22 = .ok (.istore_n 2, 1) := by decide +kernel
theorem dX0_remainderOf_23 : decode cX0_remainderOf 23 = .ok (.iinc 3 (-1), 3) := by decide +kernel
theorem dX0_remainderOf_26 : decode cX0_remainderOf 26 = .ok (.goto (-21), 3) := by decide +kernel
theorem dX0_remainderOf_29 : decode cX0_remainderOf 29 = .ok (.iload_n 2, 1) := by decide +kernel
theorem dX0_remainderOf_30 : decode cX0_remainderOf 30 = .ok (.ireturn, 1) := by decide +kernel
set_option maxRecDepth 20000 in
theorem ggX0_powerWithRemainder_X0_reduced : GoodIn wsX0_powerWithRemainder wsX0_reduced := goodIn_r _ [4] (by decide +kernel) (by decide +kernel)
set_option maxRecDepth 20000 in
theorem gX0_powerWithRemainder_X0_reduced : GoodIn wsX0_powerWithRemainder (va_wsS RX0 116 yX0_reduced wsX0_reduced) := goodIn_app (goodIn_of _ (by decide +kernel)) ggX0_powerWithRemainder_X0_reduced
theorem dX0_powerWithRemainder_0 : decode cX0_powerWithRemainder 0 = .ok (.iconst 1, 1) := by decide +kernel
theorem dX0_powerWithRemainder_1 : decode cX0_powerWithRemainder 1 = .ok (.istore_n 1, 1) := by decide +kernel
theorem dX0_powerWithRemainder_2 : decode cX0_powerWithRemainder 2 = .ok (.iconst 0, 1) := by decide +kernel
theorem dX0_powerWithRemainder_3 : decode cX0_powerWithRemainder 3 = .ok (.istore_n 2, 1) := by decide +kernel
theorem dX0_powerWithRemainder_4 : decode cX0_powerWithRemainder 4 = .ok (.iload_n 2, 1) := by decide +kernel
theorem dX0_powerWithRemainder_5 : decode cX0_powerWithRemainder 5 = .ok (.bipush 63, 2) := by decide +kernel
theorem dX0_powerWithRemainder_7 : decode cX0_powerWithRemainder 7 = .ok (.if_icmp .ge 23, 3) := by decide +kernel
theorem dX0_powerWithRemainder_10 : decode cX0_powerWithRemainder 10 = .ok (.iload_n 1, 1) := by decide +kernel
theorem dX0_powerWithRemainder_11 : decode cX0_powerWithRemainder 11 = .ok (.iload_n 0, 1) := by decide +kernel
theorem dX0_powerWithRemainder_12 : decode cX0_powerWithRemainder 12 = .ok (.if_icmp .ne 5, 3) := by decide +kernel
theorem dX0_powerWithRemainder_15 : decode cX0_powerWithRemainder 15 = .ok (.iload_n 2, 1) := by decide +kernel
theorem dX0_powerWithRemainder_16 : decode cX0_powerWithRemainder 16 = .ok (.ireturn, 1) := by decide +kernel
theorem dX0_powerWithRemainder_17 : decode cX0_powerWithRemainder 17 = .ok (.iload_n 1, 1) := by decide +kernel
theorem dX0_powerWithRemainder_18 : decode cX0_powerWithRemainder 18 = .ok (.iconst 1, 1) := by decide +kernel
theorem dX0_powerWithRemainder_19 : decode cX0_powerWithRemainder 19 = .ok (.ishl, 1) := by decide +kernel
theorem dX0_powerWithRemainder_20 : decode cX0_powerWithRemainder 20 = .ok (.invokestatic 116, 3) := by decide +kernel
theorem dX0_powerWithRemainder_23 : decode cX0_powerWithRemainder 23 = .ok (.istore_n 1, 1) := by decide +kernel
theorem dX0_powerWithRemainder_24 : decode cX0_powerWithRemainder 24 = .ok (.iinc 2 1, 3) := by decide +kernel
theorem dX0_powerWithRemainder_27 : decode cX0_powerWithRemainder 27 = .ok (.goto (-23), 3) := by decide +kernel
theorem dX0_powerWithRemainder_30 : decode cX0_powerWithRemainder 30 = .ok (.iconst (-1), 1) := by decide +kernel
theorem dX0_powerWithRemainder_31 : decode cX0_powerWithRemainder 31 = .ok (.ireturn, 1) := by decide +kernel
theorem dX0_reduced_0 : decode cX0_reduced 0 = .ok (.iload_n 0, 1) := by decide +kernel
theorem dX0_reduced_1 : decode cX0_reduced 1 = .ok (.sipush 128, 3) := by decide +kernel
theorem dX0_reduced_4 : decode cX0_reduced 4 = .ok (.iand, 1) := by decide +kernel
theorem dX0_reduced_5 : decode cX0_reduced 5 = .ok (.ifCond .ne 7, 3) := by decide +kernel
theorem dX0_reduced_8 : decode cX0_reduced 8 = .ok (.iload_n 0, 1) := by decide +kernel
theorem dX0_reduced_9 : decode cX0_reduced 9 = .ok (.goto 8, 3) := by decide +kernel
theorem dX0_reduced_12 : decode cX0_reduced 12 = .ok (.iload_n 0, 1) := by decide +kernel
theorem dX0_reduced_13 : decode cX0_reduced 13 = .ok (.sipush 197, 3) := by decide +kernel
theorem dX0_reduced_16 : decode cX0_reduced 16 = .ok (.ixor, 1) := by decide +kernel
theorem dX0_reduced_17 : decode cX0_reduced 17 = .ok (.ireturn, 1) := by decide +kernel
set_option maxRecDepth 20000 in
theorem ggX0_blockOf_X0_remainderOf : GoodIn wsX0_blockOf wsX0_remainderOf := goodIn_r _ [4, 5, 6, 3, 7] (by decide +kernel) (by decide +kernel)
set_option maxRecDepth 20000 in
theorem gX0_blockOf_X0_remainderOf : GoodIn wsX0_blockOf (va_wsS RX0 99 yX0_remainderOf wsX0_remainderOf) := goodIn_app (goodIn_of _ (by decide +kernel)) ggX0_blockOf_X0_remainderOf
theorem dX0_blockOf_0 : decode cX0_blockOf 0 = .ok (.lload_n 0, 1) := by decide +kernel
theorem dX0_blockOf_1 : decode cX0_blockOf 1 = .ok (.bipush 7, 2) := by decide +kernel
theorem dX0_blockOf_3 : decode cX0_blockOf 3 = .ok (.lshl, 1) := by decide +kernel
theorem dX0_blockOf_4 : decode cX0_blockOf 4 = .ok (.lstore_n 2, 1) := by decide +kernel
theorem dX0_blockOf_5 : decode cX0_blockOf 5 = .ok (.lload_n 2, 1) := by decide +kernel
theorem dX0_blockOf_6 : decode cX0_blockOf 6 = .ok (.lload_n 2, 1) := by decide +kernel
theorem dX0_blockOf_7 : decode cX0_blockOf 7 = .ok (.invokestatic 99, 3) := by decide +kernel
theorem dX0_blockOf_10 : decode cX0_blockOf 10 = .ok (.bipush 127, 2) := by decide +kernel
theorem dX0_blockOf_12 : decode cX0_blockOf 12 = .ok (.ixor, 1) := by decide +kernel
theorem dX0_blockOf_13 : decode cX0_blockOf 13 = .ok (.i2l, 1) := by decide +kernel
theorem dX0_blockOf_14 : decode cX0_blockOf 14 = .ok (.lor, 1) := by decide +kernel
theorem dX0_blockOf_15 : decode cX0_blockOf 15 = .ok (.iconst 1, 1) := by decide +kernel
theorem dX0_blockOf_16 : decode cX0_blockOf 16 = .ok (.lshl, 1) := by decide +kernel
theorem dX0_blockOf_17 : decode cX0_blockOf 17 = .ok (.lreturn, 1) := by decide +kernel
theorem dX0_byteOf_0 : decode cX0_byteOf 0 = .ok (.lload_n 0, 1) := by decide +kernel
theorem dX0_byteOf_1 : decode cX0_byteOf 1 = .ok (.bipush 8, 2) := by decide +kernel
theorem dX0_byteOf_3 : decode cX0_byteOf 3 = .ok (.iload_n 2, 1) := by decide +kernel
theorem dX0_byteOf_4 : decode cX0_byteOf 4 = .ok (.imul, 1) := by decide +kernel
theorem dX0_byteOf_5 : decode cX0_byteOf 5 = .ok (.lushr, 1) := by decide +kernel
theorem dX0_byteOf_6 : decode cX0_byteOf 6 = .ok (.l2i, 1) := by decide +kernel
theorem dX0_byteOf_7 : decode cX0_byteOf 7 = .ok (.sipush 255, 3) := by decide +kernel
theorem dX0_byteOf_10 : decode cX0_byteOf 10 = .ok (.iand, 1) := by decide +kernel
theorem dX0_byteOf_11 : decode cX0_byteOf 11 = .ok (.ireturn, 1) := by decide +kernel
set_option maxRecDepth 20000 in
theorem ggX0_fillLastBlock_X0_put : GoodIn wsX0_fillLastBlock wsX0_put := goodIn_r _ [6, 1, 7, 8, 9, 10, 11, 12, 13, 14, 15, 16, 17, 18, 19, 20] (by decide +kernel) (by decide +kernel)
set_option maxRecDepth 20000 in
theorem gX0_fillLastBlock_X0_put : GoodIn wsX0_fillLastBlock (wsV RX0 119 RX0 yX0_put wsX0_put) := goodIn_app (goodIn_of _ (by decide +kernel)) ggX0_fillLastBlock_X0_put
theorem dX0_fillLastBlock_0 : decode cX0_fillLastBlock 0 = .ok (.iconst 1, 1) := by decide +kernel
theorem dX0_fillLastBlock_1 : decode cX0_fillLastBlock 1 = .ok (.istore_n 1, 1) := by decide +kernel
theorem dX0_fillLastBlock_2 : decode cX0_fillLastBlock 2 = .ok (.iload_n 1, 1) := by decide +kernel
theorem dX0_fillLastBlock_3 : decode cX0_fillLastBlock 3 = .ok (.bipush 7, 2) := by decide +kernel
theorem dX0_fillLastBlock_5 : decode cX0_fillLastBlock 5 = .ok (.if_icmp .ge 26, 3) := by decide +kernel
theorem dX0_fillLastBlock_8 : decode cX0_fillLastBlock 8 = .ok (.aload_n 0, 1) := by decide +kernel
theorem dX0_fillLastBlock_9 : decode cX0_fillLastBlock 9 = .ok (.getfield 43, 3) := by decide +kernel
theorem dX0_fillLastBlock_12 : decode cX0_fillLastBlock 12 = .ok (.bipush 7, 2) := by decide +kernel
theorem dX0_fillLastBlock_14 : decode cX0_fillLastBlock 14 = .ok (.irem, 1) := by decide +kernel
theorem dX0_fillLastBlock_15 : decode cX0_fillLastBlock 15 = .ok (.ifCond .eq 16, 3) := by decide +kernel
theorem dX0_fillLastBlock_18 : decode cX0_fillLastBlock 18 = .ok (.aload_n 0, 1) := by decide +kernel
theorem dX0_fillLastBlock_19 : decode cX0_fillLastBlock 19 = .ok (.bipush 85, 2) := by decide +kernel
theorem dX0_fillLastBlock_21 : decode cX0_fillLastBlock 21 = .ok (.invokevirtual 119, 3) := by decide +kernel
theorem dX0_fillLastBlock_24 : decode cX0_fillLastBlock 24 = .ok (.pop, 1) := by decide +kernel
theorem dX0_fillLastBlock_25 : decode cX0_fillLastBlock 25 = .ok (.iinc 1 1, 3) := by decide +kernel
theorem dX0_fillLastBlock_28 : decode cX0_fillLastBlock 28 = .ok (.goto (-26), 3) := by decide +kernel
theorem dX0_fillLastBlock_31 : decode cX0_fillLastBlock 31 = .ok (.return_, 1) := by decide +kernel
theorem dX0_waitingData_0 : decode cX0_waitingData 0 = .ok (.lconst 0, 1) := by decide +kernel
theorem dX0_waitingData_1 : decode cX0_waitingData 1 = .ok (.lstore_n 2, 1) := by decide +kernel
theorem dX0_waitingData_2 : decode cX0_waitingData 2 = .ok (.iload_n 1, 1) := by decide +kernel
theorem dX0_waitingData_3 : decode cX0_waitingData 3 = .ok (.istore 4, 2) := by decide +kernel
theorem dX0_waitingData_5 : decode cX0_waitingData 5 = .ok (.iload 4, 2) := by decide +kernel
theorem dX0_waitingData_7 : decode cX0_waitingData 7 = .ok (.iload_n 1, 1) := by decide +kernel
theorem dX0_waitingData_8 : decode cX0_waitingData 8 = .ok (.bipush 7, 2) := by decide +kernel
theorem dX0_waitingData_10 : decode cX0_waitingData 10 = .ok (.iadd, 1) := by decide +kernel
theorem dX0_waitingData_11 : decode cX0_waitingData 11 = .ok (.if_icmp .ge 38, 3) := by decide +kernel
theorem dX0_waitingData_14 : decode cX0_waitingData 14 = .ok (.iload 4, 2) := by decide +kernel
theorem dX0_waitingData_16 : decode cX0_waitingData 16 = .ok (.ifCond .lt 33, 3) := by decide +kernel
theorem dX0_waitingData_19 : decode cX0_waitingData 19 = .ok (.iload 4, 2) := by decide +kernel
theorem dX0_waitingData_21 : decode cX0_waitingData 21 = .ok (.aload_n 0, 1) := by decide +kernel
theorem dX0_waitingData_22 : decode cX0_waitingData 22 = .ok (.getfield 23, 3) := by decide +kernel
theorem dX0_waitingData_25 : decode cX0_waitingData 25 = .ok (.arraylength, 1) := by decide +kernel
theorem dX0_waitingData_26 : decode cX0_waitingData 26 = .ok (.if_icmp .ge 23, 3) := by decide +kernel
theorem dX0_waitingData_29 : decode cX0_waitingData 29 = .ok (.lload_n 2, 1) := by decide +kernel
theorem dX0_waitingData_30 : decode cX0_waitingData 30 = .ok (.bipush 8, 2) := by decide +kernel
theorem dX0_waitingData_32 : decode cX0_waitingData 32 = .ok (.lshl, 1) := by decide +kernel
theorem dX0_waitingData_33 : decode cX0_waitingData 33 = .ok (.aload_n 0, 1) := by decide +kernel
theorem dX0_waitingData_34 : decode cX0_waitingData 34 = .ok (.getfield 23, 3) := by decide +kernel
theorem dX0_waitingData_37 : decode cX0_waitingData 37 = .ok (.iload 4, 2) := by decide +kernel
theorem dX0_waitingData_39 : decode cX0_waitingData 39 = .ok (.iaload, 1) := by decide +kernel
theorem dX0_waitingData_40 : decode cX0_waitingData 40 = .ok (.i2l, 1) := by decide +kernel
theorem dX0_waitingData_41 : decode cX0_waitingData 41 = .ok (.lor, 1) := by decide +kernel
theorem dX0_waitingData_42 : decode cX0_waitingData 42 = .ok (.lstore_n 2, 1) := by decide +kernel
theorem dX0_waitingData_43 : decode cX0_waitingData 43 = .ok (.iinc 4 1, 3) := by decide +kernel
theorem dX0_waitingData_46 : decode cX0_waitingData 46 = .ok (.goto (-41), 3) := by decide +kernel
theorem dX0_waitingData_49 : decode cX0_waitingData 49 = .ok (.lload_n 2, 1) := by decide +kernel
theorem dX0_waitingData_50 : decode cX0_waitingData 50 = .ok (.lreturn, 1) := by decide +kernel
set_option maxRecDepth 20000 in
theorem ggX0_sendBytes_X0_byteOf : GoodIn wsX0_sendBytes wsX0_byteOf := goodIn_r _ [6] (by decide +kernel) (by decide +kernel)
set_option maxRecDepth 20000 in
theorem gX0_sendBytes_X0_byteOf : GoodIn wsX0_sendBytes (va_wsS RX0 112 yX0_byteOf wsX0_byteOf) := goodIn_app (goodIn_of _ (by decide +kernel)) ggX0_sendBytes_X0_byteOf
theorem dX0_sendBytes_0 : decode cX0_sendBytes 0 = .ok (.iload_n 3, 1) := by decide +kernel
theorem dX0_sendBytes_1 : decode cX0_sendBytes 1 = .ok (.iconst 1, 1) := by decide +kernel
theorem dX0_sendBytes_2 : decode cX0_sendBytes 2 = .ok (.isub, 1) := by decide +kernel
theorem dX0_sendBytes_3 : decode cX0_sendBytes 3 = .ok (.istore 4, 2) := by decide +kernel
theorem dX0_sendBytes_5 : decode cX0_sendBytes 5 = .ok (.iload 4, 2) := by decide +kernel
theorem dX0_sendBytes_7 : decode cX0_sendBytes 7 = .ok (.ifCond .lt 53, 3) := by decide +kernel
theorem dX0_sendBytes_10 : decode cX0_sendBytes 10 = .ok (.aload_n 0, 1) := by decide +kernel
theorem dX0_sendBytes_11 : decode cX0_sendBytes 11 = .ok (.getfield 49, 3) := by decide +kernel
theorem dX0_sendBytes_14 : decode cX0_sendBytes 14 = .ok (.ifCond .lt 46, 3) := by decide +kernel
theorem dX0_sendBytes_17 : decode cX0_sendBytes 17 = .ok (.aload_n 0, 1) := by decide +kernel
theorem dX0_sendBytes_18 : decode cX0_sendBytes 18 = .ok (.getfield 49, 3) := by decide +kernel
theorem dX0_sendBytes_21 : decode cX0_sendBytes 21 = .ok (.aload_n 0, 1) := by decide +kernel
theorem dX0_sendBytes_22 : decode cX0_sendBytes 22 = .ok (.getfield 26, 3) := by decide +kernel
theorem dX0_sendBytes_25 : decode cX0_sendBytes 25 = .ok (.arraylength, 1) := by decide +kernel
theorem dX0_sendBytes_26 : decode cX0_sendBytes 26 = .ok (.if_icmp .ge 34, 3) := by decide +kernel
theorem dX0_sendBytes_29 : decode cX0_sendBytes 29 = .ok (.aload_n 0, 1) := by decide +kernel
theorem dX0_sendBytes_30 : decode cX0_sendBytes 30 = .ok (.getfield 26, 3) := by decide +kernel
theorem dX0_sendBytes_33 : decode cX0_sendBytes 33 = .ok (.aload_n 0, 1) := by decide +kernel
theorem dX0_sendBytes_34 : decode cX0_sendBytes 34 = .ok (.getfield 49, 3) := by decide +kernel
theorem dX0_sendBytes_37 : decode cX0_sendBytes 37 = .ok (.lload_n 1, 1) := by decide +kernel
theorem dX0_sendBytes_38 : decode cX0_sendBytes 38 = .ok (.iload 4, 2) := by decide +kernel
theorem dX0_sendBytes_40 : decode cX0_sendBytes 40 = .ok (.invokestatic 112, 3) := by decide +kernel
theorem dX0_sendBytes_43 : decode cX0_sendBytes 43 = .ok (.iastore, 1) := by decide +kernel
theorem dX0_sendBytes_44 : decode cX0_sendBytes 44 = .ok (.aload_n 0, 1) := by decide +kernel
theorem dX0_sendBytes_45 : decode cX0_sendBytes 45 = .ok (.dup, 1) := by decide +kernel
theorem dX0_sendBytes_46 : decode cX0_sendBytes 46 = .ok (.getfield 49, 3) := by decide +kernel
theorem dX0_sendBytes_49 : decode cX0_sendBytes 49 = .ok (.iconst 1, 1) := by decide +kernel
theorem dX0_sendBytes_50 : decode cX0_sendBytes 50 = .ok (.iadd, 1) := by decide +kernel
theorem dX0_sendBytes_51 : decode cX0_sendBytes 51 = .ok (.putfield 49, 3) := by decide +kernel
theorem dX0_sendBytes_54 : decode cX0_sendBytes 54 = .ok (.iinc 4 (-1), 3) := by decide +kernel
theorem dX0_sendBytes_57 : decode cX0_sendBytes 57 = .ok (.goto (-52), 3) := by decide +kernel
theorem dX0_sendBytes_60 : decode cX0_sendBytes 60 = .ok (.return_, 1) := by decide +kernel
theorem dX1_init_0 : decode cX1_init 0 = .ok (.aload_n 0, 1) := by decide +kernel
theorem dX1_init_1 : decode cX1_init 1 = .ok (.invokespecial 1, 3) := by decide +kernel
theorem dX1_init_4 : decode cX1_init 4 = .ok (.aload_n 0, 1) := by decide +kernel
theorem dX1_init_5 : decode cX1_init 5 = .ok (.bipush 64, 2) := by decide +kernel
theorem dX1_init_7 : decode cX1_init 7 = .ok (.newarray .int, 2) := by decide +kernel
theorem dX1_init_9 : decode cX1_init 9 = .ok (.putfield 7, 3) := by decide +kernel
theorem dX1_init_12 : decode cX1_init 12 = .ok (.aload_n 0, 1) := by decide +kernel
theorem dX1_init_13 : decode cX1_init 13 = .ok (.sipush 259, 3) := by decide +kernel
theorem dX1_init_16 : decode cX1_init 16 = .ok (.newarray .int, 2) := by decide +kernel
theorem dX1_init_18 : decode cX1_init 18 = .ok (.putfield 13, 3) := by decide +kernel
theorem dX1_init_21 : decode cX1_init 21 = .ok (.aload_n 0, 1) := by decide +kernel
theorem dX1_init_22 : decode cX1_init 22 = .ok (.sipush 259, 3) := by decide +kernel
theorem dX1_init_25 : decode cX1_init 25 = .ok (.newarray .int, 2) := by decide +kernel
theorem dX1_init_27 : decode cX1_init 27 = .ok (.putfield 16, 3) := by decide +kernel
theorem dX1_init_30 : decode cX1_init 30 = .ok (.aload_n 0, 1) := by decide +kernel
theorem dX1_init_31 : decode cX1_init 31 = .ok (.sipush 259, 3) := by decide +kernel
theorem dX1_init_34 : decode cX1_init 34 = .ok (.newarray .int, 2) := by decide +kernel
theorem dX1_init_36 : decode cX1_init 36 = .ok (.putfield 19, 3) := by decide +kernel
theorem dX1_init_39 : decode cX1_init 39 = .ok (.aload_n 0, 1) := by decide +kernel
theorem dX1_init_40 : decode cX1_init 40 = .ok (.sipush 306, 3) := by decide +kernel
theorem dX1_init_43 : decode cX1_init 43 = .ok (.newarray .int, 2) := by decide +kernel
theorem dX1_init_45 : decode cX1_init 45 = .ok (.putfield 22, 3) := by decide +kernel
theorem dX1_init_48 : decode cX1_init 48 = .ok (.aload_n 0, 1) := by decide +kernel
theorem dX1_init_49 : decode cX1_init 49 = .ok (.iconst 5, 1) := by decide +kernel
theorem dX1_init_50 : decode cX1_init 50 = .ok (.newarray .int, 2) := by decide +kernel
theorem dX1_init_52 : decode cX1_init 52 = .ok (.putfield 25, 3) := by decide +kernel
theorem dX1_init_55 : decode cX1_init 55 = .ok (.return_, 1) := by decide +kernel
theorem dX1_wrong_0 : decode cX1_wrong 0 = .ok (.aload_n 0, 1) := by decide +kernel
theorem dX1_wrong_1 : decode cX1_wrong 1 = .ok (.iconst (-1), 1) := by decide +kernel
theorem dX1_wrong_2 : decode cX1_wrong 2 = .ok (.invokevirtual 32, 3) := by decide +kernel
theorem dX1_wrong_5 : decode cX1_wrong 5 = .ok (.ifCond .eq 5, 3) := by decide +kernel
theorem dX1_wrong_8 : decode cX1_wrong 8 = .ok (.iconst (-1), 1) := by decide +kernel
theorem dX1_wrong_9 : decode cX1_wrong 9 = .ok (.ireturn, 1) := by decide +kernel
theorem dX1_wrong_10 : decode cX1_wrong 10 = .ok (.bipush (-2), 2) := by decide +kernel
theorem dX1_wrong_12 : decode cX1_wrong 12 = .ok (.istore_n 1, 1) := by decide +kernel
theorem dX1_wrong_13 : decode cX1_wrong 13 = .ok (.iconst 0, 1) := by decide +kernel
theorem dX1_wrong_14 : decode cX1_wrong 14 = .ok (.istore_n 2, 1) := by decide +kernel
theorem dX1_wrong_15 : decode cX1_wrong 15 = .ok (.iload_n 2, 1) := by decide +kernel
theorem dX1_wrong_16 : decode cX1_wrong 16 = .ok (.bipush 63, 2) := by decide +kernel
theorem dX1_wrong_18 : decode cX1_wrong 18 = .ok (.if_icmp .ge 30, 3) := by decide +kernel
theorem dX1_wrong_21 : decode cX1_wrong 21 = .ok (.aload_n 0, 1) := by decide +kernel
theorem dX1_wrong_22 : decode cX1_wrong 22 = .ok (.getfield 36, 3) := by decide +kernel
theorem dX1_wrong_25 : decode cX1_wrong 25 = .ok (.ifCond .eq 23, 3) := by decide +kernel
theorem dX1_wrong_28 : decode cX1_wrong 28 = .ok (.aload_n 0, 1) := by decide +kernel
theorem dX1_wrong_29 : decode cX1_wrong 29 = .ok (.iload_n 2, 1) := by decide +kernel
theorem dX1_wrong_30 : decode cX1_wrong 30 = .ok (.invokevirtual 32, 3) := by decide +kernel
theorem dX1_wrong_33 : decode cX1_wrong 33 = .ok (.ifCond .eq 7, 3) := by decide +kernel
theorem dX1_wrong_36 : decode cX1_wrong 36 = .ok (.iload_n 2, 1) := by decide +kernel
theorem dX1_wrong_37 : decode cX1_wrong 37 = .ok (.goto 4, 3) := by decide +kernel
theorem dX1_wrong_40 : decode cX1_wrong 40 = .ok (.iload_n 1, 1) := by decide +kernel
theorem dX1_wrong_41 : decode cX1_wrong 41 = .ok (.istore_n 1, 1) := by decide +kernel
theorem dX1_wrong_42 : decode cX1_wrong 42 = .ok (.iinc 2 1, 3) := by decide +kernel
theorem dX1_wrong_45 : decode cX1_wrong 45 = .ok (.goto (-30), 3) := by decide +kernel
theorem dX1_wrong_48 : decode cX1_wrong 48 = .ok (.iload_n 1, 1) := by decide +kernel
theorem dX1_wrong_49 : decode cX1_wrong 49 = .ok (.ireturn, 1) := by decide +kernel
theorem dX1_begins_0 : decode cX1_begins 0 = .ok (.aload_n 0, 1) := by decide +kernel
theorem dX1_begins_1 : decode cX1_begins 1 = .ok (.iload_n 1, 1) := by decide +kernel
theorem dX1_begins_2 : decode cX1_begins 2 = .ok (.putfield 40, 3) := by decide +kernel
theorem dX1_begins_5 : decode cX1_begins 5 = .ok (.aload_n 0, 1) := by decide +kernel
theorem dX1_begins_6 : decode cX1_begins 6 = .ok (.iconst 0, 1) := by decide +kernel
theorem dX1_begins_7 : decode cX1_begins 7 = .ok (.putfield 43, 3) := by decide +kernel
theorem dX1_begins_10 : decode cX1_begins 10 = .ok (.return_, 1) := by decide +kernel
set_option maxRecDepth 20000 in
theorem ggX1_block_X1_wrong : GoodIn wsX1_block wsX1_wrong := goodIn_r _ [10, 11, 12, 13, 14, 15, 16, 17, 18, 19, 20, 21, 22, 23, 24, 25] (by decide +kernel) (by decide +kernel)
set_option maxRecDepth 20000 in
theorem gX1_block_X1_wrong : GoodIn wsX1_block (wsV RX1 56 RX1 yX1_wrong wsX1_wrong) := goodIn_app (goodIn_of _ (by decide +kernel)) ggX1_block_X1_wrong
theorem dX1_block_0 : decode cX1_block 0 = .ok (.aload_n 0, 1) := by decide +kernel
theorem dX1_block_1 : decode cX1_block 1 = .ok (.invokevirtual 56, 3) := by decide +kernel
theorem dX1_block_4 : decode cX1_block 4 = .ok (.istore_n 1, 1) := by decide +kernel
theorem dX1_block_5 : decode cX1_block 5 = .ok (.iload_n 1, 1) := by decide +kernel
theorem dX1_block_6 : decode cX1_block 6 = .ok (.bipush (-2), 2) := by decide +kernel
theorem dX1_block_8 : decode cX1_block 8 = .ok (.if_icmp .ne 9, 3) := by decide +kernel
theorem dX1_block_11 : decode cX1_block 11 = .ok (.aload_n 0, 1) := by decide +kernel
theorem dX1_block_12 : decode cX1_block 12 = .ok (.invokevirtual 60, 3) := by decide +kernel
theorem dX1_block_15 : decode cX1_block 15 = .ok (.iconst 1, 1) := by decide +kernel
theorem dX1_block_16 : decode cX1_block 16 = .ok (.ireturn, 1) := by decide +kernel
theorem dX1_block_17 : decode cX1_block 17 = .ok (.iconst 0, 1) := by decide +kernel
theorem dX1_block_18 : decode cX1_block 18 = .ok (.istore_n 2, 1) := by decide +kernel
theorem dX1_block_19 : decode cX1_block 19 = .ok (.iload_n 2, 1) := by decide +kernel
theorem dX1_block_20 : decode cX1_block 20 = .ok (.bipush 7, 2) := by decide +kernel
theorem dX1_block_22 : decode cX1_block 22 = .ok (.if_icmp .ge 79, 3) := by decide +kernel
theorem dX1_block_25 : decode cX1_block 25 = .ok (.iconst 0, 1) := by decide +kernel
theorem dX1_block_26 : decode cX1_block 26 = .ok (.istore_n 3, 1) := by decide +kernel
theorem dX1_block_27 : decode cX1_block 27 = .ok (.bipush 8, 2) := by decide +kernel
theorem dX1_block_29 : decode cX1_block 29 = .ok (.iload_n 2, 1) := by decide +kernel
theorem dX1_block_30 : decode cX1_block 30 = .ok (.imul, 1) := by decide +kernel
theorem dX1_block_31 : decode cX1_block 31 = .ok (.istore 4, 2) := by decide +kernel
theorem dX1_block_33 : decode cX1_block 33 = .ok (.iload 4, 2) := by decide +kernel
theorem dX1_block_35 : decode cX1_block 35 = .ok (.bipush 8, 2) := by decide +kernel
theorem dX1_block_37 : decode cX1_block 37 = .ok (.iload_n 2, 1) := by decide +kernel
theorem dX1_block_38 : decode cX1_block 38 = .ok (.imul, 1) := by decide +kernel
theorem dX1_block_39 : decode cX1_block 39 = .ok (.bipush 8, 2) := by decide +kernel
theorem dX1_block_41 : decode cX1_block 41 = .ok (.iadd, 1) := by decide +kernel
theorem dX1_block_42 : decode cX1_block 42 = .ok (.if_icmp .ge 33, 3) := by decide +kernel
theorem dX1_block_45 : decode cX1_block 45 = .ok (.iconst 2, 1) := by decide +kernel
theorem dX1_block_46 : decode cX1_block 46 = .ok (.iload_n 3, 1) := by decide +kernel
theorem dX1_block_47 : decode cX1_block 47 = .ok (.imul, 1) := by decide +kernel
theorem dX1_block_48 : decode cX1_block 48 = .ok (.aload_n 0, 1) := by decide +kernel
theorem dX1_block_49 : decode cX1_block 49 = .ok (.getfield 7, 3) := by decide +kernel
theorem dX1_block_52 : decode cX1_block 52 = .ok (.iload 4, 2) := by decide +kernel
theorem dX1_block_54 : decode cX1_block 54 = .ok (.iaload, 1) := by decide +kernel
theorem dX1_block_55 : decode cX1_block 55 = .ok (.iload 4, 2) := by decide +kernel
theorem dX1_block_57 : decode cX1_block 57 = .ok (.iload_n 1, 1) := by decide +kernel
theorem dX1_block_58 : decode cX1_block 58 = .ok (.if_icmp .ne 7, 3) := by decide +kernel
theorem dX1_block_61 : decode cX1_block 61 = .ok (.iconst 1, 1) := by decide +kernel
theorem dX1_block_62 : decode cX1_block 62 = .ok (.goto 4, 3) := by decide +kernel
theorem dX1_block_65 : decode cX1_block 65 = .ok (.iconst 0, 1) := by decide +kernel
theorem dX1_block_66 : decode cX1_block 66 = .ok (.ixor, 1) := by decide +kernel
theorem dX1_block_67 : decode cX1_block 67 = .ok (.iadd, 1) := by decide +kernel
theorem dX1_block_68 : decode cX1_block 68 = .ok (.istore_n 3, 1) := by decide +kernel
theorem dX1_block_69 : decode cX1_block 69 = .ok (.iinc 4 1, 3) := by decide +kernel
theorem dX1_block_72 : decode cX1_block 72 = .ok (.goto (-39), 3) := by decide +kernel
theorem dX1_block_75 : decode cX1_block 75 = .ok (.aload_n 0, 1) := by decide +kernel
theorem dX1_block_76 : decode cX1_block 76 = .ok (.getfield 13, 3) := by decide +kernel
theorem dX1_block_79 : decode cX1_block 79 = .ok (.aload_n 0, 1) := by decide +kernel
theorem dX1_block_80 : decode cX1_block 80 = .ok (.getfield 46, 3) := by decide +kernel
theorem dX1_block_83 : decode cX1_block 83 = .ok (.iload_n 3, 1) := by decide +kernel
theorem dX1_block_84 : decode cX1_block 84 = .ok (.iastore, 1) := by decide +kernel
theorem dX1_block_85 : decode cX1_block 85 = .ok (.aload_n 0, 1) := by decide +kernel
theorem dX1_block_86 : decode cX1_block 86 = .ok (.dup, 1) := by decide +kernel
theorem dX1_block_87 : decode cX1_block 87 = .ok (.getfield 46, 3) := by decide +kernel
theorem dX1_block_90 : decode cX1_block 90 = .ok (.iconst 1, 1) := by decide +kernel
theorem dX1_block_91 : decode cX1_block 91 = .ok (.iadd, 1) := by decide +kernel
theorem dX1_block_92 : decode cX1_block 92 = .ok (.putfield 46, 3) := by decide +kernel
theorem dX1_block_95 : decode cX1_block 95 = .ok (.iinc 2 1, 3) := by decide +kernel
theorem dX1_block_98 : decode cX1_block 98 = .ok (.goto (-79), 3) := by decide +kernel
theorem dX1_block_101 : decode cX1_block 101 = .ok (.aload_n 0, 1) := by decide +kernel
theorem dX1_block_102 : decode cX1_block 102 = .ok (.getfield 25, 3) := by decide +kernel
theorem dX1_block_105 : decode cX1_block 105 = .ok (.iconst 2, 1) := by decide +kernel
theorem dX1_block_106 : decode cX1_block 106 = .ok (.dup2, 1) := by decide +kernel
theorem dX1_block_107 : decode cX1_block 107 = .ok (.iaload, 1) := by decide +kernel
theorem dX1_block_108 : decode cX1_block 108 = .ok (.iconst 1, 1) := by decide +kernel
theorem dX1_block_109 : decode cX1_block 109 = .ok (.iadd, 1) := by decide +kernel
theorem dX1_block_110 : decode cX1_block 110 = .ok (.iastore, 1) := by decide +kernel
theorem dX1_block_111 : decode cX1_block 111 = .ok (.aload_n 0, 1) := by decide +kernel
theorem dX1_block_112 : decode cX1_block 112 = .ok (.getfield 25, 3) := by decide +kernel
theorem dX1_block_115 : decode cX1_block 115 = .ok (.iconst 3, 1) := by decide +kernel
theorem dX1_block_116 : decode cX1_block 116 = .ok (.dup2, 1) := by decide +kernel
theorem dX1_block_117 : decode cX1_block 117 = .ok (.iaload, 1) := by decide +kernel
theorem dX1_block_118 : decode cX1_block 118 = .ok (.iload_n 1, 1) := by decide +kernel
theorem dX1_block_119 : decode cX1_block 119 = .ok (.ifCond .lt 7, 3) := by decide +kernel
theorem dX1_block_122 : decode cX1_block 122 = .ok (.iconst 1, 1) := by decide +kernel
theorem dX1_block_123 : decode cX1_block 123 = .ok (.goto 4, 3) := by decide +kernel
theorem dX1_block_126 : decode cX1_block 126 = .ok (.iconst 0, 1) := by decide +kernel
theorem dX1_block_127 : decode cX1_block 127 = .ok (.iadd, 1) := by decide +kernel
theorem dX1_block_128 : decode cX1_block 128 = .ok (.iastore, 1) := by decide +kernel
theorem dX1_block_129 : decode cX1_block 129 = .ok (.aload_n 0, 1) := by decide +kernel
theorem dX1_block_130 : decode cX1_block 130 = .ok (.iconst 0, 1) := by decide +kernel
theorem dX1_block_131 : decode cX1_block 131 = .ok (.putfield 43, 3) := by decide +kernel
theorem dX1_block_134 : decode cX1_block 134 = .ok (.aload_n 0, 1) := by decide +kernel
theorem dX1_block_135 : decode cX1_block 135 = .ok (.getfield 46, 3) := by decide +kernel
theorem dX1_block_138 : decode cX1_block 138 = .ok (.sipush 259, 3) := by decide +kernel
theorem dX1_block_141 : decode cX1_block 141 = .ok (.if_icmp .ne 9, 3) := by decide +kernel
theorem dX1_block_144 : decode cX1_block 144 = .ok (.aload_n 0, 1) := by decide +kernel
theorem dX1_block_145 : decode cX1_block 145 = .ok (.invokevirtual 60, 3) := by decide +kernel
theorem dX1_block_148 : decode cX1_block 148 = .ok (.iconst 1, 1) := by decide +kernel
theorem dX1_block_149 : decode cX1_block 149 = .ok (.ireturn, 1) := by decide +kernel
theorem dX1_block_150 : decode cX1_block 150 = .ok (.iconst 0, 1) := by decide +kernel
theorem dX1_block_151 : decode cX1_block 151 = .ok (.ireturn, 1) := by decide +kernel
set_option maxRecDepth 20000 in
theorem ggX1_bit_X1_block : GoodIn wsX1_bit wsX1_block := goodIn_r _ [8, 2, 9, 10, 11, 3, 12, 13, 14, 7, 15, 16, 17, 18, 19, 20, 21, 22, 23, 24, 25, 26, 27, 28, 29, 30] (by decide +kernel) (by decide +kernel)
set_option maxRecDepth 20000 in
theorem gX1_bit_X1_block : GoodIn wsX1_bit (wsV RX1 64 RX1 yX1_block wsX1_block) := goodIn_app (goodIn_of _ (by decide +kernel)) ggX1_bit_X1_block
theorem dX1_bit_0 : decode cX1_bit 0 = .ok (.aload_n 0, 1) := by decide +kernel
theorem dX1_bit_1 : decode cX1_bit 1 = .ok (.getfield 40, 3) := by decide +kernel
theorem dX1_bit_4 : decode cX1_bit 4 = .ok (.iconst 2, 1) := by decide +kernel
theorem dX1_bit_5 : decode cX1_bit 5 = .ok (.if_icmp .ne 41, 3) := by decide +kernel
theorem dX1_bit_8 : decode cX1_bit 8 = .ok (.aload_n 0, 1) := by decide +kernel
theorem dX1_bit_9 : decode cX1_bit 9 = .ok (.getfield 7, 3) := by decide +kernel
theorem dX1_bit_12 : decode cX1_bit 12 = .ok (.aload_n 0, 1) := by decide +kernel
theorem dX1_bit_13 : decode cX1_bit 13 = .ok (.getfield 43, 3) := by decide +kernel
theorem dX1_bit_16 : decode cX1_bit 16 = .ok (.iload_n 1, 1) := by decide +kernel
theorem dX1_bit_17 : decode cX1_bit 17 = .ok (.iastore, 1) := by decide +kernel
theorem dX1_bit_18 : decode cX1_bit 18 = .ok (.aload_n 0, 1) := by decide +kernel
theorem dX1_bit_19 : decode cX1_bit 19 = .ok (.dup, 1) := by decide +kernel
theorem dX1_bit_20 : decode cX1_bit 20 = .ok (.getfield 43, 3) := by decide +kernel
theorem dX1_bit_23 : decode cX1_bit 23 = .ok (.iconst 1, 1) := by decide +kernel
theorem dX1_bit_24 : decode cX1_bit 24 = .ok (.iadd, 1) := by decide +kernel
theorem dX1_bit_25 : decode cX1_bit 25 = .ok (.putfield 43, 3) := by decide +kernel
theorem dX1_bit_28 : decode cX1_bit 28 = .ok (.aload_n 0, 1) := by decide +kernel
theorem dX1_bit_29 : decode cX1_bit 29 = .ok (.getfield 43, 3) := by decide +kernel
theorem dX1_bit_32 : decode cX1_bit 32 = .ok (.bipush 64, 2) := by decide +kernel
theorem dX1_bit_34 : decode cX1_bit 34 = .ok (.if_icmp .ne 10, 3) := by decide +kernel
theorem dX1_bit_37 : decode cX1_bit 37 = .ok (.aload_n 0, 1) := by decide +kernel
theorem dX1_bit_38 : decode cX1_bit 38 = .ok (.invokevirtual 64, 3) := by decide +kernel
theorem dX1_bit_41 : decode cX1_bit 41 = .ok (.goto 4, 3) := by decide +kernel
theorem dX1_bit_44 : decode cX1_bit 44 = .ok (.iconst 0, 1) := by decide +kernel
theorem dX1_bit_45 : decode cX1_bit 45 = .ok (.ireturn, 1) := by decide +kernel
theorem dX1_bit_46 : decode cX1_bit 46 = .ok (.aload_n 0, 1) := by decide +kernel
theorem dX1_bit_47 : decode cX1_bit 47 = .ok (.getfield 43, 3) := by decide +kernel
theorem dX1_bit_50 : decode cX1_bit 50 = .ok (.bipush 16, 2) := by decide +kernel
theorem dX1_bit_52 : decode cX1_bit 52 = .ok (.if_icmp .ne 37, 3) := by decide +kernel
theorem dX1_bit_55 : decode cX1_bit 55 = .ok (.iconst 0, 1) := by decide +kernel
theorem dX1_bit_56 : decode cX1_bit 56 = .ok (.istore_n 2, 1) := by decide +kernel
theorem dX1_bit_57 : decode cX1_bit 57 = .ok (.iload_n 2, 1) := by decide +kernel
theorem dX1_bit_58 : decode cX1_bit 58 = .ok (.bipush 15, 2) := by decide +kernel
theorem dX1_bit_60 : decode cX1_bit 60 = .ok (.if_icmp .ge 23, 3) := by decide +kernel
theorem dX1_bit_63 : decode cX1_bit 63 = .ok (.aload_n 0, 1) := by decide +kernel
theorem dX1_bit_64 : decode cX1_bit 64 = .ok (.getfield 7, 3) := by decide +kernel
theorem dX1_bit_67 : decode cX1_bit 67 = .ok (.iload_n 2, 1) := by decide +kernel
theorem dX1_bit_68 : decode cX1_bit 68 = .ok (.aload_n 0, 1) := by decide +kernel
theorem dX1_bit_69 : decode cX1_bit 69 = .ok (.getfield 7, 3) := by decide +kernel
theorem dX1_bit_72 : decode cX1_bit 72 = .ok (.iload_n 2, 1) := by decide +kernel
theorem dX1_bit_73 : decode cX1_bit 73 = .ok (.iconst 1, 1) := by decide +kernel
theorem dX1_bit_74 : decode cX1_bit 74 = .ok (.iadd, 1) := by decide +kernel
theorem dX1_bit_75 : decode cX1_bit 75 = .ok (.iaload, 1) := by decide +kernel
theorem dX1_bit_76 : decode cX1_bit 76 = .ok (.iastore, 1) := by decide +kernel
theorem dX1_bit_77 : decode cX1_bit 77 = .ok (.iinc 2 1, 3) := by decide +kernel
theorem dX1_bit_80 : decode cX1_bit 80 = .ok (.goto (-23), 3) := by decide +kernel
theorem dX1_bit_83 : decode cX1_bit 83 = .ok (.aload_n 0, 1) := by decide +kernel
theorem dX1_bit_84 : decode cX1_bit 84 = .ok (.bipush 15, 2) := by decide +kernel
theorem dX1_bit_86 : decode cX1_bit 86 = .ok (.putfield 43, 3) := by decide +kernel
theorem dX1_bit_89 : decode cX1_bit 89 = .ok (.aload_n 0, 1) := by decide +kernel
theorem dX1_bit_90 : decode cX1_bit 90 = .ok (.getfield 7, 3) := by decide +kernel
theorem dX1_bit_93 : decode cX1_bit 93 = .ok (.aload_n 0, 1) := by decide +kernel
theorem dX1_bit_94 : decode cX1_bit 94 = .ok (.getfield 43, 3) := by decide +kernel
theorem dX1_bit_97 : decode cX1_bit 97 = .ok (.iload_n 1, 1) := by decide +kernel
theorem dX1_bit_98 : decode cX1_bit 98 = .ok (.iastore, 1) := by decide +kernel
theorem dX1_bit_99 : decode cX1_bit 99 = .ok (.aload_n 0, 1) := by decide +kernel
theorem dX1_bit_100 : decode cX1_bit 100 = .ok (.dup, 1) := by decide +kernel
theorem dX1_bit_101 : decode cX1_bit 101 = .ok (.getfield 43, 3) := by decide +kernel
theorem dX1_bit_104 : decode cX1_bit 104 = .ok (.iconst 1, 1) := by decide +kernel
theorem dX1_bit_105 : decode cX1_bit 105 = .ok (.iadd, 1) := by decide +kernel
theorem dX1_bit_106 : decode cX1_bit 106 = .ok (.putfield 43, 3) := by decide +kernel
theorem dX1_bit_109 : decode cX1_bit 109 = .ok (.aload_n 0, 1) := by decide +kernel
theorem dX1_bit_110 : decode cX1_bit 110 = .ok (.getfield 43, 3) := by decide +kernel
theorem dX1_bit_113 : decode cX1_bit 113 = .ok (.bipush 16, 2) := by decide +kernel
theorem dX1_bit_115 : decode cX1_bit 115 = .ok (.if_icmp .ne 7, 3) := by decide +kernel
theorem dX1_bit_118 : decode cX1_bit 118 = .ok (.aload_n 0, 1) := by decide +kernel
theorem dX1_bit_119 : decode cX1_bit 119 = .ok (.invokevirtual 67, 3) := by decide +kernel
theorem dX1_bit_122 : decode cX1_bit 122 = .ok (.iconst 0, 1) := by decide +kernel
theorem dX1_bit_123 : decode cX1_bit 123 = .ok (.ireturn, 1) := by decide +kernel
set_option maxRecDepth 20000 in
theorem ggX1_turn_X1_begins : GoodIn wsX1_turn wsX1_begins := goodIn_r _ [8, 2, 9, 10, 11, 12, 13, 14, 15, 16, 17, 18, 19, 20, 21, 22, 23] (by decide +kernel) (by decide +kernel)
set_option maxRecDepth 20000 in
theorem gX1_turn_X1_begins : GoodIn wsX1_turn (wsV RX1 52 RX1 yX1_begins wsX1_begins) := goodIn_app (goodIn_of _ (by decide +kernel)) ggX1_turn_X1_begins
theorem dX1_turn_0 : decode cX1_turn 0 = .ok (.aload_n 0, 1) := by decide +kernel
theorem dX1_turn_1 : decode cX1_turn 1 = .ok (.iconst 0, 1) := by decide +kernel
theorem dX1_turn_2 : decode cX1_turn 2 = .ok (.putfield 28, 3) := by decide +kernel
theorem dX1_turn_5 : decode cX1_turn 5 = .ok (.iload_n 1, 1) := by decide +kernel
theorem dX1_turn_6 : decode cX1_turn 6 = .ok (.aload_n 0, 1) := by decide +kernel
theorem dX1_turn_7 : decode cX1_turn 7 = .ok (.getfield 40, 3) := by decide +kernel
theorem dX1_turn_10 : decode cX1_turn 10 = .ok (.ifCond .eq 7, 3) := by decide +kernel
theorem dX1_turn_13 : decode cX1_turn 13 = .ok (.iconst 1, 1) := by decide +kernel
theorem dX1_turn_14 : decode cX1_turn 14 = .ok (.goto 4, 3) := by decide +kernel
theorem dX1_turn_17 : decode cX1_turn 17 = .ok (.iconst 0, 1) := by decide +kernel
theorem dX1_turn_18 : decode cX1_turn 18 = .ok (.if_icmp .ne 5, 3) := by decide +kernel
theorem dX1_turn_21 : decode cX1_turn 21 = .ok (.iconst 0, 1) := by decide +kernel
theorem dX1_turn_22 : decode cX1_turn 22 = .ok (.ireturn, 1) := by decide +kernel
theorem dX1_turn_23 : decode cX1_turn 23 = .ok (.aload_n 0, 1) := by decide +kernel
theorem dX1_turn_24 : decode cX1_turn 24 = .ok (.iconst 0, 1) := by decide +kernel
theorem dX1_turn_25 : decode cX1_turn 25 = .ok (.putfield 46, 3) := by decide +kernel
theorem dX1_turn_28 : decode cX1_turn 28 = .ok (.aload_n 0, 1) := by decide +kernel
theorem dX1_turn_29 : decode cX1_turn 29 = .ok (.iload_n 1, 1) := by decide +kernel
theorem dX1_turn_30 : decode cX1_turn 30 = .ok (.ifCond .eq 7, 3) := by decide +kernel
theorem dX1_turn_33 : decode cX1_turn 33 = .ok (.iconst 1, 1) := by decide +kernel
theorem dX1_turn_34 : decode cX1_turn 34 = .ok (.goto 4, 3) := by decide +kernel
theorem dX1_turn_37 : decode cX1_turn 37 = .ok (.iconst 0, 1) := by decide +kernel
theorem dX1_turn_38 : decode cX1_turn 38 = .ok (.invokevirtual 52, 3) := by decide +kernel
theorem dX1_turn_41 : decode cX1_turn 41 = .ok (.iconst 1, 1) := by decide +kernel
theorem dX1_turn_42 : decode cX1_turn 42 = .ok (.ireturn, 1) := by decide +kernel
theorem dX1_mending_0 : decode cX1_mending 0 = .ok (.aload_n 0, 1) := by decide +kernel
theorem dX1_mending_1 : decode cX1_mending 1 = .ok (.iconst 0, 1) := by decide +kernel
theorem dX1_mending_2 : decode cX1_mending 2 = .ok (.putfield 28, 3) := by decide +kernel
theorem dX1_mending_5 : decode cX1_mending 5 = .ok (.aload_n 0, 1) := by decide +kernel
theorem dX1_mending_6 : decode cX1_mending 6 = .ok (.iload_n 1, 1) := by decide +kernel
theorem dX1_mending_7 : decode cX1_mending 7 = .ok (.putfield 36, 3) := by decide +kernel
theorem dX1_mending_10 : decode cX1_mending 10 = .ok (.return_, 1) := by decide +kernel
set_option maxRecDepth 20000 in
theorem ggX1_take_X1_bit : GoodIn wsX1_take wsX1_bit := goodIn_r _ [7, 2, 8, 9, 10, 11, 12, 6, 13, 14, 15, 16, 17, 18, 19, 20, 21, 22, 23, 24, 25, 26, 27, 28, 29, 30, 31, 32, 33, 34, 35] (by decide +kernel) (by decide +kernel)
set_option maxRecDepth 20000 in
theorem gX1_take_X1_bit : GoodIn wsX1_take (wsV RX1 70 RX1 yX1_bit wsX1_bit) := goodIn_app (goodIn_of _ (by decide +kernel)) ggX1_take_X1_bit
theorem dX1_take_0 : decode cX1_take 0 = .ok (.aload_n 0, 1) := by decide +kernel
theorem dX1_take_1 : decode cX1_take 1 = .ok (.iconst 0, 1) := by decide +kernel
theorem dX1_take_2 : decode cX1_take 2 = .ok (.putfield 28, 3) := by decide +kernel
theorem dX1_take_5 : decode cX1_take 5 = .ok (.aload_n 0, 1) := by decide +kernel
theorem dX1_take_6 : decode cX1_take 6 = .ok (.getfield 40, 3) := by decide +kernel
theorem dX1_take_9 : decode cX1_take 9 = .ok (.ifCond .eq 14, 3) := by decide +kernel
theorem dX1_take_12 : decode cX1_take 12 = .ok (.iload_n 1, 1) := by decide +kernel
theorem dX1_take_13 : decode cX1_take 13 = .ok (.iconst 1, 1) := by decide +kernel
theorem dX1_take_14 : decode cX1_take 14 = .ok (.if_icmp .lt 9, 3) := by decide +kernel
theorem dX1_take_17 : decode cX1_take 17 = .ok (.iload_n 1, 1) := by decide +kernel
theorem dX1_take_18 : decode cX1_take 18 = .ok (.bipush 64, 2) := by decide +kernel
theorem dX1_take_20 : decode cX1_take 20 = .ok (.if_icmp .le 5, 3) := by decide +kernel
theorem dX1_take_23 : decode cX1_take 23 = .ok (.iconst (-1), 1) := by decide +kernel
theorem dX1_take_24 : decode cX1_take 24 = .ok (.ireturn, 1) := by decide +kernel
theorem dX1_take_25 : decode cX1_take 25 = .ok (.iconst 0, 1) := by decide +kernel
theorem dX1_take_26 : decode cX1_take 26 = .ok (.istore 4, 2) := by decide +kernel
theorem dX1_take_28 : decode cX1_take 28 = .ok (.iload_n 1, 1) := by decide +kernel
theorem dX1_take_29 : decode cX1_take 29 = .ok (.iconst 1, 1) := by decide +kernel
theorem dX1_take_30 : decode cX1_take 30 = .ok (.isub, 1) := by decide +kernel
theorem dX1_take_31 : decode cX1_take 31 = .ok (.istore 5, 2) := by decide +kernel
theorem dX1_take_33 : decode cX1_take 33 = .ok (.iload 5, 2) := by decide +kernel
theorem dX1_take_35 : decode cX1_take 35 = .ok (.ifCond .lt 25, 3) := by decide +kernel
theorem dX1_take_38 : decode cX1_take 38 = .ok (.iload 4, 2) := by decide +kernel
theorem dX1_take_40 : decode cX1_take 40 = .ok (.aload_n 0, 1) := by decide +kernel
theorem dX1_take_41 : decode cX1_take 41 = .ok (.lload_n 2, 1) := by decide +kernel
theorem dX1_take_42 : decode cX1_take 42 = .ok (.iload 5, 2) := by decide +kernel
theorem dX1_take_44 : decode cX1_take 44 = .ok (.lshr, 1) := by decide +kernel
theorem dX1_take_45 : decode cX1_take 45 = .ok (.l2i, 1) := by decide +kernel
theorem dX1_take_46 : decode cX1_take 46 = .ok (.iconst 1, 1) := by decide +kernel
theorem dX1_take_47 : decode cX1_take 47 = .ok (.iand, 1) := by decide +kernel
theorem dX1_take_48 : decode cX1_take 48 = .ok (.invokevirtual 70, 3) := by decide +kernel
theorem dX1_take_51 : decode cX1_take 51 = .ok (.iadd, 1) := by decide +kernel
theorem dX1_take_52 : decode cX1_take 52 = .ok (.istore 4, 2) := by decide +kernel
theorem dX1_take_54 : decode cX1_take 54 = .ok (.iinc 5 (-1), 3) := by decide +kernel
theorem dX1_take_57 : decode cX1_take 57 = .ok (.goto (-24), 3) := by decide +kernel
theorem dX1_take_60 : decode cX1_take 60 = .ok (.iload 4, 2) := by decide +kernel
theorem dX1_take_62 : decode cX1_take 62 = .ok (.ireturn, 1) := by decide +kernel
theorem dJ6_bitCount_0f7a4_0 : decode cJ6_bitCount_0f7a4 0 = .ok (.iload_n 0, 1) := by decide +kernel
theorem dJ6_bitCount_0f7a4_1 : decode cJ6_bitCount_0f7a4 1 = .ok (.iload_n 0, 1) := by decide +kernel
theorem dJ6_bitCount_0f7a4_2 : decode cJ6_bitCount_0f7a4 2 = .ok (.iconst 1, 1) := by decide +kernel
theorem dJ6_bitCount_0f7a4_3 : decode cJ6_bitCount_0f7a4 3 = .ok (.iushr, 1) := by decide +kernel
theorem dJ6_bitCount_0f7a4_4 : decode cJ6_bitCount_0f7a4 4 = .ok (.ldc_w 265, 3) := by decide +kernel
theorem dJ6_bitCount_0f7a4_7 : decode cJ6_bitCount_0f7a4 7 = .ok (.iand, 1) := by decide +kernel
theorem dJ6_bitCount_0f7a4_8 : decode cJ6_bitCount_0f7a4 8 = .ok (.isub, 1) := by decide +kernel
theorem dJ6_bitCount_0f7a4_9 : decode cJ6_bitCount_0f7a4 9 = .ok (.istore_n 0, 1) := by decide +kernel
theorem dJ6_bitCount_0f7a4_10 : decode cJ6_bitCount_0f7a4 10 = .ok (.iload_n 0, 1) := by decide +kernel
theorem dJ6_bitCount_0f7a4_11 : decode cJ6_bitCount_0f7a4 11 = .ok (.ldc_w 266, 3) := by decide +kernel
theorem dJ6_bitCount_0f7a4_14 : decode cJ6_bitCount_0f7a4 14 = .ok (.iand, 1) := by decide +kernel
theorem dJ6_bitCount_0f7a4_15 : decode cJ6_bitCount_0f7a4 15 = .ok (.iload_n 0, 1) := by decide +kernel
theorem dJ6_bitCount_0f7a4_16 : decode cJ6_bitCount_0f7a4 16 = .ok (.iconst 2, 1) := by decide +kernel
theorem dJ6_bitCount_0f7a4_17 : decode cJ6_bitCount_0f7a4 17 = .ok (.iushr, 1) := by decide +kernel
theorem dJ6_bitCount_0f7a4_18 : decode cJ6_bitCount_0f7a4 18 = .ok (.ldc_w 266, 3) := by decide +kernel
theorem dJ6_bitCount_0f7a4_21 : decode cJ6_bitCount_0f7a4 21 = .ok (.iand, 1) := by decide +kernel
theorem dJ6_bitCount_0f7a4_22 : decode cJ6_bitCount_0f7a4 22 = .ok (.iadd, 1) := by decide +kernel
theorem dJ6_bitCount_0f7a4_23 : decode cJ6_bitCount_0f7a4 23 = .ok (.istore_n 0, 1) := by decide +kernel
theorem dJ6_bitCount_0f7a4_24 : decode cJ6_bitCount_0f7a4 24 = .ok (.iload_n 0, 1) := by decide +kernel
theorem dJ6_bitCount_0f7a4_25 : decode cJ6_bitCount_0f7a4 25 = .ok (.iload_n 0, 1) := by decide +kernel
theorem dJ6_bitCount_0f7a4_26 : decode cJ6_bitCount_0f7a4 26 = .ok (.iconst 4, 1) := by decide +kernel
theorem dJ6_bitCount_0f7a4_27 : decode cJ6_bitCount_0f7a4 27 = .ok (.iushr, 1) := by decide +kernel
theorem dJ6_bitCount_0f7a4_28 : decode cJ6_bitCount_0f7a4 28 = .ok (.iadd, 1) := by decide +kernel
theorem dJ6_bitCount_0f7a4_29 : decode cJ6_bitCount_0f7a4 29 = .ok (.ldc_w 267, 3) := by decide +kernel
theorem dJ6_bitCount_0f7a4_32 : decode cJ6_bitCount_0f7a4 32 = .ok (.iand, 1) := by decide +kernel
theorem dJ6_bitCount_0f7a4_33 : decode cJ6_bitCount_0f7a4 33 = .ok (.istore_n 0, 1) := by decide +kernel
theorem dJ6_bitCount_0f7a4_34 : decode cJ6_bitCount_0f7a4 34 = .ok (.iload_n 0, 1) := by decide +kernel
theorem dJ6_bitCount_0f7a4_35 : decode cJ6_bitCount_0f7a4 35 = .ok (.iload_n 0, 1) := by decide +kernel
theorem dJ6_bitCount_0f7a4_36 : decode cJ6_bitCount_0f7a4 36 = .ok (.bipush 8, 2) := by decide +kernel
theorem dJ6_bitCount_0f7a4_38 : decode cJ6_bitCount_0f7a4 38 = .ok (.iushr, 1) := by decide +kernel
theorem dJ6_bitCount_0f7a4_39 : decode cJ6_bitCount_0f7a4 39 = .ok (.iadd, 1) := by decide +kernel
theorem dJ6_bitCount_0f7a4_40 : decode cJ6_bitCount_0f7a4 40 = .ok (.istore_n 0, 1) := by decide +kernel
theorem dJ6_bitCount_0f7a4_41 : decode cJ6_bitCount_0f7a4 41 = .ok (.iload_n 0, 1) := by decide +kernel
theorem dJ6_bitCount_0f7a4_42 : decode cJ6_bitCount_0f7a4 42 = .ok (.iload_n 0, 1) := by decide +kernel
theorem dJ6_bitCount_0f7a4_43 : decode cJ6_bitCount_0f7a4 43 = .ok (.bipush 16, 2) := by decide +kernel
theorem dJ6_bitCount_0f7a4_45 : decode cJ6_bitCount_0f7a4 45 = .ok (.iushr, 1) := by decide +kernel
theorem dJ6_bitCount_0f7a4_46 : decode cJ6_bitCount_0f7a4 46 = .ok (.iadd, 1) := by decide +kernel
theorem dJ6_bitCount_0f7a4_47 : decode cJ6_bitCount_0f7a4 47 = .ok (.istore_n 0, 1) := by decide +kernel
theorem dJ6_bitCount_0f7a4_48 : decode cJ6_bitCount_0f7a4 48 = .ok (.iload_n 0, 1) := by decide +kernel
theorem dJ6_bitCount_0f7a4_49 : decode cJ6_bitCount_0f7a4 49 = .ok (.bipush 63, 2) := by decide +kernel
theorem dJ6_bitCount_0f7a4_51 : decode cJ6_bitCount_0f7a4 51 = .ok (.iand, 1) := by decide +kernel
theorem dJ6_bitCount_0f7a4_52 : decode cJ6_bitCount_0f7a4 52 = .ok (.ireturn, 1) := by decide +kernel
set_option maxRecDepth 20000 in
theorem ggL_law_X0_init : GoodIn wsL_law wsX0_init := goodIn_r _ [8, 9, 10, 11, 12, 13, 14, 15, 16, 17, 18, 177, 178, 179, 180, 181, 182, 183, 184, 185, 186, 187, 188, 189] (by decide +kernel) (by decide +kernel)
set_option maxRecDepth 20000 in
theorem gL_law_X0_init : GoodIn wsL_law (wsX0_init) := ggL_law_X0_init
set_option maxRecDepth 20000 in
theorem ggL_law_X1_init : GoodIn wsL_law wsX1_init := goodIn_r _ [21, 22, 10, 11, 13, 23, 24, 25, 26, 27, 28, 190, 191, 192, 193, 194, 195, 196, 197, 198, 199, 200, 201, 202, 203] (by decide +kernel) (by decide +kernel)
set_option maxRecDepth 20000 in
theorem gL_law_X1_init : GoodIn wsL_law (wsX1_init) := ggL_law_X1_init
set_option maxRecDepth 20000 in
theorem ggL_law_X0_turn : GoodIn wsL_law wsX0_turn := goodIn_r _ [32, 12, 33, 34, 35, 2, 36, 37, 177, 178, 179, 180, 181, 182, 183, 184, 185, 186, 187, 188, 189] (by decide +kernel) (by decide +kernel)
set_option maxRecDepth 20000 in
theorem gL_law_X0_turn : GoodIn wsL_law (wsV RL 13 RX0 yX0_turn wsX0_turn) := goodIn_app (goodIn_of _ (by decide +kernel)) ggL_law_X0_turn
set_option maxRecDepth 20000 in
theorem ggL_law_X1_turn : GoodIn wsL_law wsX1_turn := goodIn_r _ [41, 42, 43, 44, 45, 46, 47, 5, 48, 49, 190, 191, 192, 193, 194, 195, 196, 197, 198, 199, 200, 201, 202, 203] (by decide +kernel) (by decide +kernel)
set_option maxRecDepth 20000 in
theorem gL_law_X1_turn : GoodIn wsL_law (wsV RL 17 RX1 yX1_turn wsX1_turn) := goodIn_app (goodIn_of _ (by decide +kernel)) ggL_law_X1_turn
set_option maxRecDepth 20000 in
theorem ggL_law_X0_mending : GoodIn wsL_law wsX0_mending := goodIn_r _ [53, 54, 177, 178, 179, 180, 181, 182, 183, 184, 185, 186, 187, 188, 189] (by decide +kernel) (by decide +kernel)
set_option maxRecDepth 20000 in
theorem gL_law_X0_mending : GoodIn wsL_law (wsV RL 18 RX0 yX0_mending wsX0_mending) := goodIn_app (goodIn_of _ (by decide +kernel)) ggL_law_X0_mending
set_option maxRecDepth 20000 in
theorem ggL_law_X1_mending : GoodIn wsL_law wsX1_mending := goodIn_r _ [58, 42, 59, 190, 191, 192, 193, 194, 195, 196, 197, 198, 199, 200, 201, 202, 203] (by decide +kernel) (by decide +kernel)
set_option maxRecDepth 20000 in
theorem gL_law_X1_mending : GoodIn wsL_law (wsV RL 22 RX1 yX1_mending wsX1_mending) := goodIn_app (goodIn_of _ (by decide +kernel)) ggL_law_X1_mending
set_option maxRecDepth 20000 in
theorem ggL_law_X0_take : GoodIn wsL_law wsX0_take := goodIn_r _ [63, 12, 16, 64, 65, 66, 2, 67, 68, 37, 69, 70, 71, 72, 73, 74, 54, 75, 76, 77, 78, 79, 80, 81, 82, 83, 84, 85, 86, 87, 88, 89, 90, 91, 92, 93, 94, 95, 96, 97, 98, 99, 100, 101, 102, 103, 104, 14, 105, 106, 107, 108, 109, 110, 111, 15, 112, 33, 34, 35, 36, 177, 178, 179, 180, 181, 182, 183, 184, 185, 186, 187, 188, 189] (by decide +kernel) (by decide +kernel)
set_option maxRecDepth 20000 in
theorem gL_law_X0_take : GoodIn wsL_law (wsV RL 25 RX0 yX0_take wsX0_take) := goodIn_app (goodIn_of _ (by decide +kernel)) ggL_law_X0_take
set_option maxRecDepth 20000 in
theorem ggL_law_X1_take : GoodIn wsL_law wsX1_take := goodIn_r _ [116, 42, 43, 117, 118, 119, 5, 120, 23, 49, 121, 122, 123, 124, 24, 44, 28, 125, 126, 127, 128, 59, 190, 191, 192, 193, 194, 195, 196, 197, 198, 199, 200, 201, 202, 203] (by decide +kernel) (by decide +kernel)
set_option maxRecDepth 20000 in
theorem gL_law_X1_take : GoodIn wsL_law (wsV RL 29 RX1 yX1_take wsX1_take) := goodIn_app (goodIn_of _ (by decide +kernel)) ggL_law_X1_take
set_option maxRecDepth 20000 in
theorem ggL_law_X0_state : GoodIn wsL_law wsX0_state := goodIn_r _ [132, 12, 177, 178, 179, 180, 181, 182, 183, 184, 185, 186, 187, 188, 189] (by decide +kernel) (by decide +kernel)
set_option maxRecDepth 20000 in
theorem gL_law_X0_state : GoodIn wsL_law (wsV RL 30 RX0 yX0_state wsX0_state) := goodIn_app (goodIn_of _ (by decide +kernel)) ggL_law_X0_state
set_option maxRecDepth 20000 in
theorem ggL_law_X0_count : GoodIn wsL_law wsX0_count := goodIn_r _ [136, 16, 177, 178, 179, 180, 181, 182, 183, 184, 185, 186, 187, 188, 189] (by decide +kernel) (by decide +kernel)
set_option maxRecDepth 20000 in
theorem gL_law_X0_count : GoodIn wsL_law (wsV RL 35 RX0 yX0_count wsX0_count) := goodIn_app (goodIn_of _ (by decide +kernel)) ggL_law_X0_count
set_option maxRecDepth 20000 in
theorem ggL_law_X0_size : GoodIn wsL_law wsX0_size := goodIn_r _ [140, 112, 177, 178, 179, 180, 181, 182, 183, 184, 185, 186, 187, 188, 189] (by decide +kernel) (by decide +kernel)
set_option maxRecDepth 20000 in
theorem gL_law_X0_size : GoodIn wsL_law (wsV RL 40 RX0 yX0_size wsX0_size) := goodIn_app (goodIn_of _ (by decide +kernel)) ggL_law_X0_size
set_option maxRecDepth 20000 in
theorem ggL_law_X0_byteAt : GoodIn wsL_law wsX0_byteAt := goodIn_r _ [144, 112, 15, 177, 178, 179, 180, 181, 182, 183, 184, 185, 186, 187, 188, 189] (by decide +kernel) (by decide +kernel)
set_option maxRecDepth 20000 in
theorem gL_law_X0_byteAt : GoodIn wsL_law (wsV RL 44 RX0 yX0_byteAt wsX0_byteAt) := goodIn_app (goodIn_of _ (by decide +kernel)) ggL_law_X0_byteAt
set_option maxRecDepth 20000 in
theorem ggL_law_X0_put : GoodIn wsL_law wsX0_put := goodIn_r _ [148, 149, 17, 177, 178, 179, 180, 181, 182, 183, 184, 185, 186, 187, 188, 189] (by decide +kernel) (by decide +kernel)
set_option maxRecDepth 20000 in
theorem gL_law_X0_put : GoodIn wsL_law (wsV RL 48 RX0 yX0_put wsX0_put) := goodIn_app (goodIn_of _ (by decide +kernel)) ggL_law_X0_put
set_option maxRecDepth 20000 in
theorem ggL_law_X0_send : GoodIn wsL_law wsX0_send := goodIn_r _ [153, 149, 154, 155, 156, 157, 158, 159, 2, 160, 161, 146, 147, 148, 17, 162, 163, 164, 165, 18, 105, 106, 107, 166, 167, 168, 169, 170, 171, 172, 92, 93, 94, 95, 96, 97, 177, 178, 179, 180, 181, 182, 183, 184, 185, 186, 187, 188, 189] (by decide +kernel) (by decide +kernel)
set_option maxRecDepth 20000 in
theorem gL_law_X0_send : GoodIn wsL_law (wsV RL 52 RX0 yX0_send wsX0_send) := goodIn_app (goodIn_of _ (by decide +kernel)) ggL_law_X0_send
set_option maxRecDepth 20000 in
theorem ggL_law_X0_sent : GoodIn wsL_law wsX0_sent := goodIn_r _ [176, 154, 18, 177, 178, 179, 180, 181, 182, 183, 184, 185, 186, 187, 188, 189] (by decide +kernel) (by decide +kernel)
set_option maxRecDepth 20000 in
theorem gL_law_X0_sent : GoodIn wsL_law (wsV RL 56 RX0 yX0_sent wsX0_sent) := goodIn_app (goodIn_of _ (by decide +kernel)) ggL_law_X0_sent
theorem dL_law_0 : decode cL_law 0 = .ok (.new 7, 3) := by decide +kernel
theorem dL_law_3 : decode cL_law 3 = .ok (.dup, 1) := by decide +kernel
theorem dL_law_4 : decode cL_law 4 = .ok (.invokespecial 9, 3) := by decide +kernel
theorem dL_law_7 : decode cL_law 7 = .ok (.astore_n 1, 1) := by decide +kernel
theorem dL_law_8 : decode cL_law 8 = .ok (.new 10, 3) := by decide +kernel
theorem dL_law_11 : decode cL_law 11 = .ok (.dup, 1) := by decide +kernel
theorem dL_law_12 : decode cL_law 12 = .ok (.invokespecial 12, 3) := by decide +kernel
theorem dL_law_15 : decode cL_law 15 = .ok (.astore_n 2, 1) := by decide +kernel
theorem dL_law_16 : decode cL_law 16 = .ok (.iconst 0, 1) := by decide +kernel
theorem dL_law_17 : decode cL_law 17 = .ok (.istore_n 3, 1) := by decide +kernel
theorem dL_law_18 : decode cL_law 18 = .ok (.iload_n 3, 1) := by decide +kernel
theorem dL_law_19 : decode cL_law 19 = .ok (.aload_n 0, 1) := by decide +kernel
theorem dL_law_20 : decode cL_law 20 = .ok (.arraylength, 1) := by decide +kernel
theorem dL_law_21 : decode cL_law 21 = .ok (.iconst 4, 1) := by decide +kernel
theorem dL_law_22 : decode cL_law 22 = .ok (.isub, 1) := by decide +kernel
theorem dL_law_23 : decode cL_law 23 = .ok (.if_icmp .gt 341, 3) := by decide +kernel
theorem dL_law_26 : decode cL_law 26 = .ok (.aload_n 0, 1) := by decide +kernel
theorem dL_law_27 : decode cL_law 27 = .ok (.iload_n 3, 1) := by decide +kernel
theorem dL_law_28 : decode cL_law 28 = .ok (.iaload, 1) := by decide +kernel
theorem dL_law_29 : decode cL_law 29 = .ok (.bipush 15, 2) := by decide +kernel
theorem dL_law_31 : decode cL_law 31 = .ok (.iand, 1) := by decide +kernel
theorem dL_law_32 : decode cL_law 32 = .ok (.tableswitch 326 0 9 #[56, 95, 132, 195, 208, 231, 244, 267, 290, 303], 56) := by decide +kernel
theorem dL_law_88 : decode cL_law 88 = .ok (.aload_n 1, 1) := by decide +kernel
theorem dL_law_89 : decode cL_law 89 = .ok (.aload_n 0, 1) := by decide +kernel
theorem dL_law_90 : decode cL_law 90 = .ok (.iload_n 3, 1) := by decide +kernel
theorem dL_law_91 : decode cL_law 91 = .ok (.iconst 1, 1) := by decide +kernel
theorem dL_law_92 : decode cL_law 92 = .ok (.iadd, 1) := by decide +kernel
theorem dL_law_93 : decode cL_law 93 = .ok (.iaload, 1) := by decide +kernel
theorem dL_law_94 : decode cL_law 94 = .ok (.ifCond .eq 7, 3) := by decide +kernel
theorem dL_law_97 : decode cL_law 97 = .ok (.iconst 1, 1) := by decide +kernel
theorem dL_law_98 : decode cL_law 98 = .ok (.goto 4, 3) := by decide +kernel
theorem dL_law_101 : decode cL_law 101 = .ok (.iconst 0, 1) := by decide +kernel
theorem dL_law_102 : decode cL_law 102 = .ok (.invokevirtual 13, 3) := by decide +kernel
theorem dL_law_105 : decode cL_law 105 = .ok (.aload_n 2, 1) := by decide +kernel
theorem dL_law_106 : decode cL_law 106 = .ok (.aload_n 0, 1) := by decide +kernel
theorem dL_law_107 : decode cL_law 107 = .ok (.iload_n 3, 1) := by decide +kernel
theorem dL_law_108 : decode cL_law 108 = .ok (.iconst 1, 1) := by decide +kernel
theorem dL_law_109 : decode cL_law 109 = .ok (.iadd, 1) := by decide +kernel
theorem dL_law_110 : decode cL_law 110 = .ok (.iaload, 1) := by decide +kernel
theorem dL_law_111 : decode cL_law 111 = .ok (.ifCond .eq 7, 3) := by decide +kernel
theorem dL_law_114 : decode cL_law 114 = .ok (.iconst 1, 1) := by decide +kernel
theorem dL_law_115 : decode cL_law 115 = .ok (.goto 4, 3) := by decide +kernel
theorem dL_law_118 : decode cL_law 118 = .ok (.iconst 0, 1) := by decide +kernel
theorem dL_law_119 : decode cL_law 119 = .ok (.invokevirtual 17, 3) := by decide +kernel
theorem dL_law_122 : decode cL_law 122 = .ok (.if_icmp .eq 236, 3) := by decide +kernel
theorem dL_law_125 : decode cL_law 125 = .ok (.iconst 0, 1) := by decide +kernel
theorem dL_law_126 : decode cL_law 126 = .ok (.ireturn, 1) := by decide +kernel
theorem dL_law_127 : decode cL_law 127 = .ok (.aload_n 1, 1) := by decide +kernel
theorem dL_law_128 : decode cL_law 128 = .ok (.aload_n 0, 1) := by decide +kernel
theorem dL_law_129 : decode cL_law 129 = .ok (.iload_n 3, 1) := by decide +kernel
theorem dL_law_130 : decode cL_law 130 = .ok (.iconst 1, 1) := by decide +kernel
theorem dL_law_131 : decode cL_law 131 = .ok (.iadd, 1) := by decide +kernel
theorem dL_law_132 : decode cL_law 132 = .ok (.iaload, 1) := by decide +kernel
theorem dL_law_133 : decode cL_law 133 = .ok (.ifCond .eq 7, 3) := by decide +kernel
theorem dL_law_136 : decode cL_law 136 = .ok (.iconst 1, 1) := by decide +kernel
theorem dL_law_137 : decode cL_law 137 = .ok (.goto 4, 3) := by decide +kernel
theorem dL_law_140 : decode cL_law 140 = .ok (.iconst 0, 1) := by decide +kernel
theorem dL_law_141 : decode cL_law 141 = .ok (.invokevirtual 18, 3) := by decide +kernel
theorem dL_law_144 : decode cL_law 144 = .ok (.aload_n 2, 1) := by decide +kernel
theorem dL_law_145 : decode cL_law 145 = .ok (.aload_n 0, 1) := by decide +kernel
theorem dL_law_146 : decode cL_law 146 = .ok (.iload_n 3, 1) := by decide +kernel
theorem dL_law_147 : decode cL_law 147 = .ok (.iconst 1, 1) := by decide +kernel
theorem dL_law_148 : decode cL_law 148 = .ok (.iadd, 1) := by decide +kernel
theorem dL_law_149 : decode cL_law 149 = .ok (.iaload, 1) := by decide +kernel
theorem dL_law_150 : decode cL_law 150 = .ok (.ifCond .eq 7, 3) := by decide +kernel
theorem dL_law_153 : decode cL_law 153 = .ok (.iconst 1, 1) := by decide +kernel
theorem dL_law_154 : decode cL_law 154 = .ok (.goto 4, 3) := by decide +kernel
theorem dL_law_157 : decode cL_law 157 = .ok (.iconst 0, 1) := by decide +kernel
theorem dL_law_158 : decode cL_law 158 = .ok (.invokevirtual 22, 3) := by decide +kernel
theorem dL_law_161 : decode cL_law 161 = .ok (.goto 197, 3) := by decide +kernel
theorem dL_law_164 : decode cL_law 164 = .ok (.aload_n 1, 1) := by decide +kernel
theorem dL_law_165 : decode cL_law 165 = .ok (.aload_n 0, 1) := by decide +kernel
theorem dL_law_166 : decode cL_law 166 = .ok (.iload_n 3, 1) := by decide +kernel
theorem dL_law_167 : decode cL_law 167 = .ok (.iconst 1, 1) := by decide +kernel
theorem dL_law_168 : decode cL_law 168 = .ok (.iadd, 1) := by decide +kernel
theorem dL_law_169 : decode cL_law 169 = .ok (.iaload, 1) := by decide +kernel
theorem dL_law_170 : decode cL_law 170 = .ok (.aload_n 0, 1) := by decide +kernel
theorem dL_law_171 : decode cL_law 171 = .ok (.iload_n 3, 1) := by decide +kernel
theorem dL_law_172 : decode cL_law 172 = .ok (.iconst 2, 1) := by decide +kernel
theorem dL_law_173 : decode cL_law 173 = .ok (.iadd, 1) := by decide +kernel
theorem dL_law_174 : decode cL_law 174 = .ok (.iaload, 1) := by decide +kernel
theorem dL_law_175 : decode cL_law 175 = .ok (.i2l, 1) := by decide +kernel
theorem dL_law_176 : decode cL_law 176 = .ok (.bipush 32, 2) := by decide +kernel
theorem dL_law_178 : decode cL_law 178 = .ok (.lshl, 1) := by decide +kernel
theorem dL_law_179 : decode cL_law 179 = .ok (.aload_n 0, 1) := by decide +kernel
theorem dL_law_180 : decode cL_law 180 = .ok (.iload_n 3, 1) := by decide +kernel
theorem dL_law_181 : decode cL_law 181 = .ok (.iconst 3, 1) := by decide +kernel
theorem dL_law_182 : decode cL_law 182 = .ok (.iadd, 1) := by decide +kernel
theorem dL_law_183 : decode cL_law 183 = .ok (.iaload, 1) := by decide +kernel
theorem dL_law_184 : decode cL_law 184 = .ok (.i2l, 1) := by decide +kernel
theorem dL_law_185 : decode cL_law 185 = .ok (.ldc2_w 23, 3) := by decide +kernel
theorem dL_law_188 : decode cL_law 188 = .ok (.land, 1) := by decide +kernel
theorem dL_law_189 : decode cL_law 189 = .ok (.lor, 1) := by decide +kernel
theorem dL_law_190 : decode cL_law 190 = .ok (.invokevirtual 25, 3) := by decide +kernel
theorem dL_law_193 : decode cL_law 193 = .ok (.aload_n 2, 1) := by decide +kernel
theorem dL_law_194 : decode cL_law 194 = .ok (.aload_n 0, 1) := by decide +kernel
theorem dL_law_195 : decode cL_law 195 = .ok (.iload_n 3, 1) := by decide +kernel
theorem dL_law_196 : decode cL_law 196 = .ok (.iconst 1, 1) := by decide +kernel
theorem dL_law_197 : decode cL_law 197 = .ok (.iadd, 1) := by decide +kernel
theorem dL_law_198 : decode cL_law 198 = .ok (.iaload, 1) := by decide +kernel
theorem dL_law_199 : decode cL_law 199 = .ok (.aload_n 0, 1) := by decide +kernel
theorem dL_law_200 : decode cL_law 200 = .ok (.iload_n 3, 1) := by decide +kernel
theorem dL_law_201 : decode cL_law 201 = .ok (.iconst 2, 1) := by decide +kernel
theorem dL_law_202 : decode cL_law 202 = .ok (.iadd, 1) := by decide +kernel
theorem dL_law_203 : decode cL_law 203 = .ok (.iaload, 1) := by decide +kernel
theorem dL_law_204 : decode cL_law 204 = .ok (.i2l, 1) := by decide +kernel
theorem dL_law_205 : decode cL_law 205 = .ok (.bipush 32, 2) := by decide +kernel
theorem dL_law_207 : decode cL_law 207 = .ok (.lshl, 1) := by decide +kernel
theorem dL_law_208 : decode cL_law 208 = .ok (.aload_n 0, 1) := by decide +kernel
theorem dL_law_209 : decode cL_law 209 = .ok (.iload_n 3, 1) := by decide +kernel
theorem dL_law_210 : decode cL_law 210 = .ok (.iconst 3, 1) := by decide +kernel
theorem dL_law_211 : decode cL_law 211 = .ok (.iadd, 1) := by decide +kernel
theorem dL_law_212 : decode cL_law 212 = .ok (.iaload, 1) := by decide +kernel
theorem dL_law_213 : decode cL_law 213 = .ok (.i2l, 1) := by decide +kernel
theorem dL_law_214 : decode cL_law 214 = .ok (.ldc2_w 23, 3) := by decide +kernel
theorem dL_law_217 : decode cL_law 217 = .ok (.land, 1) := by decide +kernel
theorem dL_law_218 : decode cL_law 218 = .ok (.lor, 1) := by decide +kernel
theorem dL_law_219 : decode cL_law 219 = .ok (.invokevirtual 29, 3) := by decide +kernel
theorem dL_law_222 : decode cL_law 222 = .ok (.if_icmp .eq 136, 3) := by decide +kernel
theorem dL_law_225 : decode cL_law 225 = .ok (.iconst 0, 1) := by decide +kernel
theorem dL_law_226 : decode cL_law 226 = .ok (.ireturn, 1) := by decide +kernel
theorem dL_law_227 : decode cL_law 227 = .ok (.aload_n 1, 1) := by decide +kernel
theorem dL_law_228 : decode cL_law 228 = .ok (.invokevirtual 30, 3) := by decide +kernel
theorem dL_law_231 : decode cL_law 231 = .ok (.aload_n 2, 1) := by decide +kernel
theorem dL_law_232 : decode cL_law 232 = .ok (.invokevirtual 34, 3) := by decide +kernel
theorem dL_law_235 : decode cL_law 235 = .ok (.if_icmp .eq 123, 3) := by decide +kernel
theorem dL_law_238 : decode cL_law 238 = .ok (.iconst 0, 1) := by decide +kernel
theorem dL_law_239 : decode cL_law 239 = .ok (.ireturn, 1) := by decide +kernel
theorem dL_law_240 : decode cL_law 240 = .ok (.aload_n 1, 1) := by decide +kernel
theorem dL_law_241 : decode cL_law 241 = .ok (.aload_n 0, 1) := by decide +kernel
theorem dL_law_242 : decode cL_law 242 = .ok (.iload_n 3, 1) := by decide +kernel
theorem dL_law_243 : decode cL_law 243 = .ok (.iconst 1, 1) := by decide +kernel
theorem dL_law_244 : decode cL_law 244 = .ok (.iadd, 1) := by decide +kernel
theorem dL_law_245 : decode cL_law 245 = .ok (.iaload, 1) := by decide +kernel
theorem dL_law_246 : decode cL_law 246 = .ok (.invokevirtual 35, 3) := by decide +kernel
theorem dL_law_249 : decode cL_law 249 = .ok (.aload_n 2, 1) := by decide +kernel
theorem dL_law_250 : decode cL_law 250 = .ok (.aload_n 0, 1) := by decide +kernel
theorem dL_law_251 : decode cL_law 251 = .ok (.iload_n 3, 1) := by decide +kernel
theorem dL_law_252 : decode cL_law 252 = .ok (.iconst 1, 1) := by decide +kernel
theorem dL_law_253 : decode cL_law 253 = .ok (.iadd, 1) := by decide +kernel
theorem dL_law_254 : decode cL_law 254 = .ok (.iaload, 1) := by decide +kernel
theorem dL_law_255 : decode cL_law 255 = .ok (.invokevirtual 39, 3) := by decide +kernel
theorem dL_law_258 : decode cL_law 258 = .ok (.if_icmp .eq 100, 3) := by decide +kernel
theorem dL_law_261 : decode cL_law 261 = .ok (.iconst 0, 1) := by decide +kernel
theorem dL_law_262 : decode cL_law 262 = .ok (.ireturn, 1) := by decide +kernel
theorem dL_law_263 : decode cL_law 263 = .ok (.aload_n 1, 1) := by decide +kernel
theorem dL_law_264 : decode cL_law 264 = .ok (.invokevirtual 40, 3) := by decide +kernel
theorem dL_law_267 : decode cL_law 267 = .ok (.aload_n 2, 1) := by decide +kernel
theorem dL_law_268 : decode cL_law 268 = .ok (.invokevirtual 43, 3) := by decide +kernel
theorem dL_law_271 : decode cL_law 271 = .ok (.if_icmp .eq 87, 3) := by decide +kernel
theorem dL_law_274 : decode cL_law 274 = .ok (.iconst 0, 1) := by decide +kernel
theorem dL_law_275 : decode cL_law 275 = .ok (.ireturn, 1) := by decide +kernel
theorem dL_law_276 : decode cL_law 276 = .ok (.aload_n 1, 1) := by decide +kernel
theorem dL_law_277 : decode cL_law 277 = .ok (.aload_n 0, 1) := by decide +kernel
theorem dL_law_278 : decode cL_law 278 = .ok (.iload_n 3, 1) := by decide +kernel
theorem dL_law_279 : decode cL_law 279 = .ok (.iconst 1, 1) := by decide +kernel
theorem dL_law_280 : decode cL_law 280 = .ok (.iadd, 1) := by decide +kernel
theorem dL_law_281 : decode cL_law 281 = .ok (.iaload, 1) := by decide +kernel
theorem dL_law_282 : decode cL_law 282 = .ok (.invokevirtual 44, 3) := by decide +kernel
theorem dL_law_285 : decode cL_law 285 = .ok (.aload_n 2, 1) := by decide +kernel
theorem dL_law_286 : decode cL_law 286 = .ok (.aload_n 0, 1) := by decide +kernel
theorem dL_law_287 : decode cL_law 287 = .ok (.iload_n 3, 1) := by decide +kernel
theorem dL_law_288 : decode cL_law 288 = .ok (.iconst 1, 1) := by decide +kernel
theorem dL_law_289 : decode cL_law 289 = .ok (.iadd, 1) := by decide +kernel
theorem dL_law_290 : decode cL_law 290 = .ok (.iaload, 1) := by decide +kernel
theorem dL_law_291 : decode cL_law 291 = .ok (.invokevirtual 47, 3) := by decide +kernel
theorem dL_law_294 : decode cL_law 294 = .ok (.if_icmp .eq 64, 3) := by decide +kernel
theorem dL_law_297 : decode cL_law 297 = .ok (.iconst 0, 1) := by decide +kernel
theorem dL_law_298 : decode cL_law 298 = .ok (.ireturn, 1) := by decide +kernel
theorem dL_law_299 : decode cL_law 299 = .ok (.aload_n 1, 1) := by decide +kernel
theorem dL_law_300 : decode cL_law 300 = .ok (.aload_n 0, 1) := by decide +kernel
theorem dL_law_301 : decode cL_law 301 = .ok (.iload_n 3, 1) := by decide +kernel
theorem dL_law_302 : decode cL_law 302 = .ok (.iconst 1, 1) := by decide +kernel
theorem dL_law_303 : decode cL_law 303 = .ok (.iadd, 1) := by decide +kernel
theorem dL_law_304 : decode cL_law 304 = .ok (.iaload, 1) := by decide +kernel
theorem dL_law_305 : decode cL_law 305 = .ok (.invokevirtual 48, 3) := by decide +kernel
theorem dL_law_308 : decode cL_law 308 = .ok (.aload_n 2, 1) := by decide +kernel
theorem dL_law_309 : decode cL_law 309 = .ok (.aload_n 0, 1) := by decide +kernel
theorem dL_law_310 : decode cL_law 310 = .ok (.iload_n 3, 1) := by decide +kernel
theorem dL_law_311 : decode cL_law 311 = .ok (.iconst 1, 1) := by decide +kernel
theorem dL_law_312 : decode cL_law 312 = .ok (.iadd, 1) := by decide +kernel
theorem dL_law_313 : decode cL_law 313 = .ok (.iaload, 1) := by decide +kernel
theorem dL_law_314 : decode cL_law 314 = .ok (.invokevirtual 51, 3) := by decide +kernel
theorem dL_law_317 : decode cL_law 317 = .ok (.if_icmp .eq 41, 3) := by decide +kernel
theorem dL_law_320 : decode cL_law 320 = .ok (.iconst 0, 1) := by decide +kernel
theorem dL_law_321 : decode cL_law 321 = .ok (.ireturn, 1) := by decide +kernel
theorem dL_law_322 : decode cL_law 322 = .ok (.aload_n 1, 1) := by decide +kernel
theorem dL_law_323 : decode cL_law 323 = .ok (.invokevirtual 52, 3) := by decide +kernel
theorem dL_law_326 : decode cL_law 326 = .ok (.aload_n 2, 1) := by decide +kernel
theorem dL_law_327 : decode cL_law 327 = .ok (.invokevirtual 55, 3) := by decide +kernel
theorem dL_law_330 : decode cL_law 330 = .ok (.if_icmp .eq 28, 3) := by decide +kernel
theorem dL_law_333 : decode cL_law 333 = .ok (.iconst 0, 1) := by decide +kernel
theorem dL_law_334 : decode cL_law 334 = .ok (.ireturn, 1) := by decide +kernel
theorem dL_law_335 : decode cL_law 335 = .ok (.aload_n 1, 1) := by decide +kernel
theorem dL_law_336 : decode cL_law 336 = .ok (.aload_n 0, 1) := by decide +kernel
theorem dL_law_337 : decode cL_law 337 = .ok (.iload_n 3, 1) := by decide +kernel
theorem dL_law_338 : decode cL_law 338 = .ok (.iconst 1, 1) := by decide +kernel
theorem dL_law_339 : decode cL_law 339 = .ok (.iadd, 1) := by decide +kernel
theorem dL_law_340 : decode cL_law 340 = .ok (.iaload, 1) := by decide +kernel
theorem dL_law_341 : decode cL_law 341 = .ok (.invokevirtual 56, 3) := by decide +kernel
theorem dL_law_344 : decode cL_law 344 = .ok (.aload_n 2, 1) := by decide +kernel
theorem dL_law_345 : decode cL_law 345 = .ok (.aload_n 0, 1) := by decide +kernel
theorem dL_law_346 : decode cL_law 346 = .ok (.iload_n 3, 1) := by decide +kernel
theorem dL_law_347 : decode cL_law 347 = .ok (.iconst 1, 1) := by decide +kernel
theorem dL_law_348 : decode cL_law 348 = .ok (.iadd, 1) := by decide +kernel
theorem dL_law_349 : decode cL_law 349 = .ok (.iaload, 1) := by decide +kernel
theorem dL_law_350 : decode cL_law 350 = .ok (.invokevirtual 59, 3) := by decide +kernel
theorem dL_law_353 : decode cL_law 353 = .ok (.if_icmp .eq 5, 3) := by decide +kernel
theorem dL_law_356 : decode cL_law 356 = .ok (.iconst 0, 1) := by decide +kernel
theorem dL_law_357 : decode cL_law 357 = .ok (.ireturn, 1) := by decide +kernel
theorem dL_law_358 : decode cL_law 358 = .ok (.iinc 3 4, 3) := by decide +kernel
theorem dL_law_361 : decode cL_law 361 = .ok (.goto (-343), 3) := by decide +kernel
theorem dL_law_364 : decode cL_law 364 = .ok (.iconst 1, 1) := by decide +kernel
theorem dL_law_365 : decode cL_law 365 = .ok (.ireturn, 1) := by decide +kernel
abbrev vwCl : List vw_C := [(RX0, TX0, 13), (RX1, TX1, 14)]
