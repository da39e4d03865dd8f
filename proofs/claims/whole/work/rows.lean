section
-- ===== PART A: goes FIRST, ahead of the names: the tables' words, and 'selects' of the private methods out of them =====
/-- a private method of a class that the tables say can be made, by its rows of tables_1 -/
def lw_okq (q : MethodName × Nat) : Prop := (q.1.cls ≠ "java/lang/invoke/MethodHandle" ∧ q.1.cls ≠ "java/lang/invoke/VarHandle") ∧ Cond.instantiable q.1.cls q.2 ∈ tables_1 ∧ Cond.privateMethod q.1 ∈ tables_1 ∧ Cond.instanceMethod q.1 ∈ tables_1
theorem lw_p0 : lw_okq (⟨"CodeBlocks", "beginSearch", "()V"⟩, 13) := ⟨⟨by decide +kernel, by decide +kernel⟩, List.mem_of_getElem? (i := 5) (by decide +kernel), List.mem_of_getElem? (i := 58) (by decide +kernel), List.mem_of_getElem? (i := 59) (by decide +kernel)⟩
theorem lw_p1 : lw_okq (⟨"CodeBlocks", "takeBit", "(J)V"⟩, 13) := ⟨⟨by decide +kernel, by decide +kernel⟩, List.mem_of_getElem? (i := 5) (by decide +kernel), List.mem_of_getElem? (i := 70) (by decide +kernel), List.mem_of_getElem? (i := 71) (by decide +kernel)⟩
theorem lw_p2 : lw_okq (⟨"CodeBlocks", "lookForStart", "()V"⟩, 13) := ⟨⟨by decide +kernel, by decide +kernel⟩, List.mem_of_getElem? (i := 5) (by decide +kernel), List.mem_of_getElem? (i := 74) (by decide +kernel), List.mem_of_getElem? (i := 75) (by decide +kernel)⟩
theorem lw_p3 : lw_okq (⟨"CodeBlocks", "beginTransmission", "()V"⟩, 13) := ⟨⟨by decide +kernel, by decide +kernel⟩, List.mem_of_getElem? (i := 5) (by decide +kernel), List.mem_of_getElem? (i := 86) (by decide +kernel), List.mem_of_getElem? (i := 87) (by decide +kernel)⟩
theorem lw_p4 : lw_okq (⟨"CodeBlocks", "lookAtBlock", "()V"⟩, 13) := ⟨⟨by decide +kernel, by decide +kernel⟩, List.mem_of_getElem? (i := 5) (by decide +kernel), List.mem_of_getElem? (i := 90) (by decide +kernel), List.mem_of_getElem? (i := 91) (by decide +kernel)⟩
theorem lw_p5 : lw_okq (⟨"CodeBlocks", "keepData", "(J)V"⟩, 13) := ⟨⟨by decide +kernel, by decide +kernel⟩, List.mem_of_getElem? (i := 5) (by decide +kernel), List.mem_of_getElem? (i := 104) (by decide +kernel), List.mem_of_getElem? (i := 105) (by decide +kernel)⟩
theorem lw_p6 : lw_okq (⟨"CodeBlocks", "endTransmission", "()V"⟩, 13) := ⟨⟨by decide +kernel, by decide +kernel⟩, List.mem_of_getElem? (i := 5) (by decide +kernel), List.mem_of_getElem? (i := 111) (by decide +kernel), List.mem_of_getElem? (i := 112) (by decide +kernel)⟩
theorem lw_p7 : lw_okq (⟨"CodeBlocks", "fillLastBlock", "()V"⟩, 13) := ⟨⟨by decide +kernel, by decide +kernel⟩, List.mem_of_getElem? (i := 5) (by decide +kernel), List.mem_of_getElem? (i := 139) (by decide +kernel), List.mem_of_getElem? (i := 140) (by decide +kernel)⟩
theorem lw_p8 : lw_okq (⟨"CodeBlocks", "sendBytes", "(JI)V"⟩, 13) := ⟨⟨by decide +kernel, by decide +kernel⟩, List.mem_of_getElem? (i := 5) (by decide +kernel), List.mem_of_getElem? (i := 145) (by decide +kernel), List.mem_of_getElem? (i := 146) (by decide +kernel)⟩
theorem lw_p9 : lw_okq (⟨"CodeBlocks", "waitingData", "(I)J"⟩, 13) := ⟨⟨by decide +kernel, by decide +kernel⟩, List.mem_of_getElem? (i := 5) (by decide +kernel), List.mem_of_getElem? (i := 149) (by decide +kernel), List.mem_of_getElem? (i := 150) (by decide +kernel)⟩
theorem lw_p10 : lw_okq (⟨"CodeBlocksModel", "begins", "(I)V"⟩, 14) := ⟨⟨by decide +kernel, by decide +kernel⟩, List.mem_of_getElem? (i := 162) (by decide +kernel), List.mem_of_getElem? (i := 215) (by decide +kernel), List.mem_of_getElem? (i := 216) (by decide +kernel)⟩
theorem lw_p11 : lw_okq (⟨"CodeBlocksModel", "bit", "(I)I"⟩, 14) := ⟨⟨by decide +kernel, by decide +kernel⟩, List.mem_of_getElem? (i := 162) (by decide +kernel), List.mem_of_getElem? (i := 227) (by decide +kernel), List.mem_of_getElem? (i := 228) (by decide +kernel)⟩
theorem lw_p12 : lw_okq (⟨"CodeBlocksModel", "block", "()I"⟩, 14) := ⟨⟨by decide +kernel, by decide +kernel⟩, List.mem_of_getElem? (i := 162) (by decide +kernel), List.mem_of_getElem? (i := 231) (by decide +kernel), List.mem_of_getElem? (i := 232) (by decide +kernel)⟩
theorem lw_p13 : lw_okq (⟨"CodeBlocksModel", "wrong", "()I"⟩, 14) := ⟨⟨by decide +kernel, by decide +kernel⟩, List.mem_of_getElem? (i := 162) (by decide +kernel), List.mem_of_getElem? (i := 235) (by decide +kernel), List.mem_of_getElem? (i := 236) (by decide +kernel)⟩
theorem lw_p14 : lw_okq (⟨"CodeBlocksModel", "divided", "(I)Z"⟩, 14) := ⟨⟨by decide +kernel, by decide +kernel⟩, List.mem_of_getElem? (i := 162) (by decide +kernel), List.mem_of_getElem? (i := 239) (by decide +kernel), List.mem_of_getElem? (i := 240) (by decide +kernel)⟩
theorem lw_p15 : lw_okq (⟨"CodeBlocksModel", "ends", "()V"⟩, 14) := ⟨⟨by decide +kernel, by decide +kernel⟩, List.mem_of_getElem? (i := 162) (by decide +kernel), List.mem_of_getElem? (i := 243) (by decide +kernel), List.mem_of_getElem? (i := 244) (by decide +kernel)⟩
def lw_privs_1 : List (MethodName × Nat) := [(⟨"CodeBlocks", "beginSearch", "()V"⟩, 13), (⟨"CodeBlocks", "takeBit", "(J)V"⟩, 13), (⟨"CodeBlocks", "lookForStart", "()V"⟩, 13), (⟨"CodeBlocks", "beginTransmission", "()V"⟩, 13), (⟨"CodeBlocks", "lookAtBlock", "()V"⟩, 13), (⟨"CodeBlocks", "keepData", "(J)V"⟩, 13), (⟨"CodeBlocks", "endTransmission", "()V"⟩, 13), (⟨"CodeBlocks", "fillLastBlock", "()V"⟩, 13), (⟨"CodeBlocks", "sendBytes", "(JI)V"⟩, 13), (⟨"CodeBlocks", "waitingData", "(I)J"⟩, 13), (⟨"CodeBlocksModel", "begins", "(I)V"⟩, 14), (⟨"CodeBlocksModel", "bit", "(I)I"⟩, 14), (⟨"CodeBlocksModel", "block", "()I"⟩, 14), (⟨"CodeBlocksModel", "wrong", "()I"⟩, 14), (⟨"CodeBlocksModel", "divided", "(I)Z"⟩, 14), (⟨"CodeBlocksModel", "ends", "()V"⟩, 14)]
theorem lw_r1 : ∀ q ∈ lw_privs_1, lw_okq q := List.forall_mem_cons.mpr ⟨lw_p0, List.forall_mem_cons.mpr ⟨lw_p1, List.forall_mem_cons.mpr ⟨lw_p2, List.forall_mem_cons.mpr ⟨lw_p3, List.forall_mem_cons.mpr ⟨lw_p4, List.forall_mem_cons.mpr ⟨lw_p5, List.forall_mem_cons.mpr ⟨lw_p6, List.forall_mem_cons.mpr ⟨lw_p7, List.forall_mem_cons.mpr ⟨lw_p8, List.forall_mem_cons.mpr ⟨lw_p9, List.forall_mem_cons.mpr ⟨lw_p10, List.forall_mem_cons.mpr ⟨lw_p11, List.forall_mem_cons.mpr ⟨lw_p12, List.forall_mem_cons.mpr ⟨lw_p13, List.forall_mem_cons.mpr ⟨lw_p14, List.forall_mem_cons.mpr ⟨lw_p15, fun _ h => absurd h List.not_mem_nil⟩⟩⟩⟩⟩⟩⟩⟩⟩⟩⟩⟩⟩⟩⟩⟩
theorem lw_p16 : lw_okq (⟨"CodeBlocksModel", "look", "()V"⟩, 14) := ⟨⟨by decide +kernel, by decide +kernel⟩, List.mem_of_getElem? (i := 162) (by decide +kernel), List.mem_of_getElem? (i := 247) (by decide +kernel), List.mem_of_getElem? (i := 248) (by decide +kernel)⟩
theorem lw_p17 : lw_okq (⟨"CodeBlocksModel", "out", "(I)V"⟩, 14) := ⟨⟨by decide +kernel, by decide +kernel⟩, List.mem_of_getElem? (i := 162) (by decide +kernel), List.mem_of_getElem? (i := 276) (by decide +kernel), List.mem_of_getElem? (i := 277) (by decide +kernel)⟩
theorem lw_p18 : lw_okq (⟨"CodeBlocksModel", "check", "(I)I"⟩, 14) := ⟨⟨by decide +kernel, by decide +kernel⟩, List.mem_of_getElem? (i := 162) (by decide +kernel), List.mem_of_getElem? (i := 280) (by decide +kernel), List.mem_of_getElem? (i := 281) (by decide +kernel)⟩
def lw_privs_2 : List (MethodName × Nat) := [(⟨"CodeBlocksModel", "look", "()V"⟩, 14), (⟨"CodeBlocksModel", "out", "(I)V"⟩, 14), (⟨"CodeBlocksModel", "check", "(I)I"⟩, 14)]
theorem lw_r2 : ∀ q ∈ lw_privs_2, lw_okq q := List.forall_mem_cons.mpr ⟨lw_p16, List.forall_mem_cons.mpr ⟨lw_p17, List.forall_mem_cons.mpr ⟨lw_p18, fun _ h => absurd h List.not_mem_nil⟩⟩⟩
def lw_privs : List (MethodName × Nat) := lw_privs_1 ++ (lw_privs_2)
def lw_tbl : List Cond := k2_sels lw_privs ++ tables_1
theorem lw_privs_ok : ∀ q ∈ lw_privs, lw_okq q := by
  show ∀ q ∈ lw_privs_1 ++ (lw_privs_2), lw_okq q
  exact List.forall_mem_append.mpr ⟨lw_r1, lw_r2⟩
/-! ===== BEGIN words of one list among another's, by their places ===== -/
theorem goodIn_r {big : List Cond} (ws : List Cond) (ps : List Nat) (hp : ws = ps.filterMap (fun i => big[i]?)) (h : ws.all goodWord = true) : GoodIn big ws := by
  intro w hw
  have h1 := List.all_eq_true.mp h w hw
  rw [hp] at hw
  obtain ⟨i, -, hi⟩ := List.mem_filterMap.mp hw
  have hm : w ∈ big := by first | exact List.mem_of_getElem? hi | exact List.getElem?_mem hi
  exact ⟨hm, good_of_word h1⟩
theorem goodIn_app {big a b : List Cond} (ha : GoodIn big a) (hb : GoodIn big b) : GoodIn big (a ++ b) := fun w h => (List.mem_append.mp h).elim (ha w) (hb w)
theorem goodIn_ca {big a b : List Cond} {c : Cond} (ha : GoodIn big (c :: a)) (hb : GoodIn big b) : GoodIn big (c :: (a ++ b)) := fun w h => (List.mem_cons.mp h).elim (fun e => ha w (List.mem_cons.mpr (Or.inl e))) (fun h => (List.mem_append.mp h).elim (fun h => ha w (List.mem_cons.mpr (Or.inr h))) (hb w))
theorem goodIn_sub {big ws : List Cond} (hm : ∀ w ∈ ws, w ∈ big) (h : ws.all goodWord = true) : GoodIn big ws := fun w hw => ⟨hm w hw, good_of_word (List.all_eq_true.mp h w hw)⟩
/-! ===== END ===== -/

/-! ===== BEGIN printed: names, fields, word lists, decode rows ===== -/
def RX0 : String := "CodeBlocks"
def TX0 : u_T := fun k => match k with
  | 0 => ("CodeBlocks", "state", "I", false)
  | 1 => ("CodeBlocks", "mends", "Z", false)
  | 2 => ("CodeBlocks", "bits", "J", false)
  | 3 => ("CodeBlocks", "came", "I", false)
  | 4 => ("CodeBlocks", "row", "[I", false)
  | 5 => ("CodeBlocks", "rowSize", "I", false)
  | 6 => ("CodeBlocks", "received", "[I", false)
  | 7 => ("CodeBlocks", "receivedSize", "I", false)
  | 8 => ("CodeBlocks", "counts", "[I", true)
  | 9 => ("CodeBlocks", "waiting", "[I", true)
  | 10 => ("CodeBlocks", "waitingSize", "I", false)
  | 11 => ("CodeBlocks", "sent", "[I", true)
  | _ => ("CodeBlocks", "sentSize", "I", false)
def tyX0 : Nat → FieldType := fun k => match k with
  | 0 => .int
  | 1 => .boolean
  | 2 => .long
  | 3 => .int
  | 4 => .array .int
  | 5 => .int
  | 6 => .array .int
  | 7 => .int
  | 8 => .array .int
  | 9 => .array .int
  | 10 => .int
  | 11 => .array .int
  | _ => .int
abbrev wsX00 : List Cond := u_ws RX0 TX0 13
theorem nmX0 : ∀ a, a < 13 → ∀ b, b < 13 → a ≠ b → (TX0 a).2.1 ≠ (TX0 b).2.1 := by decide +kernel
theorem tyX0_ok : ∀ k, k < 13 → parseFieldDescriptor (TX0 k).2.2.1 = some (tyX0 k) := by decide +kernel
abbrev cX0_init : ByteArray := prog_1_method_1_code
def yX0_init : MethodName := ⟨RX0, "<init>", "()V"⟩
abbrev cX0_turn : ByteArray := prog_1_method_2_code
def yX0_turn : MethodName := ⟨RX0, "turn", "(Z)Z"⟩
abbrev cX0_mending : ByteArray := prog_1_method_3_code
def yX0_mending : MethodName := ⟨RX0, "mending", "(Z)V"⟩
abbrev cX0_take : ByteArray := prog_1_method_4_code
def yX0_take : MethodName := ⟨RX0, "take", "(IJ)I"⟩
abbrev cX0_state : ByteArray := prog_1_method_5_code
def yX0_state : MethodName := ⟨RX0, "state", "()I"⟩
abbrev cX0_count : ByteArray := prog_1_method_6_code
def yX0_count : MethodName := ⟨RX0, "count", "(I)I"⟩
abbrev cX0_size : ByteArray := prog_1_method_7_code
def yX0_size : MethodName := ⟨RX0, "size", "()I"⟩
abbrev cX0_byteAt : ByteArray := prog_1_method_8_code
def yX0_byteAt : MethodName := ⟨RX0, "byteAt", "(I)I"⟩
abbrev cX0_put : ByteArray := prog_1_method_9_code
def yX0_put : MethodName := ⟨RX0, "put", "(I)I"⟩
abbrev cX0_send : ByteArray := prog_1_method_10_code
def yX0_send : MethodName := ⟨RX0, "send", "()I"⟩
abbrev cX0_sent : ByteArray := prog_1_method_11_code
def yX0_sent : MethodName := ⟨RX0, "sent", "(I)I"⟩
abbrev cX0_beginSearch : ByteArray := prog_1_method_12_code
def yX0_beginSearch : MethodName := ⟨RX0, "beginSearch", "()V"⟩
abbrev cX0_takeBit : ByteArray := prog_1_method_13_code
def yX0_takeBit : MethodName := ⟨RX0, "takeBit", "(J)V"⟩
abbrev cX0_lookForStart : ByteArray := prog_1_method_14_code
def yX0_lookForStart : MethodName := ⟨RX0, "lookForStart", "()V"⟩
abbrev cX0_beginTransmission : ByteArray := prog_1_method_15_code
def yX0_beginTransmission : MethodName := ⟨RX0, "beginTransmission", "()V"⟩
abbrev cX0_lookAtBlock : ByteArray := prog_1_method_16_code
def yX0_lookAtBlock : MethodName := ⟨RX0, "lookAtBlock", "()V"⟩
abbrev cX0_keepData : ByteArray := prog_1_method_17_code
def yX0_keepData : MethodName := ⟨RX0, "keepData", "(J)V"⟩
abbrev cX0_endTransmission : ByteArray := prog_1_method_18_code
def yX0_endTransmission : MethodName := ⟨RX0, "endTransmission", "()V"⟩
abbrev cX0_remainderOf : ByteArray := prog_1_method_19_code
def yX0_remainderOf : MethodName := ⟨RX0, "remainderOf", "(J)I"⟩
abbrev cX0_powerWithRemainder : ByteArray := prog_1_method_20_code
def yX0_powerWithRemainder : MethodName := ⟨RX0, "powerWithRemainder", "(I)I"⟩
abbrev cX0_reduced : ByteArray := prog_1_method_21_code
def yX0_reduced : MethodName := ⟨RX0, "reduced", "(I)I"⟩
abbrev cX0_blockOf : ByteArray := prog_1_method_22_code
def yX0_blockOf : MethodName := ⟨RX0, "blockOf", "(J)J"⟩
abbrev cX0_byteOf : ByteArray := prog_1_method_23_code
def yX0_byteOf : MethodName := ⟨RX0, "byteOf", "(JI)I"⟩
abbrev cX0_fillLastBlock : ByteArray := prog_1_method_24_code
def yX0_fillLastBlock : MethodName := ⟨RX0, "fillLastBlock", "()V"⟩
abbrev cX0_waitingData : ByteArray := prog_1_method_25_code
def yX0_waitingData : MethodName := ⟨RX0, "waitingData", "(I)J"⟩
abbrev cX0_sendBytes : ByteArray := prog_1_method_26_code
def yX0_sendBytes : MethodName := ⟨RX0, "sendBytes", "(JI)V"⟩
def RX1 : String := "CodeBlocksModel"
def TX1 : u_T := fun k => match k with
  | 0 => ("CodeBlocksModel", "thrown", "I", false)
  | 1 => ("CodeBlocksModel", "state", "I", false)
  | 2 => ("CodeBlocksModel", "mends", "Z", false)
  | 3 => ("CodeBlocksModel", "bits", "[I", true)
  | 4 => ("CodeBlocksModel", "many", "I", false)
  | 5 => ("CodeBlocksModel", "row", "[I", true)
  | 6 => ("CodeBlocksModel", "rows", "I", false)
  | 7 => ("CodeBlocksModel", "received", "[I", true)
  | 8 => ("CodeBlocksModel", "size", "I", false)
  | 9 => ("CodeBlocksModel", "wanted", "[I", true)
  | 10 => ("CodeBlocksModel", "wants", "I", false)
  | 11 => ("CodeBlocksModel", "sent", "[I", true)
  | 12 => ("CodeBlocksModel", "sends", "I", false)
  | _ => ("CodeBlocksModel", "counts", "[I", true)
def tyX1 : Nat → FieldType := fun k => match k with
  | 0 => .int
  | 1 => .int
  | 2 => .boolean
  | 3 => .array .int
  | 4 => .int
  | 5 => .array .int
  | 6 => .int
  | 7 => .array .int
  | 8 => .int
  | 9 => .array .int
  | 10 => .int
  | 11 => .array .int
  | 12 => .int
  | _ => .array .int
abbrev wsX10 : List Cond := u_ws RX1 TX1 14
theorem nmX1 : ∀ a, a < 14 → ∀ b, b < 14 → a ≠ b → (TX1 a).2.1 ≠ (TX1 b).2.1 := by decide +kernel
theorem tyX1_ok : ∀ k, k < 14 → parseFieldDescriptor (TX1 k).2.2.1 = some (tyX1 k) := by decide +kernel
abbrev cX1_init : ByteArray := prog_3_method_1_code
def yX1_init : MethodName := ⟨RX1, "<init>", "()V"⟩
abbrev cX1_wrong : ByteArray := prog_3_method_4_code
def yX1_wrong : MethodName := ⟨RX1, "wrong", "()I"⟩
abbrev cX1_begins : ByteArray := prog_3_method_5_code
def yX1_begins : MethodName := ⟨RX1, "begins", "(I)V"⟩
abbrev cX1_block : ByteArray := prog_3_method_7_code
def yX1_block : MethodName := ⟨RX1, "block", "()I"⟩
abbrev cX1_bit : ByteArray := prog_3_method_9_code
def yX1_bit : MethodName := ⟨RX1, "bit", "(I)I"⟩
abbrev cX1_turn : ByteArray := prog_3_method_10_code
def yX1_turn : MethodName := ⟨RX1, "turn", "(Z)Z"⟩
abbrev cX1_mending : ByteArray := prog_3_method_11_code
def yX1_mending : MethodName := ⟨RX1, "mending", "(Z)V"⟩
abbrev cX1_take : ByteArray := prog_3_method_12_code
def yX1_take : MethodName := ⟨RX1, "take", "(IJ)I"⟩
def RJ6 : String := "java/lang/Integer"
def TJ6 : u_T := fun k => match k with
  | _ => ("", "", "", false)
def tyJ6 : Nat → FieldType := fun k => match k with
  | _ => .int
abbrev wsJ60 : List Cond := u_ws RJ6 TJ6 0
theorem nmJ6 : ∀ a, a < 0 → ∀ b, b < 0 → a ≠ b → (TJ6 a).2.1 ≠ (TJ6 b).2.1 := by decide +kernel
theorem tyJ6_ok : ∀ k, k < 0 → parseFieldDescriptor (TJ6 k).2.2.1 = some (tyJ6 k) := by decide +kernel
abbrev cJ6_bitCount_0f7a4 : ByteArray := prog_4_method_49_code
def yJ6_bitCount_0f7a4 : MethodName := ⟨RJ6, "bitCount", "(I)I"⟩
def RL : String := "CodeBlocksLaw"
abbrev cL_law : ByteArray := code
def yL_law : MethodName := ⟨RL, "law", "([I)Z"⟩
def wsX0_init : List Cond := .code yX0_init cX0_init 1 none :: ([.methodLink RX0 3 objectInit, .instanceMethod objectInit, .code objectInit ⟨#[0xb1]⟩ 1 none, .fieldLink RX0 9 "CodeBlocks" "state" "I", .arrayClass .int, .fieldLink RX0 13 "CodeBlocks" "row" "[I", .fieldLink RX0 17 "CodeBlocks" "received" "[I", .fieldLink RX0 20 "CodeBlocks" "counts" "[I", .fieldLink RX0 23 "CodeBlocks" "waiting" "[I", .fieldLink RX0 26 "CodeBlocks" "sent" "[I"] ++ wsX00)
def wsX0_beginSearch : List Cond := .code yX0_beginSearch cX0_beginSearch 1 none :: ([.fieldLink RX0 9 "CodeBlocks" "state" "I", .fieldLink RX0 69 "CodeBlocks" "came" "I"] ++ wsX00)
def wsX0_turn : List Cond := .code yX0_turn cX0_turn 2 (some .boolean) :: ([.fieldLink RX0 9 "CodeBlocks" "state" "I", .methodLink RX0 29 yX0_beginSearch, .instanceMethod yX0_beginSearch, .selects RX0 yX0_beginSearch yX0_beginSearch, .initialized RX0, .code yX0_beginSearch cX0_beginSearch 1 none, .fieldLink RX0 69 "CodeBlocks" "came" "I"] ++ wsX00)
def wsX0_mending : List Cond := .code yX0_mending cX0_mending 2 none :: ([.fieldLink RX0 32 "CodeBlocks" "mends" "Z"] ++ wsX00)
def wsJ6_bitCount_0f7a4 : List Cond := .code yJ6_bitCount_0f7a4 cJ6_bitCount_0f7a4 1 (some .int) :: ([.constant RJ6 265 (1431655765), .constant RJ6 266 (858993459), .constant RJ6 267 (252645135)])
def wsX0_beginTransmission : List Cond := .code yX0_beginTransmission cX0_beginTransmission 1 none :: ([.fieldLink RX0 20 "CodeBlocks" "counts" "[I", .fieldLink RX0 9 "CodeBlocks" "state" "I", .fieldLink RX0 69 "CodeBlocks" "came" "I", .fieldLink RX0 94 "CodeBlocks" "rowSize" "I"] ++ wsX00)
def wsX0_lookForStart : List Cond := .code yX0_lookForStart cX0_lookForStart 2 none :: ([.fieldLink RX0 69 "CodeBlocks" "came" "I", .fieldLink RX0 72 "CodeBlocks" "bits" "J", .constantLong RX0 82 (65535), .constant RX0 84 (60304), .fieldLink RX0 32 "CodeBlocks" "mends" "Z", .fieldLink RX0 20 "CodeBlocks" "counts" "[I", .methodLink RX0 85 yJ6_bitCount_0f7a4, .static yJ6_bitCount_0f7a4, .initialized RJ6, .code yJ6_bitCount_0f7a4 cJ6_bitCount_0f7a4 1 (some .int), .constant RJ6 265 (1431655765), .constant RJ6 266 (858993459), .constant RJ6 267 (252645135), .methodLink RX0 91 yX0_beginTransmission, .instanceMethod yX0_beginTransmission, .selects RX0 yX0_beginTransmission yX0_beginTransmission, .initialized RX0, .code yX0_beginTransmission cX0_beginTransmission 1 none, .fieldLink RX0 9 "CodeBlocks" "state" "I", .fieldLink RX0 94 "CodeBlocks" "rowSize" "I"] ++ wsX00)
def wsX0_reduced : List Cond := .code yX0_reduced cX0_reduced 1 (some .int) :: ([])
def wsX0_remainderOf : List Cond := .code yX0_remainderOf cX0_remainderOf 4 (some .int) :: ([.methodLink RX0 116 yX0_reduced, .static yX0_reduced, .initialized RX0, .code yX0_reduced cX0_reduced 1 (some .int)])
def wsX0_powerWithRemainder : List Cond := .code yX0_powerWithRemainder cX0_powerWithRemainder 3 (some .int) :: ([.methodLink RX0 116 yX0_reduced, .static yX0_reduced, .initialized RX0, .code yX0_reduced cX0_reduced 1 (some .int)])
def wsX0_byteOf : List Cond := .code yX0_byteOf cX0_byteOf 3 (some .int) :: ([])
def wsX0_endTransmission : List Cond := .code yX0_endTransmission cX0_endTransmission 2 none :: ([.fieldLink RX0 20 "CodeBlocks" "counts" "[I", .fieldLink RX0 94 "CodeBlocks" "rowSize" "I", .fieldLink RX0 17 "CodeBlocks" "received" "[I", .fieldLink RX0 13 "CodeBlocks" "row" "[I", .fieldLink RX0 40 "CodeBlocks" "receivedSize" "I", .methodLink RX0 29 yX0_beginSearch, .instanceMethod yX0_beginSearch, .selects RX0 yX0_beginSearch yX0_beginSearch, .initialized RX0, .code yX0_beginSearch cX0_beginSearch 1 none, .fieldLink RX0 9 "CodeBlocks" "state" "I", .fieldLink RX0 69 "CodeBlocks" "came" "I"] ++ wsX00)
def wsX0_keepData : List Cond := .code yX0_keepData cX0_keepData 6 none :: ([.fieldLink RX0 20 "CodeBlocks" "counts" "[I", .fieldLink RX0 94 "CodeBlocks" "rowSize" "I", .fieldLink RX0 13 "CodeBlocks" "row" "[I", .methodLink RX0 112 yX0_byteOf, .static yX0_byteOf, .initialized RX0, .code yX0_byteOf cX0_byteOf 3 (some .int), .methodLink RX0 109 yX0_endTransmission, .instanceMethod yX0_endTransmission, .selects RX0 yX0_endTransmission yX0_endTransmission, .code yX0_endTransmission cX0_endTransmission 2 none, .fieldLink RX0 17 "CodeBlocks" "received" "[I", .fieldLink RX0 40 "CodeBlocks" "receivedSize" "I", .methodLink RX0 29 yX0_beginSearch, .instanceMethod yX0_beginSearch, .selects RX0 yX0_beginSearch yX0_beginSearch, .code yX0_beginSearch cX0_beginSearch 1 none, .fieldLink RX0 9 "CodeBlocks" "state" "I", .fieldLink RX0 69 "CodeBlocks" "came" "I"] ++ wsX00)
def wsX0_lookAtBlock_r1 : List Cond := [Cond.fieldLink RX0 72 "CodeBlocks" "bits" "J", Cond.constantLong RX0 97 (127), Cond.fieldLink RX0 32 "CodeBlocks" "mends" "Z", Cond.fieldLink RX0 20 "CodeBlocks" "counts" "[I", Cond.methodLink RX0 99 yX0_remainderOf, Cond.static yX0_remainderOf, Cond.initialized RX0, Cond.code yX0_remainderOf cX0_remainderOf 4 (some .int), Cond.methodLink RX0 116 yX0_reduced, Cond.static yX0_reduced, Cond.code yX0_reduced cX0_reduced 1 (some .int), Cond.methodLink RX0 103 yX0_powerWithRemainder, Cond.static yX0_powerWithRemainder, Cond.code yX0_powerWithRemainder cX0_powerWithRemainder 3 (some .int), Cond.methodLink RX0 106 yX0_keepData, Cond.instanceMethod yX0_keepData, Cond.selects RX0 yX0_keepData yX0_keepData, Cond.code yX0_keepData cX0_keepData 6 none, Cond.fieldLink RX0 94 "CodeBlocks" "rowSize" "I", Cond.fieldLink RX0 13 "CodeBlocks" "row" "[I", Cond.methodLink RX0 112 yX0_byteOf, Cond.static yX0_byteOf, Cond.code yX0_byteOf cX0_byteOf 3 (some .int), Cond.methodLink RX0 109 yX0_endTransmission]
def wsX0_lookAtBlock_r2 : List Cond := [Cond.instanceMethod yX0_endTransmission, Cond.selects RX0 yX0_endTransmission yX0_endTransmission, Cond.code yX0_endTransmission cX0_endTransmission 2 none, Cond.fieldLink RX0 17 "CodeBlocks" "received" "[I", Cond.fieldLink RX0 40 "CodeBlocks" "receivedSize" "I", Cond.methodLink RX0 29 yX0_beginSearch, Cond.instanceMethod yX0_beginSearch, Cond.selects RX0 yX0_beginSearch yX0_beginSearch, Cond.code yX0_beginSearch cX0_beginSearch 1 none, Cond.fieldLink RX0 9 "CodeBlocks" "state" "I", Cond.fieldLink RX0 69 "CodeBlocks" "came" "I"]
def wsX0_lookAtBlock : List Cond := .code yX0_lookAtBlock cX0_lookAtBlock 5 none :: ((wsX0_lookAtBlock_r1 ++ wsX0_lookAtBlock_r2) ++ wsX00)
def wsX0_takeBit_r1 : List Cond := [Cond.fieldLink RX0 72 "CodeBlocks" "bits" "J", Cond.fieldLink RX0 69 "CodeBlocks" "came" "I", Cond.fieldLink RX0 9 "CodeBlocks" "state" "I", Cond.methodLink RX0 76 yX0_lookForStart, Cond.instanceMethod yX0_lookForStart, Cond.selects RX0 yX0_lookForStart yX0_lookForStart, Cond.initialized RX0, Cond.code yX0_lookForStart cX0_lookForStart 2 none, Cond.constantLong RX0 82 (65535), Cond.constant RX0 84 (60304), Cond.fieldLink RX0 32 "CodeBlocks" "mends" "Z", Cond.fieldLink RX0 20 "CodeBlocks" "counts" "[I", Cond.methodLink RX0 85 yJ6_bitCount_0f7a4, Cond.static yJ6_bitCount_0f7a4, Cond.initialized RJ6, Cond.code yJ6_bitCount_0f7a4 cJ6_bitCount_0f7a4 1 (some .int), Cond.constant RJ6 265 (1431655765), Cond.constant RJ6 266 (858993459), Cond.constant RJ6 267 (252645135), Cond.methodLink RX0 91 yX0_beginTransmission, Cond.instanceMethod yX0_beginTransmission, Cond.selects RX0 yX0_beginTransmission yX0_beginTransmission, Cond.code yX0_beginTransmission cX0_beginTransmission 1 none, Cond.fieldLink RX0 94 "CodeBlocks" "rowSize" "I"]
def wsX0_takeBit_r2 : List Cond := [Cond.methodLink RX0 79 yX0_lookAtBlock, Cond.instanceMethod yX0_lookAtBlock, Cond.selects RX0 yX0_lookAtBlock yX0_lookAtBlock, Cond.code yX0_lookAtBlock cX0_lookAtBlock 5 none, Cond.constantLong RX0 97 (127), Cond.methodLink RX0 99 yX0_remainderOf, Cond.static yX0_remainderOf, Cond.code yX0_remainderOf cX0_remainderOf 4 (some .int), Cond.methodLink RX0 116 yX0_reduced, Cond.static yX0_reduced, Cond.code yX0_reduced cX0_reduced 1 (some .int), Cond.methodLink RX0 103 yX0_powerWithRemainder, Cond.static yX0_powerWithRemainder, Cond.code yX0_powerWithRemainder cX0_powerWithRemainder 3 (some .int), Cond.methodLink RX0 106 yX0_keepData, Cond.instanceMethod yX0_keepData, Cond.selects RX0 yX0_keepData yX0_keepData, Cond.code yX0_keepData cX0_keepData 6 none, Cond.fieldLink RX0 13 "CodeBlocks" "row" "[I", Cond.methodLink RX0 112 yX0_byteOf, Cond.static yX0_byteOf, Cond.code yX0_byteOf cX0_byteOf 3 (some .int), Cond.methodLink RX0 109 yX0_endTransmission, Cond.instanceMethod yX0_endTransmission]
def wsX0_takeBit_r3 : List Cond := [Cond.selects RX0 yX0_endTransmission yX0_endTransmission, Cond.code yX0_endTransmission cX0_endTransmission 2 none, Cond.fieldLink RX0 17 "CodeBlocks" "received" "[I", Cond.fieldLink RX0 40 "CodeBlocks" "receivedSize" "I", Cond.methodLink RX0 29 yX0_beginSearch, Cond.instanceMethod yX0_beginSearch, Cond.selects RX0 yX0_beginSearch yX0_beginSearch, Cond.code yX0_beginSearch cX0_beginSearch 1 none]
def wsX0_takeBit : List Cond := .code yX0_takeBit cX0_takeBit 3 none :: ((wsX0_takeBit_r1 ++ (wsX0_takeBit_r2 ++ wsX0_takeBit_r3)) ++ wsX00)
def wsX0_take_r1 : List Cond := [Cond.fieldLink RX0 9 "CodeBlocks" "state" "I", Cond.fieldLink RX0 20 "CodeBlocks" "counts" "[I", Cond.methodLink RX0 36 yX0_takeBit, Cond.instanceMethod yX0_takeBit, Cond.selects RX0 yX0_takeBit yX0_takeBit, Cond.initialized RX0, Cond.code yX0_takeBit cX0_takeBit 3 none, Cond.fieldLink RX0 72 "CodeBlocks" "bits" "J", Cond.fieldLink RX0 69 "CodeBlocks" "came" "I", Cond.methodLink RX0 76 yX0_lookForStart, Cond.instanceMethod yX0_lookForStart, Cond.selects RX0 yX0_lookForStart yX0_lookForStart, Cond.code yX0_lookForStart cX0_lookForStart 2 none, Cond.constantLong RX0 82 (65535), Cond.constant RX0 84 (60304), Cond.fieldLink RX0 32 "CodeBlocks" "mends" "Z", Cond.methodLink RX0 85 yJ6_bitCount_0f7a4, Cond.static yJ6_bitCount_0f7a4, Cond.initialized RJ6, Cond.code yJ6_bitCount_0f7a4 cJ6_bitCount_0f7a4 1 (some .int), Cond.constant RJ6 265 (1431655765), Cond.constant RJ6 266 (858993459), Cond.constant RJ6 267 (252645135), Cond.methodLink RX0 91 yX0_beginTransmission]
def wsX0_take_r2 : List Cond := [Cond.instanceMethod yX0_beginTransmission, Cond.selects RX0 yX0_beginTransmission yX0_beginTransmission, Cond.code yX0_beginTransmission cX0_beginTransmission 1 none, Cond.fieldLink RX0 94 "CodeBlocks" "rowSize" "I", Cond.methodLink RX0 79 yX0_lookAtBlock, Cond.instanceMethod yX0_lookAtBlock, Cond.selects RX0 yX0_lookAtBlock yX0_lookAtBlock, Cond.code yX0_lookAtBlock cX0_lookAtBlock 5 none, Cond.constantLong RX0 97 (127), Cond.methodLink RX0 99 yX0_remainderOf, Cond.static yX0_remainderOf, Cond.code yX0_remainderOf cX0_remainderOf 4 (some .int), Cond.methodLink RX0 116 yX0_reduced, Cond.static yX0_reduced, Cond.code yX0_reduced cX0_reduced 1 (some .int), Cond.methodLink RX0 103 yX0_powerWithRemainder, Cond.static yX0_powerWithRemainder, Cond.code yX0_powerWithRemainder cX0_powerWithRemainder 3 (some .int), Cond.methodLink RX0 106 yX0_keepData, Cond.instanceMethod yX0_keepData, Cond.selects RX0 yX0_keepData yX0_keepData, Cond.code yX0_keepData cX0_keepData 6 none, Cond.fieldLink RX0 13 "CodeBlocks" "row" "[I", Cond.methodLink RX0 112 yX0_byteOf]
def wsX0_take_r3 : List Cond := [Cond.static yX0_byteOf, Cond.code yX0_byteOf cX0_byteOf 3 (some .int), Cond.methodLink RX0 109 yX0_endTransmission, Cond.instanceMethod yX0_endTransmission, Cond.selects RX0 yX0_endTransmission yX0_endTransmission, Cond.code yX0_endTransmission cX0_endTransmission 2 none, Cond.fieldLink RX0 17 "CodeBlocks" "received" "[I", Cond.fieldLink RX0 40 "CodeBlocks" "receivedSize" "I", Cond.methodLink RX0 29 yX0_beginSearch, Cond.instanceMethod yX0_beginSearch, Cond.selects RX0 yX0_beginSearch yX0_beginSearch, Cond.code yX0_beginSearch cX0_beginSearch 1 none]
def wsX0_take : List Cond := .code yX0_take cX0_take 6 (some .int) :: ((wsX0_take_r1 ++ (wsX0_take_r2 ++ wsX0_take_r3)) ++ wsX00)
def wsX0_state : List Cond := .code yX0_state cX0_state 1 (some .int) :: ([.fieldLink RX0 9 "CodeBlocks" "state" "I"] ++ wsX00)
def wsX0_count : List Cond := .code yX0_count cX0_count 2 (some .int) :: ([.fieldLink RX0 20 "CodeBlocks" "counts" "[I"] ++ wsX00)
def wsX0_size : List Cond := .code yX0_size cX0_size 1 (some .int) :: ([.fieldLink RX0 40 "CodeBlocks" "receivedSize" "I"] ++ wsX00)
def wsX0_byteAt : List Cond := .code yX0_byteAt cX0_byteAt 2 (some .int) :: ([.fieldLink RX0 40 "CodeBlocks" "receivedSize" "I", .fieldLink RX0 17 "CodeBlocks" "received" "[I"] ++ wsX00)
def wsX0_put : List Cond := .code yX0_put cX0_put 2 (some .int) :: ([.fieldLink RX0 43 "CodeBlocks" "waitingSize" "I", .fieldLink RX0 23 "CodeBlocks" "waiting" "[I"] ++ wsX00)
def wsX0_fillLastBlock : List Cond := .code yX0_fillLastBlock cX0_fillLastBlock 2 none :: ([.fieldLink RX0 43 "CodeBlocks" "waitingSize" "I", .methodLink RX0 119 yX0_put, .instanceMethod yX0_put, .selects RX0 yX0_put yX0_put, .initialized RX0, .code yX0_put cX0_put 2 (some .int), .fieldLink RX0 23 "CodeBlocks" "waiting" "[I"] ++ wsX00)
def wsX0_sendBytes : List Cond := .code yX0_sendBytes cX0_sendBytes 5 none :: ([.fieldLink RX0 49 "CodeBlocks" "sentSize" "I", .fieldLink RX0 26 "CodeBlocks" "sent" "[I", .methodLink RX0 112 yX0_byteOf, .static yX0_byteOf, .initialized RX0, .code yX0_byteOf cX0_byteOf 3 (some .int)] ++ wsX00)
def wsX0_waitingData : List Cond := .code yX0_waitingData cX0_waitingData 5 (some .long) :: ([.fieldLink RX0 23 "CodeBlocks" "waiting" "[I"] ++ wsX00)
def wsX0_blockOf : List Cond := .code yX0_blockOf cX0_blockOf 4 (some .long) :: ([.methodLink RX0 99 yX0_remainderOf, .static yX0_remainderOf, .initialized RX0, .code yX0_remainderOf cX0_remainderOf 4 (some .int), .methodLink RX0 116 yX0_reduced, .static yX0_reduced, .code yX0_reduced cX0_reduced 1 (some .int)])
def wsX0_send_r1 : List Cond := [Cond.fieldLink RX0 43 "CodeBlocks" "waitingSize" "I", Cond.fieldLink RX0 49 "CodeBlocks" "sentSize" "I", Cond.constantLong RX0 52 (60304), Cond.fieldLink RX0 66 "CodeBlocks" "TAIL" "[I", Cond.methodLink RX0 46 yX0_fillLastBlock, Cond.instanceMethod yX0_fillLastBlock, Cond.selects RX0 yX0_fillLastBlock yX0_fillLastBlock, Cond.initialized RX0, Cond.code yX0_fillLastBlock cX0_fillLastBlock 2 none, Cond.methodLink RX0 119 yX0_put, Cond.instanceMethod yX0_put, Cond.selects RX0 yX0_put yX0_put, Cond.code yX0_put cX0_put 2 (some .int), Cond.fieldLink RX0 23 "CodeBlocks" "waiting" "[I", Cond.methodLink RX0 54 yX0_sendBytes, Cond.instanceMethod yX0_sendBytes, Cond.selects RX0 yX0_sendBytes yX0_sendBytes, Cond.code yX0_sendBytes cX0_sendBytes 5 none, Cond.fieldLink RX0 26 "CodeBlocks" "sent" "[I", Cond.methodLink RX0 112 yX0_byteOf, Cond.static yX0_byteOf, Cond.code yX0_byteOf cX0_byteOf 3 (some .int), Cond.methodLink RX0 58 yX0_waitingData, Cond.instanceMethod yX0_waitingData]
def wsX0_send_r2 : List Cond := [Cond.selects RX0 yX0_waitingData yX0_waitingData, Cond.code yX0_waitingData cX0_waitingData 5 (some .long), Cond.methodLink RX0 62 yX0_blockOf, Cond.static yX0_blockOf, Cond.code yX0_blockOf cX0_blockOf 4 (some .long), Cond.methodLink RX0 99 yX0_remainderOf, Cond.static yX0_remainderOf, Cond.code yX0_remainderOf cX0_remainderOf 4 (some .int), Cond.methodLink RX0 116 yX0_reduced, Cond.static yX0_reduced, Cond.code yX0_reduced cX0_reduced 1 (some .int)]
def wsX0_send : List Cond := .code yX0_send cX0_send 5 (some .int) :: ((wsX0_send_r1 ++ wsX0_send_r2) ++ wsX00)
def wsX0_sent : List Cond := .code yX0_sent cX0_sent 2 (some .int) :: ([.fieldLink RX0 49 "CodeBlocks" "sentSize" "I", .fieldLink RX0 26 "CodeBlocks" "sent" "[I"] ++ wsX00)
def wsX1_init : List Cond := .code yX1_init cX1_init 1 none :: ([.methodLink RX1 1 objectInit, .instanceMethod objectInit, .code objectInit ⟨#[0xb1]⟩ 1 none, .arrayClass .int, .fieldLink RX1 7 "CodeBlocksModel" "bits" "[I", .fieldLink RX1 13 "CodeBlocksModel" "row" "[I", .fieldLink RX1 16 "CodeBlocksModel" "received" "[I", .fieldLink RX1 19 "CodeBlocksModel" "wanted" "[I", .fieldLink RX1 22 "CodeBlocksModel" "sent" "[I", .fieldLink RX1 25 "CodeBlocksModel" "counts" "[I"] ++ wsX10)
def wsX1_wrong : List Cond := .code yX1_wrong cX1_wrong 3 (some .int) :: ([.fieldLink RX1 36 "CodeBlocksModel" "mends" "Z"] ++ wsX10)
def wsX1_begins : List Cond := .code yX1_begins cX1_begins 2 none :: ([.fieldLink RX1 40 "CodeBlocksModel" "state" "I", .fieldLink RX1 43 "CodeBlocksModel" "many" "I"] ++ wsX10)
def wsX1_block : List Cond := .code yX1_block cX1_block 5 (some .int) :: ([.fieldLink RX1 7 "CodeBlocksModel" "bits" "[I", .fieldLink RX1 13 "CodeBlocksModel" "row" "[I", .fieldLink RX1 46 "CodeBlocksModel" "rows" "I", .fieldLink RX1 25 "CodeBlocksModel" "counts" "[I", .fieldLink RX1 43 "CodeBlocksModel" "many" "I", .methodLink RX1 56 yX1_wrong, .instanceMethod yX1_wrong, .selects RX1 yX1_wrong yX1_wrong, .initialized RX1, .code yX1_wrong cX1_wrong 3 (some .int), .fieldLink RX1 36 "CodeBlocksModel" "mends" "Z"] ++ wsX10)
def wsX1_bit : List Cond := .code yX1_bit cX1_bit 3 (some .int) :: ([.fieldLink RX1 40 "CodeBlocksModel" "state" "I", .fieldLink RX1 7 "CodeBlocksModel" "bits" "[I", .fieldLink RX1 43 "CodeBlocksModel" "many" "I", .methodLink RX1 64 yX1_block, .instanceMethod yX1_block, .selects RX1 yX1_block yX1_block, .initialized RX1, .code yX1_block cX1_block 5 (some .int), .fieldLink RX1 13 "CodeBlocksModel" "row" "[I", .fieldLink RX1 46 "CodeBlocksModel" "rows" "I", .fieldLink RX1 25 "CodeBlocksModel" "counts" "[I", .methodLink RX1 56 yX1_wrong, .instanceMethod yX1_wrong, .selects RX1 yX1_wrong yX1_wrong, .code yX1_wrong cX1_wrong 3 (some .int), .fieldLink RX1 36 "CodeBlocksModel" "mends" "Z"] ++ wsX10)
def wsX1_turn : List Cond := .code yX1_turn cX1_turn 2 (some .boolean) :: ([.fieldLink RX1 28 "CodeBlocksModel" "thrown" "I", .fieldLink RX1 40 "CodeBlocksModel" "state" "I", .fieldLink RX1 46 "CodeBlocksModel" "rows" "I", .methodLink RX1 52 yX1_begins, .instanceMethod yX1_begins, .selects RX1 yX1_begins yX1_begins, .initialized RX1, .code yX1_begins cX1_begins 2 none, .fieldLink RX1 43 "CodeBlocksModel" "many" "I"] ++ wsX10)
def wsX1_mending : List Cond := .code yX1_mending cX1_mending 2 none :: ([.fieldLink RX1 28 "CodeBlocksModel" "thrown" "I", .fieldLink RX1 36 "CodeBlocksModel" "mends" "Z"] ++ wsX10)
def wsX1_take : List Cond := .code yX1_take cX1_take 6 (some .int) :: ([.fieldLink RX1 28 "CodeBlocksModel" "thrown" "I", .fieldLink RX1 40 "CodeBlocksModel" "state" "I", .methodLink RX1 70 yX1_bit, .instanceMethod yX1_bit, .selects RX1 yX1_bit yX1_bit, .initialized RX1, .code yX1_bit cX1_bit 3 (some .int), .fieldLink RX1 7 "CodeBlocksModel" "bits" "[I", .fieldLink RX1 43 "CodeBlocksModel" "many" "I", .methodLink RX1 64 yX1_block, .instanceMethod yX1_block, .selects RX1 yX1_block yX1_block, .code yX1_block cX1_block 5 (some .int), .fieldLink RX1 13 "CodeBlocksModel" "row" "[I", .fieldLink RX1 46 "CodeBlocksModel" "rows" "I", .fieldLink RX1 25 "CodeBlocksModel" "counts" "[I", .methodLink RX1 56 yX1_wrong, .instanceMethod yX1_wrong, .selects RX1 yX1_wrong yX1_wrong, .code yX1_wrong cX1_wrong 3 (some .int), .fieldLink RX1 36 "CodeBlocksModel" "mends" "Z"] ++ wsX10)
def wsL_law_r1 : List Cond := [Cond.classLink RL 7 RX0, Cond.instantiable RX0 13, Cond.initialized RX0, Cond.classLink RL 10 RX1, Cond.instantiable RX1 14, Cond.initialized RX1, Cond.methodLink RL 9 yX0_init, Cond.instanceMethod yX0_init, Cond.code yX0_init cX0_init 1 none, Cond.methodLink RX0 3 objectInit, Cond.instanceMethod objectInit, Cond.code objectInit ⟨#[0xb1]⟩ 1 none, Cond.fieldLink RX0 9 "CodeBlocks" "state" "I", Cond.arrayClass .int, Cond.fieldLink RX0 13 "CodeBlocks" "row" "[I", Cond.fieldLink RX0 17 "CodeBlocks" "received" "[I", Cond.fieldLink RX0 20 "CodeBlocks" "counts" "[I", Cond.fieldLink RX0 23 "CodeBlocks" "waiting" "[I", Cond.fieldLink RX0 26 "CodeBlocks" "sent" "[I", Cond.methodLink RL 12 yX1_init, Cond.instanceMethod yX1_init, Cond.code yX1_init cX1_init 1 none, Cond.methodLink RX1 1 objectInit, Cond.fieldLink RX1 7 "CodeBlocksModel" "bits" "[I"]
def wsL_law_r2 : List Cond := [Cond.fieldLink RX1 13 "CodeBlocksModel" "row" "[I", Cond.fieldLink RX1 16 "CodeBlocksModel" "received" "[I", Cond.fieldLink RX1 19 "CodeBlocksModel" "wanted" "[I", Cond.fieldLink RX1 22 "CodeBlocksModel" "sent" "[I", Cond.fieldLink RX1 25 "CodeBlocksModel" "counts" "[I", Cond.methodLink RL 13 yX0_turn, Cond.instanceMethod yX0_turn, Cond.selects RX0 yX0_turn yX0_turn, Cond.code yX0_turn cX0_turn 2 (some .boolean), Cond.methodLink RX0 29 yX0_beginSearch, Cond.instanceMethod yX0_beginSearch, Cond.selects RX0 yX0_beginSearch yX0_beginSearch, Cond.code yX0_beginSearch cX0_beginSearch 1 none, Cond.fieldLink RX0 69 "CodeBlocks" "came" "I", Cond.methodLink RL 17 yX1_turn, Cond.instanceMethod yX1_turn, Cond.selects RX1 yX1_turn yX1_turn, Cond.code yX1_turn cX1_turn 2 (some .boolean), Cond.fieldLink RX1 28 "CodeBlocksModel" "thrown" "I", Cond.fieldLink RX1 40 "CodeBlocksModel" "state" "I", Cond.fieldLink RX1 46 "CodeBlocksModel" "rows" "I", Cond.methodLink RX1 52 yX1_begins, Cond.instanceMethod yX1_begins, Cond.selects RX1 yX1_begins yX1_begins]
def wsL_law_r3 : List Cond := [Cond.code yX1_begins cX1_begins 2 none, Cond.fieldLink RX1 43 "CodeBlocksModel" "many" "I", Cond.methodLink RL 18 yX0_mending, Cond.instanceMethod yX0_mending, Cond.selects RX0 yX0_mending yX0_mending, Cond.code yX0_mending cX0_mending 2 none, Cond.fieldLink RX0 32 "CodeBlocks" "mends" "Z", Cond.methodLink RL 22 yX1_mending, Cond.instanceMethod yX1_mending, Cond.selects RX1 yX1_mending yX1_mending, Cond.code yX1_mending cX1_mending 2 none, Cond.fieldLink RX1 36 "CodeBlocksModel" "mends" "Z", Cond.methodLink RL 25 yX0_take, Cond.instanceMethod yX0_take, Cond.selects RX0 yX0_take yX0_take, Cond.code yX0_take cX0_take 6 (some .int), Cond.methodLink RX0 36 yX0_takeBit, Cond.instanceMethod yX0_takeBit, Cond.selects RX0 yX0_takeBit yX0_takeBit, Cond.code yX0_takeBit cX0_takeBit 3 none, Cond.fieldLink RX0 72 "CodeBlocks" "bits" "J", Cond.methodLink RX0 76 yX0_lookForStart, Cond.instanceMethod yX0_lookForStart, Cond.selects RX0 yX0_lookForStart yX0_lookForStart]
def wsL_law_r4 : List Cond := [Cond.code yX0_lookForStart cX0_lookForStart 2 none, Cond.constantLong RX0 82 (65535), Cond.constant RX0 84 (60304), Cond.methodLink RX0 85 yJ6_bitCount_0f7a4, Cond.static yJ6_bitCount_0f7a4, Cond.initialized RJ6, Cond.code yJ6_bitCount_0f7a4 cJ6_bitCount_0f7a4 1 (some .int), Cond.constant RJ6 265 (1431655765), Cond.constant RJ6 266 (858993459), Cond.constant RJ6 267 (252645135), Cond.methodLink RX0 91 yX0_beginTransmission, Cond.instanceMethod yX0_beginTransmission, Cond.selects RX0 yX0_beginTransmission yX0_beginTransmission, Cond.code yX0_beginTransmission cX0_beginTransmission 1 none, Cond.fieldLink RX0 94 "CodeBlocks" "rowSize" "I", Cond.methodLink RX0 79 yX0_lookAtBlock, Cond.instanceMethod yX0_lookAtBlock, Cond.selects RX0 yX0_lookAtBlock yX0_lookAtBlock, Cond.code yX0_lookAtBlock cX0_lookAtBlock 5 none, Cond.constantLong RX0 97 (127), Cond.methodLink RX0 99 yX0_remainderOf, Cond.static yX0_remainderOf, Cond.code yX0_remainderOf cX0_remainderOf 4 (some .int), Cond.methodLink RX0 116 yX0_reduced]
def wsL_law_r5 : List Cond := [Cond.static yX0_reduced, Cond.code yX0_reduced cX0_reduced 1 (some .int), Cond.methodLink RX0 103 yX0_powerWithRemainder, Cond.static yX0_powerWithRemainder, Cond.code yX0_powerWithRemainder cX0_powerWithRemainder 3 (some .int), Cond.methodLink RX0 106 yX0_keepData, Cond.instanceMethod yX0_keepData, Cond.selects RX0 yX0_keepData yX0_keepData, Cond.code yX0_keepData cX0_keepData 6 none, Cond.methodLink RX0 112 yX0_byteOf, Cond.static yX0_byteOf, Cond.code yX0_byteOf cX0_byteOf 3 (some .int), Cond.methodLink RX0 109 yX0_endTransmission, Cond.instanceMethod yX0_endTransmission, Cond.selects RX0 yX0_endTransmission yX0_endTransmission, Cond.code yX0_endTransmission cX0_endTransmission 2 none, Cond.fieldLink RX0 40 "CodeBlocks" "receivedSize" "I", Cond.methodLink RL 29 yX1_take, Cond.instanceMethod yX1_take, Cond.selects RX1 yX1_take yX1_take, Cond.code yX1_take cX1_take 6 (some .int), Cond.methodLink RX1 70 yX1_bit, Cond.instanceMethod yX1_bit, Cond.selects RX1 yX1_bit yX1_bit]
def wsL_law_r6 : List Cond := [Cond.code yX1_bit cX1_bit 3 (some .int), Cond.methodLink RX1 64 yX1_block, Cond.instanceMethod yX1_block, Cond.selects RX1 yX1_block yX1_block, Cond.code yX1_block cX1_block 5 (some .int), Cond.methodLink RX1 56 yX1_wrong, Cond.instanceMethod yX1_wrong, Cond.selects RX1 yX1_wrong yX1_wrong, Cond.code yX1_wrong cX1_wrong 3 (some .int), Cond.methodLink RL 30 yX0_state, Cond.instanceMethod yX0_state, Cond.selects RX0 yX0_state yX0_state, Cond.code yX0_state cX0_state 1 (some .int), Cond.methodLink RL 35 yX0_count, Cond.instanceMethod yX0_count, Cond.selects RX0 yX0_count yX0_count, Cond.code yX0_count cX0_count 2 (some .int), Cond.methodLink RL 40 yX0_size, Cond.instanceMethod yX0_size, Cond.selects RX0 yX0_size yX0_size, Cond.code yX0_size cX0_size 1 (some .int), Cond.methodLink RL 44 yX0_byteAt, Cond.instanceMethod yX0_byteAt, Cond.selects RX0 yX0_byteAt yX0_byteAt]
def wsL_law_r7 : List Cond := [Cond.code yX0_byteAt cX0_byteAt 2 (some .int), Cond.methodLink RL 48 yX0_put, Cond.instanceMethod yX0_put, Cond.selects RX0 yX0_put yX0_put, Cond.code yX0_put cX0_put 2 (some .int), Cond.fieldLink RX0 43 "CodeBlocks" "waitingSize" "I", Cond.methodLink RL 52 yX0_send, Cond.instanceMethod yX0_send, Cond.selects RX0 yX0_send yX0_send, Cond.code yX0_send cX0_send 5 (some .int), Cond.fieldLink RX0 49 "CodeBlocks" "sentSize" "I", Cond.constantLong RX0 52 (60304), Cond.fieldLink RX0 66 "CodeBlocks" "TAIL" "[I", Cond.methodLink RX0 46 yX0_fillLastBlock, Cond.instanceMethod yX0_fillLastBlock, Cond.selects RX0 yX0_fillLastBlock yX0_fillLastBlock, Cond.code yX0_fillLastBlock cX0_fillLastBlock 2 none, Cond.methodLink RX0 119 yX0_put, Cond.methodLink RX0 54 yX0_sendBytes, Cond.instanceMethod yX0_sendBytes, Cond.selects RX0 yX0_sendBytes yX0_sendBytes, Cond.code yX0_sendBytes cX0_sendBytes 5 none, Cond.methodLink RX0 58 yX0_waitingData, Cond.instanceMethod yX0_waitingData]
def wsL_law_r8 : List Cond := [Cond.selects RX0 yX0_waitingData yX0_waitingData, Cond.code yX0_waitingData cX0_waitingData 5 (some .long), Cond.methodLink RX0 62 yX0_blockOf, Cond.static yX0_blockOf, Cond.code yX0_blockOf cX0_blockOf 4 (some .long), Cond.methodLink RL 56 yX0_sent, Cond.instanceMethod yX0_sent, Cond.selects RX0 yX0_sent yX0_sent, Cond.code yX0_sent cX0_sent 2 (some .int)]
def wsL_law : List Cond := (wsL_law_r1 ++ (wsL_law_r2 ++ (wsL_law_r3 ++ (wsL_law_r4 ++ (wsL_law_r5 ++ (wsL_law_r6 ++ (wsL_law_r7 ++ wsL_law_r8))))))) ++ wsX00 ++ wsX10 ++ ([] : List Cond)
set_option maxRecDepth 20000 in
theorem wsL_law_in : ∀ w ∈ wsL_law, w ∈ lw_tbl := fun w h => (goodIn_p wsL_law [27, 30, 184, 75, 79, 232, 236, 83, 240, 87, 91, 95, 100, 107, 111, 115, 118, 121, 125, 128, 132, 244, 248, 252, 256, 136, 140, 144, 148, 152, 156, 160, 166, 170, 173, 179] (by decide +kernel) (by decide +kernel) w h).1
theorem inlX0 : ∀ w ∈ wsX00, w ∈ wsL_law := fun _ h => List.mem_append_left _ (List.mem_append_left _ (List.mem_append_right _ h))
theorem inX0 : ∀ w ∈ wsX00, w ∈ lw_tbl := fun w h => wsL_law_in w (inlX0 w h)
theorem inlX1 : ∀ w ∈ wsX10, w ∈ wsL_law := fun _ h => List.mem_append_left _ (List.mem_append_right _ h)
theorem inX1 : ∀ w ∈ wsX10, w ∈ lw_tbl := fun w h => wsL_law_in w (inlX1 w h)
theorem inJ6 : ∀ w ∈ wsJ60, w ∈ lw_tbl := by decide +kernel
theorem dX0_init_0 : decode cX0_init 0 = .ok (.aload_n 0, 1) := by decide +kernel
theorem dX0_init_1 : decode cX0_init 1 = .ok (.invokespecial 3, 3) := by decide +kernel
theorem dX0_init_4 : decode cX0_init 4 = .ok (.aload_n 0, 1) := by decide +kernel
theorem dX0_init_5 : decode cX0_init 5 = .ok (.iconst 0, 1) := by decide +kernel
theorem dX0_init_6 : decode cX0_init 6 = .ok (.putfield 9, 3) := by decide +kernel
theorem dX0_init_9 : decode cX0_init 9 = .ok (.aload_n 0, 1) := by decide +kernel
theorem dX0_init_10 : decode cX0_init 10 = .ok (.sipush 259, 3) := by decide +kernel
theorem dX0_init_13 : decode cX0_init 13 = .ok (.newarray .int, 2) := by decide +kernel
theorem dX0_init_15 : decode cX0_init 15 = .ok (.putfield 13, 3) := by decide +kernel
theorem dX0_init_18 : decode cX0_init 18 = .ok (.aload_n 0, 1) := by decide +kernel
theorem dX0_init_19 : decode cX0_init 19 = .ok (.sipush 259, 3) := by decide +kernel
theorem dX0_init_22 : decode cX0_init 22 = .ok (.newarray .int, 2) := by decide +kernel
theorem dX0_init_24 : decode cX0_init 24 = .ok (.putfield 17, 3) := by decide +kernel
theorem dX0_init_27 : decode cX0_init 27 = .ok (.aload_n 0, 1) := by decide +kernel
theorem dX0_init_28 : decode cX0_init 28 = .ok (.iconst 5, 1) := by decide +kernel
theorem dX0_init_29 : decode cX0_init 29 = .ok (.newarray .int, 2) := by decide +kernel
theorem dX0_init_31 : decode cX0_init 31 = .ok (.putfield 20, 3) := by decide +kernel
theorem dX0_init_34 : decode cX0_init 34 = .ok (.aload_n 0, 1) := by decide +kernel
theorem dX0_init_35 : decode cX0_init 35 = .ok (.sipush 259, 3) := by decide +kernel
theorem dX0_init_38 : decode cX0_init 38 = .ok (.newarray .int, 2) := by decide +kernel
theorem dX0_init_40 : decode cX0_init 40 = .ok (.putfield 23, 3) := by decide +kernel
theorem dX0_init_43 : decode cX0_init 43 = .ok (.aload_n 0, 1) := by decide +kernel
theorem dX0_init_44 : decode cX0_init 44 = .ok (.sipush 306, 3) := by decide +kernel
theorem dX0_init_47 : decode cX0_init 47 = .ok (.newarray .int, 2) := by decide +kernel
theorem dX0_init_49 : decode cX0_init 49 = .ok (.putfield 26, 3) := by decide +kernel
theorem dX0_init_52 : decode cX0_init 52 = .ok (.return_, 1) := by decide +kernel
set_option maxRecDepth 20000 in
theorem ggX0_turn_X0_beginSearch : GoodIn wsX0_turn wsX0_beginSearch := goodIn_r _ [6, 1, 7, 8, 9, 10, 11, 12, 13, 14, 15, 16, 17, 18, 19, 20] (by decide +kernel) (by decide +kernel)
set_option maxRecDepth 20000 in
theorem gX0_turn_X0_beginSearch : GoodIn wsX0_turn (wsV RX0 29 RX0 yX0_beginSearch wsX0_beginSearch) := goodIn_app (goodIn_of _ (by decide +kernel)) ggX0_turn_X0_beginSearch
theorem dX0_turn_0 : decode cX0_turn 0 = .ok (.iload_n 1, 1) := by decide +kernel
theorem dX0_turn_1 : decode cX0_turn 1 = .ok (.aload_n 0, 1) := by decide +kernel
theorem dX0_turn_2 : decode cX0_turn 2 = .ok (.getfield 9, 3) := by decide +kernel
theorem dX0_turn_5 : decode cX0_turn 5 = .ok (.ifCond .eq 7, 3) := by decide +kernel
theorem dX0_turn_8 : decode cX0_turn 8 = .ok (.iconst 1, 1) := by decide +kernel
theorem dX0_turn_9 : decode cX0_turn 9 = .ok (.goto 4, 3) := by decide +kernel
theorem dX0_turn_12 : decode cX0_turn 12 = .ok (.iconst 0, 1) := by decide +kernel
theorem dX0_turn_13 : decode cX0_turn 13 = .ok (.if_icmp .ne 5, 3) := by decide +kernel
theorem dX0_turn_16 : decode cX0_turn 16 = .ok (.iconst 0, 1) := by decide +kernel
theorem dX0_turn_17 : decode cX0_turn 17 = .ok (.ireturn, 1) := by decide +kernel
theorem dX0_turn_18 : decode cX0_turn 18 = .ok (.iload_n 1, 1) := by decide +kernel
theorem dX0_turn_19 : decode cX0_turn 19 = .ok (.ifCond .eq 10, 3) := by decide +kernel
theorem dX0_turn_22 : decode cX0_turn 22 = .ok (.aload_n 0, 1) := by decide +kernel
theorem dX0_turn_23 : decode cX0_turn 23 = .ok (.invokevirtual 29, 3) := by decide +kernel
theorem dX0_turn_26 : decode cX0_turn 26 = .ok (.goto 8, 3) := by decide +kernel
theorem dX0_turn_29 : decode cX0_turn 29 = .ok (.aload_n 0, 1) := by decide +kernel
theorem dX0_turn_30 : decode cX0_turn 30 = .ok (.iconst 0, 1) := by decide +kernel
theorem dX0_turn_31 : decode cX0_turn 31 = .ok (.putfield 9, 3) := by decide +kernel
theorem dX0_turn_34 : decode cX0_turn 34 = .ok (.iconst 1, 1) := by decide +kernel
theorem dX0_turn_35 : decode cX0_turn 35 = .ok (.ireturn, 1) := by decide +kernel
theorem dX0_mending_0 : decode cX0_mending 0 = .ok (.aload_n 0, 1) := by decide +kernel
theorem dX0_mending_1 : decode cX0_mending 1 = .ok (.iload_n 1, 1) := by decide +kernel
theorem dX0_mending_2 : decode cX0_mending 2 = .ok (.putfield 32, 3) := by decide +kernel
theorem dX0_mending_5 : decode cX0_mending 5 = .ok (.return_, 1) := by decide +kernel
set_option maxRecDepth 20000 in
theorem ggX0_take_X0_takeBit : GoodIn wsX0_take wsX0_takeBit := goodIn_r _ [7, 8, 9, 1, 10, 11, 12, 6, 13, 14, 15, 16, 2, 17, 18, 19, 20, 21, 22, 23, 24, 25, 26, 27, 28, 29, 30, 31, 32, 33, 34, 35, 36, 37, 38, 39, 40, 41, 42, 43, 44, 45, 46, 47, 48, 49, 50, 51, 52, 53, 54, 55, 56, 57, 58, 59, 60, 61, 62, 63, 64, 65, 66, 67, 68, 69, 70, 71, 72, 73] (by decide +kernel) (by decide +kernel)
set_option maxRecDepth 20000 in
theorem gX0_take_X0_takeBit : GoodIn wsX0_take (wsV RX0 36 RX0 yX0_takeBit wsX0_takeBit) := goodIn_app (goodIn_of _ (by decide +kernel)) ggX0_take_X0_takeBit
theorem dX0_take_0 : decode cX0_take 0 = .ok (.aload_n 0, 1) := by decide +kernel
theorem dX0_take_1 : decode cX0_take 1 = .ok (.getfield 9, 3) := by decide +kernel
theorem dX0_take_4 : decode cX0_take 4 = .ok (.ifCond .eq 14, 3) := by decide +kernel
theorem dX0_take_7 : decode cX0_take 7 = .ok (.iload_n 1, 1) := by decide +kernel
theorem dX0_take_8 : decode cX0_take 8 = .ok (.iconst 1, 1) := by decide +kernel
theorem dX0_take_9 : decode cX0_take 9 = .ok (.if_icmp .lt 9, 3) := by decide +kernel
theorem dX0_take_12 : decode cX0_take 12 = .ok (.iload_n 1, 1) := by decide +kernel
theorem dX0_take_13 : decode cX0_take 13 = .ok (.bipush 64, 2) := by decide +kernel
theorem dX0_take_15 : decode cX0_take 15 = .ok (.if_icmp .le 5, 3) := by decide +kernel
theorem dX0_take_18 : decode cX0_take 18 = .ok (.iconst (-1), 1) := by decide +kernel
theorem dX0_take_19 : decode cX0_take 19 = .ok (.ireturn, 1) := by decide +kernel
theorem dX0_take_20 : decode cX0_take 20 = .ok (.aload_n 0, 1) := by decide +kernel
theorem dX0_take_21 : decode cX0_take 21 = .ok (.getfield 20, 3) := by decide +kernel
theorem dX0_take_24 : decode cX0_take 24 = .ok (.iconst 1, 1) := by decide +kernel
theorem dX0_take_25 : decode cX0_take 25 = .ok (.iaload, 1) := by decide +kernel
theorem dX0_take_26 : decode cX0_take 26 = .ok (.istore 4, 2) := by decide +kernel
theorem dX0_take_28 : decode cX0_take 28 = .ok (.iload_n 1, 1) := by decide +kernel
theorem dX0_take_29 : decode cX0_take 29 = .ok (.iconst 1, 1) := by decide +kernel
theorem dX0_take_30 : decode cX0_take 30 = .ok (.isub, 1) := by decide +kernel
theorem dX0_take_31 : decode cX0_take 31 = .ok (.istore 5, 2) := by decide +kernel
theorem dX0_take_33 : decode cX0_take 33 = .ok (.iload 5, 2) := by decide +kernel
theorem dX0_take_35 : decode cX0_take 35 = .ok (.ifCond .lt 19, 3) := by decide +kernel
theorem dX0_take_38 : decode cX0_take 38 = .ok (.aload_n 0, 1) := by decide +kernel
theorem dX0_take_39 : decode cX0_take 39 = .ok (.lload_n 2, 1) := by decide +kernel
theorem dX0_take_40 : decode cX0_take 40 = .ok (.iload 5, 2) := by decide +kernel
theorem dX0_take_42 : decode cX0_take 42 = .ok (.lushr, 1) := by decide +kernel
theorem dX0_take_43 : decode cX0_take 43 = .ok (.lconst 1, 1) := by decide +kernel
theorem dX0_take_44 : decode cX0_take 44 = .ok (.land, 1) := by decide +kernel
theorem dX0_take_45 : decode cX0_take 45 = .ok (.invokevirtual 36, 3) := by decide +kernel
theorem dX0_take_48 : decode cX0_take 48 = .ok (.iinc 5 (-1), 3) := by decide +kernel
theorem dX0_take_51 : decode cX0_take 51 = .ok (.goto (-18), 3) := by decide +kernel
theorem dX0_take_54 : decode cX0_take 54 = .ok (.aload_n 0, 1) := by decide +kernel
theorem dX0_take_55 : decode cX0_take 55 = .ok (.getfield 20, 3) := by decide +kernel
theorem dX0_take_58 : decode cX0_take 58 = .ok (.iconst 1, 1) := by decide +kernel
theorem dX0_take_59 : decode cX0_take 59 = .ok (.iaload, 1) := by decide +kernel
theorem dX0_take_60 : decode cX0_take 60 = .ok (.iload 4, 2) := by decide +kernel
theorem dX0_take_62 : decode cX0_take 62 = .ok (.isub, 1) := by decide +kernel
theorem dX0_take_63 : decode cX0_take 63 = .ok (.ireturn, 1) := by decide +kernel
theorem dX0_state_0 : decode cX0_state 0 = .ok (.aload_n 0, 1) := by decide +kernel
theorem dX0_state_1 : decode cX0_state 1 = .ok (.getfield 9, 3) := by decide +kernel
theorem dX0_state_4 : decode cX0_state 4 = .ok (.ireturn, 1) := by decide +kernel
theorem dX0_count_0 : decode cX0_count 0 = .ok (.iload_n 1, 1) := by decide +kernel
theorem dX0_count_1 : decode cX0_count 1 = .ok (.ifCond .lt 21, 3) := by decide +kernel
theorem dX0_count_4 : decode cX0_count 4 = .ok (.iload_n 1, 1) := by decide +kernel
theorem dX0_count_5 : decode cX0_count 5 = .ok (.aload_n 0, 1) := by decide +kernel
theorem dX0_count_6 : decode cX0_count 6 = .ok (.getfield 20, 3) := by decide +kernel
theorem dX0_count_9 : decode cX0_count 9 = .ok (.arraylength, 1) := by decide +kernel
theorem dX0_count_10 : decode cX0_count 10 = .ok (.if_icmp .ge 12, 3) := by decide +kernel
theorem dX0_count_13 : decode cX0_count 13 = .ok (.aload_n 0, 1) := by decide +kernel
theorem dX0_count_14 : decode cX0_count 14 = .ok (.getfield 20, 3) := by decide +kernel
theorem dX0_count_17 : decode cX0_count 17 = .ok (.iload_n 1, 1) := by decide +kernel
theorem dX0_count_18 : decode cX0_count 18 = .ok (.iaload, 1) := by decide +kernel
theorem dX0_count_19 : decode cX0_count 19 = .ok (.goto 4, 3) := by decide +kernel
theorem dX0_count_22 : decode cX0_count 22 = .ok (.iconst (-1), 1) := by decide +kernel
theorem dX0_count_23 : decode cX0_count 23 = .ok (.ireturn, 1) := by decide +kernel
theorem dX0_size_0 : decode cX0_size 0 = .ok (.aload_n 0, 1) := by decide +kernel
theorem dX0_size_1 : decode cX0_size 1 = .ok (.getfield 40, 3) := by decide +kernel
theorem dX0_size_4 : decode cX0_size 4 = .ok (.ireturn, 1) := by decide +kernel
theorem dX0_byteAt_0 : decode cX0_byteAt 0 = .ok (.iload_n 1, 1) := by decide +kernel
theorem dX0_byteAt_1 : decode cX0_byteAt 1 = .ok (.ifCond .lt 29, 3) := by decide +kernel
theorem dX0_byteAt_4 : decode cX0_byteAt 4 = .ok (.iload_n 1, 1) := by decide +kernel
theorem dX0_byteAt_5 : decode cX0_byteAt 5 = .ok (.aload_n 0, 1) := by decide +kernel
theorem dX0_byteAt_6 : decode cX0_byteAt 6 = .ok (.getfield 40, 3) := by decide +kernel
theorem dX0_byteAt_9 : decode cX0_byteAt 9 = .ok (.if_icmp .ge 21, 3) := by decide +kernel
theorem dX0_byteAt_12 : decode cX0_byteAt 12 = .ok (.iload_n 1, 1) := by decide +kernel
theorem dX0_byteAt_13 : decode cX0_byteAt 13 = .ok (.aload_n 0, 1) := by decide +kernel
theorem dX0_byteAt_14 : decode cX0_byteAt 14 = .ok (.getfield 17, 3) := by decide +kernel
theorem dX0_byteAt_17 : decode cX0_byteAt 17 = .ok (.arraylength, 1) := by decide +kernel
theorem dX0_byteAt_18 : decode cX0_byteAt 18 = .ok (.if_icmp .ge 12, 3) := by decide +kernel
theorem dX0_byteAt_21 : decode cX0_byteAt 21 = .ok (.aload_n 0, 1) := by decide +kernel
theorem dX0_byteAt_22 : decode cX0_byteAt 22 = .ok (.getfield 17, 3) := by decide +kernel
theorem dX0_byteAt_25 : decode cX0_byteAt 25 = .ok (.iload_n 1, 1) := by decide +kernel
theorem dX0_byteAt_26 : decode cX0_byteAt 26 = .ok (.iaload, 1) := by decide +kernel
theorem dX0_byteAt_27 : decode cX0_byteAt 27 = .ok (.goto 4, 3) := by decide +kernel
theorem dX0_byteAt_30 : decode cX0_byteAt 30 = .ok (.iconst (-1), 1) := by decide +kernel
theorem dX0_byteAt_31 : decode cX0_byteAt 31 = .ok (.ireturn, 1) := by decide +kernel
theorem dX0_put_0 : decode cX0_put 0 = .ok (.aload_n 0, 1) := by decide +kernel
theorem dX0_put_1 : decode cX0_put 1 = .ok (.getfield 43, 3) := by decide +kernel
theorem dX0_put_4 : decode cX0_put 4 = .ok (.ifCond .lt 15, 3) := by decide +kernel
theorem dX0_put_7 : decode cX0_put 7 = .ok (.aload_n 0, 1) := by decide +kernel
theorem dX0_put_8 : decode cX0_put 8 = .ok (.getfield 43, 3) := by decide +kernel
theorem dX0_put_11 : decode cX0_put 11 = .ok (.aload_n 0, 1) := by decide +kernel
theorem dX0_put_12 : decode cX0_put 12 = .ok (.getfield 23, 3) := by decide +kernel
theorem dX0_put_15 : decode cX0_put 15 = .ok (.arraylength, 1) := by decide +kernel
theorem dX0_put_16 : decode cX0_put 16 = .ok (.if_icmp .lt 5, 3) := by decide +kernel
theorem dX0_put_19 : decode cX0_put 19 = .ok (.iconst (-1), 1) := by decide +kernel
theorem dX0_put_20 : decode cX0_put 20 = .ok (.ireturn, 1) := by decide +kernel
theorem dX0_put_21 : decode cX0_put 21 = .ok (.aload_n 0, 1) := by decide +kernel
theorem dX0_put_22 : decode cX0_put 22 = .ok (.getfield 23, 3) := by decide +kernel
theorem dX0_put_25 : decode cX0_put 25 = .ok (.aload_n 0, 1) := by decide +kernel
theorem dX0_put_26 : decode cX0_put 26 = .ok (.getfield 43, 3) := by decide +kernel
theorem dX0_put_29 : decode cX0_put 29 = .ok (.iload_n 1, 1) := by decide +kernel
theorem dX0_put_30 : decode cX0_put 30 = .ok (.sipush 255, 3) := by decide +kernel
theorem dX0_put_33 : decode cX0_put 33 = .ok (.iand, 1) := by decide +kernel
theorem dX0_put_34 : decode cX0_put 34 = .ok (.iastore, 1) := by decide +kernel
theorem dX0_put_35 : decode cX0_put 35 = .ok (.aload_n 0, 1) := by decide +kernel
theorem dX0_put_36 : decode cX0_put 36 = .ok (.dup, 1) := by decide +kernel
theorem dX0_put_37 : decode cX0_put 37 = .ok (.getfield 43, 3) := by decide +kernel
theorem dX0_put_40 : decode cX0_put 40 = .ok (.iconst 1, 1) := by decide +kernel
theorem dX0_put_41 : decode cX0_put 41 = .ok (.iadd, 1) := by decide +kernel
theorem dX0_put_42 : decode cX0_put 42 = .ok (.putfield 43, 3) := by decide +kernel
theorem dX0_put_45 : decode cX0_put 45 = .ok (.aload_n 0, 1) := by decide +kernel
theorem dX0_put_46 : decode cX0_put 46 = .ok (.getfield 43, 3) := by decide +kernel
theorem dX0_put_49 : decode cX0_put 49 = .ok (.ireturn, 1) := by decide +kernel
set_option maxRecDepth 20000 in
theorem ggX0_send_X0_fillLastBlock : GoodIn wsX0_send wsX0_fillLastBlock := goodIn_r _ [9, 1, 10, 11, 12, 8, 13, 14, 36, 37, 38, 39, 40, 41, 42, 43, 44, 45, 46, 47, 48] (by decide +kernel) (by decide +kernel)
set_option maxRecDepth 20000 in
theorem gX0_send_X0_fillLastBlock : GoodIn wsX0_send (wsV RX0 46 RX0 yX0_fillLastBlock wsX0_fillLastBlock) := goodIn_app (goodIn_of _ (by decide +kernel)) ggX0_send_X0_fillLastBlock
set_option maxRecDepth 20000 in
theorem ggX0_send_X0_sendBytes : GoodIn wsX0_send wsX0_sendBytes := goodIn_r _ [18, 2, 19, 20, 21, 8, 22, 36, 37, 38, 39, 40, 41, 42, 43, 44, 45, 46, 47, 48] (by decide +kernel) (by decide +kernel)
set_option maxRecDepth 20000 in
theorem gX0_send_X0_sendBytes : GoodIn wsX0_send (wsV RX0 54 RX0 yX0_sendBytes wsX0_sendBytes) := goodIn_app (goodIn_of _ (by decide +kernel)) ggX0_send_X0_sendBytes
set_option maxRecDepth 20000 in
theorem ggX0_send_X0_waitingData : GoodIn wsX0_send wsX0_waitingData := goodIn_r _ [26, 14, 36, 37, 38, 39, 40, 41, 42, 43, 44, 45, 46, 47, 48] (by decide +kernel) (by decide +kernel)
set_option maxRecDepth 20000 in
theorem gX0_send_X0_waitingData : GoodIn wsX0_send (wsV RX0 58 RX0 yX0_waitingData wsX0_waitingData) := goodIn_app (goodIn_of _ (by decide +kernel)) ggX0_send_X0_waitingData
set_option maxRecDepth 20000 in
theorem ggX0_send_X0_blockOf : GoodIn wsX0_send wsX0_blockOf := goodIn_r _ [29, 30, 31, 8, 32, 33, 34, 35] (by decide +kernel) (by decide +kernel)
set_option maxRecDepth 20000 in
theorem gX0_send_X0_blockOf : GoodIn wsX0_send (va_wsS RX0 62 yX0_blockOf wsX0_blockOf) := goodIn_app (goodIn_of _ (by decide +kernel)) ggX0_send_X0_blockOf
theorem dX0_send_0 : decode cX0_send 0 = .ok (.aload_n 0, 1) := by decide +kernel
theorem dX0_send_1 : decode cX0_send 1 = .ok (.getfield 43, 3) := by decide +kernel
theorem dX0_send_4 : decode cX0_send 4 = .ok (.ifCond .ne 5, 3) := by decide +kernel
theorem dX0_send_7 : decode cX0_send 7 = .ok (.iconst (-1), 1) := by decide +kernel
theorem dX0_send_8 : decode cX0_send 8 = .ok (.ireturn, 1) := by decide +kernel
theorem dX0_send_9 : decode cX0_send 9 = .ok (.aload_n 0, 1) := by decide +kernel
theorem dX0_send_10 : decode cX0_send 10 = .ok (.invokevirtual 46, 3) := by decide +kernel
theorem dX0_send_13 : decode cX0_send 13 = .ok (.aload_n 0, 1) := by decide +kernel
theorem dX0_send_14 : decode cX0_send 14 = .ok (.iconst 0, 1) := by decide +kernel
theorem dX0_send_15 : decode cX0_send 15 = .ok (.putfield 49, 3) := by decide +kernel
theorem dX0_send_18 : decode cX0_send 18 = .ok (.aload_n 0, 1) := by decide +kernel
theorem dX0_send_19 : decode cX0_send 19 = .ok (.ldc2_w 52, 3) := by decide +kernel
theorem dX0_send_22 : decode cX0_send 22 = .ok (.iconst 2, 1) := by decide +kernel
theorem dX0_send_23 : decode cX0_send 23 = .ok (.invokevirtual 54, 3) := by decide +kernel
theorem dX0_send_26 : decode cX0_send 26 = .ok (.iconst 0, 1) := by decide +kernel
theorem dX0_send_27 : decode cX0_send 27 = .ok (.istore_n 1, 1) := by decide +kernel
theorem dX0_send_28 : decode cX0_send 28 = .ok (.iload_n 1, 1) := by decide +kernel
theorem dX0_send_29 : decode cX0_send 29 = .ok (.aload_n 0, 1) := by decide +kernel
theorem dX0_send_30 : decode cX0_send 30 = .ok (.getfield 43, 3) := by decide +kernel
theorem dX0_send_33 : decode cX0_send 33 = .ok (.if_icmp .ge 23, 3) := by decide +kernel
theorem dX0_send_36 : decode cX0_send 36 = .ok (.aload_n 0, 1) := by decide +kernel
theorem dX0_send_37 : decode cX0_send 37 = .ok (.aload_n 0, 1) := by decide +kernel
theorem dX0_send_38 : decode cX0_send 38 = .ok (.iload_n 1, 1) := by decide +kernel
theorem dX0_send_39 : decode cX0_send 39 = .ok (.invokevirtual 58, 3) := by decide +kernel
theorem dX0_send_42 : decode cX0_send 42 = .ok (.invokestatic 62, 3) := by decide +kernel
theorem dX0_send_45 : decode cX0_send 45 = .ok (.bipush 8, 2) := by decide +kernel
theorem dX0_send_47 : decode cX0_send 47 = .ok (.invokevirtual 54, 3) := by decide +kernel
theorem dX0_send_50 : decode cX0_send 50 = .ok (.iinc 1 7, 3) := by decide +kernel
theorem dX0_send_53 : decode cX0_send 53 = .ok (.goto (-25), 3) := by decide +kernel
theorem dX0_send_56 : decode cX0_send 56 = .ok (.getstatic 66, 3) := by decide +kernel
theorem dX0_send_59 : decode cX0_send 59 = .ok (.astore_n 1, 1) := by decide +kernel
theorem dX0_send_60 : decode cX0_send 60 = .ok (.aload_n 1, 1) := by decide +kernel
theorem dX0_send_61 : decode cX0_send 61 = .ok (.arraylength, 1) := by decide +kernel
theorem dX0_send_62 : decode cX0_send 62 = .ok (.istore_n 2, 1) := by decide +kernel
theorem dX0_send_63 : decode cX0_send 63 = .ok (.iconst 0, 1) := by decide +kernel
theorem dX0_send_64 : decode cX0_send 64 = .ok (.istore_n 3, 1) := by decide +kernel
theorem dX0_send_65 : decode cX0_send 65 = .ok (.iload_n 3, 1) := by decide +kernel
theorem dX0_send_66 : decode cX0_send 66 = .ok (.iload_n 2, 1) := by decide +kernel
theorem dX0_send_67 : decode cX0_send 67 = .ok (.if_icmp .ge 22, 3) := by decide +kernel
theorem dX0_send_70 : decode cX0_send 70 = .ok (.aload_n 1, 1) := by decide +kernel
theorem dX0_send_71 : decode cX0_send 71 = .ok (.iload_n 3, 1) := by decide +kernel
theorem dX0_send_72 : decode cX0_send 72 = .ok (.iaload, 1) := by decide +kernel
theorem dX0_send_73 : decode cX0_send 73 = .ok (.istore 4, 2) := by decide +kernel
theorem dX0_send_75 : decode cX0_send 75 = .ok (.aload_n 0, 1) := by decide +kernel
theorem dX0_send_76 : decode cX0_send 76 = .ok (.iload 4, 2) := by decide +kernel
theorem dX0_send_78 : decode cX0_send 78 = .ok (.i2l, 1) := by decide +kernel
theorem dX0_send_79 : decode cX0_send 79 = .ok (.iconst 1, 1) := by decide +kernel
theorem dX0_send_80 : decode cX0_send 80 = .ok (.invokevirtual 54, 3) := by decide +kernel
theorem dX0_send_83 : decode cX0_send 83 = .ok (.iinc 3 1, 3) := by decide +kernel
theorem dX0_send_86 : decode cX0_send 86 = .ok (.goto (-21), 3) := by decide +kernel
theorem dX0_send_89 : decode cX0_send 89 = .ok (.aload_n 0, 1) := by decide +kernel
theorem dX0_send_90 : decode cX0_send 90 = .ok (.iconst 0, 1) := by decide +kernel
theorem dX0_send_91 : decode cX0_send 91 = .ok (.putfield 43, 3) := by decide +kernel
theorem dX0_send_94 : decode cX0_send 94 = .ok (.aload_n 0, 1) := by decide +kernel
theorem dX0_send_95 : decode cX0_send 95 = .ok (.getfield 49, 3) := by decide +kernel
theorem dX0_send_98 : decode cX0_send 98 = .ok (.ireturn, 1) := by decide +kernel
theorem dX0_sent_0 : decode cX0_sent 0 = .ok (.iload_n 1, 1) := by decide +kernel
theorem dX0_sent_1 : decode cX0_sent 1 = .ok (.ifCond .lt 29, 3) := by decide +kernel
theorem dX0_sent_4 : decode cX0_sent 4 = .ok (.iload_n 1, 1) := by decide +kernel
theorem dX0_sent_5 : decode cX0_sent 5 = .ok (.aload_n 0, 1) := by decide +kernel
theorem dX0_sent_6 : decode cX0_sent 6 = .ok (.getfield 49, 3) := by decide +kernel
theorem dX0_sent_9 : decode cX0_sent 9 = .ok (.if_icmp .ge 21, 3) := by decide +kernel
theorem dX0_sent_12 : decode cX0_sent 12 = .ok (.iload_n 1, 1) := by decide +kernel
theorem dX0_sent_13 : decode cX0_sent 13 = .ok (.aload_n 0, 1) := by decide +kernel
theorem dX0_sent_14 : decode cX0_sent 14 = .ok (.getfield 26, 3) := by decide +kernel
theorem dX0_sent_17 : decode cX0_sent 17 = .ok (.arraylength, 1) := by decide +kernel
theorem dX0_sent_18 : decode cX0_sent 18 = .ok (.if_icmp .ge 12, 3) := by decide +kernel
theorem dX0_sent_21 : decode cX0_sent 21 = .ok (.aload_n 0, 1) := by decide +kernel
theorem dX0_sent_22 : decode cX0_sent 22 = .ok (.getfield 26, 3) := by decide +kernel
theorem dX0_sent_25 : decode cX0_sent 25 = .ok (.iload_n 1, 1) := by decide +kernel
theorem dX0_sent_26 : decode cX0_sent 26 = .ok (.iaload, 1) := by decide +kernel
theorem dX0_sent_27 : decode cX0_sent 27 = .ok (.goto 4, 3) := by decide +kernel
theorem dX0_sent_30 : decode cX0_sent 30 = .ok (.iconst (-1), 1) := by decide +kernel
theorem dX0_sent_31 : decode cX0_sent 31 = .ok (.ireturn, 1) := by decide +kernel
theorem dX0_beginSearch_0 : decode cX0_beginSearch 0 = .ok (.aload_n 0, 1) := by decide +kernel
theorem dX0_beginSearch_1 : decode cX0_beginSearch 1 = .ok (.iconst 1, 1) := by decide +kernel
theorem dX0_beginSearch_2 : decode cX0_beginSearch 2 = .ok (.putfield 9, 3) := by decide +kernel
theorem dX0_beginSearch_5 : decode cX0_beginSearch 5 = .ok (.aload_n 0, 1) := by decide +kernel
theorem dX0_beginSearch_6 : decode cX0_beginSearch 6 = .ok (.iconst 0, 1) := by decide +kernel
theorem dX0_beginSearch_7 : decode cX0_beginSearch 7 = .ok (.putfield 69, 3) := by decide +kernel
theorem dX0_beginSearch_10 : decode cX0_beginSearch 10 = .ok (.return_, 1) := by decide +kernel
set_option maxRecDepth 20000 in
theorem ggX0_takeBit_X0_lookForStart : GoodIn wsX0_takeBit wsX0_lookForStart := goodIn_r _ [8, 2, 1, 9, 10, 11, 12, 13, 14, 15, 16, 17, 18, 19, 20, 21, 22, 7, 23, 3, 24, 57, 58, 59, 60, 61, 62, 63, 64, 65, 66, 67, 68, 69] (by decide +kernel) (by decide +kernel)
set_option maxRecDepth 20000 in
theorem gX0_takeBit_X0_lookForStart : GoodIn wsX0_takeBit (wsV RX0 76 RX0 yX0_lookForStart wsX0_lookForStart) := goodIn_app (goodIn_of _ (by decide +kernel)) ggX0_takeBit_X0_lookForStart
set_option maxRecDepth 20000 in
theorem ggX0_takeBit_X0_lookAtBlock : GoodIn wsX0_takeBit wsX0_lookAtBlock := goodIn_r _ [28, 1, 29, 11, 12, 30, 31, 7, 32, 33, 34, 35, 36, 37, 38, 39, 40, 41, 42, 24, 43, 44, 45, 46, 47, 48, 49, 50, 51, 52, 53, 54, 55, 56, 3, 2, 57, 58, 59, 60, 61, 62, 63, 64, 65, 66, 67, 68, 69] (by decide +kernel) (by decide +kernel)
set_option maxRecDepth 20000 in
theorem gX0_takeBit_X0_lookAtBlock : GoodIn wsX0_takeBit (wsV RX0 79 RX0 yX0_lookAtBlock wsX0_lookAtBlock) := goodIn_app (goodIn_of _ (by decide +kernel)) ggX0_takeBit_X0_lookAtBlock
theorem dX0_takeBit_0 : decode cX0_takeBit 0 = .ok (.aload_n 0, 1) := by decide +kernel
theorem dX0_takeBit_1 : decode cX0_takeBit 1 = .ok (.aload_n 0, 1) := by decide +kernel
theorem dX0_takeBit_2 : decode cX0_takeBit 2 = .ok (.getfield 72, 3) := by decide +kernel
theorem dX0_takeBit_5 : decode cX0_takeBit 5 = .ok (.iconst 1, 1) := by decide +kernel
theorem dX0_takeBit_6 : decode cX0_takeBit 6 = .ok (.lshl, 1) := by decide +kernel
theorem dX0_takeBit_7 : decode cX0_takeBit 7 = .ok (.lload_n 1, 1) := by decide +kernel
theorem dX0_takeBit_8 : decode cX0_takeBit 8 = .ok (.lor, 1) := by decide +kernel
theorem dX0_takeBit_9 : decode cX0_takeBit 9 = .ok (.putfield 72, 3) := by decide +kernel
theorem dX0_takeBit_12 : decode cX0_takeBit 12 = .ok (.aload_n 0, 1) := by decide +kernel
theorem dX0_takeBit_13 : decode cX0_takeBit 13 = .ok (.dup, 1) := by decide +kernel
theorem dX0_takeBit_14 : decode cX0_takeBit 14 = .ok (.getfield 69, 3) := by decide +kernel
theorem dX0_takeBit_17 : decode cX0_takeBit 17 = .ok (.iconst 1, 1) := by decide +kernel
theorem dX0_takeBit_18 : decode cX0_takeBit 18 = .ok (.iadd, 1) := by decide +kernel
theorem dX0_takeBit_19 : decode cX0_takeBit 19 = .ok (.putfield 69, 3) := by decide +kernel
theorem dX0_takeBit_22 : decode cX0_takeBit 22 = .ok (.aload_n 0, 1) := by decide +kernel
theorem dX0_takeBit_23 : decode cX0_takeBit 23 = .ok (.getfield 9, 3) := by decide +kernel
theorem dX0_takeBit_26 : decode cX0_takeBit 26 = .ok (.iconst 1, 1) := by decide +kernel
theorem dX0_takeBit_27 : decode cX0_takeBit 27 = .ok (.if_icmp .ne 10, 3) := by decide +kernel
theorem dX0_takeBit_30 : decode cX0_takeBit 30 = .ok (.aload_n 0, 1) := by decide +kernel
theorem dX0_takeBit_31 : decode cX0_takeBit 31 = .ok (.invokevirtual 76, 3) := by decide +kernel
theorem dX0_takeBit_34 : decode cX0_takeBit 34 = .ok (.goto 21, 3) := by decide +kernel
theorem dX0_takeBit_37 : decode cX0_takeBit 37 = .ok (.aload_n 0, 1) := by decide +kernel
theorem dX0_takeBit_38 : decode cX0_takeBit 38 = .ok (.getfield 69, 3) := by decide +kernel
theorem dX0_takeBit_41 : decode cX0_takeBit 41 = .ok (.bipush 64, 2) := by decide +kernel
theorem dX0_takeBit_43 : decode cX0_takeBit 43 = .ok (.if_icmp .ne 12, 3) := by decide +kernel
theorem dX0_takeBit_46 : decode cX0_takeBit 46 = .ok (.aload_n 0, 1) := by decide +kernel
theorem dX0_takeBit_47 : decode cX0_takeBit 47 = .ok (.iconst 0, 1) := by decide +kernel
theorem dX0_takeBit_48 : decode cX0_takeBit 48 = .ok (.putfield 69, 3) := by decide +kernel
theorem dX0_takeBit_51 : decode cX0_takeBit 51 = .ok (.aload_n 0, 1) := by decide +kernel
theorem dX0_takeBit_52 : decode cX0_takeBit 52 = .ok (.invokevirtual 79, 3) := by decide +kernel
theorem dX0_takeBit_55 : decode cX0_takeBit 55 = .ok (.return_, 1) := by decide +kernel
set_option maxRecDepth 20000 in
theorem ggX0_lookForStart_J6_bitCount_0f7a4 : GoodIn wsX0_lookForStart wsJ6_bitCount_0f7a4 := goodIn_r _ [10, 11, 12, 13] (by decide +kernel) (by decide +kernel)
set_option maxRecDepth 20000 in
theorem gX0_lookForStart_J6_bitCount_0f7a4 : GoodIn wsX0_lookForStart (va_wsS RX0 85 yJ6_bitCount_0f7a4 wsJ6_bitCount_0f7a4) := goodIn_app (goodIn_of _ (by decide +kernel)) ggX0_lookForStart_J6_bitCount_0f7a4
set_option maxRecDepth 20000 in
theorem ggX0_lookForStart_X0_beginTransmission : GoodIn wsX0_lookForStart wsX0_beginTransmission := goodIn_r _ [18, 6, 19, 1, 20, 21, 22, 23, 24, 25, 26, 27, 28, 29, 30, 31, 32, 33] (by decide +kernel) (by decide +kernel)
set_option maxRecDepth 20000 in
theorem gX0_lookForStart_X0_beginTransmission : GoodIn wsX0_lookForStart (wsV RX0 91 RX0 yX0_beginTransmission wsX0_beginTransmission) := goodIn_app (goodIn_of _ (by decide +kernel)) ggX0_lookForStart_X0_beginTransmission
theorem dX0_lookForStart_0 : decode cX0_lookForStart 0 = .ok (.aload_n 0, 1) := by decide +kernel
theorem dX0_lookForStart_1 : decode cX0_lookForStart 1 = .ok (.getfield 69, 3) := by decide +kernel
theorem dX0_lookForStart_4 : decode cX0_lookForStart 4 = .ok (.bipush 16, 2) := by decide +kernel
theorem dX0_lookForStart_6 : decode cX0_lookForStart 6 = .ok (.if_icmp .ge 4, 3) := by decide +kernel
theorem dX0_lookForStart_9 : decode cX0_lookForStart 9 = .ok (.return_, 1) := by decide +kernel
theorem dX0_lookForStart_10 : decode cX0_lookForStart 10 = .ok (.aload_n 0, 1) := by decide +kernel
theorem dX0_lookForStart_11 : decode cX0_lookForStart 11 = .ok (.getfield 72, 3) := by decide +kernel
theorem dX0_lookForStart_14 : decode cX0_lookForStart 14 = .ok (.ldc2_w 82, 3) := by decide +kernel
theorem dX0_lookForStart_17 : decode cX0_lookForStart 17 = .ok (.land, 1) := by decide +kernel
theorem dX0_lookForStart_18 : decode cX0_lookForStart 18 = .ok (.l2i, 1) := by decide +kernel
theorem dX0_lookForStart_19 : decode cX0_lookForStart 19 = .ok (.ldc 84, 2) := by decide +kernel
theorem dX0_lookForStart_21 : decode cX0_lookForStart 21 = .ok (.ixor, 1) := by decide +kernel
theorem dX0_lookForStart_22 : decode cX0_lookForStart 22 = .ok (.invokestatic 85, 3) := by decide +kernel
theorem dX0_lookForStart_25 : decode cX0_lookForStart 25 = .ok (.istore_n 1, 1) := by decide +kernel
theorem dX0_lookForStart_26 : decode cX0_lookForStart 26 = .ok (.iload_n 1, 1) := by decide +kernel
theorem dX0_lookForStart_27 : decode cX0_lookForStart 27 = .ok (.ifCond .ne 10, 3) := by decide +kernel
theorem dX0_lookForStart_30 : decode cX0_lookForStart 30 = .ok (.aload_n 0, 1) := by decide +kernel
theorem dX0_lookForStart_31 : decode cX0_lookForStart 31 = .ok (.invokevirtual 91, 3) := by decide +kernel
theorem dX0_lookForStart_34 : decode cX0_lookForStart 34 = .ok (.goto 29, 3) := by decide +kernel
theorem dX0_lookForStart_37 : decode cX0_lookForStart 37 = .ok (.iload_n 1, 1) := by decide +kernel
theorem dX0_lookForStart_38 : decode cX0_lookForStart 38 = .ok (.iconst 1, 1) := by decide +kernel
theorem dX0_lookForStart_39 : decode cX0_lookForStart 39 = .ok (.if_icmp .ne 24, 3) := by decide +kernel
theorem dX0_lookForStart_42 : decode cX0_lookForStart 42 = .ok (.aload_n 0, 1) := by decide +kernel
theorem dX0_lookForStart_43 : decode cX0_lookForStart 43 = .ok (.getfield 32, 3) := by decide +kernel
theorem dX0_lookForStart_46 : decode cX0_lookForStart 46 = .ok (.ifCond .eq 17, 3) := by decide +kernel
theorem dX0_lookForStart_49 : decode cX0_lookForStart 49 = .ok (.aload_n 0, 1) := by decide +kernel
theorem dX0_lookForStart_50 : decode cX0_lookForStart 50 = .ok (.getfield 20, 3) := by decide +kernel
theorem dX0_lookForStart_53 : decode cX0_lookForStart 53 = .ok (.iconst 4, 1) := by decide +kernel
theorem dX0_lookForStart_54 : decode cX0_lookForStart 54 = .ok (.dup2, 1) := by decide +kernel
theorem dX0_lookForStart_55 : decode cX0_lookForStart 55 = .ok (.iaload, 1) := by decide +kernel
theorem dX0_lookForStart_56 : decode cX0_lookForStart 56 = .ok (.iconst 1, 1) := by decide +kernel
theorem dX0_lookForStart_57 : decode cX0_lookForStart 57 = .ok (.iadd, 1) := by decide +kernel
theorem dX0_lookForStart_58 : decode cX0_lookForStart 58 = .ok (.iastore, 1) := by decide +kernel
theorem dX0_lookForStart_59 : decode cX0_lookForStart 59 = .ok (.aload_n 0, 1) := by decide +kernel
theorem dX0_lookForStart_60 : decode cX0_lookForStart 60 = .ok (.invokevirtual 91, 3) := by decide +kernel
theorem dX0_lookForStart_63 : decode cX0_lookForStart 63 = .ok (.return_, 1) := by decide +kernel
theorem dX0_beginTransmission_0 : decode cX0_beginTransmission 0 = .ok (.aload_n 0, 1) := by decide +kernel
theorem dX0_beginTransmission_1 : decode cX0_beginTransmission 1 = .ok (.getfield 20, 3) := by decide +kernel
theorem dX0_beginTransmission_4 : decode cX0_beginTransmission 4 = .ok (.iconst 0, 1) := by decide +kernel
theorem dX0_beginTransmission_5 : decode cX0_beginTransmission 5 = .ok (.dup2, 1) := by decide +kernel
theorem dX0_beginTransmission_6 : decode cX0_beginTransmission 6 = .ok (.iaload, 1) := by decide +kernel
theorem dX0_beginTransmission_7 : decode cX0_beginTransmission 7 = .ok (.iconst 1, 1) := by decide +kernel
theorem dX0_beginTransmission_8 : decode cX0_beginTransmission 8 = .ok (.iadd, 1) := by decide +kernel
theorem dX0_beginTransmission_9 : decode cX0_beginTransmission 9 = .ok (.iastore, 1) := by decide +kernel
theorem dX0_beginTransmission_10 : decode cX0_beginTransmission 10 = .ok (.aload_n 0, 1) := by decide +kernel
theorem dX0_beginTransmission_11 : decode cX0_beginTransmission 11 = .ok (.iconst 2, 1) := by decide +kernel
theorem dX0_beginTransmission_12 : decode cX0_beginTransmission 12 = .ok (.putfield 9, 3) := by decide +kernel
theorem dX0_beginTransmission_15 : decode cX0_beginTransmission 15 = .ok (.aload_n 0, 1) := by decide +kernel
theorem dX0_beginTransmission_16 : decode cX0_beginTransmission 16 = .ok (.iconst 0, 1) := by decide +kernel
theorem dX0_beginTransmission_17 : decode cX0_beginTransmission 17 = .ok (.putfield 69, 3) := by decide +kernel
theorem dX0_beginTransmission_20 : decode cX0_beginTransmission 20 = .ok (.aload_n 0, 1) := by decide +kernel
theorem dX0_beginTransmission_21 : decode cX0_beginTransmission 21 = .ok (.iconst 0, 1) := by decide +kernel
theorem dX0_beginTransmission_22 : decode cX0_beginTransmission 22 = .ok (.putfield 94, 3) := by decide +kernel
theorem dX0_beginTransmission_25 : decode cX0_beginTransmission 25 = .ok (.return_, 1) := by decide +kernel
set_option maxRecDepth 20000 in
theorem ggX0_lookAtBlock_X0_remainderOf : GoodIn wsX0_lookAtBlock wsX0_remainderOf := goodIn_r _ [8, 9, 10, 7, 11] (by decide +kernel) (by decide +kernel)
set_option maxRecDepth 20000 in
theorem gX0_lookAtBlock_X0_remainderOf : GoodIn wsX0_lookAtBlock (va_wsS RX0 99 yX0_remainderOf wsX0_remainderOf) := goodIn_app (goodIn_of _ (by decide +kernel)) ggX0_lookAtBlock_X0_remainderOf
set_option maxRecDepth 20000 in
theorem ggX0_lookAtBlock_X0_powerWithRemainder : GoodIn wsX0_lookAtBlock wsX0_powerWithRemainder := goodIn_r _ [14, 9, 10, 7, 11] (by decide +kernel) (by decide +kernel)
set_option maxRecDepth 20000 in
theorem gX0_lookAtBlock_X0_powerWithRemainder : GoodIn wsX0_lookAtBlock (va_wsS RX0 103 yX0_powerWithRemainder wsX0_powerWithRemainder) := goodIn_app (goodIn_of _ (by decide +kernel)) ggX0_lookAtBlock_X0_powerWithRemainder
set_option maxRecDepth 20000 in
theorem ggX0_lookAtBlock_X0_keepData : GoodIn wsX0_lookAtBlock wsX0_keepData := goodIn_r _ [18, 4, 19, 20, 21, 22, 7, 23, 24, 25, 26, 27, 28, 29, 30, 31, 32, 33, 34, 35, 36, 37, 38, 39, 40, 41, 42, 43, 44, 45, 46, 47, 48] (by decide +kernel) (by decide +kernel)
set_option maxRecDepth 20000 in
theorem gX0_lookAtBlock_X0_keepData : GoodIn wsX0_lookAtBlock (wsV RX0 106 RX0 yX0_keepData wsX0_keepData) := goodIn_app (goodIn_of _ (by decide +kernel)) ggX0_lookAtBlock_X0_keepData
set_option maxRecDepth 20000 in
theorem ggX0_lookAtBlock_X0_endTransmission : GoodIn wsX0_lookAtBlock wsX0_endTransmission := goodIn_r _ [27, 4, 19, 28, 20, 29, 30, 31, 32, 7, 33, 34, 35, 36, 37, 38, 39, 40, 41, 42, 43, 44, 45, 46, 47, 48] (by decide +kernel) (by decide +kernel)
set_option maxRecDepth 20000 in
theorem gX0_lookAtBlock_X0_endTransmission : GoodIn wsX0_lookAtBlock (wsV RX0 109 RX0 yX0_endTransmission wsX0_endTransmission) := goodIn_app (goodIn_of _ (by decide +kernel)) ggX0_lookAtBlock_X0_endTransmission
theorem dX0_lookAtBlock_0 : decode cX0_lookAtBlock 0 = .ok (.aload_n 0, 1) := by decide +kernel
theorem dX0_lookAtBlock_1 : decode cX0_lookAtBlock 1 = .ok (.getfield 72, 3) := by decide +kernel
theorem dX0_lookAtBlock_4 : decode cX0_lookAtBlock 4 = .ok (.iconst 1, 1) := by decide +kernel
theorem dX0_lookAtBlock_5 : decode cX0_lookAtBlock 5 = .ok (.lushr, 1) := by decide +kernel
theorem dX0_lookAtBlock_6 : decode cX0_lookAtBlock 6 = .ok (.ldc2_w 97, 3) := by decide +kernel
theorem dX0_lookAtBlock_9 : decode cX0_lookAtBlock 9 = .ok (.lxor, 1) := by decide +kernel
theorem dX0_lookAtBlock_10 : decode cX0_lookAtBlock 10 = .ok (.lstore_n 1, 1) := by decide +kernel
theorem dX0_lookAtBlock_11 : decode cX0_lookAtBlock 11 = .ok (.lload_n 1, 1) := by decide +kernel
theorem dX0_lookAtBlock_12 : decode cX0_lookAtBlock 12 = .ok (.invokestatic 99, 3) := by decide +kernel
theorem dX0_lookAtBlock_15 : decode cX0_lookAtBlock 15 = .ok (.istore_n 3, 1) := by decide +kernel
theorem dX0_lookAtBlock_16 : decode cX0_lookAtBlock 16 = .ok (.iload_n 3, 1) := by decide +kernel
theorem dX0_lookAtBlock_17 : decode cX0_lookAtBlock 17 = .ok (.invokestatic 103, 3) := by decide +kernel
theorem dX0_lookAtBlock_20 : decode cX0_lookAtBlock 20 = .ok (.istore 4, 2) := by decide +kernel
theorem dX0_lookAtBlock_22 : decode cX0_lookAtBlock 22 = .ok (.iload_n 3, 1) := by decide +kernel
theorem dX0_lookAtBlock_23 : decode cX0_lookAtBlock 23 = .ok (.ifCond .ne 11, 3) := by decide +kernel
theorem dX0_lookAtBlock_26 : decode cX0_lookAtBlock 26 = .ok (.aload_n 0, 1) := by decide +kernel
theorem dX0_lookAtBlock_27 : decode cX0_lookAtBlock 27 = .ok (.lload_n 1, 1) := by decide +kernel
theorem dX0_lookAtBlock_28 : decode cX0_lookAtBlock 28 = .ok (.invokevirtual 106, 3) := by decide +kernel
theorem dX0_lookAtBlock_31 : decode cX0_lookAtBlock 31 = .ok (.goto 43, 3) := by decide +kernel
theorem dX0_lookAtBlock_34 : decode cX0_lookAtBlock 34 = .ok (.aload_n 0, 1) := by decide +kernel
theorem dX0_lookAtBlock_35 : decode cX0_lookAtBlock 35 = .ok (.getfield 32, 3) := by decide +kernel
theorem dX0_lookAtBlock_38 : decode cX0_lookAtBlock 38 = .ok (.ifCond .eq 32, 3) := by decide +kernel
theorem dX0_lookAtBlock_41 : decode cX0_lookAtBlock 41 = .ok (.iload 4, 2) := by decide +kernel
theorem dX0_lookAtBlock_43 : decode cX0_lookAtBlock 43 = .ok (.iconst (-1), 1) := by decide +kernel
theorem dX0_lookAtBlock_44 : decode cX0_lookAtBlock 44 = .ok (.if_icmp .eq 26, 3) := by decide +kernel
theorem dX0_lookAtBlock_47 : decode cX0_lookAtBlock 47 = .ok (.aload_n 0, 1) := by decide +kernel
theorem dX0_lookAtBlock_48 : decode cX0_lookAtBlock 48 = .ok (.getfield 20, 3) := by decide +kernel
theorem dX0_lookAtBlock_51 : decode cX0_lookAtBlock 51 = .ok (.iconst 3, 1) := by decide +kernel
theorem dX0_lookAtBlock_52 : decode cX0_lookAtBlock 52 = .ok (.dup2, 1) := by decide +kernel
theorem dX0_lookAtBlock_53 : decode cX0_lookAtBlock 53 = .ok (.iaload, 1) := by decide +kernel
theorem dX0_lookAtBlock_54 : decode cX0_lookAtBlock 54 = .ok (.iconst 1, 1) := by decide +kernel
theorem dX0_lookAtBlock_55 : decode cX0_lookAtBlock 55 = .ok (.iadd, 1) := by decide +kernel
theorem dX0_lookAtBlock_56 : decode cX0_lookAtBlock 56 = .ok (.iastore, 1) := by decide +kernel
theorem dX0_lookAtBlock_57 : decode cX0_lookAtBlock 57 = .ok (.aload_n 0, 1) := by decide +kernel
theorem dX0_lookAtBlock_58 : decode cX0_lookAtBlock 58 = .ok (.lload_n 1, 1) := by decide +kernel
theorem dX0_lookAtBlock_59 : decode cX0_lookAtBlock 59 = .ok (.lconst 1, 1) := by decide +kernel
theorem dX0_lookAtBlock_60 : decode cX0_lookAtBlock 60 = .ok (.iload 4, 2) := by decide +kernel
theorem dX0_lookAtBlock_62 : decode cX0_lookAtBlock 62 = .ok (.lshl, 1) := by decide +kernel
theorem dX0_lookAtBlock_63 : decode cX0_lookAtBlock 63 = .ok (.lxor, 1) := by decide +kernel
theorem dX0_lookAtBlock_64 : decode cX0_lookAtBlock 64 = .ok (.invokevirtual 106, 3) := by decide +kernel
theorem dX0_lookAtBlock_67 : decode cX0_lookAtBlock 67 = .ok (.goto 7, 3) := by decide +kernel
theorem dX0_lookAtBlock_70 : decode cX0_lookAtBlock 70 = .ok (.aload_n 0, 1) := by decide +kernel
theorem dX0_lookAtBlock_71 : decode cX0_lookAtBlock 71 = .ok (.invokevirtual 109, 3) := by decide +kernel
theorem dX0_lookAtBlock_74 : decode cX0_lookAtBlock 74 = .ok (.return_, 1) := by decide +kernel
set_option maxRecDepth 20000 in
theorem ggX0_keepData_X0_byteOf : GoodIn wsX0_keepData wsX0_byteOf := goodIn_r _ [7] (by decide +kernel) (by decide +kernel)
set_option maxRecDepth 20000 in
theorem gX0_keepData_X0_byteOf : GoodIn wsX0_keepData (va_wsS RX0 112 yX0_byteOf wsX0_byteOf) := goodIn_app (goodIn_of _ (by decide +kernel)) ggX0_keepData_X0_byteOf
set_option maxRecDepth 20000 in
theorem ggX0_keepData_X0_endTransmission : GoodIn wsX0_keepData wsX0_endTransmission := goodIn_r _ [11, 1, 2, 12, 3, 13, 14, 15, 16, 6, 17, 18, 19, 20, 21, 22, 23, 24, 25, 26, 27, 28, 29, 30, 31, 32] (by decide +kernel) (by decide +kernel)
set_option maxRecDepth 20000 in
theorem gX0_keepData_X0_endTransmission : GoodIn wsX0_keepData (wsV RX0 109 RX0 yX0_endTransmission wsX0_endTransmission) := goodIn_app (goodIn_of _ (by decide +kernel)) ggX0_keepData_X0_endTransmission
theorem dX0_keepData_0 : decode cX0_keepData 0 = .ok (.aload_n 0, 1) := by decide +kernel
theorem dX0_keepData_1 : decode cX0_keepData 1 = .ok (.getfield 20, 3) := by decide +kernel
theorem dX0_keepData_4 : decode cX0_keepData 4 = .ok (.iconst 2, 1) := by decide +kernel
theorem dX0_keepData_5 : decode cX0_keepData 5 = .ok (.dup2, 1) := by decide +kernel
theorem dX0_keepData_6 : decode cX0_keepData 6 = .ok (.iaload, 1) := by decide +kernel
theorem dX0_keepData_7 : decode cX0_keepData 7 = .ok (.iconst 1, 1) := by decide +kernel
theorem dX0_keepData_8 : decode cX0_keepData 8 = .ok (.iadd, 1) := by decide +kernel
theorem dX0_keepData_9 : decode cX0_keepData 9 = .ok (.iastore, 1) := by decide +kernel
theorem dX0_keepData_10 : decode cX0_keepData 10 = .ok (.lload_n 1, 1) := by decide +kernel
theorem dX0_keepData_11 : decode cX0_keepData 11 = .ok (.bipush 7, 2) := by decide +kernel
theorem dX0_keepData_13 : decode cX0_keepData 13 = .ok (.lushr, 1) := by decide +kernel
theorem dX0_keepData_14 : decode cX0_keepData 14 = .ok (.lstore_n 3, 1) := by decide +kernel
theorem dX0_keepData_15 : decode cX0_keepData 15 = .ok (.bipush 6, 2) := by decide +kernel
theorem dX0_keepData_17 : decode cX0_keepData 17 = .ok (.istore 5, 2) := by decide +kernel
theorem dX0_keepData_19 : decode cX0_keepData 19 = .ok (.iload 5, 2) := by decide +kernel
theorem dX0_keepData_21 : decode cX0_keepData 21 = .ok (.ifCond .lt 53, 3) := by decide +kernel
theorem dX0_keepData_24 : decode cX0_keepData 24 = .ok (.aload_n 0, 1) := by decide +kernel
theorem dX0_keepData_25 : decode cX0_keepData 25 = .ok (.getfield 94, 3) := by decide +kernel
theorem dX0_keepData_28 : decode cX0_keepData 28 = .ok (.ifCond .lt 46, 3) := by decide +kernel
theorem dX0_keepData_31 : decode cX0_keepData 31 = .ok (.aload_n 0, 1) := by decide +kernel
theorem dX0_keepData_32 : decode cX0_keepData 32 = .ok (.getfield 94, 3) := by decide +kernel
theorem dX0_keepData_35 : decode cX0_keepData 35 = .ok (.aload_n 0, 1) := by decide +kernel
theorem dX0_keepData_36 : decode cX0_keepData 36 = .ok (.getfield 13, 3) := by decide +kernel
theorem dX0_keepData_39 : decode cX0_keepData 39 = .ok (.arraylength, 1) := by decide +kernel
theorem dX0_keepData_40 : decode cX0_keepData 40 = .ok (.if_icmp .ge 34, 3) := by decide +kernel
theorem dX0_keepData_43 : decode cX0_keepData 43 = .ok (.aload_n 0, 1) := by decide +kernel
theorem dX0_keepData_44 : decode cX0_keepData 44 = .ok (.getfield 13, 3) := by decide +kernel
theorem dX0_keepData_47 : decode cX0_keepData 47 = .ok (.aload_n 0, 1) := by decide +kernel
theorem dX0_keepData_48 : decode cX0_keepData 48 = .ok (.getfield 94, 3) := by decide +kernel
theorem dX0_keepData_51 : decode cX0_keepData 51 = .ok (.lload_n 3, 1) := by decide +kernel
theorem dX0_keepData_52 : decode cX0_keepData 52 = .ok (.iload 5, 2) := by decide +kernel
theorem dX0_keepData_54 : decode cX0_keepData 54 = .ok (.invokestatic 112, 3) := by decide +kernel
theorem dX0_keepData_57 : decode cX0_keepData 57 = .ok (.iastore, 1) := by decide +kernel
theorem dX0_keepData_58 : decode cX0_keepData 58 = .ok (.aload_n 0, 1) := by decide +kernel
theorem dX0_keepData_59 : decode cX0_keepData 59 = .ok (.dup, 1) := by decide +kernel
theorem dX0_keepData_60 : decode cX0_keepData 60 = .ok (.getfield 94, 3) := by decide +kernel
theorem dX0_keepData_63 : decode cX0_keepData 63 = .ok (.iconst 1, 1) := by decide +kernel
theorem dX0_keepData_64 : decode cX0_keepData 64 = .ok (.iadd, 1) := by decide +kernel
theorem dX0_keepData_65 : decode cX0_keepData 65 = .ok (.putfield 94, 3) := by decide +kernel
theorem dX0_keepData_68 : decode cX0_keepData 68 = .ok (.iinc 5 (-1), 3) := by decide +kernel
theorem dX0_keepData_71 : decode cX0_keepData 71 = .ok (.goto (-52), 3) := by decide +kernel
theorem dX0_keepData_74 : decode cX0_keepData 74 = .ok (.aload_n 0, 1) := by decide +kernel
theorem dX0_keepData_75 : decode cX0_keepData 75 = .ok (.getfield 94, 3) := by decide +kernel
theorem dX0_keepData_78 : decode cX0_keepData 78 = .ok (.sipush 259, 3) := by decide +kernel
theorem dX0_keepData_81 : decode cX0_keepData 81 = .ok (.if_icmp .ne 7, 3) := by decide +kernel
theorem dX0_keepData_84 : decode cX0_keepData 84 = .ok (.aload_n 0, 1) := by decide +kernel
theorem dX0_keepData_85 : decode cX0_keepData 85 = .ok (.invokevirtual 109, 3) := by decide +kernel
theorem dX0_keepData_88 : decode cX0_keepData 88 = .ok (.return_, 1) := by decide +kernel
set_option maxRecDepth 20000 in
theorem ggX0_endTransmission_X0_beginSearch : GoodIn wsX0_endTransmission wsX0_beginSearch := goodIn_r _ [10, 11, 12, 13, 14, 15, 16, 17, 18, 19, 20, 21, 22, 23, 24, 25] (by decide +kernel) (by decide +kernel)
set_option maxRecDepth 20000 in
theorem gX0_endTransmission_X0_beginSearch : GoodIn wsX0_endTransmission (wsV RX0 29 RX0 yX0_beginSearch wsX0_beginSearch) := goodIn_app (goodIn_of _ (by decide +kernel)) ggX0_endTransmission_X0_beginSearch
theorem dX0_endTransmission_0 : decode cX0_endTransmission 0 = .ok (.aload_n 0, 1) := by decide +kernel
theorem dX0_endTransmission_1 : decode cX0_endTransmission 1 = .ok (.getfield 20, 3) := by decide +kernel
theorem dX0_endTransmission_4 : decode cX0_endTransmission 4 = .ok (.iconst 1, 1) := by decide +kernel
theorem dX0_endTransmission_5 : decode cX0_endTransmission 5 = .ok (.dup2, 1) := by decide +kernel
theorem dX0_endTransmission_6 : decode cX0_endTransmission 6 = .ok (.iaload, 1) := by decide +kernel
theorem dX0_endTransmission_7 : decode cX0_endTransmission 7 = .ok (.iconst 1, 1) := by decide +kernel
theorem dX0_endTransmission_8 : decode cX0_endTransmission 8 = .ok (.iadd, 1) := by decide +kernel
theorem dX0_endTransmission_9 : decode cX0_endTransmission 9 = .ok (.iastore, 1) := by decide +kernel
theorem dX0_endTransmission_10 : decode cX0_endTransmission 10 = .ok (.aload_n 0, 1) := by decide +kernel
theorem dX0_endTransmission_11 : decode cX0_endTransmission 11 = .ok (.getfield 94, 3) := by decide +kernel
theorem dX0_endTransmission_14 : decode cX0_endTransmission 14 = .ok (.ifCond .le 29, 3) := by decide +kernel
theorem dX0_endTransmission_17 : decode cX0_endTransmission 17 = .ok (.aload_n 0, 1) := by decide +kernel
theorem dX0_endTransmission_18 : decode cX0_endTransmission 18 = .ok (.getfield 17, 3) := by decide +kernel
theorem dX0_endTransmission_21 : decode cX0_endTransmission 21 = .ok (.astore_n 1, 1) := by decide +kernel
theorem dX0_endTransmission_22 : decode cX0_endTransmission 22 = .ok (.aload_n 0, 1) := by decide +kernel
theorem dX0_endTransmission_23 : decode cX0_endTransmission 23 = .ok (.aload_n 0, 1) := by decide +kernel
theorem dX0_endTransmission_24 : decode cX0_endTransmission 24 = .ok (.getfield 13, 3) := by decide +kernel
theorem dX0_endTransmission_27 : decode cX0_endTransmission 27 = .ok (.putfield 17, 3) := by decide +kernel
theorem dX0_endTransmission_30 : decode cX0_endTransmission 30 = .ok (.aload_n 0, 1) := by decide +kernel
theorem dX0_endTransmission_31 : decode cX0_endTransmission 31 = .ok (.aload_n 0, 1) := by decide +kernel
theorem dX0_endTransmission_32 : decode cX0_endTransmission 32 = .ok (.getfield 94, 3) := by decide +kernel
theorem dX0_endTransmission_35 : decode cX0_endTransmission 35 = .ok (.putfield 40, 3) := by decide +kernel
theorem dX0_endTransmission_38 : decode cX0_endTransmission 38 = .ok (.aload_n 0, 1) := by decide +kernel
theorem dX0_endTransmission_39 : decode cX0_endTransmission 39 = .ok (.aload_n 1, 1) := by decide +kernel
theorem dX0_endTransmission_40 : decode cX0_endTransmission 40 = .ok (.putfield 13, 3) := by decide +kernel
theorem dX0_endTransmission_43 : decode cX0_endTransmission 43 = .ok (.aload_n 0, 1) := by decide +kernel
theorem dX0_endTransmission_44 : decode cX0_endTransmission 44 = .ok (.invokevirtual 29, 3) := by decide +kernel
theorem dX0_endTransmission_47 : decode cX0_endTransmission 47 = .ok (.return_, 1) := by decide +kernel
set_option maxRecDepth 20000 in
theorem ggX0_remainderOf_X0_reduced : GoodIn wsX0_remainderOf wsX0_reduced := goodIn_r _ [4] (by decide +kernel) (by decide +kernel)
set_option maxRecDepth 20000 in
theorem gX0_remainderOf_X0_reduced : GoodIn wsX0_remainderOf (va_wsS RX0 116 yX0_reduced wsX0_reduced) := goodIn_app (goodIn_of _ (by decide +kernel)) ggX0_remainderOf_X0_reduced
theorem dX0_remainderOf_0 : decode cX0_remainderOf 0 = .ok (.iconst 0, 1) := by decide +kernel
theorem dX0_remainderOf_1 : decode cX0_remainderOf 1 = .ok (.istore_n 2, 1) := by decide +kernel
theorem dX0_remainderOf_2 : decode cX0_remainderOf 2 = .ok (.bipush 62, 2) := by decide +kernel
theorem dX0_remainderOf_4 : decode cX0_remainderOf 4 = .ok (.istore_n 3, 1) := by decide +kernel
theorem dX0_remainderOf_5 : decode cX0_remainderOf 5 = .ok (.iload_n 3, 1) := by decide +kernel
theorem dX0_remainderOf_6 : decode cX0_remainderOf 6 = .ok (.ifCond .lt 23, 3) := by decide +kernel
theorem dX0_remainderOf_9 : decode cX0_remainderOf 9 = .ok (.iload_n 2, 1) := by decide +kernel
theorem dX0_remainderOf_10 : decode cX0_remainderOf 10 = .ok (.iconst 1, 1) := by decide +kernel
theorem dX0_remainderOf_11 : decode cX0_remainderOf 11 = .ok (.ishl, 1) := by decide +kernel
theorem dX0_remainderOf_12 : decode cX0_remainderOf 12 = .ok (.lload_n 0, 1) := by decide +kernel
theorem dX0_remainderOf_13 : decode cX0_remainderOf 13 = .ok (.iload_n 3, 1) := by decide +kernel
theorem dX0_remainderOf_14 : decode cX0_remainderOf 14 = .ok (.lushr, 1) := by decide +kernel
theorem dX0_remainderOf_15 : decode cX0_remainderOf 15 = .ok (.lconst 1, 1) := by decide +kernel
theorem dX0_remainderOf_16 : decode cX0_remainderOf 16 = .ok (.land, 1) := by decide +kernel
theorem dX0_remainderOf_17 : decode cX0_remainderOf 17 = .ok (.l2i, 1) := by decide +kernel
theorem dX0_remainderOf_18 : decode cX0_remainderOf 18 = .ok (.ior, 1) := by decide +kernel
theorem dX0_remainderOf_19 : decode cX0_remainderOf 19 = .ok (.invokestatic 116, 3) := by decide +kernel
theorem dX0_remainderOf_22 : decode cX0_remainderOf 22 = .ok (.istore_n 2, 1) := by decide +kernel
theorem dX0_remainderOf_23 : decode cX0_remainderOf 23 = .ok (.iinc 3 (-1), 3) := by decide +kernel
theorem dX0_remainderOf_26 : decode cX0_remainderOf 26 = .ok (.goto (-21), 3) := by decide +kernel
theorem dX0_remainderOf_29 : decode cX0_remainderOf 29 = .ok (.iload_n 2, 1) := by decide +kernel
theorem dX0_remainderOf_30 : decode cX0_remainderOf 30 = .ok (.ireturn, 1) := by decide +kernel
set_option maxRecDepth 20000 in
theorem ggX0_powerWithRemainder_X0_reduced : GoodIn wsX0_powerWithRemainder wsX0_reduced := goodIn_r _ [4] (by decide +kernel) (by decide +kernel)
set_option maxRecDepth 20000 in
theorem gX0_powerWithRemainder_X0_reduced : GoodIn wsX0_powerWithRemainder (va_wsS RX0 116 yX0_reduced wsX0_reduced) := goodIn_app (goodIn_of _ (by decide +kernel)) ggX0_powerWithRemainder_X0_reduced
theorem dX0_powerWithRemainder_0 : decode cX0_powerWithRemainder 0 = .ok (.iconst 1, 1) := by decide +kernel
theorem dX0_powerWithRemainder_1 : decode cX0_powerWithRemainder 1 = .ok (.istore_n 1, 1) := by decide +kernel
theorem dX0_powerWithRemainder_2 : decode cX0_powerWithRemainder 2 = .ok (.iconst 0, 1) := by decide +kernel
theorem dX0_powerWithRemainder_3 : decode cX0_powerWithRemainder 3 = .ok (.istore_n 2, 1) := by decide +kernel
theorem dX0_powerWithRemainder_4 : decode cX0_powerWithRemainder 4 = .ok (.iload_n 2, 1) := by decide +kernel
theorem dX0_powerWithRemainder_5 : decode cX0_powerWithRemainder 5 = .ok (.bipush 63, 2) := by decide +kernel
theorem dX0_powerWithRemainder_7 : decode cX0_powerWithRemainder 7 = .ok (.if_icmp .ge 23, 3) := by decide +kernel
theorem dX0_powerWithRemainder_10 : decode cX0_powerWithRemainder 10 = .ok (.iload_n 1, 1) := by decide +kernel
theorem dX0_powerWithRemainder_11 : decode cX0_powerWithRemainder 11 = .ok (.iload_n 0, 1) := by decide +kernel
theorem dX0_powerWithRemainder_12 : decode cX0_powerWithRemainder 12 = .ok (.if_icmp .ne 5, 3) := by decide +kernel
theorem dX0_powerWithRemainder_15 : decode cX0_powerWithRemainder 15 = .ok (.iload_n 2, 1) := by decide +kernel
theorem dX0_powerWithRemainder_16 : decode cX0_powerWithRemainder 16 = .ok (.ireturn, 1) := by decide +kernel
theorem dX0_powerWithRemainder_17 : decode cX0_powerWithRemainder 17 = .ok (.iload_n 1, 1) := by decide +kernel
theorem dX0_powerWithRemainder_18 : decode cX0_powerWithRemainder 18 = .ok (.iconst 1, 1) := by decide +kernel
theorem dX0_powerWithRemainder_19 : decode cX0_powerWithRemainder 19 = .ok (.ishl, 1) := by decide +kernel
theorem dX0_powerWithRemainder_20 : decode cX0_powerWithRemainder 20 = .ok (.invokestatic 116, 3) := by decide +kernel
theorem dX0_powerWithRemainder_23 : decode cX0_powerWithRemainder 23 = .ok (.istore_n 1, 1) := by decide +kernel
theorem dX0_powerWithRemainder_24 : decode cX0_powerWithRemainder 24 = .ok (.iinc 2 1, 3) := by decide +kernel
theorem dX0_powerWithRemainder_27 : decode cX0_powerWithRemainder 27 = .ok (.goto (-23), 3) := by decide +kernel
theorem dX0_powerWithRemainder_30 : decode cX0_powerWithRemainder 30 = .ok (.iconst (-1), 1) := by decide +kernel
theorem dX0_powerWithRemainder_31 : decode cX0_powerWithRemainder 31 = .ok (.ireturn, 1) := by decide +kernel
theorem dX0_reduced_0 : decode cX0_reduced 0 = .ok (.iload_n 0, 1) := by decide +kernel
theorem dX0_reduced_1 : decode cX0_reduced 1 = .ok (.sipush 128, 3) := by decide +kernel
theorem dX0_reduced_4 : decode cX0_reduced 4 = .ok (.iand, 1) := by decide +kernel
theorem dX0_reduced_5 : decode cX0_reduced 5 = .ok (.ifCond .ne 7, 3) := by decide +kernel
theorem dX0_reduced_8 : decode cX0_reduced 8 = .ok (.iload_n 0, 1) := by decide +kernel
theorem dX0_reduced_9 : decode cX0_reduced 9 = .ok (.goto 8, 3) := by decide +kernel
theorem dX0_reduced_12 : decode cX0_reduced 12 = .ok (.iload_n 0, 1) := by decide +kernel
theorem dX0_reduced_13 : decode cX0_reduced 13 = .ok (.sipush 197, 3) := by decide +kernel
theorem dX0_reduced_16 : decode cX0_reduced 16 = .ok (.ixor, 1) := by decide +kernel
theorem dX0_reduced_17 : decode cX0_reduced 17 = .ok (.ireturn, 1) := by decide +kernel
set_option maxRecDepth 20000 in
theorem ggX0_blockOf_X0_remainderOf : GoodIn wsX0_blockOf wsX0_remainderOf := goodIn_r _ [4, 5, 6, 3, 7] (by decide +kernel) (by decide +kernel)
set_option maxRecDepth 20000 in
theorem gX0_blockOf_X0_remainderOf : GoodIn wsX0_blockOf (va_wsS RX0 99 yX0_remainderOf wsX0_remainderOf) := goodIn_app (goodIn_of _ (by decide +kernel)) ggX0_blockOf_X0_remainderOf
theorem dX0_blockOf_0 : decode cX0_blockOf 0 = .ok (.lload_n 0, 1) := by decide +kernel
theorem dX0_blockOf_1 : decode cX0_blockOf 1 = .ok (.bipush 7, 2) := by decide +kernel
theorem dX0_blockOf_3 : decode cX0_blockOf 3 = .ok (.lshl, 1) := by decide +kernel
theorem dX0_blockOf_4 : decode cX0_blockOf 4 = .ok (.lstore_n 2, 1) := by decide +kernel
theorem dX0_blockOf_5 : decode cX0_blockOf 5 = .ok (.lload_n 2, 1) := by decide +kernel
theorem dX0_blockOf_6 : decode cX0_blockOf 6 = .ok (.lload_n 2, 1) := by decide +kernel
theorem dX0_blockOf_7 : decode cX0_blockOf 7 = .ok (.invokestatic 99, 3) := by decide +kernel
theorem dX0_blockOf_10 : decode cX0_blockOf 10 = .ok (.bipush 127, 2) := by decide +kernel
theorem dX0_blockOf_12 : decode cX0_blockOf 12 = .ok (.ixor, 1) := by decide +kernel
theorem dX0_blockOf_13 : decode cX0_blockOf 13 = .ok (.i2l, 1) := by decide +kernel
theorem dX0_blockOf_14 : decode cX0_blockOf 14 = .ok (.lor, 1) := by decide +kernel
theorem dX0_blockOf_15 : decode cX0_blockOf 15 = .ok (.iconst 1, 1) := by decide +kernel
theorem dX0_blockOf_16 : decode cX0_blockOf 16 = .ok (.lshl, 1) := by decide +kernel
theorem dX0_blockOf_17 : decode cX0_blockOf 17 = .ok (.lreturn, 1) := by decide +kernel
theorem dX0_byteOf_0 : decode cX0_byteOf 0 = .ok (.lload_n 0, 1) := by decide +kernel
theorem dX0_byteOf_1 : decode cX0_byteOf 1 = .ok (.bipush 8, 2) := by decide +kernel
theorem dX0_byteOf_3 : decode cX0_byteOf 3 = .ok (.iload_n 2, 1) := by decide +kernel
theorem dX0_byteOf_4 : decode cX0_byteOf 4 = .ok (.imul, 1) := by decide +kernel
theorem dX0_byteOf_5 : decode cX0_byteOf 5 = .ok (.lushr, 1) := by decide +kernel
theorem dX0_byteOf_6 : decode cX0_byteOf 6 = .ok (.l2i, 1) := by decide +kernel
theorem dX0_byteOf_7 : decode cX0_byteOf 7 = .ok (.sipush 255, 3) := by decide +kernel
theorem dX0_byteOf_10 : decode cX0_byteOf 10 = .ok (.iand, 1) := by decide +kernel
theorem dX0_byteOf_11 : decode cX0_byteOf 11 = .ok (.ireturn, 1) := by decide +kernel
set_option maxRecDepth 20000 in
theorem ggX0_fillLastBlock_X0_put : GoodIn wsX0_fillLastBlock wsX0_put := goodIn_r _ [6, 1, 7, 8, 9, 10, 11, 12, 13, 14, 15, 16, 17, 18, 19, 20] (by decide +kernel) (by decide +kernel)
set_option maxRecDepth 20000 in
theorem gX0_fillLastBlock_X0_put : GoodIn wsX0_fillLastBlock (wsV RX0 119 RX0 yX0_put wsX0_put) := goodIn_app (goodIn_of _ (by decide +kernel)) ggX0_fillLastBlock_X0_put
theorem dX0_fillLastBlock_0 : decode cX0_fillLastBlock 0 = .ok (.iconst 1, 1) := by decide +kernel
theorem dX0_fillLastBlock_1 : decode cX0_fillLastBlock 1 = .ok (.istore_n 1, 1) := by decide +kernel
theorem dX0_fillLastBlock_2 : decode cX0_fillLastBlock 2 = .ok (.iload_n 1, 1) := by decide +kernel
theorem dX0_fillLastBlock_3 : decode cX0_fillLastBlock 3 = .ok (.bipush 7, 2) := by decide +kernel
theorem dX0_fillLastBlock_5 : decode cX0_fillLastBlock 5 = .ok (.if_icmp .ge 26, 3) := by decide +kernel
theorem dX0_fillLastBlock_8 : decode cX0_fillLastBlock 8 = .ok (.aload_n 0, 1) := by decide +kernel
theorem dX0_fillLastBlock_9 : decode cX0_fillLastBlock 9 = .ok (.getfield 43, 3) := by decide +kernel
theorem dX0_fillLastBlock_12 : decode cX0_fillLastBlock 12 = .ok (.bipush 7, 2) := by decide +kernel
theorem dX0_fillLastBlock_14 : decode cX0_fillLastBlock 14 = .ok (.irem, 1) := by decide +kernel
theorem dX0_fillLastBlock_15 : decode cX0_fillLastBlock 15 = .ok (.ifCond .eq 16, 3) := by decide +kernel
theorem dX0_fillLastBlock_18 : decode cX0_fillLastBlock 18 = .ok (.aload_n 0, 1) := by decide +kernel
theorem dX0_fillLastBlock_19 : decode cX0_fillLastBlock 19 = .ok (.bipush 85, 2) := by decide +kernel
theorem dX0_fillLastBlock_21 : decode cX0_fillLastBlock 21 = .ok (.invokevirtual 119, 3) := by decide +kernel
theorem dX0_fillLastBlock_24 : decode cX0_fillLastBlock 24 = .ok (.pop, 1) := by decide +kernel
theorem dX0_fillLastBlock_25 : decode cX0_fillLastBlock 25 = .ok (.iinc 1 1, 3) := by decide +kernel
theorem dX0_fillLastBlock_28 : decode cX0_fillLastBlock 28 = .ok (.goto (-26), 3) := by decide +kernel
theorem dX0_fillLastBlock_31 : decode cX0_fillLastBlock 31 = .ok (.return_, 1) := by decide +kernel
theorem dX0_waitingData_0 : decode cX0_waitingData 0 = .ok (.lconst 0, 1) := by decide +kernel
theorem dX0_waitingData_1 : decode cX0_waitingData 1 = .ok (.lstore_n 2, 1) := by decide +kernel
theorem dX0_waitingData_2 : decode cX0_waitingData 2 = .ok (.iload_n 1, 1) := by decide +kernel
theorem dX0_waitingData_3 : decode cX0_waitingData 3 = .ok (.istore 4, 2) := by decide +kernel
theorem dX0_waitingData_5 : decode cX0_waitingData 5 = .ok (.iload 4, 2) := by decide +kernel
theorem dX0_waitingData_7 : decode cX0_waitingData 7 = .ok (.iload_n 1, 1) := by decide +kernel
theorem dX0_waitingData_8 : decode cX0_waitingData 8 = .ok (.bipush 7, 2) := by decide +kernel
theorem dX0_waitingData_10 : decode cX0_waitingData 10 = .ok (.iadd, 1) := by decide +kernel
theorem dX0_waitingData_11 : decode cX0_waitingData 11 = .ok (.if_icmp .ge 38, 3) := by decide +kernel
theorem dX0_waitingData_14 : decode cX0_waitingData 14 = .ok (.iload 4, 2) := by decide +kernel
theorem dX0_waitingData_16 : decode cX0_waitingData 16 = .ok (.ifCond .lt 33, 3) := by decide +kernel
theorem dX0_waitingData_19 : decode cX0_waitingData 19 = .ok (.iload 4, 2) := by decide +kernel
theorem dX0_waitingData_21 : decode cX0_waitingData 21 = .ok (.aload_n 0, 1) := by decide +kernel
theorem dX0_waitingData_22 : decode cX0_waitingData 22 = .ok (.getfield 23, 3) := by decide +kernel
theorem dX0_waitingData_25 : decode cX0_waitingData 25 = .ok (.arraylength, 1) := by decide +kernel
theorem dX0_waitingData_26 : decode cX0_waitingData 26 = .ok (.if_icmp .ge 23, 3) := by decide +kernel
theorem dX0_waitingData_29 : decode cX0_waitingData 29 = .ok (.lload_n 2, 1) := by decide +kernel
theorem dX0_waitingData_30 : decode cX0_waitingData 30 = .ok (.bipush 8, 2) := by decide +kernel
theorem dX0_waitingData_32 : decode cX0_waitingData 32 = .ok (.lshl, 1) := by decide +kernel
theorem dX0_waitingData_33 : decode cX0_waitingData 33 = .ok (.aload_n 0, 1) := by decide +kernel
theorem dX0_waitingData_34 : decode cX0_waitingData 34 = .ok (.getfield 23, 3) := by decide +kernel
theorem dX0_waitingData_37 : decode cX0_waitingData 37 = .ok (.iload 4, 2) := by decide +kernel
theorem dX0_waitingData_39 : decode cX0_waitingData 39 = .ok (.iaload, 1) := by decide +kernel
theorem dX0_waitingData_40 : decode cX0_waitingData 40 = .ok (.i2l, 1) := by decide +kernel
theorem dX0_waitingData_41 : decode cX0_waitingData 41 = .ok (.lor, 1) := by decide +kernel
theorem dX0_waitingData_42 : decode cX0_waitingData 42 = .ok (.lstore_n 2, 1) := by decide +kernel
theorem dX0_waitingData_43 : decode cX0_waitingData 43 = .ok (.iinc 4 1, 3) := by decide +kernel
theorem dX0_waitingData_46 : decode cX0_waitingData 46 = .ok (.goto (-41), 3) := by decide +kernel
theorem dX0_waitingData_49 : decode cX0_waitingData 49 = .ok (.lload_n 2, 1) := by decide +kernel
theorem dX0_waitingData_50 : decode cX0_waitingData 50 = .ok (.lreturn, 1) := by decide +kernel
set_option maxRecDepth 20000 in
theorem ggX0_sendBytes_X0_byteOf : GoodIn wsX0_sendBytes wsX0_byteOf := goodIn_r _ [6] (by decide +kernel) (by decide +kernel)
set_option maxRecDepth 20000 in
theorem gX0_sendBytes_X0_byteOf : GoodIn wsX0_sendBytes (va_wsS RX0 112 yX0_byteOf wsX0_byteOf) := goodIn_app (goodIn_of _ (by decide +kernel)) ggX0_sendBytes_X0_byteOf
theorem dX0_sendBytes_0 : decode cX0_sendBytes 0 = .ok (.iload_n 3, 1) := by decide +kernel
theorem dX0_sendBytes_1 : decode cX0_sendBytes 1 = .ok (.iconst 1, 1) := by decide +kernel
theorem dX0_sendBytes_2 : decode cX0_sendBytes 2 = .ok (.isub, 1) := by decide +kernel
theorem dX0_sendBytes_3 : decode cX0_sendBytes 3 = .ok (.istore 4, 2) := by decide +kernel
theorem dX0_sendBytes_5 : decode cX0_sendBytes 5 = .ok (.iload 4, 2) := by decide +kernel
theorem dX0_sendBytes_7 : decode cX0_sendBytes 7 = .ok (.ifCond .lt 53, 3) := by decide +kernel
theorem dX0_sendBytes_10 : decode cX0_sendBytes 10 = .ok (.aload_n 0, 1) := by decide +kernel
theorem dX0_sendBytes_11 : decode cX0_sendBytes 11 = .ok (.getfield 49, 3) := by decide +kernel
theorem dX0_sendBytes_14 : decode cX0_sendBytes 14 = .ok (.ifCond .lt 46, 3) := by decide +kernel
theorem dX0_sendBytes_17 : decode cX0_sendBytes 17 = .ok (.aload_n 0, 1) := by decide +kernel
theorem dX0_sendBytes_18 : decode cX0_sendBytes 18 = .ok (.getfield 49, 3) := by decide +kernel
theorem dX0_sendBytes_21 : decode cX0_sendBytes 21 = .ok (.aload_n 0, 1) := by decide +kernel
theorem dX0_sendBytes_22 : decode cX0_sendBytes 22 = .ok (.getfield 26, 3) := by decide +kernel
theorem dX0_sendBytes_25 : decode cX0_sendBytes 25 = .ok (.arraylength, 1) := by decide +kernel
theorem dX0_sendBytes_26 : decode cX0_sendBytes 26 = .ok (.if_icmp .ge 34, 3) := by decide +kernel
theorem dX0_sendBytes_29 : decode cX0_sendBytes 29 = .ok (.aload_n 0, 1) := by decide +kernel
theorem dX0_sendBytes_30 : decode cX0_sendBytes 30 = .ok (.getfield 26, 3) := by decide +kernel
theorem dX0_sendBytes_33 : decode cX0_sendBytes 33 = .ok (.aload_n 0, 1) := by decide +kernel
theorem dX0_sendBytes_34 : decode cX0_sendBytes 34 = .ok (.getfield 49, 3) := by decide +kernel
theorem dX0_sendBytes_37 : decode cX0_sendBytes 37 = .ok (.lload_n 1, 1) := by decide +kernel
theorem dX0_sendBytes_38 : decode cX0_sendBytes 38 = .ok (.iload 4, 2) := by decide +kernel
theorem dX0_sendBytes_40 : decode cX0_sendBytes 40 = .ok (.invokestatic 112, 3) := by decide +kernel
theorem dX0_sendBytes_43 : decode cX0_sendBytes 43 = .ok (.iastore, 1) := by decide +kernel
theorem dX0_sendBytes_44 : decode cX0_sendBytes 44 = .ok (.aload_n 0, 1) := by decide +kernel
theorem dX0_sendBytes_45 : decode cX0_sendBytes 45 = .ok (.dup, 1) := by decide +kernel
theorem dX0_sendBytes_46 : decode cX0_sendBytes 46 = .ok (.getfield 49, 3) := by decide +kernel
theorem dX0_sendBytes_49 : decode cX0_sendBytes 49 = .ok (.iconst 1, 1) := by decide +kernel
theorem dX0_sendBytes_50 : decode cX0_sendBytes 50 = .ok (.iadd, 1) := by decide +kernel
theorem dX0_sendBytes_51 : decode cX0_sendBytes 51 = .ok (.putfield 49, 3) := by decide +kernel
theorem dX0_sendBytes_54 : decode cX0_sendBytes 54 = .ok (.iinc 4 (-1), 3) := by decide +kernel
theorem dX0_sendBytes_57 : decode cX0_sendBytes 57 = .ok (.goto (-52), 3) := by decide +kernel
theorem dX0_sendBytes_60 : decode cX0_sendBytes 60 = .ok (.return_, 1) := by decide +kernel
theorem dX1_init_0 : decode cX1_init 0 = .ok (.aload_n 0, 1) := by decide +kernel
theorem dX1_init_1 : decode cX1_init 1 = .ok (.invokespecial 1, 3) := by decide +kernel
theorem dX1_init_4 : decode cX1_init 4 = .ok (.aload_n 0, 1) := by decide +kernel
theorem dX1_init_5 : decode cX1_init 5 = .ok (.bipush 64, 2) := by decide +kernel
theorem dX1_init_7 : decode cX1_init 7 = .ok (.newarray .int, 2) := by decide +kernel
theorem dX1_init_9 : decode cX1_init 9 = .ok (.putfield 7, 3) := by decide +kernel
theorem dX1_init_12 : decode cX1_init 12 = .ok (.aload_n 0, 1) := by decide +kernel
theorem dX1_init_13 : decode cX1_init 13 = .ok (.sipush 259, 3) := by decide +kernel
theorem dX1_init_16 : decode cX1_init 16 = .ok (.newarray .int, 2) := by decide +kernel
theorem dX1_init_18 : decode cX1_init 18 = .ok (.putfield 13, 3) := by decide +kernel
theorem dX1_init_21 : decode cX1_init 21 = .ok (.aload_n 0, 1) := by decide +kernel
theorem dX1_init_22 : decode cX1_init 22 = .ok (.sipush 259, 3) := by decide +kernel
theorem dX1_init_25 : decode cX1_init 25 = .ok (.newarray .int, 2) := by decide +kernel
theorem dX1_init_27 : decode cX1_init 27 = .ok (.putfield 16, 3) := by decide +kernel
theorem dX1_init_30 : decode cX1_init 30 = .ok (.aload_n 0, 1) := by decide +kernel
theorem dX1_init_31 : decode cX1_init 31 = .ok (.sipush 259, 3) := by decide +kernel
theorem dX1_init_34 : decode cX1_init 34 = .ok (.newarray .int, 2) := by decide +kernel
theorem dX1_init_36 : decode cX1_init 36 = .ok (.putfield 19, 3) := by decide +kernel
theorem dX1_init_39 : decode cX1_init 39 = .ok (.aload_n 0, 1) := by decide +kernel
theorem dX1_init_40 : decode cX1_init 40 = .ok (.sipush 306, 3) := by decide +kernel
theorem dX1_init_43 : decode cX1_init 43 = .ok (.newarray .int, 2) := by decide +kernel
theorem dX1_init_45 : decode cX1_init 45 = .ok (.putfield 22, 3) := by decide +kernel
theorem dX1_init_48 : decode cX1_init 48 = .ok (.aload_n 0, 1) := by decide +kernel
theorem dX1_init_49 : decode cX1_init 49 = .ok (.iconst 5, 1) := by decide +kernel
theorem dX1_init_50 : decode cX1_init 50 = .ok (.newarray .int, 2) := by decide +kernel
theorem dX1_init_52 : decode cX1_init 52 = .ok (.putfield 25, 3) := by decide +kernel
theorem dX1_init_55 : decode cX1_init 55 = .ok (.return_, 1) := by decide +kernel
theorem dX1_wrong_0 : decode cX1_wrong 0 = .ok (.aload_n 0, 1) := by decide +kernel
theorem dX1_wrong_1 : decode cX1_wrong 1 = .ok (.iconst (-1), 1) := by decide +kernel
theorem dX1_wrong_2 : decode cX1_wrong 2 = .ok (.invokevirtual 32, 3) := by decide +kernel
theorem dX1_wrong_5 : decode cX1_wrong 5 = .ok (.ifCond .eq 5, 3) := by decide +kernel
theorem dX1_wrong_8 : decode cX1_wrong 8 = .ok (.iconst (-1), 1) := by decide +kernel
theorem dX1_wrong_9 : decode cX1_wrong 9 = .ok (.ireturn, 1) := by decide +kernel
theorem dX1_wrong_10 : decode cX1_wrong 10 = .ok (.bipush (-2), 2) := by decide +kernel
theorem dX1_wrong_12 : decode cX1_wrong 12 = .ok (.istore_n 1, 1) := by decide +kernel
theorem dX1_wrong_13 : decode cX1_wrong 13 = .ok (.iconst 0, 1) := by decide +kernel
theorem dX1_wrong_14 : decode cX1_wrong 14 = .ok (.istore_n 2, 1) := by decide +kernel
theorem dX1_wrong_15 : decode cX1_wrong 15 = .ok (.iload_n 2, 1) := by decide +kernel
theorem dX1_wrong_16 : decode cX1_wrong 16 = .ok (.bipush 63, 2) := by decide +kernel
theorem dX1_wrong_18 : decode cX1_wrong 18 = .ok (.if_icmp .ge 30, 3) := by decide +kernel
theorem dX1_wrong_21 : decode cX1_wrong 21 = .ok (.aload_n 0, 1) := by decide +kernel
theorem dX1_wrong_22 : decode cX1_wrong 22 = .ok (.getfield 36, 3) := by decide +kernel
theorem dX1_wrong_25 : decode cX1_wrong 25 = .ok (.ifCond .eq 23, 3) := by decide +kernel
theorem dX1_wrong_28 : decode cX1_wrong 28 = .ok (.aload_n 0, 1) := by decide +kernel
theorem dX1_wrong_29 : decode cX1_wrong 29 = .ok (.iload_n 2, 1) := by decide +kernel
theorem dX1_wrong_30 : decode cX1_wrong 30 = .ok (.invokevirtual 32, 3) := by decide +kernel
theorem dX1_wrong_33 : decode cX1_wrong 33 = .ok (.ifCond .eq 7, 3) := by decide +kernel
theorem dX1_wrong_36 : decode cX1_wrong 36 = .ok (.iload_n 2, 1) := by decide +kernel
theorem dX1_wrong_37 : decode cX1_wrong 37 = .ok (.goto 4, 3) := by decide +kernel
theorem dX1_wrong_40 : decode cX1_wrong 40 = .ok (.iload_n 1, 1) := by decide +kernel
theorem dX1_wrong_41 : decode cX1_wrong 41 = .ok (.istore_n 1, 1) := by decide +kernel
theorem dX1_wrong_42 : decode cX1_wrong 42 = .ok (.iinc 2 1, 3) := by decide +kernel
theorem dX1_wrong_45 : decode cX1_wrong 45 = .ok (.goto (-30), 3) := by decide +kernel
theorem dX1_wrong_48 : decode cX1_wrong 48 = .ok (.iload_n 1, 1) := by decide +kernel
theorem dX1_wrong_49 : decode cX1_wrong 49 = .ok (.ireturn, 1) := by decide +kernel
theorem dX1_begins_0 : decode cX1_begins 0 = .ok (.aload_n 0, 1) := by decide +kernel
theorem dX1_begins_1 : decode cX1_begins 1 = .ok (.iload_n 1, 1) := by decide +kernel
theorem dX1_begins_2 : decode cX1_begins 2 = .ok (.putfield 40, 3) := by decide +kernel
theorem dX1_begins_5 : decode cX1_begins 5 = .ok (.aload_n 0, 1) := by decide +kernel
theorem dX1_begins_6 : decode cX1_begins 6 = .ok (.iconst 0, 1) := by decide +kernel
theorem dX1_begins_7 : decode cX1_begins 7 = .ok (.putfield 43, 3) := by decide +kernel
theorem dX1_begins_10 : decode cX1_begins 10 = .ok (.return_, 1) := by decide +kernel
set_option maxRecDepth 20000 in
theorem ggX1_block_X1_wrong : GoodIn wsX1_block wsX1_wrong := goodIn_r _ [10, 11, 12, 13, 14, 15, 16, 17, 18, 19, 20, 21, 22, 23, 24, 25] (by decide +kernel) (by decide +kernel)
set_option maxRecDepth 20000 in
theorem gX1_block_X1_wrong : GoodIn wsX1_block (wsV RX1 56 RX1 yX1_wrong wsX1_wrong) := goodIn_app (goodIn_of _ (by decide +kernel)) ggX1_block_X1_wrong
theorem dX1_block_0 : decode cX1_block 0 = .ok (.aload_n 0, 1) := by decide +kernel
theorem dX1_block_1 : decode cX1_block 1 = .ok (.invokevirtual 56, 3) := by decide +kernel
theorem dX1_block_4 : decode cX1_block 4 = .ok (.istore_n 1, 1) := by decide +kernel
theorem dX1_block_5 : decode cX1_block 5 = .ok (.iload_n 1, 1) := by decide +kernel
theorem dX1_block_6 : decode cX1_block 6 = .ok (.bipush (-2), 2) := by decide +kernel
theorem dX1_block_8 : decode cX1_block 8 = .ok (.if_icmp .ne 9, 3) := by decide +kernel
theorem dX1_block_11 : decode cX1_block 11 = .ok (.aload_n 0, 1) := by decide +kernel
theorem dX1_block_12 : decode cX1_block 12 = .ok (.invokevirtual 60, 3) := by decide +kernel
theorem dX1_block_15 : decode cX1_block 15 = .ok (.iconst 1, 1) := by decide +kernel
theorem dX1_block_16 : decode cX1_block 16 = .ok (.ireturn, 1) := by decide +kernel
theorem dX1_block_17 : decode cX1_block 17 = .ok (.iconst 0, 1) := by decide +kernel
theorem dX1_block_18 : decode cX1_block 18 = .ok (.istore_n 2, 1) := by decide +kernel
theorem dX1_block_19 : decode cX1_block 19 = .ok (.iload_n 2, 1) := by decide +kernel
theorem dX1_block_20 : decode cX1_block 20 = .ok (.bipush 7, 2) := by decide +kernel
theorem dX1_block_22 : decode cX1_block 22 = .ok (.if_icmp .ge 79, 3) := by decide +kernel
theorem dX1_block_25 : decode cX1_block 25 = .ok (.iconst 0, 1) := by decide +kernel
theorem dX1_block_26 : decode cX1_block 26 = .ok (.istore_n 3, 1) := by decide +kernel
theorem dX1_block_27 : decode cX1_block 27 = .ok (.bipush 8, 2) := by decide +kernel
theorem dX1_block_29 : decode cX1_block 29 = .ok (.iload_n 2, 1) := by decide +kernel
theorem dX1_block_30 : decode cX1_block 30 = .ok (.imul, 1) := by decide +kernel
theorem dX1_block_31 : decode cX1_block 31 = .ok (.istore 4, 2) := by decide +kernel
theorem dX1_block_33 : decode cX1_block 33 = .ok (.iload 4, 2) := by decide +kernel
theorem dX1_block_35 : decode cX1_block 35 = .ok (.bipush 8, 2) := by decide +kernel
theorem dX1_block_37 : decode cX1_block 37 = .ok (.iload_n 2, 1) := by decide +kernel
theorem dX1_block_38 : decode cX1_block 38 = .ok (.imul, 1) := by decide +kernel
theorem dX1_block_39 : decode cX1_block 39 = .ok (.bipush 8, 2) := by decide +kernel
theorem dX1_block_41 : decode cX1_block 41 = .ok (.iadd, 1) := by decide +kernel
theorem dX1_block_42 : decode cX1_block 42 = .ok (.if_icmp .ge 33, 3) := by decide +kernel
theorem dX1_block_45 : decode cX1_block 45 = .ok (.iconst 2, 1) := by decide +kernel
theorem dX1_block_46 : decode cX1_block 46 = .ok (.iload_n 3, 1) := by decide +kernel
theorem dX1_block_47 : decode cX1_block 47 = .ok (.imul, 1) := by decide +kernel
theorem dX1_block_48 : decode cX1_block 48 = .ok (.aload_n 0, 1) := by decide +kernel
theorem dX1_block_49 : decode cX1_block 49 = .ok (.getfield 7, 3) := by decide +kernel
theorem dX1_block_52 : decode cX1_block 52 = .ok (.iload 4, 2) := by decide +kernel
theorem dX1_block_54 : decode cX1_block 54 = .ok (.iaload, 1) := by decide +kernel
theorem dX1_block_55 : decode cX1_block 55 = .ok (.iload 4, 2) := by decide +kernel
theorem dX1_block_57 : decode cX1_block 57 = .ok (.iload_n 1, 1) := by decide +kernel
theorem dX1_block_58 : decode cX1_block 58 = .ok (.if_icmp .ne 7, 3) := by decide +kernel
theorem dX1_block_61 : decode cX1_block 61 = .ok (.iconst 1, 1) := by decide +kernel
theorem dX1_block_62 : decode cX1_block 62 = .ok (.goto 4, 3) := by decide +kernel
theorem dX1_block_65 : decode cX1_block 65 = .ok (.iconst 0, 1) := by decide +kernel
theorem dX1_block_66 : decode cX1_block 66 = .ok (.ixor, 1) := by decide +kernel
theorem dX1_block_67 : decode cX1_block 67 = .ok (.iadd, 1) := by decide +kernel
theorem dX1_block_68 : decode cX1_block 68 = .ok (.istore_n 3, 1) := by decide +kernel
theorem dX1_block_69 : decode cX1_block 69 = .ok (.iinc 4 1, 3) := by decide +kernel
theorem dX1_block_72 : decode cX1_block 72 = .ok (.goto (-39), 3) := by decide +kernel
theorem dX1_block_75 : decode cX1_block 75 = .ok (.aload_n 0, 1) := by decide +kernel
theorem dX1_block_76 : decode cX1_block 76 = .ok (.getfield 13, 3) := by decide +kernel
theorem dX1_block_79 : decode cX1_block 79 = .ok (.aload_n 0, 1) := by decide +kernel
theorem dX1_block_80 : decode cX1_block 80 = .ok (.getfield 46, 3) := by decide +kernel
theorem dX1_block_83 : decode cX1_block 83 = .ok (.iload_n 3, 1) := by decide +kernel
theorem dX1_block_84 : decode cX1_block 84 = .ok (.iastore, 1) := by decide +kernel
theorem dX1_block_85 : decode cX1_block 85 = .ok (.aload_n 0, 1) := by decide +kernel
theorem dX1_block_86 : decode cX1_block 86 = .ok (.dup, 1) := by decide +kernel
theorem dX1_block_87 : decode cX1_block 87 = .ok (.getfield 46, 3) := by decide +kernel
theorem dX1_block_90 : decode cX1_block 90 = .ok (.iconst 1, 1) := by decide +kernel
theorem dX1_block_91 : decode cX1_block 91 = .ok (.iadd, 1) := by decide +kernel
theorem dX1_block_92 : decode cX1_block 92 = .ok (.putfield 46, 3) := by decide +kernel
theorem dX1_block_95 : decode cX1_block 95 = .ok (.iinc 2 1, 3) := by decide +kernel
theorem dX1_block_98 : decode cX1_block 98 = .ok (.goto (-79), 3) := by decide +kernel
theorem dX1_block_101 : decode cX1_block 101 = .ok (.aload_n 0, 1) := by decide +kernel
theorem dX1_block_102 : decode cX1_block 102 = .ok (.getfield 25, 3) := by decide +kernel
theorem dX1_block_105 : decode cX1_block 105 = .ok (.iconst 2, 1) := by decide +kernel
theorem dX1_block_106 : decode cX1_block 106 = .ok (.dup2, 1) := by decide +kernel
theorem dX1_block_107 : decode cX1_block 107 = .ok (.iaload, 1) := by decide +kernel
theorem dX1_block_108 : decode cX1_block 108 = .ok (.iconst 1, 1) := by decide +kernel
theorem dX1_block_109 : decode cX1_block 109 = .ok (.iadd, 1) := by decide +kernel
theorem dX1_block_110 : decode cX1_block 110 = .ok (.iastore, 1) := by decide +kernel
theorem dX1_block_111 : decode cX1_block 111 = .ok (.aload_n 0, 1) := by decide +kernel
theorem dX1_block_112 : decode cX1_block 112 = .ok (.getfield 25, 3) := by decide +kernel
theorem dX1_block_115 : decode cX1_block 115 = .ok (.iconst 3, 1) := by decide +kernel
theorem dX1_block_116 : decode cX1_block 116 = .ok (.dup2, 1) := by decide +kernel
theorem dX1_block_117 : decode cX1_block 117 = .ok (.iaload, 1) := by decide +kernel
theorem dX1_block_118 : decode cX1_block 118 = .ok (.iload_n 1, 1) := by decide +kernel
theorem dX1_block_119 : decode cX1_block 119 = .ok (.ifCond .lt 7, 3) := by decide +kernel
theorem dX1_block_122 : decode cX1_block 122 = .ok (.iconst 1, 1) := by decide +kernel
theorem dX1_block_123 : decode cX1_block 123 = .ok (.goto 4, 3) := by decide +kernel
theorem dX1_block_126 : decode cX1_block 126 = .ok (.iconst 0, 1) := by decide +kernel
theorem dX1_block_127 : decode cX1_block 127 = .ok (.iadd, 1) := by decide +kernel
theorem dX1_block_128 : decode cX1_block 128 = .ok (.iastore, 1) := by decide +kernel
theorem dX1_block_129 : decode cX1_block 129 = .ok (.aload_n 0, 1) := by decide +kernel
theorem dX1_block_130 : decode cX1_block 130 = .ok (.iconst 0, 1) := by decide +kernel
theorem dX1_block_131 : decode cX1_block 131 = .ok (.putfield 43, 3) := by decide +kernel
theorem dX1_block_134 : decode cX1_block 134 = .ok (.aload_n 0, 1) := by decide +kernel
theorem dX1_block_135 : decode cX1_block 135 = .ok (.getfield 46, 3) := by decide +kernel
theorem dX1_block_138 : decode cX1_block 138 = .ok (.sipush 259, 3) := by decide +kernel
theorem dX1_block_141 : decode cX1_block 141 = .ok (.if_icmp .ne 9, 3) := by decide +kernel
theorem dX1_block_144 : decode cX1_block 144 = .ok (.aload_n 0, 1) := by decide +kernel
theorem dX1_block_145 : decode cX1_block 145 = .ok (.invokevirtual 60, 3) := by decide +kernel
theorem dX1_block_148 : decode cX1_block 148 = .ok (.iconst 1, 1) := by decide +kernel
theorem dX1_block_149 : decode cX1_block 149 = .ok (.ireturn, 1) := by decide +kernel
theorem dX1_block_150 : decode cX1_block 150 = .ok (.iconst 0, 1) := by decide +kernel
theorem dX1_block_151 : decode cX1_block 151 = .ok (.ireturn, 1) := by decide +kernel
set_option maxRecDepth 20000 in
theorem ggX1_bit_X1_block : GoodIn wsX1_bit wsX1_block := goodIn_r _ [8, 2, 9, 10, 11, 3, 12, 13, 14, 7, 15, 16, 17, 18, 19, 20, 21, 22, 23, 24, 25, 26, 27, 28, 29, 30] (by decide +kernel) (by decide +kernel)
set_option maxRecDepth 20000 in
theorem gX1_bit_X1_block : GoodIn wsX1_bit (wsV RX1 64 RX1 yX1_block wsX1_block) := goodIn_app (goodIn_of _ (by decide +kernel)) ggX1_bit_X1_block
theorem dX1_bit_0 : decode cX1_bit 0 = .ok (.aload_n 0, 1) := by decide +kernel
theorem dX1_bit_1 : decode cX1_bit 1 = .ok (.getfield 40, 3) := by decide +kernel
theorem dX1_bit_4 : decode cX1_bit 4 = .ok (.iconst 2, 1) := by decide +kernel
theorem dX1_bit_5 : decode cX1_bit 5 = .ok (.if_icmp .ne 41, 3) := by decide +kernel
theorem dX1_bit_8 : decode cX1_bit 8 = .ok (.aload_n 0, 1) := by decide +kernel
theorem dX1_bit_9 : decode cX1_bit 9 = .ok (.getfield 7, 3) := by decide +kernel
theorem dX1_bit_12 : decode cX1_bit 12 = .ok (.aload_n 0, 1) := by decide +kernel
theorem dX1_bit_13 : decode cX1_bit 13 = .ok (.getfield 43, 3) := by decide +kernel
theorem dX1_bit_16 : decode cX1_bit 16 = .ok (.iload_n 1, 1) := by decide +kernel
theorem dX1_bit_17 : decode cX1_bit 17 = .ok (.iastore, 1) := by decide +kernel
theorem dX1_bit_18 : decode cX1_bit 18 = .ok (.aload_n 0, 1) := by decide +kernel
theorem dX1_bit_19 : decode cX1_bit 19 = .ok (.dup, 1) := by decide +kernel
theorem dX1_bit_20 : decode cX1_bit 20 = .ok (.getfield 43, 3) := by decide +kernel
theorem dX1_bit_23 : decode cX1_bit 23 = .ok (.iconst 1, 1) := by decide +kernel
theorem dX1_bit_24 : decode cX1_bit 24 = .ok (.iadd, 1) := by decide +kernel
theorem dX1_bit_25 : decode cX1_bit 25 = .ok (.putfield 43, 3) := by decide +kernel
theorem dX1_bit_28 : decode cX1_bit 28 = .ok (.aload_n 0, 1) := by decide +kernel
theorem dX1_bit_29 : decode cX1_bit 29 = .ok (.getfield 43, 3) := by decide +kernel
theorem dX1_bit_32 : decode cX1_bit 32 = .ok (.bipush 64, 2) := by decide +kernel
theorem dX1_bit_34 : decode cX1_bit 34 = .ok (.if_icmp .ne 10, 3) := by decide +kernel
theorem dX1_bit_37 : decode cX1_bit 37 = .ok (.aload_n 0, 1) := by decide +kernel
theorem dX1_bit_38 : decode cX1_bit 38 = .ok (.invokevirtual 64, 3) := by decide +kernel
theorem dX1_bit_41 : decode cX1_bit 41 = .ok (.goto 4, 3) := by decide +kernel
theorem dX1_bit_44 : decode cX1_bit 44 = .ok (.iconst 0, 1) := by decide +kernel
theorem dX1_bit_45 : decode cX1_bit 45 = .ok (.ireturn, 1) := by decide +kernel
theorem dX1_bit_46 : decode cX1_bit 46 = .ok (.aload_n 0, 1) := by decide +kernel
theorem dX1_bit_47 : decode cX1_bit 47 = .ok (.getfield 43, 3) := by decide +kernel
theorem dX1_bit_50 : decode cX1_bit 50 = .ok (.bipush 16, 2) := by decide +kernel
theorem dX1_bit_52 : decode cX1_bit 52 = .ok (.if_icmp .ne 37, 3) := by decide +kernel
theorem dX1_bit_55 : decode cX1_bit 55 = .ok (.iconst 0, 1) := by decide +kernel
theorem dX1_bit_56 : decode cX1_bit 56 = .ok (.istore_n 2, 1) := by decide +kernel
theorem dX1_bit_57 : decode cX1_bit 57 = .ok (.iload_n 2, 1) := by decide +kernel
theorem dX1_bit_58 : decode cX1_bit 58 = .ok (.bipush 15, 2) := by decide +kernel
theorem dX1_bit_60 : decode cX1_bit 60 = .ok (.if_icmp .ge 23, 3) := by decide +kernel
theorem dX1_bit_63 : decode cX1_bit 63 = .ok (.aload_n 0, 1) := by decide +kernel
theorem dX1_bit_64 : decode cX1_bit 64 = .ok (.getfield 7, 3) := by decide +kernel
theorem dX1_bit_67 : decode cX1_bit 67 = .ok (.iload_n 2, 1) := by decide +kernel
theorem dX1_bit_68 : decode cX1_bit 68 = .ok (.aload_n 0, 1) := by decide +kernel
theorem dX1_bit_69 : decode cX1_bit 69 = .ok (.getfield 7, 3) := by decide +kernel
theorem dX1_bit_72 : decode cX1_bit 72 = .ok (.iload_n 2, 1) := by decide +kernel
theorem dX1_bit_73 : decode cX1_bit 73 = .ok (.iconst 1, 1) := by decide +kernel
theorem dX1_bit_74 : decode cX1_bit 74 = .ok (.iadd, 1) := by decide +kernel
theorem dX1_bit_75 : decode cX1_bit 75 = .ok (.iaload, 1) := by decide +kernel
theorem dX1_bit_76 : decode cX1_bit 76 = .ok (.iastore, 1) := by decide +kernel
theorem dX1_bit_77 : decode cX1_bit 77 = .ok (.iinc 2 1, 3) := by decide +kernel
theorem dX1_bit_80 : decode cX1_bit 80 = .ok (.goto (-23), 3) := by decide +kernel
theorem dX1_bit_83 : decode cX1_bit 83 = .ok (.aload_n 0, 1) := by decide +kernel
theorem dX1_bit_84 : decode cX1_bit 84 = .ok (.bipush 15, 2) := by decide +kernel
theorem dX1_bit_86 : decode cX1_bit 86 = .ok (.putfield 43, 3) := by decide +kernel
theorem dX1_bit_89 : decode cX1_bit 89 = .ok (.aload_n 0, 1) := by decide +kernel
theorem dX1_bit_90 : decode cX1_bit 90 = .ok (.getfield 7, 3) := by decide +kernel
theorem dX1_bit_93 : decode cX1_bit 93 = .ok (.aload_n 0, 1) := by decide +kernel
theorem dX1_bit_94 : decode cX1_bit 94 = .ok (.getfield 43, 3) := by decide +kernel
theorem dX1_bit_97 : decode cX1_bit 97 = .ok (.iload_n 1, 1) := by decide +kernel
theorem dX1_bit_98 : decode cX1_bit 98 = .ok (.iastore, 1) := by decide +kernel
theorem dX1_bit_99 : decode cX1_bit 99 = .ok (.aload_n 0, 1) := by decide +kernel
theorem dX1_bit_100 : decode cX1_bit 100 = .ok (.dup, 1) := by decide +kernel
theorem dX1_bit_101 : decode cX1_bit 101 = .ok (.getfield 43, 3) := by decide +kernel
theorem dX1_bit_104 : decode cX1_bit 104 = .ok (.iconst 1, 1) := by decide +kernel
theorem dX1_bit_105 : decode cX1_bit 105 = .ok (.iadd, 1) := by decide +kernel
theorem dX1_bit_106 : decode cX1_bit 106 = .ok (.putfield 43, 3) := by decide +kernel
theorem dX1_bit_109 : decode cX1_bit 109 = .ok (.aload_n 0, 1) := by decide +kernel
theorem dX1_bit_110 : decode cX1_bit 110 = .ok (.getfield 43, 3) := by decide +kernel
theorem dX1_bit_113 : decode cX1_bit 113 = .ok (.bipush 16, 2) := by decide +kernel
theorem dX1_bit_115 : decode cX1_bit 115 = .ok (.if_icmp .ne 7, 3) := by decide +kernel
theorem dX1_bit_118 : decode cX1_bit 118 = .ok (.aload_n 0, 1) := by decide +kernel
theorem dX1_bit_119 : decode cX1_bit 119 = .ok (.invokevirtual 67, 3) := by decide +kernel
theorem dX1_bit_122 : decode cX1_bit 122 = .ok (.iconst 0, 1) := by decide +kernel
theorem dX1_bit_123 : decode cX1_bit 123 = .ok (.ireturn, 1) := by decide +kernel
set_option maxRecDepth 20000 in
theorem ggX1_turn_X1_begins : GoodIn wsX1_turn wsX1_begins := goodIn_r _ [8, 2, 9, 10, 11, 12, 13, 14, 15, 16, 17, 18, 19, 20, 21, 22, 23] (by decide +kernel) (by decide +kernel)
set_option maxRecDepth 20000 in
theorem gX1_turn_X1_begins : GoodIn wsX1_turn (wsV RX1 52 RX1 yX1_begins wsX1_begins) := goodIn_app (goodIn_of _ (by decide +kernel)) ggX1_turn_X1_begins
theorem dX1_turn_0 : decode cX1_turn 0 = .ok (.aload_n 0, 1) := by decide +kernel
theorem dX1_turn_1 : decode cX1_turn 1 = .ok (.iconst 0, 1) := by decide +kernel
theorem dX1_turn_2 : decode cX1_turn 2 = .ok (.putfield 28, 3) := by decide +kernel
theorem dX1_turn_5 : decode cX1_turn 5 = .ok (.iload_n 1, 1) := by decide +kernel
theorem dX1_turn_6 : decode cX1_turn 6 = .ok (.aload_n 0, 1) := by decide +kernel
theorem dX1_turn_7 : decode cX1_turn 7 = .ok (.getfield 40, 3) := by decide +kernel
theorem dX1_turn_10 : decode cX1_turn 10 = .ok (.ifCond .eq 7, 3) := by decide +kernel
theorem dX1_turn_13 : decode cX1_turn 13 = .ok (.iconst 1, 1) := by decide +kernel
theorem dX1_turn_14 : decode cX1_turn 14 = .ok (.goto 4, 3) := by decide +kernel
theorem dX1_turn_17 : decode cX1_turn 17 = .ok (.iconst 0, 1) := by decide +kernel
theorem dX1_turn_18 : decode cX1_turn 18 = .ok (.if_icmp .ne 5, 3) := by decide +kernel
theorem dX1_turn_21 : decode cX1_turn 21 = .ok (.iconst 0, 1) := by decide +kernel
theorem dX1_turn_22 : decode cX1_turn 22 = .ok (.ireturn, 1) := by decide +kernel
theorem dX1_turn_23 : decode cX1_turn 23 = .ok (.aload_n 0, 1) := by decide +kernel
theorem dX1_turn_24 : decode cX1_turn 24 = .ok (.iconst 0, 1) := by decide +kernel
theorem dX1_turn_25 : decode cX1_turn 25 = .ok (.putfield 46, 3) := by decide +kernel
theorem dX1_turn_28 : decode cX1_turn 28 = .ok (.aload_n 0, 1) := by decide +kernel
theorem dX1_turn_29 : decode cX1_turn 29 = .ok (.iload_n 1, 1) := by decide +kernel
theorem dX1_turn_30 : decode cX1_turn 30 = .ok (.ifCond .eq 7, 3) := by decide +kernel
theorem dX1_turn_33 : decode cX1_turn 33 = .ok (.iconst 1, 1) := by decide +kernel
theorem dX1_turn_34 : decode cX1_turn 34 = .ok (.goto 4, 3) := by decide +kernel
theorem dX1_turn_37 : decode cX1_turn 37 = .ok (.iconst 0, 1) := by decide +kernel
theorem dX1_turn_38 : decode cX1_turn 38 = .ok (.invokevirtual 52, 3) := by decide +kernel
theorem dX1_turn_41 : decode cX1_turn 41 = .ok (.iconst 1, 1) := by decide +kernel
theorem dX1_turn_42 : decode cX1_turn 42 = .ok (.ireturn, 1) := by decide +kernel
theorem dX1_mending_0 : decode cX1_mending 0 = .ok (.aload_n 0, 1) := by decide +kernel
theorem dX1_mending_1 : decode cX1_mending 1 = .ok (.iconst 0, 1) := by decide +kernel
theorem dX1_mending_2 : decode cX1_mending 2 = .ok (.putfield 28, 3) := by decide +kernel
theorem dX1_mending_5 : decode cX1_mending 5 = .ok (.aload_n 0, 1) := by decide +kernel
theorem dX1_mending_6 : decode cX1_mending 6 = .ok (.iload_n 1, 1) := by decide +kernel
theorem dX1_mending_7 : decode cX1_mending 7 = .ok (.putfield 36, 3) := by decide +kernel
theorem dX1_mending_10 : decode cX1_mending 10 = .ok (.return_, 1) := by decide +kernel
set_option maxRecDepth 20000 in
theorem ggX1_take_X1_bit : GoodIn wsX1_take wsX1_bit := goodIn_r _ [7, 2, 8, 9, 10, 11, 12, 6, 13, 14, 15, 16, 17, 18, 19, 20, 21, 22, 23, 24, 25, 26, 27, 28, 29, 30, 31, 32, 33, 34, 35] (by decide +kernel) (by decide +kernel)
set_option maxRecDepth 20000 in
theorem gX1_take_X1_bit : GoodIn wsX1_take (wsV RX1 70 RX1 yX1_bit wsX1_bit) := goodIn_app (goodIn_of _ (by decide +kernel)) ggX1_take_X1_bit
theorem dX1_take_0 : decode cX1_take 0 = .ok (.aload_n 0, 1) := by decide +kernel
theorem dX1_take_1 : decode cX1_take 1 = .ok (.iconst 0, 1) := by decide +kernel
theorem dX1_take_2 : decode cX1_take 2 = .ok (.putfield 28, 3) := by decide +kernel
theorem dX1_take_5 : decode cX1_take 5 = .ok (.aload_n 0, 1) := by decide +kernel
theorem dX1_take_6 : decode cX1_take 6 = .ok (.getfield 40, 3) := by decide +kernel
theorem dX1_take_9 : decode cX1_take 9 = .ok (.ifCond .eq 14, 3) := by decide +kernel
theorem dX1_take_12 : decode cX1_take 12 = .ok (.iload_n 1, 1) := by decide +kernel
theorem dX1_take_13 : decode cX1_take 13 = .ok (.iconst 1, 1) := by decide +kernel
theorem dX1_take_14 : decode cX1_take 14 = .ok (.if_icmp .lt 9, 3) := by decide +kernel
theorem dX1_take_17 : decode cX1_take 17 = .ok (.iload_n 1, 1) := by decide +kernel
theorem dX1_take_18 : decode cX1_take 18 = .ok (.bipush 64, 2) := by decide +kernel
theorem dX1_take_20 : decode cX1_take 20 = .ok (.if_icmp .le 5, 3) := by decide +kernel
theorem dX1_take_23 : decode cX1_take 23 = .ok (.iconst (-1), 1) := by decide +kernel
theorem dX1_take_24 : decode cX1_take 24 = .ok (.ireturn, 1) := by decide +kernel
theorem dX1_take_25 : decode cX1_take 25 = .ok (.iconst 0, 1) := by decide +kernel
theorem dX1_take_26 : decode cX1_take 26 = .ok (.istore 4, 2) := by decide +kernel
theorem dX1_take_28 : decode cX1_take 28 = .ok (.iload_n 1, 1) := by decide +kernel
theorem dX1_take_29 : decode cX1_take 29 = .ok (.iconst 1, 1) := by decide +kernel
theorem dX1_take_30 : decode cX1_take 30 = .ok (.isub, 1) := by decide +kernel
theorem dX1_take_31 : decode cX1_take 31 = .ok (.istore 5, 2) := by decide +kernel
theorem dX1_take_33 : decode cX1_take 33 = .ok (.iload 5, 2) := by decide +kernel
theorem dX1_take_35 : decode cX1_take 35 = .ok (.ifCond .lt 25, 3) := by decide +kernel
theorem dX1_take_38 : decode cX1_take 38 = .ok (.iload 4, 2) := by decide +kernel
theorem dX1_take_40 : decode cX1_take 40 = .ok (.aload_n 0, 1) := by decide +kernel
theorem dX1_take_41 : decode cX1_take 41 = .ok (.lload_n 2, 1) := by decide +kernel
theorem dX1_take_42 : decode cX1_take 42 = .ok (.iload 5, 2) := by decide +kernel
theorem dX1_take_44 : decode cX1_take 44 = .ok (.lshr, 1) := by decide +kernel
theorem dX1_take_45 : decode cX1_take 45 = .ok (.l2i, 1) := by decide +kernel
theorem dX1_take_46 : decode cX1_take 46 = .ok (.iconst 1, 1) := by decide +kernel
theorem dX1_take_47 : decode cX1_take 47 = .ok (.iand, 1) := by decide +kernel
theorem dX1_take_48 : decode cX1_take 48 = .ok (.invokevirtual 70, 3) := by decide +kernel
theorem dX1_take_51 : decode cX1_take 51 = .ok (.iadd, 1) := by decide +kernel
theorem dX1_take_52 : decode cX1_take 52 = .ok (.istore 4, 2) := by decide +kernel
theorem dX1_take_54 : decode cX1_take 54 = .ok (.iinc 5 (-1), 3) := by decide +kernel
theorem dX1_take_57 : decode cX1_take 57 = .ok (.goto (-24), 3) := by decide +kernel
theorem dX1_take_60 : decode cX1_take 60 = .ok (.iload 4, 2) := by decide +kernel
theorem dX1_take_62 : decode cX1_take 62 = .ok (.ireturn, 1) := by decide +kernel
theorem dJ6_bitCount_0f7a4_0 : decode cJ6_bitCount_0f7a4 0 = .ok (.iload_n 0, 1) := by decide +kernel
theorem dJ6_bitCount_0f7a4_1 : decode cJ6_bitCount_0f7a4 1 = .ok (.iload_n 0, 1) := by decide +kernel
theorem dJ6_bitCount_0f7a4_2 : decode cJ6_bitCount_0f7a4 2 = .ok (.iconst 1, 1) := by decide +kernel
theorem dJ6_bitCount_0f7a4_3 : decode cJ6_bitCount_0f7a4 3 = .ok (.iushr, 1) := by decide +kernel
theorem dJ6_bitCount_0f7a4_4 : decode cJ6_bitCount_0f7a4 4 = .ok (.ldc_w 265, 3) := by decide +kernel
theorem dJ6_bitCount_0f7a4_7 : decode cJ6_bitCount_0f7a4 7 = .ok (.iand, 1) := by decide +kernel
theorem dJ6_bitCount_0f7a4_8 : decode cJ6_bitCount_0f7a4 8 = .ok (.isub, 1) := by decide +kernel
theorem dJ6_bitCount_0f7a4_9 : decode cJ6_bitCount_0f7a4 9 = .ok (.istore_n 0, 1) := by decide +kernel
theorem dJ6_bitCount_0f7a4_10 : decode cJ6_bitCount_0f7a4 10 = .ok (.iload_n 0, 1) := by decide +kernel
theorem dJ6_bitCount_0f7a4_11 : decode cJ6_bitCount_0f7a4 11 = .ok (.ldc_w 266, 3) := by decide +kernel
theorem dJ6_bitCount_0f7a4_14 : decode cJ6_bitCount_0f7a4 14 = .ok (.iand, 1) := by decide +kernel
theorem dJ6_bitCount_0f7a4_15 : decode cJ6_bitCount_0f7a4 15 = .ok (.iload_n 0, 1) := by decide +kernel
theorem dJ6_bitCount_0f7a4_16 : decode cJ6_bitCount_0f7a4 16 = .ok (.iconst 2, 1) := by decide +kernel
theorem dJ6_bitCount_0f7a4_17 : decode cJ6_bitCount_0f7a4 17 = .ok (.iushr, 1) := by decide +kernel
theorem dJ6_bitCount_0f7a4_18 : decode cJ6_bitCount_0f7a4 18 = .ok (.ldc_w 266, 3) := by decide +kernel
theorem dJ6_bitCount_0f7a4_21 : decode cJ6_bitCount_0f7a4 21 = .ok (.iand, 1) := by decide +kernel
theorem dJ6_bitCount_0f7a4_22 : decode cJ6_bitCount_0f7a4 22 = .ok (.iadd, 1) := by decide +kernel
theorem dJ6_bitCount_0f7a4_23 : decode cJ6_bitCount_0f7a4 23 = .ok (.istore_n 0, 1) := by decide +kernel
theorem dJ6_bitCount_0f7a4_24 : decode cJ6_bitCount_0f7a4 24 = .ok (.iload_n 0, 1) := by decide +kernel
theorem dJ6_bitCount_0f7a4_25 : decode cJ6_bitCount_0f7a4 25 = .ok (.iload_n 0, 1) := by decide +kernel
theorem dJ6_bitCount_0f7a4_26 : decode cJ6_bitCount_0f7a4 26 = .ok (.iconst 4, 1) := by decide +kernel
theorem dJ6_bitCount_0f7a4_27 : decode cJ6_bitCount_0f7a4 27 = .ok (.iushr, 1) := by decide +kernel
theorem dJ6_bitCount_0f7a4_28 : decode cJ6_bitCount_0f7a4 28 = .ok (.iadd, 1) := by decide +kernel
theorem dJ6_bitCount_0f7a4_29 : decode cJ6_bitCount_0f7a4 29 = .ok (.ldc_w 267, 3) := by decide +kernel
theorem dJ6_bitCount_0f7a4_32 : decode cJ6_bitCount_0f7a4 32 = .ok (.iand, 1) := by decide +kernel
theorem dJ6_bitCount_0f7a4_33 : decode cJ6_bitCount_0f7a4 33 = .ok (.istore_n 0, 1) := by decide +kernel
theorem dJ6_bitCount_0f7a4_34 : decode cJ6_bitCount_0f7a4 34 = .ok (.iload_n 0, 1) := by decide +kernel
theorem dJ6_bitCount_0f7a4_35 : decode cJ6_bitCount_0f7a4 35 = .ok (.iload_n 0, 1) := by decide +kernel
theorem dJ6_bitCount_0f7a4_36 : decode cJ6_bitCount_0f7a4 36 = .ok (.bipush 8, 2) := by decide +kernel
theorem dJ6_bitCount_0f7a4_38 : decode cJ6_bitCount_0f7a4 38 = .ok (.iushr, 1) := by decide +kernel
theorem dJ6_bitCount_0f7a4_39 : decode cJ6_bitCount_0f7a4 39 = .ok (.iadd, 1) := by decide +kernel
theorem dJ6_bitCount_0f7a4_40 : decode cJ6_bitCount_0f7a4 40 = .ok (.istore_n 0, 1) := by decide +kernel
theorem dJ6_bitCount_0f7a4_41 : decode cJ6_bitCount_0f7a4 41 = .ok (.iload_n 0, 1) := by decide +kernel
theorem dJ6_bitCount_0f7a4_42 : decode cJ6_bitCount_0f7a4 42 = .ok (.iload_n 0, 1) := by decide +kernel
theorem dJ6_bitCount_0f7a4_43 : decode cJ6_bitCount_0f7a4 43 = .ok (.bipush 16, 2) := by decide +kernel
theorem dJ6_bitCount_0f7a4_45 : decode cJ6_bitCount_0f7a4 45 = .ok (.iushr, 1) := by decide +kernel
theorem dJ6_bitCount_0f7a4_46 : decode cJ6_bitCount_0f7a4 46 = .ok (.iadd, 1) := by decide +kernel
theorem dJ6_bitCount_0f7a4_47 : decode cJ6_bitCount_0f7a4 47 = .ok (.istore_n 0, 1) := by decide +kernel
theorem dJ6_bitCount_0f7a4_48 : decode cJ6_bitCount_0f7a4 48 = .ok (.iload_n 0, 1) := by decide +kernel
theorem dJ6_bitCount_0f7a4_49 : decode cJ6_bitCount_0f7a4 49 = .ok (.bipush 63, 2) := by decide +kernel
theorem dJ6_bitCount_0f7a4_51 : decode cJ6_bitCount_0f7a4 51 = .ok (.iand, 1) := by decide +kernel
theorem dJ6_bitCount_0f7a4_52 : decode cJ6_bitCount_0f7a4 52 = .ok (.ireturn, 1) := by decide +kernel
set_option maxRecDepth 20000 in
theorem ggL_law_X0_init : GoodIn wsL_law wsX0_init := goodIn_r _ [8, 9, 10, 11, 12, 13, 14, 15, 16, 17, 18, 177, 178, 179, 180, 181, 182, 183, 184, 185, 186, 187, 188, 189] (by decide +kernel) (by decide +kernel)
set_option maxRecDepth 20000 in
theorem gL_law_X0_init : GoodIn wsL_law (wsX0_init) := ggL_law_X0_init
set_option maxRecDepth 20000 in
theorem ggL_law_X1_init : GoodIn wsL_law wsX1_init := goodIn_r _ [21, 22, 10, 11, 13, 23, 24, 25, 26, 27, 28, 190, 191, 192, 193, 194, 195, 196, 197, 198, 199, 200, 201, 202, 203] (by decide +kernel) (by decide +kernel)
set_option maxRecDepth 20000 in
theorem gL_law_X1_init : GoodIn wsL_law (wsX1_init) := ggL_law_X1_init
set_option maxRecDepth 20000 in
theorem ggL_law_X0_turn : GoodIn wsL_law wsX0_turn := goodIn_r _ [32, 12, 33, 34, 35, 2, 36, 37, 177, 178, 179, 180, 181, 182, 183, 184, 185, 186, 187, 188, 189] (by decide +kernel) (by decide +kernel)
set_option maxRecDepth 20000 in
theorem gL_law_X0_turn : GoodIn wsL_law (wsV RL 13 RX0 yX0_turn wsX0_turn) := goodIn_app (goodIn_of _ (by decide +kernel)) ggL_law_X0_turn
set_option maxRecDepth 20000 in
theorem ggL_law_X1_turn : GoodIn wsL_law wsX1_turn := goodIn_r _ [41, 42, 43, 44, 45, 46, 47, 5, 48, 49, 190, 191, 192, 193, 194, 195, 196, 197, 198, 199, 200, 201, 202, 203] (by decide +kernel) (by decide +kernel)
set_option maxRecDepth 20000 in
theorem gL_law_X1_turn : GoodIn wsL_law (wsV RL 17 RX1 yX1_turn wsX1_turn) := goodIn_app (goodIn_of _ (by decide +kernel)) ggL_law_X1_turn
set_option maxRecDepth 20000 in
theorem ggL_law_X0_mending : GoodIn wsL_law wsX0_mending := goodIn_r _ [53, 54, 177, 178, 179, 180, 181, 182, 183, 184, 185, 186, 187, 188, 189] (by decide +kernel) (by decide +kernel)
set_option maxRecDepth 20000 in
theorem gL_law_X0_mending : GoodIn wsL_law (wsV RL 18 RX0 yX0_mending wsX0_mending) := goodIn_app (goodIn_of _ (by decide +kernel)) ggL_law_X0_mending
set_option maxRecDepth 20000 in
theorem ggL_law_X1_mending : GoodIn wsL_law wsX1_mending := goodIn_r _ [58, 42, 59, 190, 191, 192, 193, 194, 195, 196, 197, 198, 199, 200, 201, 202, 203] (by decide +kernel) (by decide +kernel)
set_option maxRecDepth 20000 in
theorem gL_law_X1_mending : GoodIn wsL_law (wsV RL 22 RX1 yX1_mending wsX1_mending) := goodIn_app (goodIn_of _ (by decide +kernel)) ggL_law_X1_mending
set_option maxRecDepth 20000 in
theorem ggL_law_X0_take : GoodIn wsL_law wsX0_take := goodIn_r _ [63, 12, 16, 64, 65, 66, 2, 67, 68, 37, 69, 70, 71, 72, 73, 74, 54, 75, 76, 77, 78, 79, 80, 81, 82, 83, 84, 85, 86, 87, 88, 89, 90, 91, 92, 93, 94, 95, 96, 97, 98, 99, 100, 101, 102, 103, 104, 14, 105, 106, 107, 108, 109, 110, 111, 15, 112, 33, 34, 35, 36, 177, 178, 179, 180, 181, 182, 183, 184, 185, 186, 187, 188, 189] (by decide +kernel) (by decide +kernel)
set_option maxRecDepth 20000 in
theorem gL_law_X0_take : GoodIn wsL_law (wsV RL 25 RX0 yX0_take wsX0_take) := goodIn_app (goodIn_of _ (by decide +kernel)) ggL_law_X0_take
set_option maxRecDepth 20000 in
theorem ggL_law_X1_take : GoodIn wsL_law wsX1_take := goodIn_r _ [116, 42, 43, 117, 118, 119, 5, 120, 23, 49, 121, 122, 123, 124, 24, 44, 28, 125, 126, 127, 128, 59, 190, 191, 192, 193, 194, 195, 196, 197, 198, 199, 200, 201, 202, 203] (by decide +kernel) (by decide +kernel)
set_option maxRecDepth 20000 in
theorem gL_law_X1_take : GoodIn wsL_law (wsV RL 29 RX1 yX1_take wsX1_take) := goodIn_app (goodIn_of _ (by decide +kernel)) ggL_law_X1_take
set_option maxRecDepth 20000 in
theorem ggL_law_X0_state : GoodIn wsL_law wsX0_state := goodIn_r _ [132, 12, 177, 178, 179, 180, 181, 182, 183, 184, 185, 186, 187, 188, 189] (by decide +kernel) (by decide +kernel)
set_option maxRecDepth 20000 in
theorem gL_law_X0_state : GoodIn wsL_law (wsV RL 30 RX0 yX0_state wsX0_state) := goodIn_app (goodIn_of _ (by decide +kernel)) ggL_law_X0_state
set_option maxRecDepth 20000 in
theorem ggL_law_X0_count : GoodIn wsL_law wsX0_count := goodIn_r _ [136, 16, 177, 178, 179, 180, 181, 182, 183, 184, 185, 186, 187, 188, 189] (by decide +kernel) (by decide +kernel)
set_option maxRecDepth 20000 in
theorem gL_law_X0_count : GoodIn wsL_law (wsV RL 35 RX0 yX0_count wsX0_count) := goodIn_app (goodIn_of _ (by decide +kernel)) ggL_law_X0_count
set_option maxRecDepth 20000 in
theorem ggL_law_X0_size : GoodIn wsL_law wsX0_size := goodIn_r _ [140, 112, 177, 178, 179, 180, 181, 182, 183, 184, 185, 186, 187, 188, 189] (by decide +kernel) (by decide +kernel)
set_option maxRecDepth 20000 in
theorem gL_law_X0_size : GoodIn wsL_law (wsV RL 40 RX0 yX0_size wsX0_size) := goodIn_app (goodIn_of _ (by decide +kernel)) ggL_law_X0_size
set_option maxRecDepth 20000 in
theorem ggL_law_X0_byteAt : GoodIn wsL_law wsX0_byteAt := goodIn_r _ [144, 112, 15, 177, 178, 179, 180, 181, 182, 183, 184, 185, 186, 187, 188, 189] (by decide +kernel) (by decide +kernel)
set_option maxRecDepth 20000 in
theorem gL_law_X0_byteAt : GoodIn wsL_law (wsV RL 44 RX0 yX0_byteAt wsX0_byteAt) := goodIn_app (goodIn_of _ (by decide +kernel)) ggL_law_X0_byteAt
set_option maxRecDepth 20000 in
theorem ggL_law_X0_put : GoodIn wsL_law wsX0_put := goodIn_r _ [148, 149, 17, 177, 178, 179, 180, 181, 182, 183, 184, 185, 186, 187, 188, 189] (by decide +kernel) (by decide +kernel)
set_option maxRecDepth 20000 in
theorem gL_law_X0_put : GoodIn wsL_law (wsV RL 48 RX0 yX0_put wsX0_put) := goodIn_app (goodIn_of _ (by decide +kernel)) ggL_law_X0_put
set_option maxRecDepth 20000 in
theorem ggL_law_X0_send : GoodIn wsL_law wsX0_send := goodIn_r _ [153, 149, 154, 155, 156, 157, 158, 159, 2, 160, 161, 146, 147, 148, 17, 162, 163, 164, 165, 18, 105, 106, 107, 166, 167, 168, 169, 170, 171, 172, 92, 93, 94, 95, 96, 97, 177, 178, 179, 180, 181, 182, 183, 184, 185, 186, 187, 188, 189] (by decide +kernel) (by decide +kernel)
set_option maxRecDepth 20000 in
theorem gL_law_X0_send : GoodIn wsL_law (wsV RL 52 RX0 yX0_send wsX0_send) := goodIn_app (goodIn_of _ (by decide +kernel)) ggL_law_X0_send
set_option maxRecDepth 20000 in
theorem ggL_law_X0_sent : GoodIn wsL_law wsX0_sent := goodIn_r _ [176, 154, 18, 177, 178, 179, 180, 181, 182, 183, 184, 185, 186, 187, 188, 189] (by decide +kernel) (by decide +kernel)
set_option maxRecDepth 20000 in
theorem gL_law_X0_sent : GoodIn wsL_law (wsV RL 56 RX0 yX0_sent wsX0_sent) := goodIn_app (goodIn_of _ (by decide +kernel)) ggL_law_X0_sent
theorem dL_law_0 : decode cL_law 0 = .ok (.new 7, 3) := by decide +kernel
theorem dL_law_3 : decode cL_law 3 = .ok (.dup, 1) := by decide +kernel
theorem dL_law_4 : decode cL_law 4 = .ok (.invokespecial 9, 3) := by decide +kernel
theorem dL_law_7 : decode cL_law 7 = .ok (.astore_n 1, 1) := by decide +kernel
theorem dL_law_8 : decode cL_law 8 = .ok (.new 10, 3) := by decide +kernel
theorem dL_law_11 : decode cL_law 11 = .ok (.dup, 1) := by decide +kernel
theorem dL_law_12 : decode cL_law 12 = .ok (.invokespecial 12, 3) := by decide +kernel
theorem dL_law_15 : decode cL_law 15 = .ok (.astore_n 2, 1) := by decide +kernel
theorem dL_law_16 : decode cL_law 16 = .ok (.iconst 0, 1) := by decide +kernel
theorem dL_law_17 : decode cL_law 17 = .ok (.istore_n 3, 1) := by decide +kernel
theorem dL_law_18 : decode cL_law 18 = .ok (.iload_n 3, 1) := by decide +kernel
theorem dL_law_19 : decode cL_law 19 = .ok (.aload_n 0, 1) := by decide +kernel
theorem dL_law_20 : decode cL_law 20 = .ok (.arraylength, 1) := by decide +kernel
theorem dL_law_21 : decode cL_law 21 = .ok (.iconst 4, 1) := by decide +kernel
theorem dL_law_22 : decode cL_law 22 = .ok (.isub, 1) := by decide +kernel
theorem dL_law_23 : decode cL_law 23 = .ok (.if_icmp .gt 341, 3) := by decide +kernel
theorem dL_law_26 : decode cL_law 26 = .ok (.aload_n 0, 1) := by decide +kernel
theorem dL_law_27 : decode cL_law 27 = .ok (.iload_n 3, 1) := by decide +kernel
theorem dL_law_28 : decode cL_law 28 = .ok (.iaload, 1) := by decide +kernel
theorem dL_law_29 : decode cL_law 29 = .ok (.bipush 15, 2) := by decide +kernel
theorem dL_law_31 : decode cL_law 31 = .ok (.iand, 1) := by decide +kernel
theorem dL_law_32 : decode cL_law 32 = .ok (.tableswitch 326 0 9 #[56, 95, 132, 195, 208, 231, 244, 267, 290, 303], 56) := by decide +kernel
theorem dL_law_88 : decode cL_law 88 = .ok (.aload_n 1, 1) := by decide +kernel
theorem dL_law_89 : decode cL_law 89 = .ok (.aload_n 0, 1) := by decide +kernel
theorem dL_law_90 : decode cL_law 90 = .ok (.iload_n 3, 1) := by decide +kernel
theorem dL_law_91 : decode cL_law 91 = .ok (.iconst 1, 1) := by decide +kernel
theorem dL_law_92 : decode cL_law 92 = .ok (.iadd, 1) := by decide +kernel
theorem dL_law_93 : decode cL_law 93 = .ok (.iaload, 1) := by decide +kernel
theorem dL_law_94 : decode cL_law 94 = .ok (.ifCond .eq 7, 3) := by decide +kernel
theorem dL_law_97 : decode cL_law 97 = .ok (.iconst 1, 1) := by decide +kernel
theorem dL_law_98 : decode cL_law 98 = .ok (.goto 4, 3) := by decide +kernel
theorem dL_law_101 : decode cL_law 101 = .ok (.iconst 0, 1) := by decide +kernel
theorem dL_law_102 : decode cL_law 102 = .ok (.invokevirtual 13, 3) := by decide +kernel
theorem dL_law_105 : decode cL_law 105 = .ok (.aload_n 2, 1) := by decide +kernel
theorem dL_law_106 : decode cL_law 106 = .ok (.aload_n 0, 1) := by decide +kernel
theorem dL_law_107 : decode cL_law 107 = .ok (.iload_n 3, 1) := by decide +kernel
theorem dL_law_108 : decode cL_law 108 = .ok (.iconst 1, 1) := by decide +kernel
theorem dL_law_109 : decode cL_law 109 = .ok (.iadd, 1) := by decide +kernel
theorem dL_law_110 : decode cL_law 110 = .ok (.iaload, 1) := by decide +kernel
theorem dL_law_111 : decode cL_law 111 = .ok (.ifCond .eq 7, 3) := by decide +kernel
theorem dL_law_114 : decode cL_law 114 = .ok (.iconst 1, 1) := by decide +kernel
theorem dL_law_115 : decode cL_law 115 = .ok (.goto 4, 3) := by decide +kernel
theorem dL_law_118 : decode cL_law 118 = .ok (.iconst 0, 1) := by decide +kernel
theorem dL_law_119 : decode cL_law 119 = .ok (.invokevirtual 17, 3) := by decide +kernel
theorem dL_law_122 : decode cL_law 122 = .ok (.if_icmp .eq 236, 3) := by decide +kernel
theorem dL_law_125 : decode cL_law 125 = .ok (.iconst 0, 1) := by decide +kernel
theorem dL_law_126 : decode cL_law 126 = .ok (.ireturn, 1) := by decide +kernel
theorem dL_law_127 : decode cL_law 127 = .ok (.aload_n 1, 1) := by decide +kernel
theorem dL_law_128 : decode cL_law 128 = .ok (.aload_n 0, 1) := by decide +kernel
theorem dL_law_129 : decode cL_law 129 = .ok (.iload_n 3, 1) := by decide +kernel
theorem dL_law_130 : decode cL_law 130 = .ok (.iconst 1, 1) := by decide +kernel
theorem dL_law_131 : decode cL_law 131 = .ok (.iadd, 1) := by decide +kernel
theorem dL_law_132 : decode cL_law 132 = .ok (.iaload, 1) := by decide +kernel
theorem dL_law_133 : decode cL_law 133 = .ok (.ifCond .eq 7, 3) := by decide +kernel
theorem dL_law_136 : decode cL_law 136 = .ok (.iconst 1, 1) := by decide +kernel
theorem dL_law_137 : decode cL_law 137 = .ok (.goto 4, 3) := by decide +kernel
theorem dL_law_140 : decode cL_law 140 = .ok (.iconst 0, 1) := by decide +kernel
theorem dL_law_141 : decode cL_law 141 = .ok (.invokevirtual 18, 3) := by decide +kernel
theorem dL_law_144 : decode cL_law 144 = .ok (.aload_n 2, 1) := by decide +kernel
theorem dL_law_145 : decode cL_law 145 = .ok (.aload_n 0, 1) := by decide +kernel
theorem dL_law_146 : decode cL_law 146 = .ok (.iload_n 3, 1) := by decide +kernel
theorem dL_law_147 : decode cL_law 147 = .ok (.iconst 1, 1) := by decide +kernel
theorem dL_law_148 : decode cL_law 148 = .ok (.iadd, 1) := by decide +kernel
theorem dL_law_149 : decode cL_law 149 = .ok (.iaload, 1) := by decide +kernel
theorem dL_law_150 : decode cL_law 150 = .ok (.ifCond .eq 7, 3) := by decide +kernel
theorem dL_law_153 : decode cL_law 153 = .ok (.iconst 1, 1) := by decide +kernel
theorem dL_law_154 : decode cL_law 154 = .ok (.goto 4, 3) := by decide +kernel
theorem dL_law_157 : decode cL_law 157 = .ok (.iconst 0, 1) := by decide +kernel
theorem dL_law_158 : decode cL_law 158 = .ok (.invokevirtual 22, 3) := by decide +kernel
theorem dL_law_161 : decode cL_law 161 = .ok (.goto 197, 3) := by decide +kernel
theorem dL_law_164 : decode cL_law 164 = .ok (.aload_n 1, 1) := by decide +kernel
theorem dL_law_165 : decode cL_law 165 = .ok (.aload_n 0, 1) := by decide +kernel
theorem dL_law_166 : decode cL_law 166 = .ok (.iload_n 3, 1) := by decide +kernel
theorem dL_law_167 : decode cL_law 167 = .ok (.iconst 1, 1) := by decide +kernel
theorem dL_law_168 : decode cL_law 168 = .ok (.iadd, 1) := by decide +kernel
theorem dL_law_169 : decode cL_law 169 = .ok (.iaload, 1) := by decide +kernel
theorem dL_law_170 : decode cL_law 170 = .ok (.aload_n 0, 1) := by decide +kernel
theorem dL_law_171 : decode cL_law 171 = .ok (.iload_n 3, 1) := by decide +kernel
theorem dL_law_172 : decode cL_law 172 = .ok (.iconst 2, 1) := by decide +kernel
theorem dL_law_173 : decode cL_law 173 = .ok (.iadd, 1) := by decide +kernel
theorem dL_law_174 : decode cL_law 174 = .ok (.iaload, 1) := by decide +kernel
theorem dL_law_175 : decode cL_law 175 = .ok (.i2l, 1) := by decide +kernel
theorem dL_law_176 : decode cL_law 176 = .ok (.bipush 32, 2) := by decide +kernel
theorem dL_law_178 : decode cL_law 178 = .ok (.lshl, 1) := by decide +kernel
theorem dL_law_179 : decode cL_law 179 = .ok (.aload_n 0, 1) := by decide +kernel
theorem dL_law_180 : decode cL_law 180 = .ok (.iload_n 3, 1) := by decide +kernel
theorem dL_law_181 : decode cL_law 181 = .ok (.iconst 3, 1) := by decide +kernel
theorem dL_law_182 : decode cL_law 182 = .ok (.iadd, 1) := by decide +kernel
theorem dL_law_183 : decode cL_law 183 = .ok (.iaload, 1) := by decide +kernel
theorem dL_law_184 : decode cL_law 184 = .ok (.i2l, 1) := by decide +kernel
theorem dL_law_185 : decode cL_law 185 = .ok (.ldc2_w 23, 3) := by decide +kernel
theorem dL_law_188 : decode cL_law 188 = .ok (.land, 1) := by decide +kernel
theorem dL_law_189 : decode cL_law 189 = .ok (.lor, 1) := by decide +kernel
theorem dL_law_190 : decode cL_law 190 = .ok (.invokevirtual 25, 3) := by decide +kernel
theorem dL_law_193 : decode cL_law 193 = .ok (.aload_n 2, 1) := by decide +kernel
theorem dL_law_194 : decode cL_law 194 = .ok (.aload_n 0, 1) := by decide +kernel
theorem dL_law_195 : decode cL_law 195 = .ok (.iload_n 3, 1) := by decide +kernel
theorem dL_law_196 : decode cL_law 196 = .ok (.iconst 1, 1) := by decide +kernel
theorem dL_law_197 : decode cL_law 197 = .ok (.iadd, 1) := by decide +kernel
theorem dL_law_198 : decode cL_law 198 = .ok (.iaload, 1) := by decide +kernel
theorem dL_law_199 : decode cL_law 199 = .ok (.aload_n 0, 1) := by decide +kernel
theorem dL_law_200 : decode cL_law 200 = .ok (.iload_n 3, 1) := by decide +kernel
theorem dL_law_201 : decode cL_law 201 = .ok (.iconst 2, 1) := by decide +kernel
theorem dL_law_202 : decode cL_law 202 = .ok (.iadd, 1) := by decide +kernel
theorem dL_law_203 : decode cL_law 203 = .ok (.iaload, 1) := by decide +kernel
theorem dL_law_204 : decode cL_law 204 = .ok (.i2l, 1) := by decide +kernel
theorem dL_law_205 : decode cL_law 205 = .ok (.bipush 32, 2) := by decide +kernel
theorem dL_law_207 : decode cL_law 207 = .ok (.lshl, 1) := by decide +kernel
theorem dL_law_208 : decode cL_law 208 = .ok (.aload_n 0, 1) := by decide +kernel
theorem dL_law_209 : decode cL_law 209 = .ok (.iload_n 3, 1) := by decide +kernel
theorem dL_law_210 : decode cL_law 210 = .ok (.iconst 3, 1) := by decide +kernel
theorem dL_law_211 : decode cL_law 211 = .ok (.iadd, 1) := by decide +kernel
theorem dL_law_212 : decode cL_law 212 = .ok (.iaload, 1) := by decide +kernel
theorem dL_law_213 : decode cL_law 213 = .ok (.i2l, 1) := by decide +kernel
theorem dL_law_214 : decode cL_law 214 = .ok (.ldc2_w 23, 3) := by decide +kernel
theorem dL_law_217 : decode cL_law 217 = .ok (.land, 1) := by decide +kernel
theorem dL_law_218 : decode cL_law 218 = .ok (.lor, 1) := by decide +kernel
theorem dL_law_219 : decode cL_law 219 = .ok (.invokevirtual 29, 3) := by decide +kernel
theorem dL_law_222 : decode cL_law 222 = .ok (.if_icmp .eq 136, 3) := by decide +kernel
theorem dL_law_225 : decode cL_law 225 = .ok (.iconst 0, 1) := by decide +kernel
theorem dL_law_226 : decode cL_law 226 = .ok (.ireturn, 1) := by decide +kernel
theorem dL_law_227 : decode cL_law 227 = .ok (.aload_n 1, 1) := by decide +kernel
theorem dL_law_228 : decode cL_law 228 = .ok (.invokevirtual 30, 3) := by decide +kernel
theorem dL_law_231 : decode cL_law 231 = .ok (.aload_n 2, 1) := by decide +kernel
theorem dL_law_232 : decode cL_law 232 = .ok (.invokevirtual 34, 3) := by decide +kernel
theorem dL_law_235 : decode cL_law 235 = .ok (.if_icmp .eq 123, 3) := by decide +kernel
theorem dL_law_238 : decode cL_law 238 = .ok (.iconst 0, 1) := by decide +kernel
theorem dL_law_239 : decode cL_law 239 = .ok (.ireturn, 1) := by decide +kernel
theorem dL_law_240 : decode cL_law 240 = .ok (.aload_n 1, 1) := by decide +kernel
theorem dL_law_241 : decode cL_law 241 = .ok (.aload_n 0, 1) := by decide +kernel
theorem dL_law_242 : decode cL_law 242 = .ok (.iload_n 3, 1) := by decide +kernel
theorem dL_law_243 : decode cL_law 243 = .ok (.iconst 1, 1) := by decide +kernel
theorem dL_law_244 : decode cL_law 244 = .ok (.iadd, 1) := by decide +kernel
theorem dL_law_245 : decode cL_law 245 = .ok (.iaload, 1) := by decide +kernel
theorem dL_law_246 : decode cL_law 246 = .ok (.invokevirtual 35, 3) := by decide +kernel
theorem dL_law_249 : decode cL_law 249 = .ok (.aload_n 2, 1) := by decide +kernel
theorem dL_law_250 : decode cL_law 250 = .ok (.aload_n 0, 1) := by decide +kernel
theorem dL_law_251 : decode cL_law 251 = .ok (.iload_n 3, 1) := by decide +kernel
theorem dL_law_252 : decode cL_law 252 = .ok (.iconst 1, 1) := by decide +kernel
theorem dL_law_253 : decode cL_law 253 = .ok (.iadd, 1) := by decide +kernel
theorem dL_law_254 : decode cL_law 254 = .ok (.iaload, 1) := by decide +kernel
theorem dL_law_255 : decode cL_law 255 = .ok (.invokevirtual 39, 3) := by decide +kernel
theorem dL_law_258 : decode cL_law 258 = .ok (.if_icmp .eq 100, 3) := by decide +kernel
theorem dL_law_261 : decode cL_law 261 = .ok (.iconst 0, 1) := by decide +kernel
theorem dL_law_262 : decode cL_law 262 = .ok (.ireturn, 1) := by decide +kernel
theorem dL_law_263 : decode cL_law 263 = .ok (.aload_n 1, 1) := by decide +kernel
theorem dL_law_264 : decode cL_law 264 = .ok (.invokevirtual 40, 3) := by decide +kernel
theorem dL_law_267 : decode cL_law 267 = .ok (.aload_n 2, 1) := by decide +kernel
theorem dL_law_268 : decode cL_law 268 = .ok (.invokevirtual 43, 3) := by decide +kernel
theorem dL_law_271 : decode cL_law 271 = .ok (.if_icmp .eq 87, 3) := by decide +kernel
theorem dL_law_274 : decode cL_law 274 = .ok (.iconst 0, 1) := by decide +kernel
theorem dL_law_275 : decode cL_law 275 = .ok (.ireturn, 1) := by decide +kernel
theorem dL_law_276 : decode cL_law 276 = .ok (.aload_n 1, 1) := by decide +kernel
theorem dL_law_277 : decode cL_law 277 = .ok (.aload_n 0, 1) := by decide +kernel
theorem dL_law_278 : decode cL_law 278 = .ok (.iload_n 3, 1) := by decide +kernel
theorem dL_law_279 : decode cL_law 279 = .ok (.iconst 1, 1) := by decide +kernel
theorem dL_law_280 : decode cL_law 280 = .ok (.iadd, 1) := by decide +kernel
theorem dL_law_281 : decode cL_law 281 = .ok (.iaload, 1) := by decide +kernel
theorem dL_law_282 : decode cL_law 282 = .ok (.invokevirtual 44, 3) := by decide +kernel
theorem dL_law_285 : decode cL_law 285 = .ok (.aload_n 2, 1) := by decide +kernel
theorem dL_law_286 : decode cL_law 286 = .ok (.aload_n 0, 1) := by decide +kernel
theorem dL_law_287 : decode cL_law 287 = .ok (.iload_n 3, 1) := by decide +kernel
theorem dL_law_288 : decode cL_law 288 = .ok (.iconst 1, 1) := by decide +kernel
theorem dL_law_289 : decode cL_law 289 = .ok (.iadd, 1) := by decide +kernel
theorem dL_law_290 : decode cL_law 290 = .ok (.iaload, 1) := by decide +kernel
theorem dL_law_291 : decode cL_law 291 = .ok (.invokevirtual 47, 3) := by decide +kernel
theorem dL_law_294 : decode cL_law 294 = .ok (.if_icmp .eq 64, 3) := by decide +kernel
theorem dL_law_297 : decode cL_law 297 = .ok (.iconst 0, 1) := by decide +kernel
theorem dL_law_298 : decode cL_law 298 = .ok (.ireturn, 1) := by decide +kernel
theorem dL_law_299 : decode cL_law 299 = .ok (.aload_n 1, 1) := by decide +kernel
theorem dL_law_300 : decode cL_law 300 = .ok (.aload_n 0, 1) := by decide +kernel
theorem dL_law_301 : decode cL_law 301 = .ok (.iload_n 3, 1) := by decide +kernel
theorem dL_law_302 : decode cL_law 302 = .ok (.iconst 1, 1) := by decide +kernel
theorem dL_law_303 : decode cL_law 303 = .ok (.iadd, 1) := by decide +kernel
theorem dL_law_304 : decode cL_law 304 = .ok (.iaload, 1) := by decide +kernel
theorem dL_law_305 : decode cL_law 305 = .ok (.invokevirtual 48, 3) := by decide +kernel
theorem dL_law_308 : decode cL_law 308 = .ok (.aload_n 2, 1) := by decide +kernel
theorem dL_law_309 : decode cL_law 309 = .ok (.aload_n 0, 1) := by decide +kernel
theorem dL_law_310 : decode cL_law 310 = .ok (.iload_n 3, 1) := by decide +kernel
theorem dL_law_311 : decode cL_law 311 = .ok (.iconst 1, 1) := by decide +kernel
theorem dL_law_312 : decode cL_law 312 = .ok (.iadd, 1) := by decide +kernel
theorem dL_law_313 : decode cL_law 313 = .ok (.iaload, 1) := by decide +kernel
theorem dL_law_314 : decode cL_law 314 = .ok (.invokevirtual 51, 3) := by decide +kernel
theorem dL_law_317 : decode cL_law 317 = .ok (.if_icmp .eq 41, 3) := by decide +kernel
theorem dL_law_320 : decode cL_law 320 = .ok (.iconst 0, 1) := by decide +kernel
theorem dL_law_321 : decode cL_law 321 = .ok (.ireturn, 1) := by decide +kernel
theorem dL_law_322 : decode cL_law 322 = .ok (.aload_n 1, 1) := by decide +kernel
theorem dL_law_323 : decode cL_law 323 = .ok (.invokevirtual 52, 3) := by decide +kernel
theorem dL_law_326 : decode cL_law 326 = .ok (.aload_n 2, 1) := by decide +kernel
theorem dL_law_327 : decode cL_law 327 = .ok (.invokevirtual 55, 3) := by decide +kernel
theorem dL_law_330 : decode cL_law 330 = .ok (.if_icmp .eq 28, 3) := by decide +kernel
theorem dL_law_333 : decode cL_law 333 = .ok (.iconst 0, 1) := by decide +kernel
theorem dL_law_334 : decode cL_law 334 = .ok (.ireturn, 1) := by decide +kernel
theorem dL_law_335 : decode cL_law 335 = .ok (.aload_n 1, 1) := by decide +kernel
theorem dL_law_336 : decode cL_law 336 = .ok (.aload_n 0, 1) := by decide +kernel
theorem dL_law_337 : decode cL_law 337 = .ok (.iload_n 3, 1) := by decide +kernel
theorem dL_law_338 : decode cL_law 338 = .ok (.iconst 1, 1) := by decide +kernel
theorem dL_law_339 : decode cL_law 339 = .ok (.iadd, 1) := by decide +kernel
theorem dL_law_340 : decode cL_law 340 = .ok (.iaload, 1) := by decide +kernel
theorem dL_law_341 : decode cL_law 341 = .ok (.invokevirtual 56, 3) := by decide +kernel
theorem dL_law_344 : decode cL_law 344 = .ok (.aload_n 2, 1) := by decide +kernel
theorem dL_law_345 : decode cL_law 345 = .ok (.aload_n 0, 1) := by decide +kernel
theorem dL_law_346 : decode cL_law 346 = .ok (.iload_n 3, 1) := by decide +kernel
theorem dL_law_347 : decode cL_law 347 = .ok (.iconst 1, 1) := by decide +kernel
theorem dL_law_348 : decode cL_law 348 = .ok (.iadd, 1) := by decide +kernel
theorem dL_law_349 : decode cL_law 349 = .ok (.iaload, 1) := by decide +kernel
theorem dL_law_350 : decode cL_law 350 = .ok (.invokevirtual 59, 3) := by decide +kernel
theorem dL_law_353 : decode cL_law 353 = .ok (.if_icmp .eq 5, 3) := by decide +kernel
theorem dL_law_356 : decode cL_law 356 = .ok (.iconst 0, 1) := by decide +kernel
theorem dL_law_357 : decode cL_law 357 = .ok (.ireturn, 1) := by decide +kernel
theorem dL_law_358 : decode cL_law 358 = .ok (.iinc 3 4, 3) := by decide +kernel
theorem dL_law_361 : decode cL_law 361 = .ok (.goto (-343), 3) := by decide +kernel
theorem dL_law_364 : decode cL_law 364 = .ok (.iconst 1, 1) := by decide +kernel
theorem dL_law_365 : decode cL_law 365 = .ok (.ireturn, 1) := by decide +kernel
abbrev vwCl : List vw_C := [(RX0, TX0, 13), (RX1, TX1, 14)]
end
section
abbrev cX1_divided : ByteArray := prog_3_method_3_code
def yX1_divided : MethodName := ⟨RX1, "divided", "(I)Z"⟩
theorem dX1_divided_0 : decode cX1_divided 0 = .ok (.iconst 0, 1) := by decide +kernel
theorem dX1_divided_1 : decode cX1_divided 1 = .ok (.istore_n 2, 1) := by decide +kernel
theorem dX1_divided_2 : decode cX1_divided 2 = .ok (.iconst 0, 1) := by decide +kernel
theorem dX1_divided_3 : decode cX1_divided 3 = .ok (.istore_n 3, 1) := by decide +kernel
theorem dX1_divided_4 : decode cX1_divided 4 = .ok (.iload_n 3, 1) := by decide +kernel
theorem dX1_divided_5 : decode cX1_divided 5 = .ok (.bipush 63, 2) := by decide +kernel
theorem dX1_divided_7 : decode cX1_divided 7 = .ok (.if_icmp .ge 63, 3) := by decide +kernel
theorem dX1_divided_10 : decode cX1_divided 10 = .ok (.aload_n 0, 1) := by decide +kernel
theorem dX1_divided_11 : decode cX1_divided 11 = .ok (.getfield 7, 3) := by decide +kernel
theorem dX1_divided_14 : decode cX1_divided 14 = .ok (.iload_n 3, 1) := by decide +kernel
theorem dX1_divided_15 : decode cX1_divided 15 = .ok (.iaload, 1) := by decide +kernel
theorem dX1_divided_16 : decode cX1_divided 16 = .ok (.iload_n 3, 1) := by decide +kernel
theorem dX1_divided_17 : decode cX1_divided 17 = .ok (.bipush 55, 2) := by decide +kernel
theorem dX1_divided_19 : decode cX1_divided 19 = .ok (.if_icmp .le 7, 3) := by decide +kernel
theorem dX1_divided_22 : decode cX1_divided 22 = .ok (.iconst 1, 1) := by decide +kernel
theorem dX1_divided_23 : decode cX1_divided 23 = .ok (.goto 4, 3) := by decide +kernel
theorem dX1_divided_26 : decode cX1_divided 26 = .ok (.iconst 0, 1) := by decide +kernel
theorem dX1_divided_27 : decode cX1_divided 27 = .ok (.ixor, 1) := by decide +kernel
theorem dX1_divided_28 : decode cX1_divided 28 = .ok (.iload_n 3, 1) := by decide +kernel
theorem dX1_divided_29 : decode cX1_divided 29 = .ok (.iload_n 1, 1) := by decide +kernel
theorem dX1_divided_30 : decode cX1_divided 30 = .ok (.if_icmp .ne 7, 3) := by decide +kernel
theorem dX1_divided_33 : decode cX1_divided 33 = .ok (.iconst 1, 1) := by decide +kernel
theorem dX1_divided_34 : decode cX1_divided 34 = .ok (.goto 4, 3) := by decide +kernel
theorem dX1_divided_37 : decode cX1_divided 37 = .ok (.iconst 0, 1) := by decide +kernel
theorem dX1_divided_38 : decode cX1_divided 38 = .ok (.ixor, 1) := by decide +kernel
theorem dX1_divided_39 : decode cX1_divided 39 = .ok (.istore 4, 2) := by decide +kernel
theorem dX1_divided_41 : decode cX1_divided 41 = .ok (.iconst 2, 1) := by decide +kernel
theorem dX1_divided_42 : decode cX1_divided 42 = .ok (.iload_n 2, 1) := by decide +kernel
theorem dX1_divided_43 : decode cX1_divided 43 = .ok (.imul, 1) := by decide +kernel
theorem dX1_divided_44 : decode cX1_divided 44 = .ok (.iload 4, 2) := by decide +kernel
theorem dX1_divided_46 : decode cX1_divided 46 = .ok (.iadd, 1) := by decide +kernel
theorem dX1_divided_47 : decode cX1_divided 47 = .ok (.istore_n 2, 1) := by decide +kernel
theorem dX1_divided_48 : decode cX1_divided 48 = .ok (.iload_n 2, 1) := by decide +kernel
theorem dX1_divided_49 : decode cX1_divided 49 = .ok (.bipush 127, 2) := by decide +kernel
theorem dX1_divided_51 : decode cX1_divided 51 = .ok (.if_icmp .le 11, 3) := by decide +kernel
theorem dX1_divided_54 : decode cX1_divided 54 = .ok (.iload_n 2, 1) := by decide +kernel
theorem dX1_divided_55 : decode cX1_divided 55 = .ok (.sipush 197, 3) := by decide +kernel
theorem dX1_divided_58 : decode cX1_divided 58 = .ok (.ixor, 1) := by decide +kernel
theorem dX1_divided_59 : decode cX1_divided 59 = .ok (.goto 4, 3) := by decide +kernel
theorem dX1_divided_62 : decode cX1_divided 62 = .ok (.iload_n 2, 1) := by decide +kernel
theorem dX1_divided_63 : decode cX1_divided 63 = .ok (.istore_n 2, 1) := by decide +kernel
theorem dX1_divided_64 : decode cX1_divided 64 = .ok (.iinc 3 1, 3) := by decide +kernel
theorem dX1_divided_67 : decode cX1_divided 67 = .ok (.goto (-63), 3) := by decide +kernel
theorem dX1_divided_70 : decode cX1_divided 70 = .ok (.iload_n 2, 1) := by decide +kernel
theorem dX1_divided_71 : decode cX1_divided 71 = .ok (.ifCond .ne 7, 3) := by decide +kernel
theorem dX1_divided_74 : decode cX1_divided 74 = .ok (.iconst 1, 1) := by decide +kernel
theorem dX1_divided_75 : decode cX1_divided 75 = .ok (.goto 4, 3) := by decide +kernel
theorem dX1_divided_78 : decode cX1_divided 78 = .ok (.iconst 0, 1) := by decide +kernel
theorem dX1_divided_79 : decode cX1_divided 79 = .ok (.ireturn, 1) := by decide +kernel
abbrev cX1_ends : ByteArray := prog_3_method_6_code
def yX1_ends : MethodName := ⟨RX1, "ends", "()V"⟩
theorem dX1_ends_0 : decode cX1_ends 0 = .ok (.aload_n 0, 1) := by decide +kernel
theorem dX1_ends_1 : decode cX1_ends 1 = .ok (.getfield 25, 3) := by decide +kernel
theorem dX1_ends_4 : decode cX1_ends 4 = .ok (.iconst 1, 1) := by decide +kernel
theorem dX1_ends_5 : decode cX1_ends 5 = .ok (.dup2, 1) := by decide +kernel
theorem dX1_ends_6 : decode cX1_ends 6 = .ok (.iaload, 1) := by decide +kernel
theorem dX1_ends_7 : decode cX1_ends 7 = .ok (.iconst 1, 1) := by decide +kernel
theorem dX1_ends_8 : decode cX1_ends 8 = .ok (.iadd, 1) := by decide +kernel
theorem dX1_ends_9 : decode cX1_ends 9 = .ok (.iastore, 1) := by decide +kernel
theorem dX1_ends_10 : decode cX1_ends 10 = .ok (.iconst 0, 1) := by decide +kernel
theorem dX1_ends_11 : decode cX1_ends 11 = .ok (.istore_n 1, 1) := by decide +kernel
theorem dX1_ends_12 : decode cX1_ends 12 = .ok (.iload_n 1, 1) := by decide +kernel
theorem dX1_ends_13 : decode cX1_ends 13 = .ok (.aload_n 0, 1) := by decide +kernel
theorem dX1_ends_14 : decode cX1_ends 14 = .ok (.getfield 46, 3) := by decide +kernel
theorem dX1_ends_17 : decode cX1_ends 17 = .ok (.if_icmp .ge 21, 3) := by decide +kernel
theorem dX1_ends_20 : decode cX1_ends 20 = .ok (.aload_n 0, 1) := by decide +kernel
theorem dX1_ends_21 : decode cX1_ends 21 = .ok (.getfield 16, 3) := by decide +kernel
theorem dX1_ends_24 : decode cX1_ends 24 = .ok (.iload_n 1, 1) := by decide +kernel
theorem dX1_ends_25 : decode cX1_ends 25 = .ok (.aload_n 0, 1) := by decide +kernel
theorem dX1_ends_26 : decode cX1_ends 26 = .ok (.getfield 13, 3) := by decide +kernel
theorem dX1_ends_29 : decode cX1_ends 29 = .ok (.iload_n 1, 1) := by decide +kernel
theorem dX1_ends_30 : decode cX1_ends 30 = .ok (.iaload, 1) := by decide +kernel
theorem dX1_ends_31 : decode cX1_ends 31 = .ok (.iastore, 1) := by decide +kernel
theorem dX1_ends_32 : decode cX1_ends 32 = .ok (.iinc 1 1, 3) := by decide +kernel
theorem dX1_ends_35 : decode cX1_ends 35 = .ok (.goto (-23), 3) := by decide +kernel
theorem dX1_ends_38 : decode cX1_ends 38 = .ok (.aload_n 0, 1) := by decide +kernel
theorem dX1_ends_39 : decode cX1_ends 39 = .ok (.aload_n 0, 1) := by decide +kernel
theorem dX1_ends_40 : decode cX1_ends 40 = .ok (.getfield 46, 3) := by decide +kernel
theorem dX1_ends_43 : decode cX1_ends 43 = .ok (.ifCond .le 10, 3) := by decide +kernel
theorem dX1_ends_46 : decode cX1_ends 46 = .ok (.aload_n 0, 1) := by decide +kernel
theorem dX1_ends_47 : decode cX1_ends 47 = .ok (.getfield 46, 3) := by decide +kernel
theorem dX1_ends_50 : decode cX1_ends 50 = .ok (.goto 7, 3) := by decide +kernel
theorem dX1_ends_53 : decode cX1_ends 53 = .ok (.aload_n 0, 1) := by decide +kernel
theorem dX1_ends_54 : decode cX1_ends 54 = .ok (.getfield 49, 3) := by decide +kernel
theorem dX1_ends_57 : decode cX1_ends 57 = .ok (.putfield 49, 3) := by decide +kernel
theorem dX1_ends_60 : decode cX1_ends 60 = .ok (.aload_n 0, 1) := by decide +kernel
theorem dX1_ends_61 : decode cX1_ends 61 = .ok (.iconst 0, 1) := by decide +kernel
theorem dX1_ends_62 : decode cX1_ends 62 = .ok (.putfield 46, 3) := by decide +kernel
theorem dX1_ends_65 : decode cX1_ends 65 = .ok (.aload_n 0, 1) := by decide +kernel
theorem dX1_ends_66 : decode cX1_ends 66 = .ok (.iconst 1, 1) := by decide +kernel
theorem dX1_ends_67 : decode cX1_ends 67 = .ok (.invokevirtual 52, 3) := by decide +kernel
theorem dX1_ends_70 : decode cX1_ends 70 = .ok (.return_, 1) := by decide +kernel
abbrev cX1_look : ByteArray := prog_3_method_8_code
def yX1_look : MethodName := ⟨RX1, "look", "()V"⟩
theorem dX1_look_0 : decode cX1_look 0 = .ok (.iconst 0, 1) := by decide +kernel
theorem dX1_look_1 : decode cX1_look 1 = .ok (.istore_n 1, 1) := by decide +kernel
theorem dX1_look_2 : decode cX1_look 2 = .ok (.iconst 0, 1) := by decide +kernel
theorem dX1_look_3 : decode cX1_look 3 = .ok (.istore_n 2, 1) := by decide +kernel
theorem dX1_look_4 : decode cX1_look 4 = .ok (.iload_n 2, 1) := by decide +kernel
theorem dX1_look_5 : decode cX1_look 5 = .ok (.bipush 16, 2) := by decide +kernel
theorem dX1_look_7 : decode cX1_look 7 = .ok (.if_icmp .ge 35, 3) := by decide +kernel
theorem dX1_look_10 : decode cX1_look 10 = .ok (.iload_n 1, 1) := by decide +kernel
theorem dX1_look_11 : decode cX1_look 11 = .ok (.aload_n 0, 1) := by decide +kernel
theorem dX1_look_12 : decode cX1_look 12 = .ok (.getfield 7, 3) := by decide +kernel
theorem dX1_look_15 : decode cX1_look 15 = .ok (.iload_n 2, 1) := by decide +kernel
theorem dX1_look_16 : decode cX1_look 16 = .ok (.iaload, 1) := by decide +kernel
theorem dX1_look_17 : decode cX1_look 17 = .ok (.ldc 63, 2) := by decide +kernel
theorem dX1_look_19 : decode cX1_look 19 = .ok (.bipush 15, 2) := by decide +kernel
theorem dX1_look_21 : decode cX1_look 21 = .ok (.iload_n 2, 1) := by decide +kernel
theorem dX1_look_22 : decode cX1_look 22 = .ok (.isub, 1) := by decide +kernel
theorem dX1_look_23 : decode cX1_look 23 = .ok (.ishr, 1) := by decide +kernel
theorem dX1_look_24 : decode cX1_look 24 = .ok (.iconst 1, 1) := by decide +kernel
theorem dX1_look_25 : decode cX1_look 25 = .ok (.iand, 1) := by decide +kernel
theorem dX1_look_26 : decode cX1_look 26 = .ok (.if_icmp .eq 7, 3) := by decide +kernel
theorem dX1_look_29 : decode cX1_look 29 = .ok (.iconst 1, 1) := by decide +kernel
theorem dX1_look_30 : decode cX1_look 30 = .ok (.goto 4, 3) := by decide +kernel
theorem dX1_look_33 : decode cX1_look 33 = .ok (.iconst 0, 1) := by decide +kernel
theorem dX1_look_34 : decode cX1_look 34 = .ok (.iadd, 1) := by decide +kernel
theorem dX1_look_35 : decode cX1_look 35 = .ok (.istore_n 1, 1) := by decide +kernel
theorem dX1_look_36 : decode cX1_look 36 = .ok (.iinc 2 1, 3) := by decide +kernel
theorem dX1_look_39 : decode cX1_look 39 = .ok (.goto (-35), 3) := by decide +kernel
theorem dX1_look_42 : decode cX1_look 42 = .ok (.iload_n 1, 1) := by decide +kernel
theorem dX1_look_43 : decode cX1_look 43 = .ok (.ifCond .eq 15, 3) := by decide +kernel
theorem dX1_look_46 : decode cX1_look 46 = .ok (.iload_n 1, 1) := by decide +kernel
theorem dX1_look_47 : decode cX1_look 47 = .ok (.iconst 1, 1) := by decide +kernel
theorem dX1_look_48 : decode cX1_look 48 = .ok (.if_icmp .ne 40, 3) := by decide +kernel
theorem dX1_look_51 : decode cX1_look 51 = .ok (.aload_n 0, 1) := by decide +kernel
theorem dX1_look_52 : decode cX1_look 52 = .ok (.getfield 36, 3) := by decide +kernel
theorem dX1_look_55 : decode cX1_look 55 = .ok (.ifCond .eq 33, 3) := by decide +kernel
theorem dX1_look_58 : decode cX1_look 58 = .ok (.aload_n 0, 1) := by decide +kernel
theorem dX1_look_59 : decode cX1_look 59 = .ok (.getfield 25, 3) := by decide +kernel
theorem dX1_look_62 : decode cX1_look 62 = .ok (.iconst 0, 1) := by decide +kernel
theorem dX1_look_63 : decode cX1_look 63 = .ok (.dup2, 1) := by decide +kernel
theorem dX1_look_64 : decode cX1_look 64 = .ok (.iaload, 1) := by decide +kernel
theorem dX1_look_65 : decode cX1_look 65 = .ok (.iconst 1, 1) := by decide +kernel
theorem dX1_look_66 : decode cX1_look 66 = .ok (.iadd, 1) := by decide +kernel
theorem dX1_look_67 : decode cX1_look 67 = .ok (.iastore, 1) := by decide +kernel
theorem dX1_look_68 : decode cX1_look 68 = .ok (.aload_n 0, 1) := by decide +kernel
theorem dX1_look_69 : decode cX1_look 69 = .ok (.getfield 25, 3) := by decide +kernel
theorem dX1_look_72 : decode cX1_look 72 = .ok (.iconst 4, 1) := by decide +kernel
theorem dX1_look_73 : decode cX1_look 73 = .ok (.dup2, 1) := by decide +kernel
theorem dX1_look_74 : decode cX1_look 74 = .ok (.iaload, 1) := by decide +kernel
theorem dX1_look_75 : decode cX1_look 75 = .ok (.iload_n 1, 1) := by decide +kernel
theorem dX1_look_76 : decode cX1_look 76 = .ok (.iadd, 1) := by decide +kernel
theorem dX1_look_77 : decode cX1_look 77 = .ok (.iastore, 1) := by decide +kernel
theorem dX1_look_78 : decode cX1_look 78 = .ok (.aload_n 0, 1) := by decide +kernel
theorem dX1_look_79 : decode cX1_look 79 = .ok (.iconst 0, 1) := by decide +kernel
theorem dX1_look_80 : decode cX1_look 80 = .ok (.putfield 46, 3) := by decide +kernel
theorem dX1_look_83 : decode cX1_look 83 = .ok (.aload_n 0, 1) := by decide +kernel
theorem dX1_look_84 : decode cX1_look 84 = .ok (.iconst 2, 1) := by decide +kernel
theorem dX1_look_85 : decode cX1_look 85 = .ok (.invokevirtual 52, 3) := by decide +kernel
theorem dX1_look_88 : decode cX1_look 88 = .ok (.return_, 1) := by decide +kernel
abbrev cX1_state : ByteArray := prog_3_method_13_code
def yX1_state : MethodName := ⟨RX1, "state", "()I"⟩
theorem dX1_state_0 : decode cX1_state 0 = .ok (.aload_n 0, 1) := by decide +kernel
theorem dX1_state_1 : decode cX1_state 1 = .ok (.iconst 0, 1) := by decide +kernel
theorem dX1_state_2 : decode cX1_state 2 = .ok (.putfield 28, 3) := by decide +kernel
theorem dX1_state_5 : decode cX1_state 5 = .ok (.aload_n 0, 1) := by decide +kernel
theorem dX1_state_6 : decode cX1_state 6 = .ok (.getfield 40, 3) := by decide +kernel
theorem dX1_state_9 : decode cX1_state 9 = .ok (.ireturn, 1) := by decide +kernel
abbrev cX1_count : ByteArray := prog_3_method_14_code
def yX1_count : MethodName := ⟨RX1, "count", "(I)I"⟩
theorem dX1_count_0 : decode cX1_count 0 = .ok (.aload_n 0, 1) := by decide +kernel
theorem dX1_count_1 : decode cX1_count 1 = .ok (.iconst 0, 1) := by decide +kernel
theorem dX1_count_2 : decode cX1_count 2 = .ok (.putfield 28, 3) := by decide +kernel
theorem dX1_count_5 : decode cX1_count 5 = .ok (.iload_n 1, 1) := by decide +kernel
theorem dX1_count_6 : decode cX1_count 6 = .ok (.ifCond .lt 8, 3) := by decide +kernel
theorem dX1_count_9 : decode cX1_count 9 = .ok (.iload_n 1, 1) := by decide +kernel
theorem dX1_count_10 : decode cX1_count 10 = .ok (.iconst 4, 1) := by decide +kernel
theorem dX1_count_11 : decode cX1_count 11 = .ok (.if_icmp .le 7, 3) := by decide +kernel
theorem dX1_count_14 : decode cX1_count 14 = .ok (.iconst (-1), 1) := by decide +kernel
theorem dX1_count_15 : decode cX1_count 15 = .ok (.goto 9, 3) := by decide +kernel
theorem dX1_count_18 : decode cX1_count 18 = .ok (.aload_n 0, 1) := by decide +kernel
theorem dX1_count_19 : decode cX1_count 19 = .ok (.getfield 25, 3) := by decide +kernel
theorem dX1_count_22 : decode cX1_count 22 = .ok (.iload_n 1, 1) := by decide +kernel
theorem dX1_count_23 : decode cX1_count 23 = .ok (.iaload, 1) := by decide +kernel
theorem dX1_count_24 : decode cX1_count 24 = .ok (.ireturn, 1) := by decide +kernel
abbrev cX1_size : ByteArray := prog_3_method_15_code
def yX1_size : MethodName := ⟨RX1, "size", "()I"⟩
theorem dX1_size_0 : decode cX1_size 0 = .ok (.aload_n 0, 1) := by decide +kernel
theorem dX1_size_1 : decode cX1_size 1 = .ok (.iconst 0, 1) := by decide +kernel
theorem dX1_size_2 : decode cX1_size 2 = .ok (.putfield 28, 3) := by decide +kernel
theorem dX1_size_5 : decode cX1_size 5 = .ok (.aload_n 0, 1) := by decide +kernel
theorem dX1_size_6 : decode cX1_size 6 = .ok (.getfield 49, 3) := by decide +kernel
theorem dX1_size_9 : decode cX1_size 9 = .ok (.ireturn, 1) := by decide +kernel
abbrev cX1_byteAt : ByteArray := prog_3_method_16_code
def yX1_byteAt : MethodName := ⟨RX1, "byteAt", "(I)I"⟩
theorem dX1_byteAt_0 : decode cX1_byteAt 0 = .ok (.aload_n 0, 1) := by decide +kernel
theorem dX1_byteAt_1 : decode cX1_byteAt 1 = .ok (.iconst 0, 1) := by decide +kernel
theorem dX1_byteAt_2 : decode cX1_byteAt 2 = .ok (.putfield 28, 3) := by decide +kernel
theorem dX1_byteAt_5 : decode cX1_byteAt 5 = .ok (.iload_n 1, 1) := by decide +kernel
theorem dX1_byteAt_6 : decode cX1_byteAt 6 = .ok (.ifCond .lt 11, 3) := by decide +kernel
theorem dX1_byteAt_9 : decode cX1_byteAt 9 = .ok (.iload_n 1, 1) := by decide +kernel
theorem dX1_byteAt_10 : decode cX1_byteAt 10 = .ok (.aload_n 0, 1) := by decide +kernel
theorem dX1_byteAt_11 : decode cX1_byteAt 11 = .ok (.getfield 49, 3) := by decide +kernel
theorem dX1_byteAt_14 : decode cX1_byteAt 14 = .ok (.if_icmp .lt 7, 3) := by decide +kernel
theorem dX1_byteAt_17 : decode cX1_byteAt 17 = .ok (.iconst (-1), 1) := by decide +kernel
theorem dX1_byteAt_18 : decode cX1_byteAt 18 = .ok (.goto 9, 3) := by decide +kernel
theorem dX1_byteAt_21 : decode cX1_byteAt 21 = .ok (.aload_n 0, 1) := by decide +kernel
theorem dX1_byteAt_22 : decode cX1_byteAt 22 = .ok (.getfield 16, 3) := by decide +kernel
theorem dX1_byteAt_25 : decode cX1_byteAt 25 = .ok (.iload_n 1, 1) := by decide +kernel
theorem dX1_byteAt_26 : decode cX1_byteAt 26 = .ok (.iaload, 1) := by decide +kernel
theorem dX1_byteAt_27 : decode cX1_byteAt 27 = .ok (.ireturn, 1) := by decide +kernel
abbrev cX1_put : ByteArray := prog_3_method_17_code
def yX1_put : MethodName := ⟨RX1, "put", "(I)I"⟩
theorem dX1_put_0 : decode cX1_put 0 = .ok (.aload_n 0, 1) := by decide +kernel
theorem dX1_put_1 : decode cX1_put 1 = .ok (.iconst 0, 1) := by decide +kernel
theorem dX1_put_2 : decode cX1_put 2 = .ok (.putfield 28, 3) := by decide +kernel
theorem dX1_put_5 : decode cX1_put 5 = .ok (.aload_n 0, 1) := by decide +kernel
theorem dX1_put_6 : decode cX1_put 6 = .ok (.getfield 74, 3) := by decide +kernel
theorem dX1_put_9 : decode cX1_put 9 = .ok (.sipush 259, 3) := by decide +kernel
theorem dX1_put_12 : decode cX1_put 12 = .ok (.if_icmp .ne 5, 3) := by decide +kernel
theorem dX1_put_15 : decode cX1_put 15 = .ok (.iconst (-1), 1) := by decide +kernel
theorem dX1_put_16 : decode cX1_put 16 = .ok (.ireturn, 1) := by decide +kernel
theorem dX1_put_17 : decode cX1_put 17 = .ok (.aload_n 0, 1) := by decide +kernel
theorem dX1_put_18 : decode cX1_put 18 = .ok (.getfield 19, 3) := by decide +kernel
theorem dX1_put_21 : decode cX1_put 21 = .ok (.aload_n 0, 1) := by decide +kernel
theorem dX1_put_22 : decode cX1_put 22 = .ok (.getfield 74, 3) := by decide +kernel
theorem dX1_put_25 : decode cX1_put 25 = .ok (.iload_n 1, 1) := by decide +kernel
theorem dX1_put_26 : decode cX1_put 26 = .ok (.sipush 255, 3) := by decide +kernel
theorem dX1_put_29 : decode cX1_put 29 = .ok (.iand, 1) := by decide +kernel
theorem dX1_put_30 : decode cX1_put 30 = .ok (.iastore, 1) := by decide +kernel
theorem dX1_put_31 : decode cX1_put 31 = .ok (.aload_n 0, 1) := by decide +kernel
theorem dX1_put_32 : decode cX1_put 32 = .ok (.dup, 1) := by decide +kernel
theorem dX1_put_33 : decode cX1_put 33 = .ok (.getfield 74, 3) := by decide +kernel
theorem dX1_put_36 : decode cX1_put 36 = .ok (.iconst 1, 1) := by decide +kernel
theorem dX1_put_37 : decode cX1_put 37 = .ok (.iadd, 1) := by decide +kernel
theorem dX1_put_38 : decode cX1_put 38 = .ok (.putfield 74, 3) := by decide +kernel
theorem dX1_put_41 : decode cX1_put 41 = .ok (.aload_n 0, 1) := by decide +kernel
theorem dX1_put_42 : decode cX1_put 42 = .ok (.getfield 74, 3) := by decide +kernel
theorem dX1_put_45 : decode cX1_put 45 = .ok (.ireturn, 1) := by decide +kernel
abbrev cX1_send : ByteArray := prog_3_method_20_code
def yX1_send : MethodName := ⟨RX1, "send", "()I"⟩
theorem dX1_send_0 : decode cX1_send 0 = .ok (.aload_n 0, 1) := by decide +kernel
theorem dX1_send_1 : decode cX1_send 1 = .ok (.iconst 0, 1) := by decide +kernel
theorem dX1_send_2 : decode cX1_send 2 = .ok (.putfield 28, 3) := by decide +kernel
theorem dX1_send_5 : decode cX1_send 5 = .ok (.aload_n 0, 1) := by decide +kernel
theorem dX1_send_6 : decode cX1_send 6 = .ok (.getfield 74, 3) := by decide +kernel
theorem dX1_send_9 : decode cX1_send 9 = .ok (.ifCond .ne 5, 3) := by decide +kernel
theorem dX1_send_12 : decode cX1_send 12 = .ok (.iconst (-1), 1) := by decide +kernel
theorem dX1_send_13 : decode cX1_send 13 = .ok (.ireturn, 1) := by decide +kernel
theorem dX1_send_14 : decode cX1_send 14 = .ok (.aload_n 0, 1) := by decide +kernel
theorem dX1_send_15 : decode cX1_send 15 = .ok (.getfield 74, 3) := by decide +kernel
theorem dX1_send_18 : decode cX1_send 18 = .ok (.bipush 7, 2) := by decide +kernel
theorem dX1_send_20 : decode cX1_send 20 = .ok (.irem, 1) := by decide +kernel
theorem dX1_send_21 : decode cX1_send 21 = .ok (.ifCond .eq 27, 3) := by decide +kernel
theorem dX1_send_24 : decode cX1_send 24 = .ok (.aload_n 0, 1) := by decide +kernel
theorem dX1_send_25 : decode cX1_send 25 = .ok (.getfield 19, 3) := by decide +kernel
theorem dX1_send_28 : decode cX1_send 28 = .ok (.aload_n 0, 1) := by decide +kernel
theorem dX1_send_29 : decode cX1_send 29 = .ok (.getfield 74, 3) := by decide +kernel
theorem dX1_send_32 : decode cX1_send 32 = .ok (.bipush 85, 2) := by decide +kernel
theorem dX1_send_34 : decode cX1_send 34 = .ok (.iastore, 1) := by decide +kernel
theorem dX1_send_35 : decode cX1_send 35 = .ok (.aload_n 0, 1) := by decide +kernel
theorem dX1_send_36 : decode cX1_send 36 = .ok (.dup, 1) := by decide +kernel
theorem dX1_send_37 : decode cX1_send 37 = .ok (.getfield 74, 3) := by decide +kernel
theorem dX1_send_40 : decode cX1_send 40 = .ok (.iconst 1, 1) := by decide +kernel
theorem dX1_send_41 : decode cX1_send 41 = .ok (.iadd, 1) := by decide +kernel
theorem dX1_send_42 : decode cX1_send 42 = .ok (.putfield 74, 3) := by decide +kernel
theorem dX1_send_45 : decode cX1_send 45 = .ok (.goto (-31), 3) := by decide +kernel
theorem dX1_send_48 : decode cX1_send 48 = .ok (.aload_n 0, 1) := by decide +kernel
theorem dX1_send_49 : decode cX1_send 49 = .ok (.iconst 0, 1) := by decide +kernel
theorem dX1_send_50 : decode cX1_send 50 = .ok (.putfield 77, 3) := by decide +kernel
theorem dX1_send_53 : decode cX1_send 53 = .ok (.aload_n 0, 1) := by decide +kernel
theorem dX1_send_54 : decode cX1_send 54 = .ok (.sipush 235, 3) := by decide +kernel
theorem dX1_send_57 : decode cX1_send 57 = .ok (.invokevirtual 80, 3) := by decide +kernel
theorem dX1_send_60 : decode cX1_send 60 = .ok (.aload_n 0, 1) := by decide +kernel
theorem dX1_send_61 : decode cX1_send 61 = .ok (.sipush 144, 3) := by decide +kernel
theorem dX1_send_64 : decode cX1_send 64 = .ok (.invokevirtual 80, 3) := by decide +kernel
theorem dX1_send_67 : decode cX1_send 67 = .ok (.iconst 0, 1) := by decide +kernel
theorem dX1_send_68 : decode cX1_send 68 = .ok (.istore_n 1, 1) := by decide +kernel
theorem dX1_send_69 : decode cX1_send 69 = .ok (.iload_n 1, 1) := by decide +kernel
theorem dX1_send_70 : decode cX1_send 70 = .ok (.aload_n 0, 1) := by decide +kernel
theorem dX1_send_71 : decode cX1_send 71 = .ok (.getfield 74, 3) := by decide +kernel
theorem dX1_send_74 : decode cX1_send 74 = .ok (.if_icmp .ge 44, 3) := by decide +kernel
theorem dX1_send_77 : decode cX1_send 77 = .ok (.iconst 0, 1) := by decide +kernel
theorem dX1_send_78 : decode cX1_send 78 = .ok (.istore_n 2, 1) := by decide +kernel
theorem dX1_send_79 : decode cX1_send 79 = .ok (.iload_n 2, 1) := by decide +kernel
theorem dX1_send_80 : decode cX1_send 80 = .ok (.bipush 7, 2) := by decide +kernel
theorem dX1_send_82 : decode cX1_send 82 = .ok (.if_icmp .ge 21, 3) := by decide +kernel
theorem dX1_send_85 : decode cX1_send 85 = .ok (.aload_n 0, 1) := by decide +kernel
theorem dX1_send_86 : decode cX1_send 86 = .ok (.aload_n 0, 1) := by decide +kernel
theorem dX1_send_87 : decode cX1_send 87 = .ok (.getfield 19, 3) := by decide +kernel
theorem dX1_send_90 : decode cX1_send 90 = .ok (.iload_n 1, 1) := by decide +kernel
theorem dX1_send_91 : decode cX1_send 91 = .ok (.iload_n 2, 1) := by decide +kernel
theorem dX1_send_92 : decode cX1_send 92 = .ok (.iadd, 1) := by decide +kernel
theorem dX1_send_93 : decode cX1_send 93 = .ok (.iaload, 1) := by decide +kernel
theorem dX1_send_94 : decode cX1_send 94 = .ok (.invokevirtual 80, 3) := by decide +kernel
theorem dX1_send_97 : decode cX1_send 97 = .ok (.iinc 2 1, 3) := by decide +kernel
theorem dX1_send_100 : decode cX1_send 100 = .ok (.goto (-21), 3) := by decide +kernel
theorem dX1_send_103 : decode cX1_send 103 = .ok (.aload_n 0, 1) := by decide +kernel
theorem dX1_send_104 : decode cX1_send 104 = .ok (.aload_n 0, 1) := by decide +kernel
theorem dX1_send_105 : decode cX1_send 105 = .ok (.iload_n 1, 1) := by decide +kernel
theorem dX1_send_106 : decode cX1_send 106 = .ok (.invokevirtual 83, 3) := by decide +kernel
theorem dX1_send_109 : decode cX1_send 109 = .ok (.invokevirtual 80, 3) := by decide +kernel
theorem dX1_send_112 : decode cX1_send 112 = .ok (.iinc 1 7, 3) := by decide +kernel
theorem dX1_send_115 : decode cX1_send 115 = .ok (.goto (-46), 3) := by decide +kernel
theorem dX1_send_118 : decode cX1_send 118 = .ok (.iconst 0, 1) := by decide +kernel
theorem dX1_send_119 : decode cX1_send 119 = .ok (.istore_n 1, 1) := by decide +kernel
theorem dX1_send_120 : decode cX1_send 120 = .ok (.iload_n 1, 1) := by decide +kernel
theorem dX1_send_121 : decode cX1_send 121 = .ok (.bipush 7, 2) := by decide +kernel
theorem dX1_send_123 : decode cX1_send 123 = .ok (.if_icmp .ge 16, 3) := by decide +kernel
theorem dX1_send_126 : decode cX1_send 126 = .ok (.aload_n 0, 1) := by decide +kernel
theorem dX1_send_127 : decode cX1_send 127 = .ok (.sipush 197, 3) := by decide +kernel
theorem dX1_send_130 : decode cX1_send 130 = .ok (.invokevirtual 80, 3) := by decide +kernel
theorem dX1_send_133 : decode cX1_send 133 = .ok (.iinc 1 1, 3) := by decide +kernel
theorem dX1_send_136 : decode cX1_send 136 = .ok (.goto (-16), 3) := by decide +kernel
theorem dX1_send_139 : decode cX1_send 139 = .ok (.aload_n 0, 1) := by decide +kernel
theorem dX1_send_140 : decode cX1_send 140 = .ok (.bipush 121, 2) := by decide +kernel
theorem dX1_send_142 : decode cX1_send 142 = .ok (.invokevirtual 80, 3) := by decide +kernel
theorem dX1_send_145 : decode cX1_send 145 = .ok (.aload_n 0, 1) := by decide +kernel
theorem dX1_send_146 : decode cX1_send 146 = .ok (.iconst 0, 1) := by decide +kernel
theorem dX1_send_147 : decode cX1_send 147 = .ok (.putfield 74, 3) := by decide +kernel
theorem dX1_send_150 : decode cX1_send 150 = .ok (.aload_n 0, 1) := by decide +kernel
theorem dX1_send_151 : decode cX1_send 151 = .ok (.getfield 77, 3) := by decide +kernel
theorem dX1_send_154 : decode cX1_send 154 = .ok (.ireturn, 1) := by decide +kernel
abbrev cX1_out : ByteArray := prog_3_method_18_code
def yX1_out : MethodName := ⟨RX1, "out", "(I)V"⟩
theorem dX1_out_0 : decode cX1_out 0 = .ok (.aload_n 0, 1) := by decide +kernel
theorem dX1_out_1 : decode cX1_out 1 = .ok (.getfield 22, 3) := by decide +kernel
theorem dX1_out_4 : decode cX1_out 4 = .ok (.aload_n 0, 1) := by decide +kernel
theorem dX1_out_5 : decode cX1_out 5 = .ok (.getfield 77, 3) := by decide +kernel
theorem dX1_out_8 : decode cX1_out 8 = .ok (.iload_n 1, 1) := by decide +kernel
theorem dX1_out_9 : decode cX1_out 9 = .ok (.iastore, 1) := by decide +kernel
theorem dX1_out_10 : decode cX1_out 10 = .ok (.aload_n 0, 1) := by decide +kernel
theorem dX1_out_11 : decode cX1_out 11 = .ok (.dup, 1) := by decide +kernel
theorem dX1_out_12 : decode cX1_out 12 = .ok (.getfield 77, 3) := by decide +kernel
theorem dX1_out_15 : decode cX1_out 15 = .ok (.iconst 1, 1) := by decide +kernel
theorem dX1_out_16 : decode cX1_out 16 = .ok (.iadd, 1) := by decide +kernel
theorem dX1_out_17 : decode cX1_out 17 = .ok (.putfield 77, 3) := by decide +kernel
theorem dX1_out_20 : decode cX1_out 20 = .ok (.return_, 1) := by decide +kernel
abbrev cX1_check : ByteArray := prog_3_method_19_code
def yX1_check : MethodName := ⟨RX1, "check", "(I)I"⟩
theorem dX1_check_0 : decode cX1_check 0 = .ok (.iconst 0, 1) := by decide +kernel
theorem dX1_check_1 : decode cX1_check 1 = .ok (.istore_n 2, 1) := by decide +kernel
theorem dX1_check_2 : decode cX1_check 2 = .ok (.iconst 0, 1) := by decide +kernel
theorem dX1_check_3 : decode cX1_check 3 = .ok (.istore_n 3, 1) := by decide +kernel
theorem dX1_check_4 : decode cX1_check 4 = .ok (.iload_n 3, 1) := by decide +kernel
theorem dX1_check_5 : decode cX1_check 5 = .ok (.sipush 128, 3) := by decide +kernel
theorem dX1_check_8 : decode cX1_check 8 = .ok (.if_icmp .ge 116, 3) := by decide +kernel
theorem dX1_check_11 : decode cX1_check 11 = .ok (.iconst 0, 1) := by decide +kernel
theorem dX1_check_12 : decode cX1_check 12 = .ok (.istore 4, 2) := by decide +kernel
theorem dX1_check_14 : decode cX1_check 14 = .ok (.iconst 0, 1) := by decide +kernel
theorem dX1_check_15 : decode cX1_check 15 = .ok (.istore 5, 2) := by decide +kernel
theorem dX1_check_17 : decode cX1_check 17 = .ok (.iload 5, 2) := by decide +kernel
theorem dX1_check_19 : decode cX1_check 19 = .ok (.bipush 63, 2) := by decide +kernel
theorem dX1_check_21 : decode cX1_check 21 = .ok (.if_icmp .ge 84, 3) := by decide +kernel
theorem dX1_check_24 : decode cX1_check 24 = .ok (.iload 5, 2) := by decide +kernel
theorem dX1_check_26 : decode cX1_check 26 = .ok (.bipush 56, 2) := by decide +kernel
theorem dX1_check_28 : decode cX1_check 28 = .ok (.if_icmp .ge 29, 3) := by decide +kernel
theorem dX1_check_31 : decode cX1_check 31 = .ok (.aload_n 0, 1) := by decide +kernel
theorem dX1_check_32 : decode cX1_check 32 = .ok (.getfield 19, 3) := by decide +kernel
theorem dX1_check_35 : decode cX1_check 35 = .ok (.iload_n 1, 1) := by decide +kernel
theorem dX1_check_36 : decode cX1_check 36 = .ok (.iload 5, 2) := by decide +kernel
theorem dX1_check_38 : decode cX1_check 38 = .ok (.bipush 8, 2) := by decide +kernel
theorem dX1_check_40 : decode cX1_check 40 = .ok (.idiv, 1) := by decide +kernel
theorem dX1_check_41 : decode cX1_check 41 = .ok (.iadd, 1) := by decide +kernel
theorem dX1_check_42 : decode cX1_check 42 = .ok (.iaload, 1) := by decide +kernel
theorem dX1_check_43 : decode cX1_check 43 = .ok (.bipush 7, 2) := by decide +kernel
theorem dX1_check_45 : decode cX1_check 45 = .ok (.iload 5, 2) := by decide +kernel
theorem dX1_check_47 : decode cX1_check 47 = .ok (.bipush 8, 2) := by decide +kernel
theorem dX1_check_49 : decode cX1_check 49 = .ok (.irem, 1) := by decide +kernel
theorem dX1_check_50 : decode cX1_check 50 = .ok (.isub, 1) := by decide +kernel
theorem dX1_check_51 : decode cX1_check 51 = .ok (.ishr, 1) := by decide +kernel
theorem dX1_check_52 : decode cX1_check 52 = .ok (.iconst 1, 1) := by decide +kernel
theorem dX1_check_53 : decode cX1_check 53 = .ok (.iand, 1) := by decide +kernel
theorem dX1_check_54 : decode cX1_check 54 = .ok (.goto 14, 3) := by decide +kernel
theorem dX1_check_57 : decode cX1_check 57 = .ok (.iconst 1, 1) := by decide +kernel
theorem dX1_check_58 : decode cX1_check 58 = .ok (.iload_n 3, 1) := by decide +kernel
theorem dX1_check_59 : decode cX1_check 59 = .ok (.bipush 62, 2) := by decide +kernel
theorem dX1_check_61 : decode cX1_check 61 = .ok (.iload 5, 2) := by decide +kernel
theorem dX1_check_63 : decode cX1_check 63 = .ok (.isub, 1) := by decide +kernel
theorem dX1_check_64 : decode cX1_check 64 = .ok (.ishr, 1) := by decide +kernel
theorem dX1_check_65 : decode cX1_check 65 = .ok (.iconst 1, 1) := by decide +kernel
theorem dX1_check_66 : decode cX1_check 66 = .ok (.iand, 1) := by decide +kernel
theorem dX1_check_67 : decode cX1_check 67 = .ok (.isub, 1) := by decide +kernel
theorem dX1_check_68 : decode cX1_check 68 = .ok (.istore 6, 2) := by decide +kernel
theorem dX1_check_70 : decode cX1_check 70 = .ok (.iconst 2, 1) := by decide +kernel
theorem dX1_check_71 : decode cX1_check 71 = .ok (.iload 4, 2) := by decide +kernel
theorem dX1_check_73 : decode cX1_check 73 = .ok (.imul, 1) := by decide +kernel
theorem dX1_check_74 : decode cX1_check 74 = .ok (.iload 6, 2) := by decide +kernel
theorem dX1_check_76 : decode cX1_check 76 = .ok (.iadd, 1) := by decide +kernel
theorem dX1_check_77 : decode cX1_check 77 = .ok (.istore 4, 2) := by decide +kernel
theorem dX1_check_79 : decode cX1_check 79 = .ok (.iload 4, 2) := by decide +kernel
theorem dX1_check_81 : decode cX1_check 81 = .ok (.bipush 127, 2) := by decide +kernel
theorem dX1_check_83 : decode cX1_check 83 = .ok (.if_icmp .le 12, 3) := by decide +kernel
theorem dX1_check_86 : decode cX1_check 86 = .ok (.iload 4, 2) := by decide +kernel
theorem dX1_check_88 : decode cX1_check 88 = .ok (.sipush 197, 3) := by decide +kernel
theorem dX1_check_91 : decode cX1_check 91 = .ok (.ixor, 1) := by decide +kernel
theorem dX1_check_92 : decode cX1_check 92 = .ok (.goto 5, 3) := by decide +kernel
theorem dX1_check_95 : decode cX1_check 95 = .ok (.iload 4, 2) := by decide +kernel
theorem dX1_check_97 : decode cX1_check 97 = .ok (.istore 4, 2) := by decide +kernel
theorem dX1_check_99 : decode cX1_check 99 = .ok (.iinc 5 1, 3) := by decide +kernel
theorem dX1_check_102 : decode cX1_check 102 = .ok (.goto (-85), 3) := by decide +kernel
theorem dX1_check_105 : decode cX1_check 105 = .ok (.iload 4, 2) := by decide +kernel
theorem dX1_check_107 : decode cX1_check 107 = .ok (.ifCond .ne 9, 3) := by decide +kernel
theorem dX1_check_110 : decode cX1_check 110 = .ok (.iconst 2, 1) := by decide +kernel
theorem dX1_check_111 : decode cX1_check 111 = .ok (.iload_n 3, 1) := by decide +kernel
theorem dX1_check_112 : decode cX1_check 112 = .ok (.imul, 1) := by decide +kernel
theorem dX1_check_113 : decode cX1_check 113 = .ok (.goto 4, 3) := by decide +kernel
theorem dX1_check_116 : decode cX1_check 116 = .ok (.iload_n 2, 1) := by decide +kernel
theorem dX1_check_117 : decode cX1_check 117 = .ok (.istore_n 2, 1) := by decide +kernel
theorem dX1_check_118 : decode cX1_check 118 = .ok (.iinc 3 1, 3) := by decide +kernel
theorem dX1_check_121 : decode cX1_check 121 = .ok (.goto (-117), 3) := by decide +kernel
theorem dX1_check_124 : decode cX1_check 124 = .ok (.iload_n 2, 1) := by decide +kernel
theorem dX1_check_125 : decode cX1_check 125 = .ok (.ireturn, 1) := by decide +kernel
abbrev cX1_sent : ByteArray := prog_3_method_21_code
def yX1_sent : MethodName := ⟨RX1, "sent", "(I)I"⟩
theorem dX1_sent_0 : decode cX1_sent 0 = .ok (.aload_n 0, 1) := by decide +kernel
theorem dX1_sent_1 : decode cX1_sent 1 = .ok (.iconst 0, 1) := by decide +kernel
theorem dX1_sent_2 : decode cX1_sent 2 = .ok (.putfield 28, 3) := by decide +kernel
theorem dX1_sent_5 : decode cX1_sent 5 = .ok (.iload_n 1, 1) := by decide +kernel
theorem dX1_sent_6 : decode cX1_sent 6 = .ok (.ifCond .lt 11, 3) := by decide +kernel
theorem dX1_sent_9 : decode cX1_sent 9 = .ok (.iload_n 1, 1) := by decide +kernel
theorem dX1_sent_10 : decode cX1_sent 10 = .ok (.aload_n 0, 1) := by decide +kernel
theorem dX1_sent_11 : decode cX1_sent 11 = .ok (.getfield 77, 3) := by decide +kernel
theorem dX1_sent_14 : decode cX1_sent 14 = .ok (.if_icmp .lt 7, 3) := by decide +kernel
theorem dX1_sent_17 : decode cX1_sent 17 = .ok (.iconst (-1), 1) := by decide +kernel
theorem dX1_sent_18 : decode cX1_sent 18 = .ok (.goto 9, 3) := by decide +kernel
theorem dX1_sent_21 : decode cX1_sent 21 = .ok (.aload_n 0, 1) := by decide +kernel
theorem dX1_sent_22 : decode cX1_sent 22 = .ok (.getfield 22, 3) := by decide +kernel
theorem dX1_sent_25 : decode cX1_sent 25 = .ok (.iload_n 1, 1) := by decide +kernel
theorem dX1_sent_26 : decode cX1_sent 26 = .ok (.iaload, 1) := by decide +kernel
theorem dX1_sent_27 : decode cX1_sent 27 = .ok (.ireturn, 1) := by decide +kernel
def tb : List Cond := lw_tbl.filter goodWord
theorem tb_of {w : Cond} (h : w ∈ tb) : w ∈ lw_tbl ∧ goodWord w = true := List.mem_filter.mp h
theorem tb_in {y : MethodName} {c : ByteArray} {n : Nat} {r : Option FieldType} {c0 : Cond} (h : Cond.code y c n r ∈ tb) : GoodIn (c0 :: tb) (Cond.code y c n r :: tb) := by
  intro w hw
  have hm : w ∈ tb := (List.mem_cons.mp hw).elim (fun e => e ▸ h) id
  exact ⟨List.mem_cons_of_mem _ hm, good_of_word (tb_of hm).2⟩
theorem tb_law {y : MethodName} {c : ByteArray} {n : Nat} {r : Option FieldType} (h : Cond.code y c n r ∈ tb) : GoodIn lw_tbl (Cond.code y c n r :: tb) := by
  intro w hw
  have hm : w ∈ tb := (List.mem_cons.mp hw).elim (fun e => e ▸ h) id
  exact ⟨(tb_of hm).1, good_of_word (tb_of hm).2⟩
theorem tb_v {own C : String} {ix : Nat} {y : MethodName} {ws : List Cond} {c0 : Cond} (h : GoodIn (c0 :: tb) ws) (h4 : ([.methodLink own ix y, .instanceMethod y, .selects C y y, .initialized C] : List Cond).all (fun w => decide (w ∈ lw_tbl) && goodWord w) = true) : GoodIn (c0 :: tb) (wsV own ix C y ws) := by
  refine goodIn_app (fun w hw => ?_) h
  have h5 := (Bool.and_eq_true_iff).mp (List.all_eq_true.mp h4 w hw)
  have hm : w ∈ tb := List.mem_filter.mpr ⟨of_decide_eq_true h5.1, h5.2⟩
  exact ⟨List.mem_cons_of_mem _ hm, good_of_word h5.2⟩
theorem tb_vL {own C : String} {ix : Nat} {y : MethodName} {ws : List Cond} (h : GoodIn lw_tbl ws) (h4 : ([.methodLink own ix y, .instanceMethod y, .selects C y y, .initialized C] : List Cond).all (fun w => decide (w ∈ lw_tbl) && goodWord w) = true) : GoodIn lw_tbl (wsV own ix C y ws) := by
  refine goodIn_app (fun w hw => ?_) h
  have h5 := (Bool.and_eq_true_iff).mp (List.all_eq_true.mp h4 w hw)
  exact ⟨of_decide_eq_true h5.1, good_of_word h5.2⟩
theorem tb_X {ws : List Cond} (h : GoodIn wsL_law ws) : GoodIn lw_tbl ws := fun w hw => ⟨wsL_law_in w (h w hw).1, (h w hw).2⟩
abbrev vX1_init : List Cond := .code yX1_init cX1_init 1 none :: tb
theorem tbX1_init : Cond.code yX1_init cX1_init 1 none ∈ tb := List.mem_filter.mpr ⟨List.mem_of_getElem? (i := 184) rfl, rfl⟩
abbrev vX1_turn : List Cond := .code yX1_turn cX1_turn 2 (some .boolean) :: tb
theorem tbX1_turn : Cond.code yX1_turn cX1_turn 2 (some .boolean) ∈ tb := List.mem_filter.mpr ⟨List.mem_of_getElem? (i := 232) rfl, rfl⟩
abbrev vX1_begins : List Cond := .code yX1_begins cX1_begins 2 none :: tb
theorem tbX1_begins : Cond.code yX1_begins cX1_begins 2 none ∈ tb := List.mem_filter.mpr ⟨List.mem_of_getElem? (i := 236) rfl, rfl⟩
abbrev vX1_mending : List Cond := .code yX1_mending cX1_mending 2 none :: tb
theorem tbX1_mending : Cond.code yX1_mending cX1_mending 2 none ∈ tb := List.mem_filter.mpr ⟨List.mem_of_getElem? (i := 240) rfl, rfl⟩
abbrev vX1_take : List Cond := .code yX1_take cX1_take 6 (some .int) :: tb
theorem tbX1_take : Cond.code yX1_take cX1_take 6 (some .int) ∈ tb := List.mem_filter.mpr ⟨List.mem_of_getElem? (i := 244) rfl, rfl⟩
abbrev vX1_bit : List Cond := .code yX1_bit cX1_bit 3 (some .int) :: tb
theorem tbX1_bit : Cond.code yX1_bit cX1_bit 3 (some .int) ∈ tb := List.mem_filter.mpr ⟨List.mem_of_getElem? (i := 248) rfl, rfl⟩
abbrev vX1_block : List Cond := .code yX1_block cX1_block 5 (some .int) :: tb
theorem tbX1_block : Cond.code yX1_block cX1_block 5 (some .int) ∈ tb := List.mem_filter.mpr ⟨List.mem_of_getElem? (i := 252) rfl, rfl⟩
abbrev vX1_wrong : List Cond := .code yX1_wrong cX1_wrong 3 (some .int) :: tb
theorem tbX1_wrong : Cond.code yX1_wrong cX1_wrong 3 (some .int) ∈ tb := List.mem_filter.mpr ⟨List.mem_of_getElem? (i := 256) rfl, rfl⟩
abbrev vX1_divided : List Cond := .code yX1_divided cX1_divided 5 (some .boolean) :: tb
theorem tbX1_divided : Cond.code yX1_divided cX1_divided 5 (some .boolean) ∈ tb := List.mem_filter.mpr ⟨List.mem_of_getElem? (i := 260) rfl, rfl⟩
abbrev vX1_ends : List Cond := .code yX1_ends cX1_ends 2 none :: tb
theorem tbX1_ends : Cond.code yX1_ends cX1_ends 2 none ∈ tb := List.mem_filter.mpr ⟨List.mem_of_getElem? (i := 264) rfl, rfl⟩
abbrev vX1_look : List Cond := .code yX1_look cX1_look 3 none :: tb
theorem tbX1_look : Cond.code yX1_look cX1_look 3 none ∈ tb := List.mem_filter.mpr ⟨List.mem_of_getElem? (i := 268) rfl, rfl⟩
abbrev vX1_state : List Cond := .code yX1_state cX1_state 1 (some .int) :: tb
theorem tbX1_state : Cond.code yX1_state cX1_state 1 (some .int) ∈ tb := List.mem_filter.mpr ⟨List.mem_of_getElem? (i := 273) rfl, rfl⟩
abbrev vX1_count : List Cond := .code yX1_count cX1_count 2 (some .int) :: tb
theorem tbX1_count : Cond.code yX1_count cX1_count 2 (some .int) ∈ tb := List.mem_filter.mpr ⟨List.mem_of_getElem? (i := 277) rfl, rfl⟩
abbrev vX1_size : List Cond := .code yX1_size cX1_size 1 (some .int) :: tb
theorem tbX1_size : Cond.code yX1_size cX1_size 1 (some .int) ∈ tb := List.mem_filter.mpr ⟨List.mem_of_getElem? (i := 281) rfl, rfl⟩
abbrev vX1_byteAt : List Cond := .code yX1_byteAt cX1_byteAt 2 (some .int) :: tb
theorem tbX1_byteAt : Cond.code yX1_byteAt cX1_byteAt 2 (some .int) ∈ tb := List.mem_filter.mpr ⟨List.mem_of_getElem? (i := 285) rfl, rfl⟩
abbrev vX1_put : List Cond := .code yX1_put cX1_put 2 (some .int) :: tb
theorem tbX1_put : Cond.code yX1_put cX1_put 2 (some .int) ∈ tb := List.mem_filter.mpr ⟨List.mem_of_getElem? (i := 289) rfl, rfl⟩
abbrev vX1_send : List Cond := .code yX1_send cX1_send 3 (some .int) :: tb
theorem tbX1_send : Cond.code yX1_send cX1_send 3 (some .int) ∈ tb := List.mem_filter.mpr ⟨List.mem_of_getElem? (i := 293) rfl, rfl⟩
abbrev vX1_out : List Cond := .code yX1_out cX1_out 2 none :: tb
theorem tbX1_out : Cond.code yX1_out cX1_out 2 none ∈ tb := List.mem_filter.mpr ⟨List.mem_of_getElem? (i := 297) rfl, rfl⟩
abbrev vX1_check : List Cond := .code yX1_check cX1_check 7 (some .int) :: tb
theorem tbX1_check : Cond.code yX1_check cX1_check 7 (some .int) ∈ tb := List.mem_filter.mpr ⟨List.mem_of_getElem? (i := 301) rfl, rfl⟩
abbrev vX1_sent : List Cond := .code yX1_sent cX1_sent 2 (some .int) :: tb
theorem tbX1_sent : Cond.code yX1_sent cX1_sent 2 (some .int) ∈ tb := List.mem_filter.mpr ⟨List.mem_of_getElem? (i := 305) rfl, rfl⟩
end
section
/-! machine words as names -/
abbrev j_lushr (x : Int64) (y : Int32) : Int64 := (x.toUInt64 >>> (y.toInt64.toUInt64 &&& Int64.toUInt64 63)).toInt64
abbrev j_lshl (x : Int64) (y : Int32) : Int64 := x <<< (y.toInt64 &&& 63)
abbrev j_iushr (x y : Int32) : Int32 := (x.toUInt32 >>> (y.toUInt32 &&& Int32.toUInt32 31)).toInt32
def j_b (b : Bool) : Int32 := if b then 1 else 0
theorem j_in {k n : Nat} {i : Int32} (h : i = nI k) (hk : k < n ∧ n < 2 ^ 31) : vp_in i n := by
  rw [h]; exact vp_in_nI hk.1 hk.2
theorem j_in2 {k N : Int32} {n : Nat} (hN : N.toInt = n) (h0 : ¬ k < 0) (h1 : ¬ N ≤ k) : vp_in k n := by
  rw [vp_in_iff]
  rw [Int32.lt_iff_toInt_lt, Int32.toInt_zero] at h0
  rw [Int32.le_iff_toInt_le] at h1
  omega
theorem j_in3 {k N : Int32} {n : Nat} (hN : N.toInt = n) (h0 : ¬ k < 0) (h1 : k < N) : vp_in k n := by
  rw [vp_in_iff]
  rw [Int32.lt_iff_toInt_lt, Int32.toInt_zero] at h0
  rw [Int32.lt_iff_toInt_lt] at h1
  omega
theorem j_inc (k d : Nat) : nI k + Int32.ofInt (d : Int) = nI (k + d) := by
  rw [← nI_add]; rfl
theorem j_sub1 (x : Int32) : x - 1 = x + (-1) := Int32.sub_eq_add_neg x 1
theorem j_take {a : Int32} (h1 : ¬ a < 1) (h2 : a ≤ 64) : a = nI a.toNatClampNeg ∧ a.toNatClampNeg ≤ 64 := by
  rw [Int32.lt_iff_toInt_lt] at h1
  rw [Int32.le_iff_toInt_le] at h2
  have e1 : (1 : Int32).toInt = 1 := by decide
  have e2 : (64 : Int32).toInt = 64 := by decide
  rw [e1] at h1
  rw [e2] at h2
  obtain ⟨j, hj, ej⟩ := nI_of (x := a) (by rw [Int32.lt_iff_toInt_lt, Int32.toInt_zero]; omega)
  rw [ej, nI_clamp hj]
  refine ⟨rfl, ?_⟩
  rw [ej, nI_toInt hj] at h2
  omega
abbrev x_S : Type := Int32 × Int32 × Int64 × Int32 × Nat × Int32 × Nat × Int32 × Int32 × Int32 × (Nat → Int32) × (Nat → Int32) × (Nat → Int32) × (Nat → Int32) × (Nat → Int32)
abbrev x_st (u : x_S) : Int32 := u.1
abbrev x_md (u : x_S) : Int32 := u.2.1
abbrev x_bt (u : x_S) : Int64 := u.2.2.1
abbrev x_cm (u : x_S) : Int32 := u.2.2.2.1
abbrev x_hr (u : x_S) : Nat := u.2.2.2.2.1
abbrev x_rs (u : x_S) : Int32 := u.2.2.2.2.2.1
abbrev x_hv (u : x_S) : Nat := u.2.2.2.2.2.2.1
abbrev x_vs (u : x_S) : Int32 := u.2.2.2.2.2.2.2.1
abbrev x_wz (u : x_S) : Int32 := u.2.2.2.2.2.2.2.2.1
abbrev x_sz (u : x_S) : Int32 := u.2.2.2.2.2.2.2.2.2.1
abbrev x_ro (u : x_S) : Nat → Int32 := u.2.2.2.2.2.2.2.2.2.2.1
abbrev x_rc (u : x_S) : Nat → Int32 := u.2.2.2.2.2.2.2.2.2.2.2.1
abbrev x_cn (u : x_S) : Nat → Int32 := u.2.2.2.2.2.2.2.2.2.2.2.2.1
abbrev x_wt (u : x_S) : Nat → Int32 := u.2.2.2.2.2.2.2.2.2.2.2.2.2.1
abbrev x_sn (u : x_S) : Nat → Int32 := u.2.2.2.2.2.2.2.2.2.2.2.2.2.2
abbrev x_W (qx qc qw qs : Nat) (cI : ClassId) (u : x_S) : va_W := [(qx, .inr (0, [.int (x_st u), .int (x_md u), .long (x_bt u), .int (x_cm u), .ref (x_hr u), .int (x_rs u), .ref (x_hv u), .int (x_vs u), .ref qc, .ref qw, .int (x_wz u), .ref qs, .int (x_sz u)])), (x_hr u, .inl (cI, 259, .inl (x_ro u))), (x_hv u, .inl (cI, 259, .inl (x_rc u))), (qc, .inl (cI, 5, .inl (x_cn u))), (qw, .inl (cI, 259, .inl (x_wt u))), (qs, .inl (cI, 306, .inl (x_sn u)))]
abbrev x_At (dC : Nat → ClassId) (dI : Nat → Nat → Nat) (A : Nat → Prop) (qx qc qw qs : Nat) (cI : ClassId) (u : x_S) (t : State) : Prop := va_P (dC, dI) vwCl (x_W qx qc qw qs cI u) t.heap ∧ va_K (dC, dI) vwCl [(cI, .int)] t ∧ va_D A (x_W qx qc qw qs cI u)
end
section
abbrev rmX0_reduced : Room := { frames := 0, cells := 0, slots := 0, locals := 0 }
def x_reduced (a0 : Int32) : Int32 := if (a0 &&& 128) = 0 then a0 else (a0 ^^^ 197)
set_option maxHeartbeats 4000000 in
set_option maxRecDepth 100000 in
theorem kX0_reduced (l : Launch) (a0 : Int32) : Met l yX0_reduced wsX0_reduced rmX0_reduced (va_Pc [.int a0] (fun _ => True)) (vp_Si (fun r => r = x_reduced a0)) 0 0 (fun _ => False) := by
  refine Met.ofW (cc := cX0_reduced) (maxL := 1) (ret := some .int) (by decide) rfl ?_
  intro p e s m args below meth c s₁ B hml hv
  obtain ⟨rfl, -⟩ := hv
  have hx := B.exec
  have hb := B.bytes
  have hr := B.returns
  have hts := atoms_spec (ws := wsX0_reduced) B.pre
  have hown : s.vm.findClass RX0 = some m.cls := findClass_of_methodNamed B.named
  have hlocks := B.notSynchronized
  have hl := lv_entry ([.int a0]) (n := 1) (Nat.le_of_ble_eq_true rfl)
  rw [lg_entry_eq]
  generalize (lg_sl ([.int a0]) ++ List.replicate (1 - (lg_sl ([.int a0])).length) Slot.unset).toArray = ls at hl ⊢
  have hl : lv_has ls 1 [(0, .int a0)] := hl
  refine lv_iload_n hx hb dX0_reduced_0 rfl (lv_at hl 0 rfl) ?_
  refine lv_sipush (v := 128) hx hb dX0_reduced_1 (by decide) ?_
  refine lv_iand hx hb dX0_reduced_4 ?_
  refine lv_if_ne (tgt := 12) hx hb dX0_reduced_5 (by decide) (fun c_1 => ?_) (fun c_1 => ?_)
  · refine lv_iload_n hx hb dX0_reduced_12 rfl (lv_at hl 0 rfl) ?_
    refine lv_sipush (v := 197) hx hb dX0_reduced_13 (by decide) ?_
    refine lv_ixor hx hb dX0_reduced_16 ?_
    exact W.iret (v := a0 ^^^ 197) hx hb hr (fun t ht hW => ⟨_, rfl, (by unfold x_reduced; rw [if_neg c_1]), ht⟩) (fun q h => by cases h) dX0_reduced_17
  · refine lv_iload_n hx hb dX0_reduced_8 rfl (lv_at hl 0 rfl) ?_
    refine lv_goto (tgt := 17) hx hb dX0_reduced_9 (by decide) ?_
    exact W.iret (v := a0) hx hb hr (fun t ht hW => ⟨_, rfl, (by unfold x_reduced; rw [if_pos c_1]), ht⟩) (fun q h => by cases h) dX0_reduced_17

abbrev rmX0_byteOf : Room := { frames := 0, cells := 0, slots := 0, locals := 0 }
def x_byteOf (a0 : Int64) (a1 : Int32) : Int32 := ((j_lushr a0 (8 * a1)).toInt32) &&& 255
set_option maxHeartbeats 4000000 in
set_option maxRecDepth 100000 in
theorem kX0_byteOf (l : Launch) (a0 : Int64) (a1 : Int32) : Met l yX0_byteOf wsX0_byteOf rmX0_byteOf (va_Pc [.long a0, .int a1] (fun _ => True)) (vp_Si (fun r => r = x_byteOf a0 a1)) 0 0 (fun _ => False) := by
  refine Met.ofW (cc := cX0_byteOf) (maxL := 3) (ret := some .int) (by decide) rfl ?_
  intro p e s m args below meth c s₁ B hml hv
  obtain ⟨rfl, -⟩ := hv
  have hx := B.exec
  have hb := B.bytes
  have hr := B.returns
  have hts := atoms_spec (ws := wsX0_byteOf) B.pre
  have hown : s.vm.findClass RX0 = some m.cls := findClass_of_methodNamed B.named
  have hlocks := B.notSynchronized
  have hl := lv_entry ([.long a0, .int a1]) (n := 3) (Nat.le_of_ble_eq_true rfl)
  rw [lg_entry_eq]
  generalize (lg_sl ([.long a0, .int a1]) ++ List.replicate (3 - (lg_sl ([.long a0, .int a1])).length) Slot.unset).toArray = ls at hl ⊢
  have hl : lv_has ls 3 [(0, .long a0), (2, .int a1)] := hl
  refine lv_lload_n hx hb dX0_byteOf_0 rfl (lv_at hl 0 rfl) ?_
  refine lv_bipush (v := 8) hx hb dX0_byteOf_1 (by decide) ?_
  refine lv_iload_n hx hb dX0_byteOf_3 rfl (lv_at hl 1 rfl) ?_
  refine lv_imul hx hb dX0_byteOf_4 ?_
  refine lv_lushr (v := j_lushr a0 (8 * a1)) hx hb dX0_byteOf_5 rfl ?_
  refine lv_l2i (v := (j_lushr a0 (8 * a1)).toInt32) hx hb dX0_byteOf_6 rfl ?_
  refine lv_sipush (v := 255) hx hb dX0_byteOf_7 (by decide) ?_
  refine lv_iand hx hb dX0_byteOf_10 ?_
  exact W.iret (v := ((j_lushr a0 (8 * a1)).toInt32) &&& 255) hx hb hr (fun t ht hW => ⟨_, rfl, (rfl), ht⟩) (fun q h => by cases h) dX0_byteOf_11

abbrev rmX0_remainderOf : Room := { frames := 1, cells := 0, slots := 0, locals := 20 }
def x_remF (a0 : Int64) : Nat → Int32 → Int32
  | 0, r => r
  | n + 1, r => x_remF a0 n (x_reduced ((r <<< (1 &&& 31)) ||| ((j_lushr a0 (nI n) &&& 1).toInt32)))
set_option maxHeartbeats 4000000 in
set_option maxRecDepth 100000 in
theorem lpX0_remainderOf {p : Program} {l : Launch} {e : Env} {s : State} {m : MethodId} {args : Array Value} {below : List Frame} {meth : Method} {c : Code} {Q : State → Prop} (a0 : Int64) (hx : p.tables.exec = Jvm.exec) (hb : c.code = cX0_remainderOf) (hml : c.maxLocals = 4) (hown : s.vm.findClass RX0 = some m.cls) (hts : ∀ w ∈ wsX0_remainderOf, w.before args s = true) : ∀ (n : Nat) (r : Int32) (x : Int32) (ls : Array Slot), x = nI n + (-1) → n ≤ 64 → lv_has ls 4 [(0, .long a0), (2, .int r), (3, .int x)] → (∀ (ls : Array Slot), lv_has ls 4 [(2, .int (x_remF a0 n r))] → W p l e (headSpec wsX0_remainderOf rmX0_remainderOf).room s m args below meth c s.heap [] 0 0 Q (F0 m 29 ls [])) → W p l e (headSpec wsX0_remainderOf rmX0_remainderOf).room s m args below meth c s.heap [] 0 0 Q (F0 m 5 ls []) := by
  intro n
  induction n with
  | zero =>
    intro r x ls ex hn hl kk
    have ex : x = (-1) := by rw [ex]; decide
    subst ex
    have hl : lv_has ls 4 [(0, .long a0), (2, .int r), (3, .int (-1))] := hl
    refine lv_iload_n hx hb dX0_remainderOf_5 rfl (lv_at hl 2 rfl) ?_
    refine lv_if_lt (tgt := 29) hx hb dX0_remainderOf_6 (by decide) (fun c_1 => ?_) (fun c_1 => absurd (by decide) c_1)
    exact kk ls (lv_sub hl [1] rfl)
  | succ n ih =>
    intro r x ls ex hn hl kk
    have ex : x = nI n := by rw [ex]; exact pk_m1 n
    subst ex
    have hl : lv_has ls 4 [(0, .long a0), (2, .int r), (3, .int (nI n))] := hl
    refine lv_iload_n hx hb dX0_remainderOf_5 rfl (lv_at hl 2 rfl) ?_
    refine lv_if_lt (tgt := 29) hx hb dX0_remainderOf_6 (by decide) (fun c_1 => absurd c_1 (nI_pos (by omega))) (fun c_1 => ?_)
    refine lv_iload_n hx hb dX0_remainderOf_9 rfl (lv_at hl 1 rfl) ?_
    refine lv_iconst (v := 1) hx hb dX0_remainderOf_10 (by decide) ?_
    refine lv_ishl hx hb dX0_remainderOf_11 ?_
    refine lv_lload_n hx hb dX0_remainderOf_12 rfl (lv_at hl 0 rfl) ?_
    refine lv_iload_n hx hb dX0_remainderOf_13 rfl (lv_at hl 2 rfl) ?_
    refine lv_lushr (v := j_lushr a0 (nI n)) hx hb dX0_remainderOf_14 rfl ?_
    refine lv_lconst (v := 1) hx hb dX0_remainderOf_15 (by decide) ?_
    refine lv_land hx hb dX0_remainderOf_16 ?_
    refine lv_l2i (v := ((j_lushr a0 (nI n)) &&& 1).toInt32) hx hb dX0_remainderOf_17 rfl ?_
    refine lv_ior hx hb dX0_remainderOf_18 ?_
    refine vp_callSi (va_runS (As := [.int ((r <<< (1 &&& 31)) ||| (((j_lushr a0 (nI n)) &&& 1).toInt32))]) (rest := []) ⟨hx, hb, hml, hown, hts⟩ (kX0_reduced l ((r <<< (1 &&& 31)) ||| (((j_lushr a0 (nI n)) &&& 1).toInt32))) (va_cwS 1 hts gX0_remainderOf_X0_reduced rfl rfl rfl (by decide +kernel) ⟨Nat.le_of_ble_eq_true rfl, Nat.le_of_ble_eq_true rfl⟩) ⟨fun a U g mk q => q, fun U hU hW => ⟨rfl, trivial⟩⟩ rfl rfl hl.1 rfl (lv_room (Nat.le_of_ble_eq_true rfl)) dX0_remainderOf_19 ⟨Nat.le_of_ble_eq_true rfl, Nat.le_of_ble_eq_true rfl⟩).run (fun r_2 hr_2 => ?_)
    subst hr_2
    refine lv_istore_n (lv' := [(2, .int (x_reduced ((r <<< (1 &&& 31)) ||| (((j_lushr a0 (nI n)) &&& 1).toInt32)))), (0, .long a0), (3, .int (nI n))]) hx hb dX0_remainderOf_22 rfl hl (by decide) rfl (fun ls hl => ?_)
    refine lv_iinc (v := (nI n) + (-1)) (lv' := [(3, .int ((nI n) + (-1))), (2, .int (x_reduced ((r <<< (1 &&& 31)) ||| (((j_lushr a0 (nI n)) &&& 1).toInt32)))), (0, .long a0)]) hx hb dX0_remainderOf_23 hl (k := 2) rfl (by rw [show Int32.ofInt (-1) = (-1 : Int32) from by decide]) (by decide) rfl (fun ls hl => ?_)
    refine lv_goto (tgt := 5) hx hb dX0_remainderOf_26 (by decide) ?_
    have eF : x_remF a0 (n + 1) r = x_remF a0 n (x_reduced ((r <<< (1 &&& 31)) ||| (((j_lushr a0 (nI n)) &&& 1).toInt32))) := by rw [x_remF]
    exact ih (x_reduced ((r <<< (1 &&& 31)) ||| (((j_lushr a0 (nI n)) &&& 1).toInt32))) ((nI n) + (-1)) ls rfl (by omega) (lv_sub hl [2, 1, 0] rfl) (fun ls hl => kk ls (by rw [eF]; exact hl))
def x_remainderOf (a0 : Int64) : Int32 := x_remF a0 63 0
set_option maxHeartbeats 4000000 in
set_option maxRecDepth 100000 in
theorem kX0_remainderOf (l : Launch) (a0 : Int64) : Met l yX0_remainderOf wsX0_remainderOf rmX0_remainderOf (va_Pc [.long a0] (fun _ => True)) (vp_Si (fun r => r = x_remainderOf a0)) 0 0 (fun _ => False) := by
  refine Met.ofW (cc := cX0_remainderOf) (maxL := 4) (ret := some .int) (by decide) rfl ?_
  intro p e s m args below meth c s₁ B hml hv
  obtain ⟨rfl, -⟩ := hv
  have hx := B.exec
  have hb := B.bytes
  have hr := B.returns
  have hts := atoms_spec (ws := wsX0_remainderOf) B.pre
  have hown : s.vm.findClass RX0 = some m.cls := findClass_of_methodNamed B.named
  have hlocks := B.notSynchronized
  have hl := lv_entry ([.long a0]) (n := 4) (Nat.le_of_ble_eq_true rfl)
  rw [lg_entry_eq]
  generalize (lg_sl ([.long a0]) ++ List.replicate (4 - (lg_sl ([.long a0])).length) Slot.unset).toArray = ls at hl ⊢
  have hl : lv_has ls 4 [(0, .long a0)] := hl
  refine lv_iconst (v := 0) hx hb dX0_remainderOf_0 (by decide) ?_
  refine lv_istore_n (lv' := [(2, .int 0), (0, .long a0)]) hx hb dX0_remainderOf_1 rfl hl (by decide) rfl (fun ls hl => ?_)
  refine lv_bipush (v := 62) hx hb dX0_remainderOf_2 (by decide) ?_
  refine lv_istore_n (lv' := [(3, .int 62), (2, .int 0), (0, .long a0)]) hx hb dX0_remainderOf_4 rfl hl (by decide) rfl (fun ls hl => ?_)
  refine lpX0_remainderOf (l := l) a0 hx hb hml hown hts 63 0 62 ls (by decide) (by decide) (lv_sub hl [2, 1, 0] rfl) (fun ls hl => ?_)
  refine lv_iload_n hx hb dX0_remainderOf_29 rfl (lv_at hl 0 rfl) ?_
  exact W.iret (v := x_remF a0 63 0) hx hb hr (fun t ht hW => ⟨_, rfl, (rfl), ht⟩) (fun q h => by cases h) dX0_remainderOf_30

abbrev rmX0_powerWithRemainder : Room := { frames := 1, cells := 0, slots := 0, locals := 20 }
def x_powF (a0 : Int32) : Nat → Nat → Int32 → Int32
  | 0, _, _ => (-1)
  | n + 1, k, cd => if cd = a0 then nI k else x_powF a0 n (k + 1) (x_reduced (cd <<< (1 &&& 31)))
set_option maxHeartbeats 4000000 in
set_option maxRecDepth 100000 in
theorem lpX0_powerWithRemainder {p : Program} {l : Launch} {e : Env} {s : State} {m : MethodId} {args : Array Value} {below : List Frame} {meth : Method} {c : Code} (a0 : Int32) (hx : p.tables.exec = Jvm.exec) (hb : c.code = cX0_powerWithRemainder) (hml : c.maxLocals = 3) (hown : s.vm.findClass RX0 = some m.cls) (hts : ∀ w ∈ wsX0_powerWithRemainder, w.before args s = true) (hr : meth.sig.returnType = some .int) (hlocks : meth.locks = false) : ∀ (n : Nat) (k : Nat) (cd : Int32) (ls : Array Slot), k + n = 63 → lv_has ls 3 [(0, .int a0), (1, .int cd), (2, .int (nI k))] → W p l e (headSpec wsX0_powerWithRemainder rmX0_powerWithRemainder).room s m args below meth c s.heap [] 0 0 (MQ below (vp_Si (fun r => r = x_powF a0 n k cd)) args s 0 0 (fun _ => False)) (F0 m 4 ls []) := by
  intro n
  induction n with
  | zero =>
    intro k cd ls hn hl
    have hk : k = 63 := by omega
    subst hk
    have hl : lv_has ls 3 [(0, .int a0), (1, .int cd), (2, .int (nI 63))] := hl
    refine lv_iload_n hx hb dX0_powerWithRemainder_4 rfl (lv_at hl 2 rfl) ?_
    refine lv_bipush (v := 63) hx hb dX0_powerWithRemainder_5 (by decide) ?_
    refine lv_icmp_ge (tgt := 30) hx hb dX0_powerWithRemainder_7 (by decide) (fun c_1 => ?_) (fun c_1 => absurd (by decide) c_1)
    refine lv_iconst (v := (-1)) hx hb dX0_powerWithRemainder_30 (by decide) ?_
    exact W.iret (v := (-1)) hx hb hr (fun t ht hW => ⟨_, rfl, (rfl), ht⟩) (fun q h => by cases h) dX0_powerWithRemainder_31
  | succ n ih =>
    intro k cd ls hn hl
    have hl : lv_has ls 3 [(0, .int a0), (1, .int cd), (2, .int (nI k))] := hl
    refine lv_iload_n hx hb dX0_powerWithRemainder_4 rfl (lv_at hl 2 rfl) ?_
    refine lv_bipush (v := 63) hx hb dX0_powerWithRemainder_5 (by decide) ?_
    refine lv_icmp_ge (tgt := 30) hx hb dX0_powerWithRemainder_7 (by decide) (fun c_1 => absurd c_1 (show ¬ nI 63 ≤ nI k from nI_ge (by omega) (by decide))) (fun c_1 => ?_)
    refine lv_iload_n hx hb dX0_powerWithRemainder_10 rfl (lv_at hl 1 rfl) ?_
    refine lv_iload_n hx hb dX0_powerWithRemainder_11 rfl (lv_at hl 0 rfl) ?_
    refine lv_icmp_ne (tgt := 17) hx hb dX0_powerWithRemainder_12 (by decide) (fun c_2 => ?_) (fun c_2 => ?_)
    · refine lv_iload_n hx hb dX0_powerWithRemainder_17 rfl (lv_at hl 1 rfl) ?_
      refine lv_iconst (v := 1) hx hb dX0_powerWithRemainder_18 (by decide) ?_
      refine lv_ishl hx hb dX0_powerWithRemainder_19 ?_
      refine vp_callSi (va_runS (As := [.int (cd <<< (1 &&& 31))]) (rest := []) ⟨hx, hb, hml, hown, hts⟩ (kX0_reduced l (cd <<< (1 &&& 31))) (va_cwS 1 hts gX0_powerWithRemainder_X0_reduced rfl rfl rfl (by decide +kernel) ⟨Nat.le_of_ble_eq_true rfl, Nat.le_of_ble_eq_true rfl⟩) ⟨fun a U g mk q => q, fun U hU hW => ⟨rfl, trivial⟩⟩ rfl rfl hl.1 rfl (lv_room (Nat.le_of_ble_eq_true rfl)) dX0_powerWithRemainder_20 ⟨Nat.le_of_ble_eq_true rfl, Nat.le_of_ble_eq_true rfl⟩).run (fun r_3 hr_3 => ?_)
      subst hr_3
      refine lv_istore_n (lv' := [(1, .int (x_reduced (cd <<< (1 &&& 31)))), (0, .int a0), (2, .int (nI k))]) hx hb dX0_powerWithRemainder_23 rfl hl (by decide) rfl (fun ls hl => ?_)
      refine lv_iinc (v := nI (k + 1)) (lv' := [(2, .int (nI (k + 1))), (1, .int (x_reduced (cd <<< (1 &&& 31)))), (0, .int a0)]) hx hb dX0_powerWithRemainder_24 hl (k := 2) rfl (j_inc k 1) (by decide) rfl (fun ls hl => ?_)
      refine lv_goto (tgt := 4) hx hb dX0_powerWithRemainder_27 (by decide) ?_
      have eF : x_powF a0 (n + 1) k cd = x_powF a0 n (k + 1) (x_reduced (cd <<< (1 &&& 31))) := by rw [x_powF, if_neg c_2]
      rw [eF]
      exact ih (k + 1) (x_reduced (cd <<< (1 &&& 31))) ls (by omega) (lv_sub hl [2, 1, 0] rfl)
    · refine lv_iload_n hx hb dX0_powerWithRemainder_15 rfl (lv_at hl 2 rfl) ?_
      exact W.iret (v := nI k) hx hb hr (fun t ht hW => ⟨_, rfl, (by rw [x_powF, if_pos c_2]), ht⟩) (fun q h => by cases h) dX0_powerWithRemainder_16
def x_powerWithRemainder (a0 : Int32) : Int32 := x_powF a0 63 0 1
set_option maxHeartbeats 4000000 in
set_option maxRecDepth 100000 in
theorem kX0_powerWithRemainder (l : Launch) (a0 : Int32) : Met l yX0_powerWithRemainder wsX0_powerWithRemainder rmX0_powerWithRemainder (va_Pc [.int a0] (fun _ => True)) (vp_Si (fun r => r = x_powerWithRemainder a0)) 0 0 (fun _ => False) := by
  refine Met.ofW (cc := cX0_powerWithRemainder) (maxL := 3) (ret := some .int) (by decide) rfl ?_
  intro p e s m args below meth c s₁ B hml hv
  obtain ⟨rfl, -⟩ := hv
  have hx := B.exec
  have hb := B.bytes
  have hr := B.returns
  have hts := atoms_spec (ws := wsX0_powerWithRemainder) B.pre
  have hown : s.vm.findClass RX0 = some m.cls := findClass_of_methodNamed B.named
  have hlocks := B.notSynchronized
  have hl := lv_entry ([.int a0]) (n := 3) (Nat.le_of_ble_eq_true rfl)
  rw [lg_entry_eq]
  generalize (lg_sl ([.int a0]) ++ List.replicate (3 - (lg_sl ([.int a0])).length) Slot.unset).toArray = ls at hl ⊢
  have hl : lv_has ls 3 [(0, .int a0)] := hl
  refine lv_iconst (v := 1) hx hb dX0_powerWithRemainder_0 (by decide) ?_
  refine lv_istore_n (lv' := [(1, .int 1), (0, .int a0)]) hx hb dX0_powerWithRemainder_1 rfl hl (by decide) rfl (fun ls hl => ?_)
  refine lv_iconst (v := 0) hx hb dX0_powerWithRemainder_2 (by decide) ?_
  refine lv_istore_n (lv' := [(2, .int 0), (1, .int 1), (0, .int a0)]) hx hb dX0_powerWithRemainder_3 rfl hl (by decide) rfl (fun ls hl => ?_)
  exact lpX0_powerWithRemainder (l := l) a0 hx hb hml hown hts hr hlocks 63 0 1 ls rfl (lv_sub hl [2, 1, 0] rfl)

abbrev rmX0_blockOf : Room := { frames := 2, cells := 0, slots := 0, locals := 43 }
def x_blockOf (a0 : Int64) : Int64 := j_lshl ((j_lshl a0 7) ||| (((x_remainderOf (j_lshl a0 7)) ^^^ 127).toInt64)) 1
set_option maxHeartbeats 4000000 in
set_option maxRecDepth 100000 in
theorem kX0_blockOf (l : Launch) (a0 : Int64) : Met l yX0_blockOf wsX0_blockOf rmX0_blockOf (va_Pc [.long a0] (fun _ => True)) (vp_Sl (fun r => r = x_blockOf a0)) 0 0 (fun _ => False) := by
  refine Met.ofW (cc := cX0_blockOf) (maxL := 4) (ret := some .long) (by decide) rfl ?_
  intro p e s m args below meth c s₁ B hml hv
  obtain ⟨rfl, -⟩ := hv
  have hx := B.exec
  have hb := B.bytes
  have hr := B.returns
  have hts := atoms_spec (ws := wsX0_blockOf) B.pre
  have hown : s.vm.findClass RX0 = some m.cls := findClass_of_methodNamed B.named
  have hlocks := B.notSynchronized
  have hl := lv_entry ([.long a0]) (n := 4) (Nat.le_of_ble_eq_true rfl)
  rw [lg_entry_eq]
  generalize (lg_sl ([.long a0]) ++ List.replicate (4 - (lg_sl ([.long a0])).length) Slot.unset).toArray = ls at hl ⊢
  have hl : lv_has ls 4 [(0, .long a0)] := hl
  refine lv_lload_n hx hb dX0_blockOf_0 rfl (lv_at hl 0 rfl) ?_
  refine lv_bipush (v := 7) hx hb dX0_blockOf_1 (by decide) ?_
  refine lv_lshl (v := j_lshl a0 7) hx hb dX0_blockOf_3 rfl ?_
  refine lv_lstore_n (lv' := [(2, .long (j_lshl a0 7)), (0, .long a0)]) hx hb dX0_blockOf_4 rfl hl (by decide) rfl (fun ls hl => ?_)
  refine lv_lload_n hx hb dX0_blockOf_5 rfl (lv_at hl 0 rfl) ?_
  refine lv_lload_n hx hb dX0_blockOf_6 rfl (lv_at hl 0 rfl) ?_
  refine vp_callSi (va_runS (As := [.long (j_lshl a0 7)]) (rest := [.long (j_lshl a0 7)]) ⟨hx, hb, hml, hown, hts⟩ (kX0_remainderOf l (j_lshl a0 7)) (va_cwS 1 hts gX0_blockOf_X0_remainderOf rfl rfl rfl (by decide +kernel) ⟨Nat.le_of_ble_eq_true rfl, Nat.le_of_ble_eq_true rfl⟩) ⟨fun a U g mk q => q, fun U hU hW => ⟨rfl, trivial⟩⟩ rfl rfl hl.1 rfl (lv_room (Nat.le_of_ble_eq_true rfl)) dX0_blockOf_7 ⟨Nat.le_of_ble_eq_true rfl, Nat.le_of_ble_eq_true rfl⟩).run (fun r_1 hr_1 => ?_)
  subst hr_1
  refine lv_bipush (v := 127) hx hb dX0_blockOf_10 (by decide) ?_
  refine lv_ixor hx hb dX0_blockOf_12 ?_
  refine lv_i2l (v := ((x_remainderOf (j_lshl a0 7)) ^^^ 127).toInt64) hx hb dX0_blockOf_13 rfl ?_
  refine lv_lor hx hb dX0_blockOf_14 ?_
  refine lv_iconst (v := 1) hx hb dX0_blockOf_15 (by decide) ?_
  refine lv_lshl (v := j_lshl ((j_lshl a0 7) ||| (((x_remainderOf (j_lshl a0 7)) ^^^ 127).toInt64)) 1) hx hb dX0_blockOf_16 rfl ?_
  exact W.lret (v := j_lshl ((j_lshl a0 7) ||| (((x_remainderOf (j_lshl a0 7)) ^^^ 127).toInt64)) 1) hx hb hr (fun t ht hW => ⟨_, rfl, (rfl), ht⟩) (fun q h => by cases h) dX0_blockOf_17

abbrev rmJ6_bitCount_0f7a4 : Room := { frames := 0, cells := 0, slots := 0, locals := 0 }
def x_bitCount (a0 : Int32) : Int32 := (((((((a0 - ((j_iushr a0 1) &&& 1431655765)) &&& 858993459) + ((j_iushr (a0 - ((j_iushr a0 1) &&& 1431655765)) 2) &&& 858993459)) + (j_iushr (((a0 - ((j_iushr a0 1) &&& 1431655765)) &&& 858993459) + ((j_iushr (a0 - ((j_iushr a0 1) &&& 1431655765)) 2) &&& 858993459)) 4)) &&& 252645135) + (j_iushr (((((a0 - ((j_iushr a0 1) &&& 1431655765)) &&& 858993459) + ((j_iushr (a0 - ((j_iushr a0 1) &&& 1431655765)) 2) &&& 858993459)) + (j_iushr (((a0 - ((j_iushr a0 1) &&& 1431655765)) &&& 858993459) + ((j_iushr (a0 - ((j_iushr a0 1) &&& 1431655765)) 2) &&& 858993459)) 4)) &&& 252645135) 8)) + (j_iushr ((((((a0 - ((j_iushr a0 1) &&& 1431655765)) &&& 858993459) + ((j_iushr (a0 - ((j_iushr a0 1) &&& 1431655765)) 2) &&& 858993459)) + (j_iushr (((a0 - ((j_iushr a0 1) &&& 1431655765)) &&& 858993459) + ((j_iushr (a0 - ((j_iushr a0 1) &&& 1431655765)) 2) &&& 858993459)) 4)) &&& 252645135) + (j_iushr (((((a0 - ((j_iushr a0 1) &&& 1431655765)) &&& 858993459) + ((j_iushr (a0 - ((j_iushr a0 1) &&& 1431655765)) 2) &&& 858993459)) + (j_iushr (((a0 - ((j_iushr a0 1) &&& 1431655765)) &&& 858993459) + ((j_iushr (a0 - ((j_iushr a0 1) &&& 1431655765)) 2) &&& 858993459)) 4)) &&& 252645135) 8)) 16)) &&& 63
set_option maxHeartbeats 4000000 in
set_option maxRecDepth 100000 in
theorem kJ6_bitCount_0f7a4 (l : Launch) (a0 : Int32) : Met l yJ6_bitCount_0f7a4 wsJ6_bitCount_0f7a4 rmJ6_bitCount_0f7a4 (va_Pc [.int a0] (fun _ => True)) (vp_Si (fun r => r = x_bitCount a0)) 0 0 (fun _ => False) := by
  refine va_MetF (cc := cJ6_bitCount_0f7a4) (maxL := 1) (ret := some .int) (by decide +kernel) rfl ?_
  intro p e s m args below meth c s₁ B hml hv
  obtain ⟨rfl, -⟩ := hv
  have hx := B.exec
  have hb := B.bytes
  have hr := B.returns
  have hts := atoms_spec (ws := wsJ6_bitCount_0f7a4) B.pre
  have hown : s.vm.findClass RJ6 = some m.cls := findClass_of_methodNamed B.named
  have hlocks := B.notSynchronized
  have hl := lv_entry ([.int a0]) (n := 1) (Nat.le_of_ble_eq_true rfl)
  rw [lg_entry_eq]
  generalize (lg_sl ([.int a0]) ++ List.replicate (1 - (lg_sl ([.int a0])).length) Slot.unset).toArray = ls at hl ⊢
  have hl : lv_has ls 1 [(0, .int a0)] := hl
  refine lv_iload_n hx hb dJ6_bitCount_0f7a4_0 rfl (lv_at hl 0 rfl) ?_
  refine lv_iload_n hx hb dJ6_bitCount_0f7a4_1 rfl (lv_at hl 0 rfl) ?_
  refine lv_iconst (v := 1) hx hb dJ6_bitCount_0f7a4_2 (by decide) ?_
  refine lv_iushr (v := j_iushr a0 1) hx hb dJ6_bitCount_0f7a4_3 rfl ?_
  refine lv_ldcw hx hb hown (hts (.constant RJ6 265 1431655765) (by decide +kernel)) dJ6_bitCount_0f7a4_4 ?_
  refine lv_iand hx hb dJ6_bitCount_0f7a4_7 ?_
  refine lv_isub hx hb dJ6_bitCount_0f7a4_8 ?_
  refine lv_istore_n (lv' := [(0, .int (a0 - ((j_iushr a0 1) &&& 1431655765)))]) hx hb dJ6_bitCount_0f7a4_9 rfl hl (by decide) rfl (fun ls hl => ?_)
  refine lv_iload_n hx hb dJ6_bitCount_0f7a4_10 rfl (lv_at hl 0 rfl) ?_
  refine lv_ldcw hx hb hown (hts (.constant RJ6 266 858993459) (by decide +kernel)) dJ6_bitCount_0f7a4_11 ?_
  refine lv_iand hx hb dJ6_bitCount_0f7a4_14 ?_
  refine lv_iload_n hx hb dJ6_bitCount_0f7a4_15 rfl (lv_at hl 0 rfl) ?_
  refine lv_iconst (v := 2) hx hb dJ6_bitCount_0f7a4_16 (by decide) ?_
  refine lv_iushr (v := j_iushr (a0 - ((j_iushr a0 1) &&& 1431655765)) 2) hx hb dJ6_bitCount_0f7a4_17 rfl ?_
  refine lv_ldcw hx hb hown (hts (.constant RJ6 266 858993459) (by decide +kernel)) dJ6_bitCount_0f7a4_18 ?_
  refine lv_iand hx hb dJ6_bitCount_0f7a4_21 ?_
  refine lv_iadd hx hb dJ6_bitCount_0f7a4_22 ?_
  refine lv_istore_n (lv' := [(0, .int (((a0 - ((j_iushr a0 1) &&& 1431655765)) &&& 858993459) + ((j_iushr (a0 - ((j_iushr a0 1) &&& 1431655765)) 2) &&& 858993459)))]) hx hb dJ6_bitCount_0f7a4_23 rfl hl (by decide) rfl (fun ls hl => ?_)
  refine lv_iload_n hx hb dJ6_bitCount_0f7a4_24 rfl (lv_at hl 0 rfl) ?_
  refine lv_iload_n hx hb dJ6_bitCount_0f7a4_25 rfl (lv_at hl 0 rfl) ?_
  refine lv_iconst (v := 4) hx hb dJ6_bitCount_0f7a4_26 (by decide) ?_
  refine lv_iushr (v := j_iushr (((a0 - ((j_iushr a0 1) &&& 1431655765)) &&& 858993459) + ((j_iushr (a0 - ((j_iushr a0 1) &&& 1431655765)) 2) &&& 858993459)) 4) hx hb dJ6_bitCount_0f7a4_27 rfl ?_
  refine lv_iadd hx hb dJ6_bitCount_0f7a4_28 ?_
  refine lv_ldcw hx hb hown (hts (.constant RJ6 267 252645135) (by decide +kernel)) dJ6_bitCount_0f7a4_29 ?_
  refine lv_iand hx hb dJ6_bitCount_0f7a4_32 ?_
  refine lv_istore_n (lv' := [(0, .int (((((a0 - ((j_iushr a0 1) &&& 1431655765)) &&& 858993459) + ((j_iushr (a0 - ((j_iushr a0 1) &&& 1431655765)) 2) &&& 858993459)) + (j_iushr (((a0 - ((j_iushr a0 1) &&& 1431655765)) &&& 858993459) + ((j_iushr (a0 - ((j_iushr a0 1) &&& 1431655765)) 2) &&& 858993459)) 4)) &&& 252645135))]) hx hb dJ6_bitCount_0f7a4_33 rfl hl (by decide) rfl (fun ls hl => ?_)
  refine lv_iload_n hx hb dJ6_bitCount_0f7a4_34 rfl (lv_at hl 0 rfl) ?_
  refine lv_iload_n hx hb dJ6_bitCount_0f7a4_35 rfl (lv_at hl 0 rfl) ?_
  refine lv_bipush (v := 8) hx hb dJ6_bitCount_0f7a4_36 (by decide) ?_
  refine lv_iushr (v := j_iushr (((((a0 - ((j_iushr a0 1) &&& 1431655765)) &&& 858993459) + ((j_iushr (a0 - ((j_iushr a0 1) &&& 1431655765)) 2) &&& 858993459)) + (j_iushr (((a0 - ((j_iushr a0 1) &&& 1431655765)) &&& 858993459) + ((j_iushr (a0 - ((j_iushr a0 1) &&& 1431655765)) 2) &&& 858993459)) 4)) &&& 252645135) 8) hx hb dJ6_bitCount_0f7a4_38 rfl ?_
  refine lv_iadd hx hb dJ6_bitCount_0f7a4_39 ?_
  refine lv_istore_n (lv' := [(0, .int ((((((a0 - ((j_iushr a0 1) &&& 1431655765)) &&& 858993459) + ((j_iushr (a0 - ((j_iushr a0 1) &&& 1431655765)) 2) &&& 858993459)) + (j_iushr (((a0 - ((j_iushr a0 1) &&& 1431655765)) &&& 858993459) + ((j_iushr (a0 - ((j_iushr a0 1) &&& 1431655765)) 2) &&& 858993459)) 4)) &&& 252645135) + (j_iushr (((((a0 - ((j_iushr a0 1) &&& 1431655765)) &&& 858993459) + ((j_iushr (a0 - ((j_iushr a0 1) &&& 1431655765)) 2) &&& 858993459)) + (j_iushr (((a0 - ((j_iushr a0 1) &&& 1431655765)) &&& 858993459) + ((j_iushr (a0 - ((j_iushr a0 1) &&& 1431655765)) 2) &&& 858993459)) 4)) &&& 252645135) 8)))]) hx hb dJ6_bitCount_0f7a4_40 rfl hl (by decide) rfl (fun ls hl => ?_)
  refine lv_iload_n hx hb dJ6_bitCount_0f7a4_41 rfl (lv_at hl 0 rfl) ?_
  refine lv_iload_n hx hb dJ6_bitCount_0f7a4_42 rfl (lv_at hl 0 rfl) ?_
  refine lv_bipush (v := 16) hx hb dJ6_bitCount_0f7a4_43 (by decide) ?_
  refine lv_iushr (v := j_iushr ((((((a0 - ((j_iushr a0 1) &&& 1431655765)) &&& 858993459) + ((j_iushr (a0 - ((j_iushr a0 1) &&& 1431655765)) 2) &&& 858993459)) + (j_iushr (((a0 - ((j_iushr a0 1) &&& 1431655765)) &&& 858993459) + ((j_iushr (a0 - ((j_iushr a0 1) &&& 1431655765)) 2) &&& 858993459)) 4)) &&& 252645135) + (j_iushr (((((a0 - ((j_iushr a0 1) &&& 1431655765)) &&& 858993459) + ((j_iushr (a0 - ((j_iushr a0 1) &&& 1431655765)) 2) &&& 858993459)) + (j_iushr (((a0 - ((j_iushr a0 1) &&& 1431655765)) &&& 858993459) + ((j_iushr (a0 - ((j_iushr a0 1) &&& 1431655765)) 2) &&& 858993459)) 4)) &&& 252645135) 8)) 16) hx hb dJ6_bitCount_0f7a4_45 rfl ?_
  refine lv_iadd hx hb dJ6_bitCount_0f7a4_46 ?_
  refine lv_istore_n (lv' := [(0, .int (((((((a0 - ((j_iushr a0 1) &&& 1431655765)) &&& 858993459) + ((j_iushr (a0 - ((j_iushr a0 1) &&& 1431655765)) 2) &&& 858993459)) + (j_iushr (((a0 - ((j_iushr a0 1) &&& 1431655765)) &&& 858993459) + ((j_iushr (a0 - ((j_iushr a0 1) &&& 1431655765)) 2) &&& 858993459)) 4)) &&& 252645135) + (j_iushr (((((a0 - ((j_iushr a0 1) &&& 1431655765)) &&& 858993459) + ((j_iushr (a0 - ((j_iushr a0 1) &&& 1431655765)) 2) &&& 858993459)) + (j_iushr (((a0 - ((j_iushr a0 1) &&& 1431655765)) &&& 858993459) + ((j_iushr (a0 - ((j_iushr a0 1) &&& 1431655765)) 2) &&& 858993459)) 4)) &&& 252645135) 8)) + (j_iushr ((((((a0 - ((j_iushr a0 1) &&& 1431655765)) &&& 858993459) + ((j_iushr (a0 - ((j_iushr a0 1) &&& 1431655765)) 2) &&& 858993459)) + (j_iushr (((a0 - ((j_iushr a0 1) &&& 1431655765)) &&& 858993459) + ((j_iushr (a0 - ((j_iushr a0 1) &&& 1431655765)) 2) &&& 858993459)) 4)) &&& 252645135) + (j_iushr (((((a0 - ((j_iushr a0 1) &&& 1431655765)) &&& 858993459) + ((j_iushr (a0 - ((j_iushr a0 1) &&& 1431655765)) 2) &&& 858993459)) + (j_iushr (((a0 - ((j_iushr a0 1) &&& 1431655765)) &&& 858993459) + ((j_iushr (a0 - ((j_iushr a0 1) &&& 1431655765)) 2) &&& 858993459)) 4)) &&& 252645135) 8)) 16)))]) hx hb dJ6_bitCount_0f7a4_47 rfl hl (by decide) rfl (fun ls hl => ?_)
  refine lv_iload_n hx hb dJ6_bitCount_0f7a4_48 rfl (lv_at hl 0 rfl) ?_
  refine lv_bipush (v := 63) hx hb dJ6_bitCount_0f7a4_49 (by decide) ?_
  refine lv_iand hx hb dJ6_bitCount_0f7a4_51 ?_
  exact W.iret (v := (((((((a0 - ((j_iushr a0 1) &&& 1431655765)) &&& 858993459) + ((j_iushr (a0 - ((j_iushr a0 1) &&& 1431655765)) 2) &&& 858993459)) + (j_iushr (((a0 - ((j_iushr a0 1) &&& 1431655765)) &&& 858993459) + ((j_iushr (a0 - ((j_iushr a0 1) &&& 1431655765)) 2) &&& 858993459)) 4)) &&& 252645135) + (j_iushr (((((a0 - ((j_iushr a0 1) &&& 1431655765)) &&& 858993459) + ((j_iushr (a0 - ((j_iushr a0 1) &&& 1431655765)) 2) &&& 858993459)) + (j_iushr (((a0 - ((j_iushr a0 1) &&& 1431655765)) &&& 858993459) + ((j_iushr (a0 - ((j_iushr a0 1) &&& 1431655765)) 2) &&& 858993459)) 4)) &&& 252645135) 8)) + (j_iushr ((((((a0 - ((j_iushr a0 1) &&& 1431655765)) &&& 858993459) + ((j_iushr (a0 - ((j_iushr a0 1) &&& 1431655765)) 2) &&& 858993459)) + (j_iushr (((a0 - ((j_iushr a0 1) &&& 1431655765)) &&& 858993459) + ((j_iushr (a0 - ((j_iushr a0 1) &&& 1431655765)) 2) &&& 858993459)) 4)) &&& 252645135) + (j_iushr (((((a0 - ((j_iushr a0 1) &&& 1431655765)) &&& 858993459) + ((j_iushr (a0 - ((j_iushr a0 1) &&& 1431655765)) 2) &&& 858993459)) + (j_iushr (((a0 - ((j_iushr a0 1) &&& 1431655765)) &&& 858993459) + ((j_iushr (a0 - ((j_iushr a0 1) &&& 1431655765)) 2) &&& 858993459)) 4)) &&& 252645135) 8)) 16)) &&& 63) hx hb hr (fun t ht hW => ⟨_, rfl, (rfl), ht⟩) (fun q h => by cases h) dJ6_bitCount_0f7a4_52
end
section
abbrev rmX0_beginSearch : Room := { frames := 0, cells := 0, slots := 0, locals := 0 }
def x_beginSearch (u : x_S)  : x_S := (1, x_md u, x_bt u, 0, x_hr u, x_rs u, x_hv u, x_vs u, x_wz u, x_sz u, x_ro u, x_rc u, x_cn u, x_wt u, x_sn u)
set_option maxHeartbeats 4000000 in
set_option maxRecDepth 100000 in
theorem kX0_beginSearch (l : Launch) (dC : Nat → ClassId) (dI : Nat → Nat → Nat) (qx qc qw qs : Nat) (cI : ClassId) (sz : Nat) (u : x_S)  : Met l yX0_beginSearch wsX0_beginSearch rmX0_beginSearch (va_Pc [.ref qx] (fun U => U.heap.size = sz ∧ va_P (dC, dI) vwCl (x_W qx qc qw qs cI u) U.heap ∧ va_K (dC, dI) vwCl [(cI, .int)] U ∧ va_D (fun _ => True) (x_W qx qc qw qs cI u))) (va_Qv (fun u2 => u2 = x_beginSearch u) (x_At dC dI (va_A (x_W qx qc qw qs cI u) sz) qx qc qw qs cI) (va_A (x_W qx qc qw qs cI u) sz)) 0 0 (va_A (x_W qx qc qw qs cI u) sz) := by
  refine Met.ofW (cc := cX0_beginSearch) (maxL := 1) (ret := none) (by decide) rfl ?_
  intro p e s m args below meth c s₁ B hml hv
  obtain ⟨rfl, hsz, hP, hK, hD0⟩ := hv
  have hx := B.exec
  have hb := B.bytes
  have hr := B.returns
  have hts := atoms_spec (ws := wsX0_beginSearch) B.pre
  have hown : s.vm.findClass RX0 = some m.cls := findClass_of_methodNamed B.named
  have hlocks := B.notSynchronized
  have hinT : ∀ w ∈ wsX00, w ∈ wsX0_beginSearch := by decide +kernel
  subst hsz
  have hD := hD0.self (sz := s.heap.size)
  generalize hAe : va_A (x_W qx qc qw qs cI u) s.heap.size = A at hD ⊢
  have hA : ∀ q : Nat, s.heap.size ≤ q → A q := fun q h => by rw [← hAe]; exact Or.inr h
  have hS : va_S A s.heap s.heap [] := va_S.rf
  have hD : va_D A [(qx, .inr (0, [.int (x_st u), .int (x_md u), .long (x_bt u), .int (x_cm u), .ref (x_hr u), .int (x_rs u), .ref (x_hv u), .int (x_vs u), .ref qc, .ref qw, .int (x_wz u), .ref qs, .int (x_sz u)])), (x_hr u, .inl (cI, 259, .inl (x_ro u))), (x_hv u, .inl (cI, 259, .inl (x_rc u))), (qc, .inl (cI, 5, .inl (x_cn u))), (qw, .inl (cI, 259, .inl (x_wt u))), (qs, .inl (cI, 306, .inl (x_sn u)))] := hD
  have hP : va_P (dC, dI) vwCl [(qx, .inr (0, [.int (x_st u), .int (x_md u), .long (x_bt u), .int (x_cm u), .ref (x_hr u), .int (x_rs u), .ref (x_hv u), .int (x_vs u), .ref qc, .ref qw, .int (x_wz u), .ref qs, .int (x_sz u)])), (x_hr u, .inl (cI, 259, .inl (x_ro u))), (x_hv u, .inl (cI, 259, .inl (x_rc u))), (qc, .inl (cI, 5, .inl (x_cn u))), (qw, .inl (cI, 259, .inl (x_wt u))), (qs, .inl (cI, 306, .inl (x_sn u)))] s.heap := hP
  have hl := lv_entry ([.ref qx]) (n := 1) (Nat.le_of_ble_eq_true rfl)
  rw [lg_entry_eq]
  generalize (lg_sl ([.ref qx]) ++ List.replicate (1 - (lg_sl ([.ref qx])).length) Slot.unset).toArray = ls at hl ⊢
  have hl : lv_has ls 1 [(0, .ref qx)] := hl
  refine lv_aload_n hx hb dX0_beginSearch_0 rfl (lv_at hl 0 rfl) ?_
  refine lv_iconst (v := 1) hx hb dX0_beginSearch_1 (by decide) ?_
  refine va_put (D := (dC, dI)) (ci := 0) (v := .int 1) (ty := .int) (C := RX0) (T := TX0) (N := 13) hx hb hts hinT tyX0 tyX0_ok nmX0 hown hK hP hD hS 0 rfl rfl 0 (by decide) (hts (.fieldLink RX0 9 "CodeBlocks" "state" "I") (by decide +kernel)) (fun _ h9 => h9) rfl (by decide +kernel) rfl rfl (Nat.le_of_ble_eq_true rfl) dX0_beginSearch_2 (fun H locs hP hD hS => ?_)
  have hP : va_P (dC, dI) vwCl [(qx, .inr (0, [.int 1, .int (x_md u), .long (x_bt u), .int (x_cm u), .ref (x_hr u), .int (x_rs u), .ref (x_hv u), .int (x_vs u), .ref qc, .ref qw, .int (x_wz u), .ref qs, .int (x_sz u)])), (x_hr u, .inl (cI, 259, .inl (x_ro u))), (x_hv u, .inl (cI, 259, .inl (x_rc u))), (qc, .inl (cI, 5, .inl (x_cn u))), (qw, .inl (cI, 259, .inl (x_wt u))), (qs, .inl (cI, 306, .inl (x_sn u)))] H := hP
  have hD : va_D A [(qx, .inr (0, [.int 1, .int (x_md u), .long (x_bt u), .int (x_cm u), .ref (x_hr u), .int (x_rs u), .ref (x_hv u), .int (x_vs u), .ref qc, .ref qw, .int (x_wz u), .ref qs, .int (x_sz u)])), (x_hr u, .inl (cI, 259, .inl (x_ro u))), (x_hv u, .inl (cI, 259, .inl (x_rc u))), (qc, .inl (cI, 5, .inl (x_cn u))), (qw, .inl (cI, 259, .inl (x_wt u))), (qs, .inl (cI, 306, .inl (x_sn u)))] := hD
  refine lv_aload_n hx hb dX0_beginSearch_5 rfl (lv_at hl 0 rfl) ?_
  refine lv_iconst (v := 0) hx hb dX0_beginSearch_6 (by decide) ?_
  refine va_put (D := (dC, dI)) (ci := 0) (v := .int 0) (ty := .int) (C := RX0) (T := TX0) (N := 13) hx hb hts hinT tyX0 tyX0_ok nmX0 hown hK hP hD hS 0 rfl rfl 3 (by decide) (hts (.fieldLink RX0 69 "CodeBlocks" "came" "I") (by decide +kernel)) (fun _ h9 => h9) rfl (by decide +kernel) rfl rfl (Nat.le_of_ble_eq_true rfl) dX0_beginSearch_7 (fun H locs hP hD hS => ?_)
  have hP : va_P (dC, dI) vwCl [(qx, .inr (0, [.int 1, .int (x_md u), .long (x_bt u), .int 0, .ref (x_hr u), .int (x_rs u), .ref (x_hv u), .int (x_vs u), .ref qc, .ref qw, .int (x_wz u), .ref qs, .int (x_sz u)])), (x_hr u, .inl (cI, 259, .inl (x_ro u))), (x_hv u, .inl (cI, 259, .inl (x_rc u))), (qc, .inl (cI, 5, .inl (x_cn u))), (qw, .inl (cI, 259, .inl (x_wt u))), (qs, .inl (cI, 306, .inl (x_sn u)))] H := hP
  have hD : va_D A [(qx, .inr (0, [.int 1, .int (x_md u), .long (x_bt u), .int 0, .ref (x_hr u), .int (x_rs u), .ref (x_hv u), .int (x_vs u), .ref qc, .ref qw, .int (x_wz u), .ref qs, .int (x_sz u)])), (x_hr u, .inl (cI, 259, .inl (x_ro u))), (x_hv u, .inl (cI, 259, .inl (x_rc u))), (qc, .inl (cI, 5, .inl (x_cn u))), (qw, .inl (cI, 259, .inl (x_wt u))), (qs, .inl (cI, 306, .inl (x_sn u)))] := hD
  have hP9 : va_P (dC, dI) vwCl (x_W qx qc qw qs cI (1, x_md u, x_bt u, 0, x_hr u, x_rs u, x_hv u, x_vs u, x_wz u, x_sz u, x_ro u, x_rc u, x_cn u, x_wt u, x_sn u)) H := hP
  have hD9 : va_D A (x_W qx qc qw qs cI (1, x_md u, x_bt u, 0, x_hr u, x_rs u, x_hv u, x_vs u, x_wz u, x_sz u, x_ro u, x_rc u, x_cn u, x_wt u, x_sn u)) := hD
  exact W.vret hx hb hr (fun t ht hW => ⟨⟨(1, x_md u, x_bt u, 0, x_hr u, x_rs u, x_hv u, x_vs u, x_wz u, x_sz u, x_ro u, x_rc u, x_cn u, x_wt u, x_sn u), rfl, (rfl), by rw [ht]; exact hP9, va_K.moved hW.alike hK, hD9⟩, hS.F ht⟩) hS.2.2 dX0_beginSearch_10

abbrev rmX0_beginTransmission : Room := { frames := 0, cells := 0, slots := 0, locals := 0 }
def x_beginTransmission (u : x_S)  : x_S := (2, x_md u, x_bt u, 0, x_hr u, 0, x_hv u, x_vs u, x_wz u, x_sz u, x_ro u, x_rc u, upd (x_cn u) 0 (((x_cn u) 0) + 1), x_wt u, x_sn u)
set_option maxHeartbeats 4000000 in
set_option maxRecDepth 100000 in
theorem kX0_beginTransmission (l : Launch) (dC : Nat → ClassId) (dI : Nat → Nat → Nat) (qx qc qw qs : Nat) (cI : ClassId) (sz : Nat) (u : x_S)  : Met l yX0_beginTransmission wsX0_beginTransmission rmX0_beginTransmission (va_Pc [.ref qx] (fun U => U.heap.size = sz ∧ va_P (dC, dI) vwCl (x_W qx qc qw qs cI u) U.heap ∧ va_K (dC, dI) vwCl [(cI, .int)] U ∧ va_D (fun _ => True) (x_W qx qc qw qs cI u))) (va_Qv (fun u2 => u2 = x_beginTransmission u) (x_At dC dI (va_A (x_W qx qc qw qs cI u) sz) qx qc qw qs cI) (va_A (x_W qx qc qw qs cI u) sz)) 0 0 (va_A (x_W qx qc qw qs cI u) sz) := by
  refine Met.ofW (cc := cX0_beginTransmission) (maxL := 1) (ret := none) (by decide) rfl ?_
  intro p e s m args below meth c s₁ B hml hv
  obtain ⟨rfl, hsz, hP, hK, hD0⟩ := hv
  have hx := B.exec
  have hb := B.bytes
  have hr := B.returns
  have hts := atoms_spec (ws := wsX0_beginTransmission) B.pre
  have hown : s.vm.findClass RX0 = some m.cls := findClass_of_methodNamed B.named
  have hlocks := B.notSynchronized
  have hinT : ∀ w ∈ wsX00, w ∈ wsX0_beginTransmission := by decide +kernel
  subst hsz
  have hD := hD0.self (sz := s.heap.size)
  generalize hAe : va_A (x_W qx qc qw qs cI u) s.heap.size = A at hD ⊢
  have hA : ∀ q : Nat, s.heap.size ≤ q → A q := fun q h => by rw [← hAe]; exact Or.inr h
  have hS : va_S A s.heap s.heap [] := va_S.rf
  have hD : va_D A [(qx, .inr (0, [.int (x_st u), .int (x_md u), .long (x_bt u), .int (x_cm u), .ref (x_hr u), .int (x_rs u), .ref (x_hv u), .int (x_vs u), .ref qc, .ref qw, .int (x_wz u), .ref qs, .int (x_sz u)])), (x_hr u, .inl (cI, 259, .inl (x_ro u))), (x_hv u, .inl (cI, 259, .inl (x_rc u))), (qc, .inl (cI, 5, .inl (x_cn u))), (qw, .inl (cI, 259, .inl (x_wt u))), (qs, .inl (cI, 306, .inl (x_sn u)))] := hD
  have hP : va_P (dC, dI) vwCl [(qx, .inr (0, [.int (x_st u), .int (x_md u), .long (x_bt u), .int (x_cm u), .ref (x_hr u), .int (x_rs u), .ref (x_hv u), .int (x_vs u), .ref qc, .ref qw, .int (x_wz u), .ref qs, .int (x_sz u)])), (x_hr u, .inl (cI, 259, .inl (x_ro u))), (x_hv u, .inl (cI, 259, .inl (x_rc u))), (qc, .inl (cI, 5, .inl (x_cn u))), (qw, .inl (cI, 259, .inl (x_wt u))), (qs, .inl (cI, 306, .inl (x_sn u)))] s.heap := hP
  have hl := lv_entry ([.ref qx]) (n := 1) (Nat.le_of_ble_eq_true rfl)
  rw [lg_entry_eq]
  generalize (lg_sl ([.ref qx]) ++ List.replicate (1 - (lg_sl ([.ref qx])).length) Slot.unset).toArray = ls at hl ⊢
  have hl : lv_has ls 1 [(0, .ref qx)] := hl
  refine lv_aload_n hx hb dX0_beginTransmission_0 rfl (lv_at hl 0 rfl) ?_
  refine va_get (D := (dC, dI)) (ci := 0) (v := .ref qc) (C := RX0) (T := TX0) (N := 13) hx hb hts hinT hown hK hP 0 rfl rfl 8 (by decide) (hts (.fieldLink RX0 20 "CodeBlocks" "counts" "[I") (by decide +kernel)) (fun _ h9 => h9) rfl dX0_beginTransmission_1 ?_
  refine lv_iconst (v := 0) hx hb dX0_beginTransmission_4 (by decide) ?_
  refine lv_dup2_11 hx hb dX0_beginTransmission_5 rfl rfl ?_
  refine va_iald hx hb hK hP 3 0 rfl rfl (j_in (k := 0) rfl (by decide)) dX0_beginTransmission_6 ?_
  refine W.eq (g2 := F0 m 7 ls [.int ((x_cn u) 0), .int 0, .ref qc]) rfl ?_
  refine lv_iconst (v := 1) hx hb dX0_beginTransmission_7 (by decide) ?_
  refine lv_iadd hx hb dX0_beginTransmission_8 ?_
  refine va_iast hx hb hK hP hD hS 3 0 rfl rfl (j_in (k := 0) rfl (by decide)) dX0_beginTransmission_9 (fun H locs hP hD hS => ?_)
  rw [show (0 : Int32).toNatClampNeg = 0 from (by decide)] at hP hD
  have hP : va_P (dC, dI) vwCl [(qx, .inr (0, [.int (x_st u), .int (x_md u), .long (x_bt u), .int (x_cm u), .ref (x_hr u), .int (x_rs u), .ref (x_hv u), .int (x_vs u), .ref qc, .ref qw, .int (x_wz u), .ref qs, .int (x_sz u)])), (x_hr u, .inl (cI, 259, .inl (x_ro u))), (x_hv u, .inl (cI, 259, .inl (x_rc u))), (qc, .inl (cI, 5, .inl (upd (x_cn u) 0 (((x_cn u) 0) + 1)))), (qw, .inl (cI, 259, .inl (x_wt u))), (qs, .inl (cI, 306, .inl (x_sn u)))] H := hP
  have hD : va_D A [(qx, .inr (0, [.int (x_st u), .int (x_md u), .long (x_bt u), .int (x_cm u), .ref (x_hr u), .int (x_rs u), .ref (x_hv u), .int (x_vs u), .ref qc, .ref qw, .int (x_wz u), .ref qs, .int (x_sz u)])), (x_hr u, .inl (cI, 259, .inl (x_ro u))), (x_hv u, .inl (cI, 259, .inl (x_rc u))), (qc, .inl (cI, 5, .inl (upd (x_cn u) 0 (((x_cn u) 0) + 1)))), (qw, .inl (cI, 259, .inl (x_wt u))), (qs, .inl (cI, 306, .inl (x_sn u)))] := hD
  refine lv_aload_n hx hb dX0_beginTransmission_10 rfl (lv_at hl 0 rfl) ?_
  refine lv_iconst (v := 2) hx hb dX0_beginTransmission_11 (by decide) ?_
  refine va_put (D := (dC, dI)) (ci := 0) (v := .int 2) (ty := .int) (C := RX0) (T := TX0) (N := 13) hx hb hts hinT tyX0 tyX0_ok nmX0 hown hK hP hD hS 0 rfl rfl 0 (by decide) (hts (.fieldLink RX0 9 "CodeBlocks" "state" "I") (by decide +kernel)) (fun _ h9 => h9) rfl (by decide +kernel) rfl rfl (Nat.le_of_ble_eq_true rfl) dX0_beginTransmission_12 (fun H locs hP hD hS => ?_)
  have hP : va_P (dC, dI) vwCl [(qx, .inr (0, [.int 2, .int (x_md u), .long (x_bt u), .int (x_cm u), .ref (x_hr u), .int (x_rs u), .ref (x_hv u), .int (x_vs u), .ref qc, .ref qw, .int (x_wz u), .ref qs, .int (x_sz u)])), (x_hr u, .inl (cI, 259, .inl (x_ro u))), (x_hv u, .inl (cI, 259, .inl (x_rc u))), (qc, .inl (cI, 5, .inl (upd (x_cn u) 0 (((x_cn u) 0) + 1)))), (qw, .inl (cI, 259, .inl (x_wt u))), (qs, .inl (cI, 306, .inl (x_sn u)))] H := hP
  have hD : va_D A [(qx, .inr (0, [.int 2, .int (x_md u), .long (x_bt u), .int (x_cm u), .ref (x_hr u), .int (x_rs u), .ref (x_hv u), .int (x_vs u), .ref qc, .ref qw, .int (x_wz u), .ref qs, .int (x_sz u)])), (x_hr u, .inl (cI, 259, .inl (x_ro u))), (x_hv u, .inl (cI, 259, .inl (x_rc u))), (qc, .inl (cI, 5, .inl (upd (x_cn u) 0 (((x_cn u) 0) + 1)))), (qw, .inl (cI, 259, .inl (x_wt u))), (qs, .inl (cI, 306, .inl (x_sn u)))] := hD
  refine lv_aload_n hx hb dX0_beginTransmission_15 rfl (lv_at hl 0 rfl) ?_
  refine lv_iconst (v := 0) hx hb dX0_beginTransmission_16 (by decide) ?_
  refine va_put (D := (dC, dI)) (ci := 0) (v := .int 0) (ty := .int) (C := RX0) (T := TX0) (N := 13) hx hb hts hinT tyX0 tyX0_ok nmX0 hown hK hP hD hS 0 rfl rfl 3 (by decide) (hts (.fieldLink RX0 69 "CodeBlocks" "came" "I") (by decide +kernel)) (fun _ h9 => h9) rfl (by decide +kernel) rfl rfl (Nat.le_of_ble_eq_true rfl) dX0_beginTransmission_17 (fun H locs hP hD hS => ?_)
  have hP : va_P (dC, dI) vwCl [(qx, .inr (0, [.int 2, .int (x_md u), .long (x_bt u), .int 0, .ref (x_hr u), .int (x_rs u), .ref (x_hv u), .int (x_vs u), .ref qc, .ref qw, .int (x_wz u), .ref qs, .int (x_sz u)])), (x_hr u, .inl (cI, 259, .inl (x_ro u))), (x_hv u, .inl (cI, 259, .inl (x_rc u))), (qc, .inl (cI, 5, .inl (upd (x_cn u) 0 (((x_cn u) 0) + 1)))), (qw, .inl (cI, 259, .inl (x_wt u))), (qs, .inl (cI, 306, .inl (x_sn u)))] H := hP
  have hD : va_D A [(qx, .inr (0, [.int 2, .int (x_md u), .long (x_bt u), .int 0, .ref (x_hr u), .int (x_rs u), .ref (x_hv u), .int (x_vs u), .ref qc, .ref qw, .int (x_wz u), .ref qs, .int (x_sz u)])), (x_hr u, .inl (cI, 259, .inl (x_ro u))), (x_hv u, .inl (cI, 259, .inl (x_rc u))), (qc, .inl (cI, 5, .inl (upd (x_cn u) 0 (((x_cn u) 0) + 1)))), (qw, .inl (cI, 259, .inl (x_wt u))), (qs, .inl (cI, 306, .inl (x_sn u)))] := hD
  refine lv_aload_n hx hb dX0_beginTransmission_20 rfl (lv_at hl 0 rfl) ?_
  refine lv_iconst (v := 0) hx hb dX0_beginTransmission_21 (by decide) ?_
  refine va_put (D := (dC, dI)) (ci := 0) (v := .int 0) (ty := .int) (C := RX0) (T := TX0) (N := 13) hx hb hts hinT tyX0 tyX0_ok nmX0 hown hK hP hD hS 0 rfl rfl 5 (by decide) (hts (.fieldLink RX0 94 "CodeBlocks" "rowSize" "I") (by decide +kernel)) (fun _ h9 => h9) rfl (by decide +kernel) rfl rfl (Nat.le_of_ble_eq_true rfl) dX0_beginTransmission_22 (fun H locs hP hD hS => ?_)
  have hP : va_P (dC, dI) vwCl [(qx, .inr (0, [.int 2, .int (x_md u), .long (x_bt u), .int 0, .ref (x_hr u), .int 0, .ref (x_hv u), .int (x_vs u), .ref qc, .ref qw, .int (x_wz u), .ref qs, .int (x_sz u)])), (x_hr u, .inl (cI, 259, .inl (x_ro u))), (x_hv u, .inl (cI, 259, .inl (x_rc u))), (qc, .inl (cI, 5, .inl (upd (x_cn u) 0 (((x_cn u) 0) + 1)))), (qw, .inl (cI, 259, .inl (x_wt u))), (qs, .inl (cI, 306, .inl (x_sn u)))] H := hP
  have hD : va_D A [(qx, .inr (0, [.int 2, .int (x_md u), .long (x_bt u), .int 0, .ref (x_hr u), .int 0, .ref (x_hv u), .int (x_vs u), .ref qc, .ref qw, .int (x_wz u), .ref qs, .int (x_sz u)])), (x_hr u, .inl (cI, 259, .inl (x_ro u))), (x_hv u, .inl (cI, 259, .inl (x_rc u))), (qc, .inl (cI, 5, .inl (upd (x_cn u) 0 (((x_cn u) 0) + 1)))), (qw, .inl (cI, 259, .inl (x_wt u))), (qs, .inl (cI, 306, .inl (x_sn u)))] := hD
  have hP9 : va_P (dC, dI) vwCl (x_W qx qc qw qs cI (2, x_md u, x_bt u, 0, x_hr u, 0, x_hv u, x_vs u, x_wz u, x_sz u, x_ro u, x_rc u, upd (x_cn u) 0 (((x_cn u) 0) + 1), x_wt u, x_sn u)) H := hP
  have hD9 : va_D A (x_W qx qc qw qs cI (2, x_md u, x_bt u, 0, x_hr u, 0, x_hv u, x_vs u, x_wz u, x_sz u, x_ro u, x_rc u, upd (x_cn u) 0 (((x_cn u) 0) + 1), x_wt u, x_sn u)) := hD
  exact W.vret hx hb hr (fun t ht hW => ⟨⟨(2, x_md u, x_bt u, 0, x_hr u, 0, x_hv u, x_vs u, x_wz u, x_sz u, x_ro u, x_rc u, upd (x_cn u) 0 (((x_cn u) 0) + 1), x_wt u, x_sn u), rfl, (rfl), by rw [ht]; exact hP9, va_K.moved hW.alike hK, hD9⟩, hS.F ht⟩) hS.2.2 dX0_beginTransmission_25

abbrev rmX0_endTransmission : Room := { frames := 1, cells := 0, slots := 0, locals := 20 }
def x_endTransmission (u : x_S)  : x_S := if (x_rs u) ≤ 0 then (x_beginSearch (x_st u, x_md u, x_bt u, x_cm u, x_hr u, x_rs u, x_hv u, x_vs u, x_wz u, x_sz u, x_ro u, x_rc u, upd (x_cn u) 1 (((x_cn u) 1) + 1), x_wt u, x_sn u)) else (x_beginSearch (x_st u, x_md u, x_bt u, x_cm u, x_hv u, x_rs u, x_hr u, x_rs u, x_wz u, x_sz u, x_rc u, x_ro u, upd (x_cn u) 1 (((x_cn u) 1) + 1), x_wt u, x_sn u))
set_option maxHeartbeats 4000000 in
set_option maxRecDepth 100000 in
theorem kX0_endTransmission (l : Launch) (dC : Nat → ClassId) (dI : Nat → Nat → Nat) (qx qc qw qs : Nat) (cI : ClassId) (sz : Nat) (u : x_S)  : Met l yX0_endTransmission wsX0_endTransmission rmX0_endTransmission (va_Pc [.ref qx] (fun U => U.heap.size = sz ∧ va_P (dC, dI) vwCl (x_W qx qc qw qs cI u) U.heap ∧ va_K (dC, dI) vwCl [(cI, .int)] U ∧ va_D (fun _ => True) (x_W qx qc qw qs cI u))) (va_Qv (fun u2 => u2 = x_endTransmission u) (x_At dC dI (va_A (x_W qx qc qw qs cI u) sz) qx qc qw qs cI) (va_A (x_W qx qc qw qs cI u) sz)) 0 0 (va_A (x_W qx qc qw qs cI u) sz) := by
  refine Met.ofW (cc := cX0_endTransmission) (maxL := 2) (ret := none) (by decide) rfl ?_
  intro p e s m args below meth c s₁ B hml hv
  obtain ⟨rfl, hsz, hP, hK, hD0⟩ := hv
  have hx := B.exec
  have hb := B.bytes
  have hr := B.returns
  have hts := atoms_spec (ws := wsX0_endTransmission) B.pre
  have hown : s.vm.findClass RX0 = some m.cls := findClass_of_methodNamed B.named
  have hlocks := B.notSynchronized
  have hinT : ∀ w ∈ wsX00, w ∈ wsX0_endTransmission := by decide +kernel
  subst hsz
  have hD := hD0.self (sz := s.heap.size)
  generalize hAe : va_A (x_W qx qc qw qs cI u) s.heap.size = A at hD ⊢
  have hA : ∀ q : Nat, s.heap.size ≤ q → A q := fun q h => by rw [← hAe]; exact Or.inr h
  have hS : va_S A s.heap s.heap [] := va_S.rf
  have hD : va_D A [(qx, .inr (0, [.int (x_st u), .int (x_md u), .long (x_bt u), .int (x_cm u), .ref (x_hr u), .int (x_rs u), .ref (x_hv u), .int (x_vs u), .ref qc, .ref qw, .int (x_wz u), .ref qs, .int (x_sz u)])), (x_hr u, .inl (cI, 259, .inl (x_ro u))), (x_hv u, .inl (cI, 259, .inl (x_rc u))), (qc, .inl (cI, 5, .inl (x_cn u))), (qw, .inl (cI, 259, .inl (x_wt u))), (qs, .inl (cI, 306, .inl (x_sn u)))] := hD
  have hP : va_P (dC, dI) vwCl [(qx, .inr (0, [.int (x_st u), .int (x_md u), .long (x_bt u), .int (x_cm u), .ref (x_hr u), .int (x_rs u), .ref (x_hv u), .int (x_vs u), .ref qc, .ref qw, .int (x_wz u), .ref qs, .int (x_sz u)])), (x_hr u, .inl (cI, 259, .inl (x_ro u))), (x_hv u, .inl (cI, 259, .inl (x_rc u))), (qc, .inl (cI, 5, .inl (x_cn u))), (qw, .inl (cI, 259, .inl (x_wt u))), (qs, .inl (cI, 306, .inl (x_sn u)))] s.heap := hP
  have hl := lv_entry ([.ref qx]) (n := 2) (Nat.le_of_ble_eq_true rfl)
  rw [lg_entry_eq]
  generalize (lg_sl ([.ref qx]) ++ List.replicate (2 - (lg_sl ([.ref qx])).length) Slot.unset).toArray = ls at hl ⊢
  have hl : lv_has ls 2 [(0, .ref qx)] := hl
  refine lv_aload_n hx hb dX0_endTransmission_0 rfl (lv_at hl 0 rfl) ?_
  refine va_get (D := (dC, dI)) (ci := 0) (v := .ref qc) (C := RX0) (T := TX0) (N := 13) hx hb hts hinT hown hK hP 0 rfl rfl 8 (by decide) (hts (.fieldLink RX0 20 "CodeBlocks" "counts" "[I") (by decide +kernel)) (fun _ h9 => h9) rfl dX0_endTransmission_1 ?_
  refine lv_iconst (v := 1) hx hb dX0_endTransmission_4 (by decide) ?_
  refine lv_dup2_11 hx hb dX0_endTransmission_5 rfl rfl ?_
  refine va_iald hx hb hK hP 3 0 rfl rfl (j_in (k := 1) rfl (by decide)) dX0_endTransmission_6 ?_
  refine W.eq (g2 := F0 m 7 ls [.int ((x_cn u) 1), .int 1, .ref qc]) rfl ?_
  refine lv_iconst (v := 1) hx hb dX0_endTransmission_7 (by decide) ?_
  refine lv_iadd hx hb dX0_endTransmission_8 ?_
  refine va_iast hx hb hK hP hD hS 3 0 rfl rfl (j_in (k := 1) rfl (by decide)) dX0_endTransmission_9 (fun H locs hP hD hS => ?_)
  rw [show (1 : Int32).toNatClampNeg = 1 from (by decide)] at hP hD
  have hP : va_P (dC, dI) vwCl [(qx, .inr (0, [.int (x_st u), .int (x_md u), .long (x_bt u), .int (x_cm u), .ref (x_hr u), .int (x_rs u), .ref (x_hv u), .int (x_vs u), .ref qc, .ref qw, .int (x_wz u), .ref qs, .int (x_sz u)])), (x_hr u, .inl (cI, 259, .inl (x_ro u))), (x_hv u, .inl (cI, 259, .inl (x_rc u))), (qc, .inl (cI, 5, .inl (upd (x_cn u) 1 (((x_cn u) 1) + 1)))), (qw, .inl (cI, 259, .inl (x_wt u))), (qs, .inl (cI, 306, .inl (x_sn u)))] H := hP
  have hD : va_D A [(qx, .inr (0, [.int (x_st u), .int (x_md u), .long (x_bt u), .int (x_cm u), .ref (x_hr u), .int (x_rs u), .ref (x_hv u), .int (x_vs u), .ref qc, .ref qw, .int (x_wz u), .ref qs, .int (x_sz u)])), (x_hr u, .inl (cI, 259, .inl (x_ro u))), (x_hv u, .inl (cI, 259, .inl (x_rc u))), (qc, .inl (cI, 5, .inl (upd (x_cn u) 1 (((x_cn u) 1) + 1)))), (qw, .inl (cI, 259, .inl (x_wt u))), (qs, .inl (cI, 306, .inl (x_sn u)))] := hD
  refine lv_aload_n hx hb dX0_endTransmission_10 rfl (lv_at hl 0 rfl) ?_
  refine va_get (D := (dC, dI)) (ci := 0) (v := .int (x_rs u)) (C := RX0) (T := TX0) (N := 13) hx hb hts hinT hown hK hP 0 rfl rfl 5 (by decide) (hts (.fieldLink RX0 94 "CodeBlocks" "rowSize" "I") (by decide +kernel)) (fun _ h9 => h9) rfl dX0_endTransmission_11 ?_
  refine lv_if_le (tgt := 43) hx hb dX0_endTransmission_14 (by decide) (fun c_1 => ?_) (fun c_1 => ?_)
  · refine lv_aload_n hx hb dX0_endTransmission_43 rfl (lv_at hl 0 rfl) ?_
    have hPc : va_P (dC, dI) vwCl (x_W qx qc qw qs cI (x_st u, x_md u, x_bt u, x_cm u, x_hr u, x_rs u, x_hv u, x_vs u, x_wz u, x_sz u, x_ro u, x_rc u, upd (x_cn u) 1 (((x_cn u) 1) + 1), x_wt u, x_sn u)) H := hP
    have hDc : va_D A (x_W qx qc qw qs cI (x_st u, x_md u, x_bt u, x_cm u, x_hr u, x_rs u, x_hv u, x_vs u, x_wz u, x_sz u, x_ro u, x_rc u, upd (x_cn u) 1 (((x_cn u) 1) + 1), x_wt u, x_sn u)) := hD
    have hFc := va_free (wc := (x_W qx qc qw qs cI (x_st u, x_md u, x_bt u, x_cm u, x_hr u, x_rs u, x_hv u, x_vs u, x_wz u, x_sz u, x_ro u, x_rc u, upd (x_cn u) 1 (((x_cn u) 1) + 1), x_wt u, x_sn u))) hD hS hA [0, 1, 2, 3, 4, 5] rfl
    refine va_callv (va_runV (As := []) (rest := []) ⟨hx, hb, hml, hown, hts⟩ (kX0_beginSearch l dC dI qx qc qw qs cI H.size (x_st u, x_md u, x_bt u, x_cm u, x_hr u, x_rs u, x_hv u, x_vs u, x_wz u, x_sz u, x_ro u, x_rc u, upd (x_cn u) 1 (((x_cn u) 1) + 1), x_wt u, x_sn u)  ) (cwV 0 hts gX0_endTransmission_X0_beginSearch rfl rfl rfl (by decide +kernel) ⟨Nat.le_of_ble_eq_true rfl, Nat.le_of_ble_eq_true rfl⟩) ⟨fun a U g mk q => by obtain ⟨q0, q1, qP, qK, qD⟩ := q; exact ⟨q0, q1, qP, va_K.moved (u := U) (U := U.calling g mk a) (Vm.Alike.refl U.vm) qK, qD⟩, va_recv hK hP (ci := 0) (q0 := 0) rfl rfl, fun U hU hW => ⟨rfl, by rw [hU], by rw [hU]; exact hPc, va_K.moved hW.alike hK, hDc.weaken (fun _ _ _ _ => trivial)⟩⟩ rfl rfl hl.1 rfl (lv_room (Nat.le_of_ble_eq_true rfl)) dX0_endTransmission_44 ⟨Nat.le_of_ble_eq_true rfl, Nat.le_of_ble_eq_true rfl⟩) hS (fun q _ h => hFc q h) hFc (fun  u_2 t H1 locs ht hvm hu_2 hB hz1 hk1 hS => ?_)
    obtain ⟨hP1, -, hD1⟩ := hB
    rw [ht] at hP1
    have hP : va_P (dC, dI) vwCl [(qx, .inr (0, [.int (x_st u_2), .int (x_md u_2), .long (x_bt u_2), .int (x_cm u_2), .ref (x_hr u_2), .int (x_rs u_2), .ref (x_hv u_2), .int (x_vs u_2), .ref qc, .ref qw, .int (x_wz u_2), .ref qs, .int (x_sz u_2)])), (x_hr u_2, .inl (cI, 259, .inl (x_ro u_2))), (x_hv u_2, .inl (cI, 259, .inl (x_rc u_2))), (qc, .inl (cI, 5, .inl (x_cn u_2))), (qw, .inl (cI, 259, .inl (x_wt u_2))), (qs, .inl (cI, 306, .inl (x_sn u_2)))] H1 := hP1
    have hD : va_D A [(qx, .inr (0, [.int (x_st u_2), .int (x_md u_2), .long (x_bt u_2), .int (x_cm u_2), .ref (x_hr u_2), .int (x_rs u_2), .ref (x_hv u_2), .int (x_vs u_2), .ref qc, .ref qw, .int (x_wz u_2), .ref qs, .int (x_sz u_2)])), (x_hr u_2, .inl (cI, 259, .inl (x_ro u_2))), (x_hv u_2, .inl (cI, 259, .inl (x_rc u_2))), (qc, .inl (cI, 5, .inl (x_cn u_2))), (qw, .inl (cI, 259, .inl (x_wt u_2))), (qs, .inl (cI, 306, .inl (x_sn u_2)))] := hD1.weaken (fun k q _ h => hFc q.1 h)
    generalize H1 = H at hP hS ⊢
    have hP9 : va_P (dC, dI) vwCl (x_W qx qc qw qs cI u_2) H := hP
    have hD9 : va_D A (x_W qx qc qw qs cI u_2) := hD
    exact W.vret hx hb hr (fun t ht hW => ⟨⟨u_2, rfl, (by subst hu_2; unfold x_endTransmission; rw [if_pos c_1]), by rw [ht]; exact hP9, va_K.moved hW.alike hK, hD9⟩, hS.F ht⟩) hS.2.2 dX0_endTransmission_47
  · refine lv_aload_n hx hb dX0_endTransmission_17 rfl (lv_at hl 0 rfl) ?_
    refine va_get (D := (dC, dI)) (ci := 0) (v := .ref (x_hv u)) (C := RX0) (T := TX0) (N := 13) hx hb hts hinT hown hK hP 0 rfl rfl 6 (by decide) (hts (.fieldLink RX0 17 "CodeBlocks" "received" "[I") (by decide +kernel)) (fun _ h9 => h9) rfl dX0_endTransmission_18 ?_
    refine lv_astore_n (lv' := [(1, .ref (x_hv u)), (0, .ref qx)]) hx hb dX0_endTransmission_21 rfl hl (by decide) rfl (fun ls hl => ?_)
    refine lv_aload_n hx hb dX0_endTransmission_22 rfl (lv_at hl 1 rfl) ?_
    refine lv_aload_n hx hb dX0_endTransmission_23 rfl (lv_at hl 1 rfl) ?_
    refine va_get (D := (dC, dI)) (ci := 0) (v := .ref (x_hr u)) (C := RX0) (T := TX0) (N := 13) hx hb hts hinT hown hK hP 0 rfl rfl 4 (by decide) (hts (.fieldLink RX0 13 "CodeBlocks" "row" "[I") (by decide +kernel)) (fun _ h9 => h9) rfl dX0_endTransmission_24 ?_
    refine va_put (D := (dC, dI)) (ci := 0) (v := .ref (x_hr u)) (ty := .array .int) (C := RX0) (T := TX0) (N := 13) hx hb hts hinT tyX0 tyX0_ok nmX0 hown hK hP hD hS 0 rfl rfl 6 (by decide) (hts (.fieldLink RX0 17 "CodeBlocks" "received" "[I") (by decide +kernel)) (fun _ h9 => h9) rfl (by decide +kernel) rfl rfl (Nat.le_of_ble_eq_true rfl) dX0_endTransmission_27 (fun H locs hP hD hS => ?_)
    have hP : va_P (dC, dI) vwCl [(qx, .inr (0, [.int (x_st u), .int (x_md u), .long (x_bt u), .int (x_cm u), .ref (x_hr u), .int (x_rs u), .ref (x_hr u), .int (x_vs u), .ref qc, .ref qw, .int (x_wz u), .ref qs, .int (x_sz u)])), (x_hr u, .inl (cI, 259, .inl (x_ro u))), (x_hv u, .inl (cI, 259, .inl (x_rc u))), (qc, .inl (cI, 5, .inl (upd (x_cn u) 1 (((x_cn u) 1) + 1)))), (qw, .inl (cI, 259, .inl (x_wt u))), (qs, .inl (cI, 306, .inl (x_sn u)))] H := hP
    have hD : va_D A [(qx, .inr (0, [.int (x_st u), .int (x_md u), .long (x_bt u), .int (x_cm u), .ref (x_hr u), .int (x_rs u), .ref (x_hr u), .int (x_vs u), .ref qc, .ref qw, .int (x_wz u), .ref qs, .int (x_sz u)])), (x_hr u, .inl (cI, 259, .inl (x_ro u))), (x_hv u, .inl (cI, 259, .inl (x_rc u))), (qc, .inl (cI, 5, .inl (upd (x_cn u) 1 (((x_cn u) 1) + 1)))), (qw, .inl (cI, 259, .inl (x_wt u))), (qs, .inl (cI, 306, .inl (x_sn u)))] := hD
    refine lv_aload_n hx hb dX0_endTransmission_30 rfl (lv_at hl 1 rfl) ?_
    refine lv_aload_n hx hb dX0_endTransmission_31 rfl (lv_at hl 1 rfl) ?_
    refine va_get (D := (dC, dI)) (ci := 0) (v := .int (x_rs u)) (C := RX0) (T := TX0) (N := 13) hx hb hts hinT hown hK hP 0 rfl rfl 5 (by decide) (hts (.fieldLink RX0 94 "CodeBlocks" "rowSize" "I") (by decide +kernel)) (fun _ h9 => h9) rfl dX0_endTransmission_32 ?_
    refine va_put (D := (dC, dI)) (ci := 0) (v := .int (x_rs u)) (ty := .int) (C := RX0) (T := TX0) (N := 13) hx hb hts hinT tyX0 tyX0_ok nmX0 hown hK hP hD hS 0 rfl rfl 7 (by decide) (hts (.fieldLink RX0 40 "CodeBlocks" "receivedSize" "I") (by decide +kernel)) (fun _ h9 => h9) rfl (by decide +kernel) rfl rfl (Nat.le_of_ble_eq_true rfl) dX0_endTransmission_35 (fun H locs hP hD hS => ?_)
    have hP : va_P (dC, dI) vwCl [(qx, .inr (0, [.int (x_st u), .int (x_md u), .long (x_bt u), .int (x_cm u), .ref (x_hr u), .int (x_rs u), .ref (x_hr u), .int (x_rs u), .ref qc, .ref qw, .int (x_wz u), .ref qs, .int (x_sz u)])), (x_hr u, .inl (cI, 259, .inl (x_ro u))), (x_hv u, .inl (cI, 259, .inl (x_rc u))), (qc, .inl (cI, 5, .inl (upd (x_cn u) 1 (((x_cn u) 1) + 1)))), (qw, .inl (cI, 259, .inl (x_wt u))), (qs, .inl (cI, 306, .inl (x_sn u)))] H := hP
    have hD : va_D A [(qx, .inr (0, [.int (x_st u), .int (x_md u), .long (x_bt u), .int (x_cm u), .ref (x_hr u), .int (x_rs u), .ref (x_hr u), .int (x_rs u), .ref qc, .ref qw, .int (x_wz u), .ref qs, .int (x_sz u)])), (x_hr u, .inl (cI, 259, .inl (x_ro u))), (x_hv u, .inl (cI, 259, .inl (x_rc u))), (qc, .inl (cI, 5, .inl (upd (x_cn u) 1 (((x_cn u) 1) + 1)))), (qw, .inl (cI, 259, .inl (x_wt u))), (qs, .inl (cI, 306, .inl (x_sn u)))] := hD
    refine lv_aload_n hx hb dX0_endTransmission_38 rfl (lv_at hl 1 rfl) ?_
    refine lv_aload_n hx hb dX0_endTransmission_39 rfl (lv_at hl 0 rfl) ?_
    refine va_put (D := (dC, dI)) (ci := 0) (v := .ref (x_hv u)) (ty := .array .int) (C := RX0) (T := TX0) (N := 13) hx hb hts hinT tyX0 tyX0_ok nmX0 hown hK hP hD hS 0 rfl rfl 4 (by decide) (hts (.fieldLink RX0 13 "CodeBlocks" "row" "[I") (by decide +kernel)) (fun _ h9 => h9) rfl (by decide +kernel) rfl rfl (Nat.le_of_ble_eq_true rfl) dX0_endTransmission_40 (fun H locs hP hD hS => ?_)
    have hP : va_P (dC, dI) vwCl [(qx, .inr (0, [.int (x_st u), .int (x_md u), .long (x_bt u), .int (x_cm u), .ref (x_hv u), .int (x_rs u), .ref (x_hr u), .int (x_rs u), .ref qc, .ref qw, .int (x_wz u), .ref qs, .int (x_sz u)])), (x_hr u, .inl (cI, 259, .inl (x_ro u))), (x_hv u, .inl (cI, 259, .inl (x_rc u))), (qc, .inl (cI, 5, .inl (upd (x_cn u) 1 (((x_cn u) 1) + 1)))), (qw, .inl (cI, 259, .inl (x_wt u))), (qs, .inl (cI, 306, .inl (x_sn u)))] H := hP
    have hD : va_D A [(qx, .inr (0, [.int (x_st u), .int (x_md u), .long (x_bt u), .int (x_cm u), .ref (x_hv u), .int (x_rs u), .ref (x_hr u), .int (x_rs u), .ref qc, .ref qw, .int (x_wz u), .ref qs, .int (x_sz u)])), (x_hr u, .inl (cI, 259, .inl (x_ro u))), (x_hv u, .inl (cI, 259, .inl (x_rc u))), (qc, .inl (cI, 5, .inl (upd (x_cn u) 1 (((x_cn u) 1) + 1)))), (qw, .inl (cI, 259, .inl (x_wt u))), (qs, .inl (cI, 306, .inl (x_sn u)))] := hD
    refine lv_aload_n hx hb dX0_endTransmission_43 rfl (lv_at hl 1 rfl) ?_
    have hP : va_P (dC, dI) vwCl [(qx, .inr (0, [.int (x_st u), .int (x_md u), .long (x_bt u), .int (x_cm u), .ref (x_hv u), .int (x_rs u), .ref (x_hr u), .int (x_rs u), .ref qc, .ref qw, .int (x_wz u), .ref qs, .int (x_sz u)])), (x_hv u, .inl (cI, 259, .inl (x_rc u))), (x_hr u, .inl (cI, 259, .inl (x_ro u))), (qc, .inl (cI, 5, .inl (upd (x_cn u) 1 (((x_cn u) 1) + 1)))), (qw, .inl (cI, 259, .inl (x_wt u))), (qs, .inl (cI, 306, .inl (x_sn u)))] H := hP.sub [0, 2, 1, 3, 4, 5] rfl
    have hD : va_D A [(qx, .inr (0, [.int (x_st u), .int (x_md u), .long (x_bt u), .int (x_cm u), .ref (x_hv u), .int (x_rs u), .ref (x_hr u), .int (x_rs u), .ref qc, .ref qw, .int (x_wz u), .ref qs, .int (x_sz u)])), (x_hv u, .inl (cI, 259, .inl (x_rc u))), (x_hr u, .inl (cI, 259, .inl (x_ro u))), (qc, .inl (cI, 5, .inl (upd (x_cn u) 1 (((x_cn u) 1) + 1)))), (qw, .inl (cI, 259, .inl (x_wt u))), (qs, .inl (cI, 306, .inl (x_sn u)))] := hD.sub [0, 2, 1, 3, 4, 5] (by decide) rfl
    have hPc : va_P (dC, dI) vwCl (x_W qx qc qw qs cI (x_st u, x_md u, x_bt u, x_cm u, x_hv u, x_rs u, x_hr u, x_rs u, x_wz u, x_sz u, x_rc u, x_ro u, upd (x_cn u) 1 (((x_cn u) 1) + 1), x_wt u, x_sn u)) H := hP
    have hDc : va_D A (x_W qx qc qw qs cI (x_st u, x_md u, x_bt u, x_cm u, x_hv u, x_rs u, x_hr u, x_rs u, x_wz u, x_sz u, x_rc u, x_ro u, upd (x_cn u) 1 (((x_cn u) 1) + 1), x_wt u, x_sn u)) := hD
    have hFc := va_free (wc := (x_W qx qc qw qs cI (x_st u, x_md u, x_bt u, x_cm u, x_hv u, x_rs u, x_hr u, x_rs u, x_wz u, x_sz u, x_rc u, x_ro u, upd (x_cn u) 1 (((x_cn u) 1) + 1), x_wt u, x_sn u))) hD hS hA [0, 1, 2, 3, 4, 5] rfl
    refine va_callv (va_runV (As := []) (rest := []) ⟨hx, hb, hml, hown, hts⟩ (kX0_beginSearch l dC dI qx qc qw qs cI H.size (x_st u, x_md u, x_bt u, x_cm u, x_hv u, x_rs u, x_hr u, x_rs u, x_wz u, x_sz u, x_rc u, x_ro u, upd (x_cn u) 1 (((x_cn u) 1) + 1), x_wt u, x_sn u)  ) (cwV 0 hts gX0_endTransmission_X0_beginSearch rfl rfl rfl (by decide +kernel) ⟨Nat.le_of_ble_eq_true rfl, Nat.le_of_ble_eq_true rfl⟩) ⟨fun a U g mk q => by obtain ⟨q0, q1, qP, qK, qD⟩ := q; exact ⟨q0, q1, qP, va_K.moved (u := U) (U := U.calling g mk a) (Vm.Alike.refl U.vm) qK, qD⟩, va_recv hK hP (ci := 0) (q0 := 0) rfl rfl, fun U hU hW => ⟨rfl, by rw [hU], by rw [hU]; exact hPc, va_K.moved hW.alike hK, hDc.weaken (fun _ _ _ _ => trivial)⟩⟩ rfl rfl hl.1 rfl (lv_room (Nat.le_of_ble_eq_true rfl)) dX0_endTransmission_44 ⟨Nat.le_of_ble_eq_true rfl, Nat.le_of_ble_eq_true rfl⟩) hS (fun q _ h => hFc q h) hFc (fun  u_3 t H1 locs ht hvm hu_3 hB hz1 hk1 hS => ?_)
    obtain ⟨hP1, -, hD1⟩ := hB
    rw [ht] at hP1
    have hP : va_P (dC, dI) vwCl [(qx, .inr (0, [.int (x_st u_3), .int (x_md u_3), .long (x_bt u_3), .int (x_cm u_3), .ref (x_hr u_3), .int (x_rs u_3), .ref (x_hv u_3), .int (x_vs u_3), .ref qc, .ref qw, .int (x_wz u_3), .ref qs, .int (x_sz u_3)])), (x_hr u_3, .inl (cI, 259, .inl (x_ro u_3))), (x_hv u_3, .inl (cI, 259, .inl (x_rc u_3))), (qc, .inl (cI, 5, .inl (x_cn u_3))), (qw, .inl (cI, 259, .inl (x_wt u_3))), (qs, .inl (cI, 306, .inl (x_sn u_3)))] H1 := hP1
    have hD : va_D A [(qx, .inr (0, [.int (x_st u_3), .int (x_md u_3), .long (x_bt u_3), .int (x_cm u_3), .ref (x_hr u_3), .int (x_rs u_3), .ref (x_hv u_3), .int (x_vs u_3), .ref qc, .ref qw, .int (x_wz u_3), .ref qs, .int (x_sz u_3)])), (x_hr u_3, .inl (cI, 259, .inl (x_ro u_3))), (x_hv u_3, .inl (cI, 259, .inl (x_rc u_3))), (qc, .inl (cI, 5, .inl (x_cn u_3))), (qw, .inl (cI, 259, .inl (x_wt u_3))), (qs, .inl (cI, 306, .inl (x_sn u_3)))] := hD1.weaken (fun k q _ h => hFc q.1 h)
    generalize H1 = H at hP hS ⊢
    have hP9 : va_P (dC, dI) vwCl (x_W qx qc qw qs cI u_3) H := hP
    have hD9 : va_D A (x_W qx qc qw qs cI u_3) := hD
    exact W.vret hx hb hr (fun t ht hW => ⟨⟨u_3, rfl, (by subst hu_3; unfold x_endTransmission; rw [if_neg c_1]), by rw [ht]; exact hP9, va_K.moved hW.alike hK, hD9⟩, hS.F ht⟩) hS.2.2 dX0_endTransmission_47

abbrev rmX0_keepData : Room := { frames := 2, cells := 0, slots := 0, locals := 41 }
def x_kdF (d : Int64) : Nat → x_S → x_S
  | 0, u => u
  | n + 1, u => if x_rs u < 0 then u else if 259 ≤ x_rs u then u else x_kdF d n (x_st u, x_md u, x_bt u, x_cm u, x_hr u, x_rs u + 1, x_hv u, x_vs u, x_wz u, x_sz u, upd (x_ro u) (x_rs u).toNatClampNeg (x_byteOf d (nI n)), x_rc u, x_cn u, x_wt u, x_sn u)
set_option maxHeartbeats 4000000 in
set_option maxRecDepth 100000 in
theorem lpX0_keepData {p : Program} {l : Launch} {e : Env} {s : State} {m : MethodId} {args : Array Value} {below : List Frame} {meth : Method} {c : Code} {Q : State → Prop} (dC : Nat → ClassId) (dI : Nat → Nat → Nat) (qx qc qw qs : Nat) (cI : ClassId) (d : Int64) (hx : p.tables.exec = Jvm.exec) (hb : c.code = cX0_keepData) (hml : c.maxLocals = 6) (hown : s.vm.findClass RX0 = some m.cls) (hts : ∀ w ∈ wsX0_keepData, w.before args s = true) (A : Nat → Prop) (hA : ∀ q : Nat, s.heap.size ≤ q → A q) (hK : va_K (dC, dI) vwCl [(cI, .int)] s) : ∀ (n : Nat) (u : x_S) (x : Int32) (H : Heap) (locs : List Loc) (ls : Array Slot), x = nI n + (-1) → n ≤ 64 → va_P (dC, dI) vwCl (x_W qx qc qw qs cI u) H → va_D A (x_W qx qc qw qs cI u) → va_S A s.heap H locs → lv_has ls 6 [(0, .ref qx), (3, .long d), (5, .int x)] → (∀ (H : Heap) (locs : List Loc) (ls : Array Slot), va_P (dC, dI) vwCl (x_W qx qc qw qs cI (x_kdF d n u)) H → va_D A (x_W qx qc qw qs cI (x_kdF d n u)) → va_S A s.heap H locs → lv_has ls 6 [(0, .ref qx)] → W p l e (headSpec wsX0_keepData rmX0_keepData).room s m args below meth c H locs 0 0 Q (F0 m 74 ls [])) → W p l e (headSpec wsX0_keepData rmX0_keepData).room s m args below meth c H locs 0 0 Q (F0 m 19 ls []) := by
  have hinT : ∀ w ∈ wsX00, w ∈ wsX0_keepData := by decide +kernel
  intro n
  induction n with
  | zero =>
    intro u x H locs ls ex hn hP hD hS hl kk
    have ex : x = (-1) := by rw [ex]; decide
    subst ex
    have hP : va_P (dC, dI) vwCl [(qx, .inr (0, [.int (x_st u), .int (x_md u), .long (x_bt u), .int (x_cm u), .ref (x_hr u), .int (x_rs u), .ref (x_hv u), .int (x_vs u), .ref qc, .ref qw, .int (x_wz u), .ref qs, .int (x_sz u)])), (x_hr u, .inl (cI, 259, .inl (x_ro u))), (x_hv u, .inl (cI, 259, .inl (x_rc u))), (qc, .inl (cI, 5, .inl (x_cn u))), (qw, .inl (cI, 259, .inl (x_wt u))), (qs, .inl (cI, 306, .inl (x_sn u)))] H := hP
    have hD : va_D A [(qx, .inr (0, [.int (x_st u), .int (x_md u), .long (x_bt u), .int (x_cm u), .ref (x_hr u), .int (x_rs u), .ref (x_hv u), .int (x_vs u), .ref qc, .ref qw, .int (x_wz u), .ref qs, .int (x_sz u)])), (x_hr u, .inl (cI, 259, .inl (x_ro u))), (x_hv u, .inl (cI, 259, .inl (x_rc u))), (qc, .inl (cI, 5, .inl (x_cn u))), (qw, .inl (cI, 259, .inl (x_wt u))), (qs, .inl (cI, 306, .inl (x_sn u)))] := hD
    have hl : lv_has ls 6 [(0, .ref qx), (3, .long d), (5, .int (-1))] := hl
    refine lv_iload hx hb dX0_keepData_19 (lv_at hl 2 rfl) ?_
    refine lv_if_lt (tgt := 74) hx hb dX0_keepData_21 (by decide) (fun c_1 => ?_) (fun c_1 => absurd (by decide) c_1)
    exact kk H locs ls hP hD hS (lv_sub hl [0] rfl)
  | succ n ih =>
    intro u x H locs ls ex hn hP hD hS hl kk
    have ex : x = nI n := by rw [ex]; exact pk_m1 n
    subst ex
    have hP : va_P (dC, dI) vwCl [(qx, .inr (0, [.int (x_st u), .int (x_md u), .long (x_bt u), .int (x_cm u), .ref (x_hr u), .int (x_rs u), .ref (x_hv u), .int (x_vs u), .ref qc, .ref qw, .int (x_wz u), .ref qs, .int (x_sz u)])), (x_hr u, .inl (cI, 259, .inl (x_ro u))), (x_hv u, .inl (cI, 259, .inl (x_rc u))), (qc, .inl (cI, 5, .inl (x_cn u))), (qw, .inl (cI, 259, .inl (x_wt u))), (qs, .inl (cI, 306, .inl (x_sn u)))] H := hP
    have hD : va_D A [(qx, .inr (0, [.int (x_st u), .int (x_md u), .long (x_bt u), .int (x_cm u), .ref (x_hr u), .int (x_rs u), .ref (x_hv u), .int (x_vs u), .ref qc, .ref qw, .int (x_wz u), .ref qs, .int (x_sz u)])), (x_hr u, .inl (cI, 259, .inl (x_ro u))), (x_hv u, .inl (cI, 259, .inl (x_rc u))), (qc, .inl (cI, 5, .inl (x_cn u))), (qw, .inl (cI, 259, .inl (x_wt u))), (qs, .inl (cI, 306, .inl (x_sn u)))] := hD
    have hl : lv_has ls 6 [(0, .ref qx), (3, .long d), (5, .int (nI n))] := hl
    refine lv_iload hx hb dX0_keepData_19 (lv_at hl 2 rfl) ?_
    refine lv_if_lt (tgt := 74) hx hb dX0_keepData_21 (by decide) (fun c_1 => absurd c_1 (nI_pos (by omega))) (fun c_1 => ?_)
    refine lv_aload_n hx hb dX0_keepData_24 rfl (lv_at hl 0 rfl) ?_
    refine va_get (D := (dC, dI)) (ci := 0) (v := .int (x_rs u)) (C := RX0) (T := TX0) (N := 13) hx hb hts hinT hown hK hP 0 rfl rfl 5 (by decide) (hts (.fieldLink RX0 94 "CodeBlocks" "rowSize" "I") (by decide +kernel)) (fun _ h9 => h9) rfl dX0_keepData_25 ?_
    refine lv_if_lt (tgt := 74) hx hb dX0_keepData_28 (by decide) (fun c_2 => ?_) (fun c_2 => ?_)
    · have eF : x_kdF d (n + 1) u = u := by rw [x_kdF, if_pos c_2]
      exact kk H locs ls (by rw [eF]; exact hP) (by rw [eF]; exact hD) hS (by exact lv_sub hl [0] rfl)
    · refine lv_aload_n hx hb dX0_keepData_31 rfl (lv_at hl 0 rfl) ?_
      refine va_get (D := (dC, dI)) (ci := 0) (v := .int (x_rs u)) (C := RX0) (T := TX0) (N := 13) hx hb hts hinT hown hK hP 0 rfl rfl 5 (by decide) (hts (.fieldLink RX0 94 "CodeBlocks" "rowSize" "I") (by decide +kernel)) (fun _ h9 => h9) rfl dX0_keepData_32 ?_
      refine lv_aload_n hx hb dX0_keepData_35 rfl (lv_at hl 0 rfl) ?_
      refine va_get (D := (dC, dI)) (ci := 0) (v := .ref (x_hr u)) (C := RX0) (T := TX0) (N := 13) hx hb hts hinT hown hK hP 0 rfl rfl 4 (by decide) (hts (.fieldLink RX0 13 "CodeBlocks" "row" "[I") (by decide +kernel)) (fun _ h9 => h9) rfl dX0_keepData_36 ?_
      refine va_alen hx hb hK hP 1 0 rfl rfl (v := 259) rfl dX0_keepData_39 ?_
      refine lv_icmp_ge (tgt := 74) hx hb dX0_keepData_40 (by decide) (fun c_3 => ?_) (fun c_3 => ?_)
      · have eF : x_kdF d (n + 1) u = u := by rw [x_kdF, if_neg c_2, if_pos c_3]
        exact kk H locs ls (by rw [eF]; exact hP) (by rw [eF]; exact hD) hS (by exact lv_sub hl [0] rfl)
      · refine lv_aload_n hx hb dX0_keepData_43 rfl (lv_at hl 0 rfl) ?_
        refine va_get (D := (dC, dI)) (ci := 0) (v := .ref (x_hr u)) (C := RX0) (T := TX0) (N := 13) hx hb hts hinT hown hK hP 0 rfl rfl 4 (by decide) (hts (.fieldLink RX0 13 "CodeBlocks" "row" "[I") (by decide +kernel)) (fun _ h9 => h9) rfl dX0_keepData_44 ?_
        refine lv_aload_n hx hb dX0_keepData_47 rfl (lv_at hl 0 rfl) ?_
        refine va_get (D := (dC, dI)) (ci := 0) (v := .int (x_rs u)) (C := RX0) (T := TX0) (N := 13) hx hb hts hinT hown hK hP 0 rfl rfl 5 (by decide) (hts (.fieldLink RX0 94 "CodeBlocks" "rowSize" "I") (by decide +kernel)) (fun _ h9 => h9) rfl dX0_keepData_48 ?_
        refine lv_lload_n hx hb dX0_keepData_51 rfl (lv_at hl 1 rfl) ?_
        refine lv_iload hx hb dX0_keepData_52 (lv_at hl 2 rfl) ?_
        refine vp_callSi (va_runS (As := [.long d, .int (nI n)]) (rest := [.int (x_rs u), .ref (x_hr u)]) ⟨hx, hb, hml, hown, hts⟩ (kX0_byteOf l d (nI n)) (va_cwS 2 hts gX0_keepData_X0_byteOf rfl rfl rfl (by decide +kernel) ⟨Nat.le_of_ble_eq_true rfl, Nat.le_of_ble_eq_true rfl⟩) ⟨fun a U g mk q => q, fun U hU hW => ⟨rfl, trivial⟩⟩ rfl rfl hl.1 rfl (lv_room (Nat.le_of_ble_eq_true rfl)) dX0_keepData_54 ⟨Nat.le_of_ble_eq_true rfl, Nat.le_of_ble_eq_true rfl⟩).run (fun r_4 hr_4 => ?_)
        subst hr_4
        refine va_iast hx hb hK hP hD hS 1 0 rfl rfl (j_in2 (by decide) c_2 c_3) dX0_keepData_57 (fun H locs hP hD hS => ?_)
        have hP : va_P (dC, dI) vwCl [(qx, .inr (0, [.int (x_st u), .int (x_md u), .long (x_bt u), .int (x_cm u), .ref (x_hr u), .int (x_rs u), .ref (x_hv u), .int (x_vs u), .ref qc, .ref qw, .int (x_wz u), .ref qs, .int (x_sz u)])), (x_hr u, .inl (cI, 259, .inl (upd (x_ro u) ((x_rs u).toNatClampNeg) (x_byteOf d (nI n))))), (x_hv u, .inl (cI, 259, .inl (x_rc u))), (qc, .inl (cI, 5, .inl (x_cn u))), (qw, .inl (cI, 259, .inl (x_wt u))), (qs, .inl (cI, 306, .inl (x_sn u)))] H := hP
        have hD : va_D A [(qx, .inr (0, [.int (x_st u), .int (x_md u), .long (x_bt u), .int (x_cm u), .ref (x_hr u), .int (x_rs u), .ref (x_hv u), .int (x_vs u), .ref qc, .ref qw, .int (x_wz u), .ref qs, .int (x_sz u)])), (x_hr u, .inl (cI, 259, .inl (upd (x_ro u) ((x_rs u).toNatClampNeg) (x_byteOf d (nI n))))), (x_hv u, .inl (cI, 259, .inl (x_rc u))), (qc, .inl (cI, 5, .inl (x_cn u))), (qw, .inl (cI, 259, .inl (x_wt u))), (qs, .inl (cI, 306, .inl (x_sn u)))] := hD
        refine lv_aload_n hx hb dX0_keepData_58 rfl (lv_at hl 0 rfl) ?_
        refine lv_dup hx hb dX0_keepData_59 rfl ?_
        refine va_get (D := (dC, dI)) (ci := 0) (v := .int (x_rs u)) (C := RX0) (T := TX0) (N := 13) hx hb hts hinT hown hK hP 0 rfl rfl 5 (by decide) (hts (.fieldLink RX0 94 "CodeBlocks" "rowSize" "I") (by decide +kernel)) (fun _ h9 => h9) rfl dX0_keepData_60 ?_
        refine lv_iconst (v := 1) hx hb dX0_keepData_63 (by decide) ?_
        refine lv_iadd hx hb dX0_keepData_64 ?_
        refine va_put (D := (dC, dI)) (ci := 0) (v := .int ((x_rs u) + 1)) (ty := .int) (C := RX0) (T := TX0) (N := 13) hx hb hts hinT tyX0 tyX0_ok nmX0 hown hK hP hD hS 0 rfl rfl 5 (by decide) (hts (.fieldLink RX0 94 "CodeBlocks" "rowSize" "I") (by decide +kernel)) (fun _ h9 => h9) rfl (by decide +kernel) rfl rfl (Nat.le_of_ble_eq_true rfl) dX0_keepData_65 (fun H locs hP hD hS => ?_)
        have hP : va_P (dC, dI) vwCl [(qx, .inr (0, [.int (x_st u), .int (x_md u), .long (x_bt u), .int (x_cm u), .ref (x_hr u), .int ((x_rs u) + 1), .ref (x_hv u), .int (x_vs u), .ref qc, .ref qw, .int (x_wz u), .ref qs, .int (x_sz u)])), (x_hr u, .inl (cI, 259, .inl (upd (x_ro u) ((x_rs u).toNatClampNeg) (x_byteOf d (nI n))))), (x_hv u, .inl (cI, 259, .inl (x_rc u))), (qc, .inl (cI, 5, .inl (x_cn u))), (qw, .inl (cI, 259, .inl (x_wt u))), (qs, .inl (cI, 306, .inl (x_sn u)))] H := hP
        have hD : va_D A [(qx, .inr (0, [.int (x_st u), .int (x_md u), .long (x_bt u), .int (x_cm u), .ref (x_hr u), .int ((x_rs u) + 1), .ref (x_hv u), .int (x_vs u), .ref qc, .ref qw, .int (x_wz u), .ref qs, .int (x_sz u)])), (x_hr u, .inl (cI, 259, .inl (upd (x_ro u) ((x_rs u).toNatClampNeg) (x_byteOf d (nI n))))), (x_hv u, .inl (cI, 259, .inl (x_rc u))), (qc, .inl (cI, 5, .inl (x_cn u))), (qw, .inl (cI, 259, .inl (x_wt u))), (qs, .inl (cI, 306, .inl (x_sn u)))] := hD
        refine lv_iinc (v := (nI n) + (-1)) (lv' := [(5, .int ((nI n) + (-1))), (0, .ref qx), (3, .long d)]) hx hb dX0_keepData_68 hl (k := 2) rfl (by rw [show Int32.ofInt (-1) = (-1 : Int32) from by decide]) (by decide) rfl (fun ls hl => ?_)
        refine lv_goto (tgt := 19) hx hb dX0_keepData_71 (by decide) ?_
        have eF : x_kdF d (n + 1) u = x_kdF d n (x_st u, x_md u, x_bt u, x_cm u, x_hr u, (x_rs u) + 1, x_hv u, x_vs u, x_wz u, x_sz u, upd (x_ro u) ((x_rs u).toNatClampNeg) (x_byteOf d (nI n)), x_rc u, x_cn u, x_wt u, x_sn u) := by rw [x_kdF, if_neg c_2, if_neg c_3]
        exact ih (x_st u, x_md u, x_bt u, x_cm u, x_hr u, (x_rs u) + 1, x_hv u, x_vs u, x_wz u, x_sz u, upd (x_ro u) ((x_rs u).toNatClampNeg) (x_byteOf d (nI n)), x_rc u, x_cn u, x_wt u, x_sn u) ((nI n) + (-1)) H locs ls rfl (by omega) hP hD hS (lv_sub hl [1, 2, 0] rfl) (fun H locs ls hP hD hS hl => kk H locs ls (by rw [eF]; exact hP) (by rw [eF]; exact hD) hS (by exact hl))
def x_keepData (u : x_S) (a0 : Int64) : x_S := if (x_rs (x_kdF (j_lushr a0 7) 7 (x_st u, x_md u, x_bt u, x_cm u, x_hr u, x_rs u, x_hv u, x_vs u, x_wz u, x_sz u, x_ro u, x_rc u, upd (x_cn u) 2 (((x_cn u) 2) + 1), x_wt u, x_sn u))) = 259 then (x_endTransmission (x_kdF (j_lushr a0 7) 7 (x_st u, x_md u, x_bt u, x_cm u, x_hr u, x_rs u, x_hv u, x_vs u, x_wz u, x_sz u, x_ro u, x_rc u, upd (x_cn u) 2 (((x_cn u) 2) + 1), x_wt u, x_sn u))) else (x_kdF (j_lushr a0 7) 7 (x_st u, x_md u, x_bt u, x_cm u, x_hr u, x_rs u, x_hv u, x_vs u, x_wz u, x_sz u, x_ro u, x_rc u, upd (x_cn u) 2 (((x_cn u) 2) + 1), x_wt u, x_sn u))
set_option maxHeartbeats 4000000 in
set_option maxRecDepth 100000 in
theorem kX0_keepData (l : Launch) (dC : Nat → ClassId) (dI : Nat → Nat → Nat) (qx qc qw qs : Nat) (cI : ClassId) (sz : Nat) (u : x_S) (a0 : Int64) : Met l yX0_keepData wsX0_keepData rmX0_keepData (va_Pc [.ref qx, .long a0] (fun U => U.heap.size = sz ∧ va_P (dC, dI) vwCl (x_W qx qc qw qs cI u) U.heap ∧ va_K (dC, dI) vwCl [(cI, .int)] U ∧ va_D (fun _ => True) (x_W qx qc qw qs cI u))) (va_Qv (fun u2 => u2 = x_keepData u a0) (x_At dC dI (va_A (x_W qx qc qw qs cI u) sz) qx qc qw qs cI) (va_A (x_W qx qc qw qs cI u) sz)) 0 0 (va_A (x_W qx qc qw qs cI u) sz) := by
  refine Met.ofW (cc := cX0_keepData) (maxL := 6) (ret := none) (by decide) rfl ?_
  intro p e s m args below meth c s₁ B hml hv
  obtain ⟨rfl, hsz, hP, hK, hD0⟩ := hv
  have hx := B.exec
  have hb := B.bytes
  have hr := B.returns
  have hts := atoms_spec (ws := wsX0_keepData) B.pre
  have hown : s.vm.findClass RX0 = some m.cls := findClass_of_methodNamed B.named
  have hlocks := B.notSynchronized
  have hinT : ∀ w ∈ wsX00, w ∈ wsX0_keepData := by decide +kernel
  subst hsz
  have hD := hD0.self (sz := s.heap.size)
  generalize hAe : va_A (x_W qx qc qw qs cI u) s.heap.size = A at hD ⊢
  have hA : ∀ q : Nat, s.heap.size ≤ q → A q := fun q h => by rw [← hAe]; exact Or.inr h
  have hS : va_S A s.heap s.heap [] := va_S.rf
  have hD : va_D A [(qx, .inr (0, [.int (x_st u), .int (x_md u), .long (x_bt u), .int (x_cm u), .ref (x_hr u), .int (x_rs u), .ref (x_hv u), .int (x_vs u), .ref qc, .ref qw, .int (x_wz u), .ref qs, .int (x_sz u)])), (x_hr u, .inl (cI, 259, .inl (x_ro u))), (x_hv u, .inl (cI, 259, .inl (x_rc u))), (qc, .inl (cI, 5, .inl (x_cn u))), (qw, .inl (cI, 259, .inl (x_wt u))), (qs, .inl (cI, 306, .inl (x_sn u)))] := hD
  have hP : va_P (dC, dI) vwCl [(qx, .inr (0, [.int (x_st u), .int (x_md u), .long (x_bt u), .int (x_cm u), .ref (x_hr u), .int (x_rs u), .ref (x_hv u), .int (x_vs u), .ref qc, .ref qw, .int (x_wz u), .ref qs, .int (x_sz u)])), (x_hr u, .inl (cI, 259, .inl (x_ro u))), (x_hv u, .inl (cI, 259, .inl (x_rc u))), (qc, .inl (cI, 5, .inl (x_cn u))), (qw, .inl (cI, 259, .inl (x_wt u))), (qs, .inl (cI, 306, .inl (x_sn u)))] s.heap := hP
  have hl := lv_entry ([.ref qx, .long a0]) (n := 6) (Nat.le_of_ble_eq_true rfl)
  rw [lg_entry_eq]
  generalize (lg_sl ([.ref qx, .long a0]) ++ List.replicate (6 - (lg_sl ([.ref qx, .long a0])).length) Slot.unset).toArray = ls at hl ⊢
  have hl : lv_has ls 6 [(0, .ref qx), (1, .long a0)] := hl
  refine lv_aload_n hx hb dX0_keepData_0 rfl (lv_at hl 0 rfl) ?_
  refine va_get (D := (dC, dI)) (ci := 0) (v := .ref qc) (C := RX0) (T := TX0) (N := 13) hx hb hts hinT hown hK hP 0 rfl rfl 8 (by decide) (hts (.fieldLink RX0 20 "CodeBlocks" "counts" "[I") (by decide +kernel)) (fun _ h9 => h9) rfl dX0_keepData_1 ?_
  refine lv_iconst (v := 2) hx hb dX0_keepData_4 (by decide) ?_
  refine lv_dup2_11 hx hb dX0_keepData_5 rfl rfl ?_
  refine va_iald hx hb hK hP 3 0 rfl rfl (j_in (k := 2) rfl (by decide)) dX0_keepData_6 ?_
  refine W.eq (g2 := F0 m 7 ls [.int ((x_cn u) 2), .int 2, .ref qc]) rfl ?_
  refine lv_iconst (v := 1) hx hb dX0_keepData_7 (by decide) ?_
  refine lv_iadd hx hb dX0_keepData_8 ?_
  refine va_iast hx hb hK hP hD hS 3 0 rfl rfl (j_in (k := 2) rfl (by decide)) dX0_keepData_9 (fun H locs hP hD hS => ?_)
  rw [show (2 : Int32).toNatClampNeg = 2 from (by decide)] at hP hD
  have hP : va_P (dC, dI) vwCl [(qx, .inr (0, [.int (x_st u), .int (x_md u), .long (x_bt u), .int (x_cm u), .ref (x_hr u), .int (x_rs u), .ref (x_hv u), .int (x_vs u), .ref qc, .ref qw, .int (x_wz u), .ref qs, .int (x_sz u)])), (x_hr u, .inl (cI, 259, .inl (x_ro u))), (x_hv u, .inl (cI, 259, .inl (x_rc u))), (qc, .inl (cI, 5, .inl (upd (x_cn u) 2 (((x_cn u) 2) + 1)))), (qw, .inl (cI, 259, .inl (x_wt u))), (qs, .inl (cI, 306, .inl (x_sn u)))] H := hP
  have hD : va_D A [(qx, .inr (0, [.int (x_st u), .int (x_md u), .long (x_bt u), .int (x_cm u), .ref (x_hr u), .int (x_rs u), .ref (x_hv u), .int (x_vs u), .ref qc, .ref qw, .int (x_wz u), .ref qs, .int (x_sz u)])), (x_hr u, .inl (cI, 259, .inl (x_ro u))), (x_hv u, .inl (cI, 259, .inl (x_rc u))), (qc, .inl (cI, 5, .inl (upd (x_cn u) 2 (((x_cn u) 2) + 1)))), (qw, .inl (cI, 259, .inl (x_wt u))), (qs, .inl (cI, 306, .inl (x_sn u)))] := hD
  refine lv_lload_n hx hb dX0_keepData_10 rfl (lv_at hl 1 rfl) ?_
  refine lv_bipush (v := 7) hx hb dX0_keepData_11 (by decide) ?_
  refine lv_lushr (v := j_lushr a0 7) hx hb dX0_keepData_13 rfl ?_
  refine lv_lstore_n (lv' := [(3, .long (j_lushr a0 7)), (0, .ref qx), (1, .long a0)]) hx hb dX0_keepData_14 rfl hl (by decide) rfl (fun ls hl => ?_)
  refine lv_bipush (v := 6) hx hb dX0_keepData_15 (by decide) ?_
  refine lv_istore (lv' := [(5, .int 6), (3, .long (j_lushr a0 7)), (0, .ref qx), (1, .long a0)]) hx hb dX0_keepData_17 hl (by decide) rfl (fun ls hl => ?_)
  refine lpX0_keepData (l := l) dC dI qx qc qw qs cI (j_lushr a0 7) hx hb hml hown hts A hA hK  7 (x_st u, x_md u, x_bt u, x_cm u, x_hr u, x_rs u, x_hv u, x_vs u, x_wz u, x_sz u, x_ro u, x_rc u, upd (x_cn u) 2 (((x_cn u) 2) + 1), x_wt u, x_sn u) 6 H locs ls (by decide) (by decide) hP hD hS (lv_sub hl [2, 1, 0] rfl) (fun H locs ls hP hD hS hl => ?_)
  obtain ⟨v_1, hv_1⟩ : ∃ z, z = x_kdF (j_lushr a0 7) 7 (x_st u, x_md u, x_bt u, x_cm u, x_hr u, x_rs u, x_hv u, x_vs u, x_wz u, x_sz u, x_ro u, x_rc u, upd (x_cn u) 2 (((x_cn u) 2) + 1), x_wt u, x_sn u) := ⟨_, rfl⟩
  rw [← hv_1] at hP hD
  have hP : va_P (dC, dI) vwCl [(qx, .inr (0, [.int (x_st v_1), .int (x_md v_1), .long (x_bt v_1), .int (x_cm v_1), .ref (x_hr v_1), .int (x_rs v_1), .ref (x_hv v_1), .int (x_vs v_1), .ref qc, .ref qw, .int (x_wz v_1), .ref qs, .int (x_sz v_1)])), (x_hr v_1, .inl (cI, 259, .inl (x_ro v_1))), (x_hv v_1, .inl (cI, 259, .inl (x_rc v_1))), (qc, .inl (cI, 5, .inl (x_cn v_1))), (qw, .inl (cI, 259, .inl (x_wt v_1))), (qs, .inl (cI, 306, .inl (x_sn v_1)))] H := hP
  have hD : va_D A [(qx, .inr (0, [.int (x_st v_1), .int (x_md v_1), .long (x_bt v_1), .int (x_cm v_1), .ref (x_hr v_1), .int (x_rs v_1), .ref (x_hv v_1), .int (x_vs v_1), .ref qc, .ref qw, .int (x_wz v_1), .ref qs, .int (x_sz v_1)])), (x_hr v_1, .inl (cI, 259, .inl (x_ro v_1))), (x_hv v_1, .inl (cI, 259, .inl (x_rc v_1))), (qc, .inl (cI, 5, .inl (x_cn v_1))), (qw, .inl (cI, 259, .inl (x_wt v_1))), (qs, .inl (cI, 306, .inl (x_sn v_1)))] := hD
  refine lv_aload_n hx hb dX0_keepData_74 rfl (lv_at hl 0 rfl) ?_
  refine va_get (D := (dC, dI)) (ci := 0) (v := .int (x_rs v_1)) (C := RX0) (T := TX0) (N := 13) hx hb hts hinT hown hK hP 0 rfl rfl 5 (by decide) (hts (.fieldLink RX0 94 "CodeBlocks" "rowSize" "I") (by decide +kernel)) (fun _ h9 => h9) rfl dX0_keepData_75 ?_
  refine lv_sipush (v := 259) hx hb dX0_keepData_78 (by decide) ?_
  refine lv_icmp_ne (tgt := 88) hx hb dX0_keepData_81 (by decide) (fun c_2 => ?_) (fun c_2 => ?_)
  · have hP9 : va_P (dC, dI) vwCl (x_W qx qc qw qs cI v_1) H := hP
    have hD9 : va_D A (x_W qx qc qw qs cI v_1) := hD
    exact W.vret hx hb hr (fun t ht hW => ⟨⟨v_1, rfl, (by subst hv_1; unfold x_keepData; rw [if_neg c_2]), by rw [ht]; exact hP9, va_K.moved hW.alike hK, hD9⟩, hS.F ht⟩) hS.2.2 dX0_keepData_88
  · refine lv_aload_n hx hb dX0_keepData_84 rfl (lv_at hl 0 rfl) ?_
    have hPc : va_P (dC, dI) vwCl (x_W qx qc qw qs cI v_1) H := hP
    have hDc : va_D A (x_W qx qc qw qs cI v_1) := hD
    have hFc := va_free (wc := (x_W qx qc qw qs cI v_1)) hD hS hA [0, 1, 2, 3, 4, 5] rfl
    refine va_callv (va_runV (As := []) (rest := []) ⟨hx, hb, hml, hown, hts⟩ (kX0_endTransmission l dC dI qx qc qw qs cI H.size v_1  ) (cwV 0 hts gX0_keepData_X0_endTransmission rfl rfl rfl (by decide +kernel) ⟨Nat.le_of_ble_eq_true rfl, Nat.le_of_ble_eq_true rfl⟩) ⟨fun a U g mk q => by obtain ⟨q0, q1, qP, qK, qD⟩ := q; exact ⟨q0, q1, qP, va_K.moved (u := U) (U := U.calling g mk a) (Vm.Alike.refl U.vm) qK, qD⟩, va_recv hK hP (ci := 0) (q0 := 0) rfl rfl, fun U hU hW => ⟨rfl, by rw [hU], by rw [hU]; exact hPc, va_K.moved hW.alike hK, hDc.weaken (fun _ _ _ _ => trivial)⟩⟩ rfl rfl hl.1 rfl (lv_room (Nat.le_of_ble_eq_true rfl)) dX0_keepData_85 ⟨Nat.le_of_ble_eq_true rfl, Nat.le_of_ble_eq_true rfl⟩) hS (fun q _ h => hFc q h) hFc (fun  u_3 t H1 locs ht hvm hu_3 hB hz1 hk1 hS => ?_)
    obtain ⟨hP1, -, hD1⟩ := hB
    rw [ht] at hP1
    have hP : va_P (dC, dI) vwCl [(qx, .inr (0, [.int (x_st u_3), .int (x_md u_3), .long (x_bt u_3), .int (x_cm u_3), .ref (x_hr u_3), .int (x_rs u_3), .ref (x_hv u_3), .int (x_vs u_3), .ref qc, .ref qw, .int (x_wz u_3), .ref qs, .int (x_sz u_3)])), (x_hr u_3, .inl (cI, 259, .inl (x_ro u_3))), (x_hv u_3, .inl (cI, 259, .inl (x_rc u_3))), (qc, .inl (cI, 5, .inl (x_cn u_3))), (qw, .inl (cI, 259, .inl (x_wt u_3))), (qs, .inl (cI, 306, .inl (x_sn u_3)))] H1 := hP1
    have hD : va_D A [(qx, .inr (0, [.int (x_st u_3), .int (x_md u_3), .long (x_bt u_3), .int (x_cm u_3), .ref (x_hr u_3), .int (x_rs u_3), .ref (x_hv u_3), .int (x_vs u_3), .ref qc, .ref qw, .int (x_wz u_3), .ref qs, .int (x_sz u_3)])), (x_hr u_3, .inl (cI, 259, .inl (x_ro u_3))), (x_hv u_3, .inl (cI, 259, .inl (x_rc u_3))), (qc, .inl (cI, 5, .inl (x_cn u_3))), (qw, .inl (cI, 259, .inl (x_wt u_3))), (qs, .inl (cI, 306, .inl (x_sn u_3)))] := hD1.weaken (fun k q _ h => hFc q.1 h)
    generalize H1 = H at hP hS ⊢
    have hP9 : va_P (dC, dI) vwCl (x_W qx qc qw qs cI u_3) H := hP
    have hD9 : va_D A (x_W qx qc qw qs cI u_3) := hD
    exact W.vret hx hb hr (fun t ht hW => ⟨⟨u_3, rfl, (by subst hu_3; subst hv_1; unfold x_keepData; rw [if_pos c_2]), by rw [ht]; exact hP9, va_K.moved hW.alike hK, hD9⟩, hS.F ht⟩) hS.2.2 dX0_keepData_88
end
section
abbrev rmX0_lookForStart : Room := { frames := 1, cells := 0, slots := 0, locals := 20 }
def x_lookForStart (u : x_S)  : x_S := if 16 ≤ (x_cm u) then (if (x_bitCount ((((x_bt u) &&& 65535).toInt32) ^^^ 60304)) = 0 then (x_beginTransmission u) else (if (x_bitCount ((((x_bt u) &&& 65535).toInt32) ^^^ 60304)) = 1 then (if (x_md u) = 0 then u else (x_beginTransmission (x_st u, x_md u, x_bt u, x_cm u, x_hr u, x_rs u, x_hv u, x_vs u, x_wz u, x_sz u, x_ro u, x_rc u, upd (x_cn u) 4 (((x_cn u) 4) + 1), x_wt u, x_sn u))) else u)) else u
set_option maxHeartbeats 4000000 in
set_option maxRecDepth 100000 in
theorem kX0_lookForStart (l : Launch) (dC : Nat → ClassId) (dI : Nat → Nat → Nat) (qx qc qw qs : Nat) (cI : ClassId) (sz : Nat) (u : x_S)  : Met l yX0_lookForStart wsX0_lookForStart rmX0_lookForStart (va_Pc [.ref qx] (fun U => U.heap.size = sz ∧ va_P (dC, dI) vwCl (x_W qx qc qw qs cI u) U.heap ∧ va_K (dC, dI) vwCl [(cI, .int)] U ∧ va_D (fun _ => True) (x_W qx qc qw qs cI u))) (va_Qv (fun u2 => u2 = x_lookForStart u) (x_At dC dI (va_A (x_W qx qc qw qs cI u) sz) qx qc qw qs cI) (va_A (x_W qx qc qw qs cI u) sz)) 0 0 (va_A (x_W qx qc qw qs cI u) sz) := by
  refine Met.ofW (cc := cX0_lookForStart) (maxL := 2) (ret := none) (by decide) rfl ?_
  intro p e s m args below meth c s₁ B hml hv
  obtain ⟨rfl, hsz, hP, hK, hD0⟩ := hv
  have hx := B.exec
  have hb := B.bytes
  have hr := B.returns
  have hts := atoms_spec (ws := wsX0_lookForStart) B.pre
  have hown : s.vm.findClass RX0 = some m.cls := findClass_of_methodNamed B.named
  have hlocks := B.notSynchronized
  have hinT : ∀ w ∈ wsX00, w ∈ wsX0_lookForStart := by decide +kernel
  subst hsz
  have hD := hD0.self (sz := s.heap.size)
  generalize hAe : va_A (x_W qx qc qw qs cI u) s.heap.size = A at hD ⊢
  have hA : ∀ q : Nat, s.heap.size ≤ q → A q := fun q h => by rw [← hAe]; exact Or.inr h
  have hS : va_S A s.heap s.heap [] := va_S.rf
  have hD : va_D A [(qx, .inr (0, [.int (x_st u), .int (x_md u), .long (x_bt u), .int (x_cm u), .ref (x_hr u), .int (x_rs u), .ref (x_hv u), .int (x_vs u), .ref qc, .ref qw, .int (x_wz u), .ref qs, .int (x_sz u)])), (x_hr u, .inl (cI, 259, .inl (x_ro u))), (x_hv u, .inl (cI, 259, .inl (x_rc u))), (qc, .inl (cI, 5, .inl (x_cn u))), (qw, .inl (cI, 259, .inl (x_wt u))), (qs, .inl (cI, 306, .inl (x_sn u)))] := hD
  have hP : va_P (dC, dI) vwCl [(qx, .inr (0, [.int (x_st u), .int (x_md u), .long (x_bt u), .int (x_cm u), .ref (x_hr u), .int (x_rs u), .ref (x_hv u), .int (x_vs u), .ref qc, .ref qw, .int (x_wz u), .ref qs, .int (x_sz u)])), (x_hr u, .inl (cI, 259, .inl (x_ro u))), (x_hv u, .inl (cI, 259, .inl (x_rc u))), (qc, .inl (cI, 5, .inl (x_cn u))), (qw, .inl (cI, 259, .inl (x_wt u))), (qs, .inl (cI, 306, .inl (x_sn u)))] s.heap := hP
  have hl := lv_entry ([.ref qx]) (n := 2) (Nat.le_of_ble_eq_true rfl)
  rw [lg_entry_eq]
  generalize (lg_sl ([.ref qx]) ++ List.replicate (2 - (lg_sl ([.ref qx])).length) Slot.unset).toArray = ls at hl ⊢
  have hl : lv_has ls 2 [(0, .ref qx)] := hl
  refine lv_aload_n hx hb dX0_lookForStart_0 rfl (lv_at hl 0 rfl) ?_
  refine va_get (D := (dC, dI)) (ci := 0) (v := .int (x_cm u)) (C := RX0) (T := TX0) (N := 13) hx hb hts hinT hown hK hP 0 rfl rfl 3 (by decide) (hts (.fieldLink RX0 69 "CodeBlocks" "came" "I") (by decide +kernel)) (fun _ h9 => h9) rfl dX0_lookForStart_1 ?_
  refine lv_bipush (v := 16) hx hb dX0_lookForStart_4 (by decide) ?_
  refine lv_icmp_ge (tgt := 10) hx hb dX0_lookForStart_6 (by decide) (fun c_1 => ?_) (fun c_1 => ?_)
  · refine lv_aload_n hx hb dX0_lookForStart_10 rfl (lv_at hl 0 rfl) ?_
    refine va_get (D := (dC, dI)) (ci := 0) (v := .long (x_bt u)) (C := RX0) (T := TX0) (N := 13) hx hb hts hinT hown hK hP 0 rfl rfl 2 (by decide) (hts (.fieldLink RX0 72 "CodeBlocks" "bits" "J") (by decide +kernel)) (fun _ h9 => h9) rfl dX0_lookForStart_11 ?_
    refine lv_ldc2 hx hb hown (hts (.constantLong RX0 82 65535) (by decide +kernel)) dX0_lookForStart_14 ?_
    refine lv_land hx hb dX0_lookForStart_17 ?_
    refine lv_l2i (v := ((x_bt u) &&& 65535).toInt32) hx hb dX0_lookForStart_18 rfl ?_
    refine lv_ldc hx hb hown (hts (.constant RX0 84 60304) (by decide +kernel)) dX0_lookForStart_19 ?_
    refine lv_ixor hx hb dX0_lookForStart_21 ?_
    refine vp_callSi (va_runS (As := [.int ((((x_bt u) &&& 65535).toInt32) ^^^ 60304)]) (rest := []) ⟨hx, hb, hml, hown, hts⟩ (kJ6_bitCount_0f7a4 l ((((x_bt u) &&& 65535).toInt32) ^^^ 60304)) (va_cwS 1 hts gX0_lookForStart_J6_bitCount_0f7a4 rfl rfl rfl (by decide +kernel) ⟨Nat.le_of_ble_eq_true rfl, Nat.le_of_ble_eq_true rfl⟩) ⟨fun a U g mk q => q, fun U hU hW => ⟨rfl, trivial⟩⟩ rfl rfl hl.1 rfl (lv_room (Nat.le_of_ble_eq_true rfl)) dX0_lookForStart_22 ⟨Nat.le_of_ble_eq_true rfl, Nat.le_of_ble_eq_true rfl⟩).run (fun r_2 hr_2 => ?_)
    subst hr_2
    refine lv_istore_n (lv' := [(1, .int (x_bitCount ((((x_bt u) &&& 65535).toInt32) ^^^ 60304))), (0, .ref qx)]) hx hb dX0_lookForStart_25 rfl hl (by decide) rfl (fun ls hl => ?_)
    refine lv_iload_n hx hb dX0_lookForStart_26 rfl (lv_at hl 0 rfl) ?_
    refine lv_if_ne (tgt := 37) hx hb dX0_lookForStart_27 (by decide) (fun c_3 => ?_) (fun c_3 => ?_)
    · refine lv_iload_n hx hb dX0_lookForStart_37 rfl (lv_at hl 0 rfl) ?_
      refine lv_iconst (v := 1) hx hb dX0_lookForStart_38 (by decide) ?_
      refine lv_icmp_ne (tgt := 63) hx hb dX0_lookForStart_39 (by decide) (fun c_4 => ?_) (fun c_4 => ?_)
      · have hP9 : va_P (dC, dI) vwCl (x_W qx qc qw qs cI u) s.heap := hP
        have hD9 : va_D A (x_W qx qc qw qs cI u) := hD
        exact W.vret hx hb hr (fun t ht hW => ⟨⟨u, rfl, (by unfold x_lookForStart; rw [if_pos c_1, if_neg c_3, if_neg c_4]), by rw [ht]; exact hP9, va_K.moved hW.alike hK, hD9⟩, hS.F ht⟩) hS.2.2 dX0_lookForStart_63
      · refine lv_aload_n hx hb dX0_lookForStart_42 rfl (lv_at hl 1 rfl) ?_
        refine va_get (D := (dC, dI)) (ci := 0) (v := .int (x_md u)) (C := RX0) (T := TX0) (N := 13) hx hb hts hinT hown hK hP 0 rfl rfl 1 (by decide) (hts (.fieldLink RX0 32 "CodeBlocks" "mends" "Z") (by decide +kernel)) (fun _ h9 => h9) rfl dX0_lookForStart_43 ?_
        refine lv_if_eq (tgt := 63) hx hb dX0_lookForStart_46 (by decide) (fun c_5 => ?_) (fun c_5 => ?_)
        · have hP9 : va_P (dC, dI) vwCl (x_W qx qc qw qs cI u) s.heap := hP
          have hD9 : va_D A (x_W qx qc qw qs cI u) := hD
          exact W.vret hx hb hr (fun t ht hW => ⟨⟨u, rfl, (by unfold x_lookForStart; rw [if_pos c_1, if_neg c_3, if_pos c_4, if_pos c_5]), by rw [ht]; exact hP9, va_K.moved hW.alike hK, hD9⟩, hS.F ht⟩) hS.2.2 dX0_lookForStart_63
        · refine lv_aload_n hx hb dX0_lookForStart_49 rfl (lv_at hl 1 rfl) ?_
          refine va_get (D := (dC, dI)) (ci := 0) (v := .ref qc) (C := RX0) (T := TX0) (N := 13) hx hb hts hinT hown hK hP 0 rfl rfl 8 (by decide) (hts (.fieldLink RX0 20 "CodeBlocks" "counts" "[I") (by decide +kernel)) (fun _ h9 => h9) rfl dX0_lookForStart_50 ?_
          refine lv_iconst (v := 4) hx hb dX0_lookForStart_53 (by decide) ?_
          refine lv_dup2_11 hx hb dX0_lookForStart_54 rfl rfl ?_
          refine va_iald hx hb hK hP 3 0 rfl rfl (j_in (k := 4) rfl (by decide)) dX0_lookForStart_55 ?_
          refine W.eq (g2 := F0 m 56 ls [.int ((x_cn u) 4), .int 4, .ref qc]) rfl ?_
          refine lv_iconst (v := 1) hx hb dX0_lookForStart_56 (by decide) ?_
          refine lv_iadd hx hb dX0_lookForStart_57 ?_
          refine va_iast hx hb hK hP hD hS 3 0 rfl rfl (j_in (k := 4) rfl (by decide)) dX0_lookForStart_58 (fun H locs hP hD hS => ?_)
          rw [show (4 : Int32).toNatClampNeg = 4 from (by decide)] at hP hD
          have hP : va_P (dC, dI) vwCl [(qx, .inr (0, [.int (x_st u), .int (x_md u), .long (x_bt u), .int (x_cm u), .ref (x_hr u), .int (x_rs u), .ref (x_hv u), .int (x_vs u), .ref qc, .ref qw, .int (x_wz u), .ref qs, .int (x_sz u)])), (x_hr u, .inl (cI, 259, .inl (x_ro u))), (x_hv u, .inl (cI, 259, .inl (x_rc u))), (qc, .inl (cI, 5, .inl (upd (x_cn u) 4 (((x_cn u) 4) + 1)))), (qw, .inl (cI, 259, .inl (x_wt u))), (qs, .inl (cI, 306, .inl (x_sn u)))] H := hP
          have hD : va_D A [(qx, .inr (0, [.int (x_st u), .int (x_md u), .long (x_bt u), .int (x_cm u), .ref (x_hr u), .int (x_rs u), .ref (x_hv u), .int (x_vs u), .ref qc, .ref qw, .int (x_wz u), .ref qs, .int (x_sz u)])), (x_hr u, .inl (cI, 259, .inl (x_ro u))), (x_hv u, .inl (cI, 259, .inl (x_rc u))), (qc, .inl (cI, 5, .inl (upd (x_cn u) 4 (((x_cn u) 4) + 1)))), (qw, .inl (cI, 259, .inl (x_wt u))), (qs, .inl (cI, 306, .inl (x_sn u)))] := hD
          refine lv_aload_n hx hb dX0_lookForStart_59 rfl (lv_at hl 1 rfl) ?_
          have hPc : va_P (dC, dI) vwCl (x_W qx qc qw qs cI (x_st u, x_md u, x_bt u, x_cm u, x_hr u, x_rs u, x_hv u, x_vs u, x_wz u, x_sz u, x_ro u, x_rc u, upd (x_cn u) 4 (((x_cn u) 4) + 1), x_wt u, x_sn u)) H := hP
          have hDc : va_D A (x_W qx qc qw qs cI (x_st u, x_md u, x_bt u, x_cm u, x_hr u, x_rs u, x_hv u, x_vs u, x_wz u, x_sz u, x_ro u, x_rc u, upd (x_cn u) 4 (((x_cn u) 4) + 1), x_wt u, x_sn u)) := hD
          have hFc := va_free (wc := (x_W qx qc qw qs cI (x_st u, x_md u, x_bt u, x_cm u, x_hr u, x_rs u, x_hv u, x_vs u, x_wz u, x_sz u, x_ro u, x_rc u, upd (x_cn u) 4 (((x_cn u) 4) + 1), x_wt u, x_sn u))) hD hS hA [0, 1, 2, 3, 4, 5] rfl
          refine va_callv (va_runV (As := []) (rest := []) ⟨hx, hb, hml, hown, hts⟩ (kX0_beginTransmission l dC dI qx qc qw qs cI H.size (x_st u, x_md u, x_bt u, x_cm u, x_hr u, x_rs u, x_hv u, x_vs u, x_wz u, x_sz u, x_ro u, x_rc u, upd (x_cn u) 4 (((x_cn u) 4) + 1), x_wt u, x_sn u)  ) (cwV 0 hts gX0_lookForStart_X0_beginTransmission rfl rfl rfl (by decide +kernel) ⟨Nat.le_of_ble_eq_true rfl, Nat.le_of_ble_eq_true rfl⟩) ⟨fun a U g mk q => by obtain ⟨q0, q1, qP, qK, qD⟩ := q; exact ⟨q0, q1, qP, va_K.moved (u := U) (U := U.calling g mk a) (Vm.Alike.refl U.vm) qK, qD⟩, va_recv hK hP (ci := 0) (q0 := 0) rfl rfl, fun U hU hW => ⟨rfl, by rw [hU], by rw [hU]; exact hPc, va_K.moved hW.alike hK, hDc.weaken (fun _ _ _ _ => trivial)⟩⟩ rfl rfl hl.1 rfl (lv_room (Nat.le_of_ble_eq_true rfl)) dX0_lookForStart_60 ⟨Nat.le_of_ble_eq_true rfl, Nat.le_of_ble_eq_true rfl⟩) hS (fun q _ h => hFc q h) hFc (fun  u_6 t H1 locs ht hvm hu_6 hB hz1 hk1 hS => ?_)
          obtain ⟨hP1, -, hD1⟩ := hB
          rw [ht] at hP1
          have hP : va_P (dC, dI) vwCl [(qx, .inr (0, [.int (x_st u_6), .int (x_md u_6), .long (x_bt u_6), .int (x_cm u_6), .ref (x_hr u_6), .int (x_rs u_6), .ref (x_hv u_6), .int (x_vs u_6), .ref qc, .ref qw, .int (x_wz u_6), .ref qs, .int (x_sz u_6)])), (x_hr u_6, .inl (cI, 259, .inl (x_ro u_6))), (x_hv u_6, .inl (cI, 259, .inl (x_rc u_6))), (qc, .inl (cI, 5, .inl (x_cn u_6))), (qw, .inl (cI, 259, .inl (x_wt u_6))), (qs, .inl (cI, 306, .inl (x_sn u_6)))] H1 := hP1
          have hD : va_D A [(qx, .inr (0, [.int (x_st u_6), .int (x_md u_6), .long (x_bt u_6), .int (x_cm u_6), .ref (x_hr u_6), .int (x_rs u_6), .ref (x_hv u_6), .int (x_vs u_6), .ref qc, .ref qw, .int (x_wz u_6), .ref qs, .int (x_sz u_6)])), (x_hr u_6, .inl (cI, 259, .inl (x_ro u_6))), (x_hv u_6, .inl (cI, 259, .inl (x_rc u_6))), (qc, .inl (cI, 5, .inl (x_cn u_6))), (qw, .inl (cI, 259, .inl (x_wt u_6))), (qs, .inl (cI, 306, .inl (x_sn u_6)))] := hD1.weaken (fun k q _ h => hFc q.1 h)
          generalize H1 = H at hP hS ⊢
          have hP9 : va_P (dC, dI) vwCl (x_W qx qc qw qs cI u_6) H := hP
          have hD9 : va_D A (x_W qx qc qw qs cI u_6) := hD
          exact W.vret hx hb hr (fun t ht hW => ⟨⟨u_6, rfl, (by subst hu_6; unfold x_lookForStart; rw [if_pos c_1, if_neg c_3, if_pos c_4, if_neg c_5]), by rw [ht]; exact hP9, va_K.moved hW.alike hK, hD9⟩, hS.F ht⟩) hS.2.2 dX0_lookForStart_63
    · refine lv_aload_n hx hb dX0_lookForStart_30 rfl (lv_at hl 1 rfl) ?_
      have hPc : va_P (dC, dI) vwCl (x_W qx qc qw qs cI u) s.heap := hP
      have hDc : va_D A (x_W qx qc qw qs cI u) := hD
      have hFc := va_free (wc := (x_W qx qc qw qs cI u)) hD hS hA [0, 1, 2, 3, 4, 5] rfl
      refine va_callv (va_runV (As := []) (rest := []) ⟨hx, hb, hml, hown, hts⟩ (kX0_beginTransmission l dC dI qx qc qw qs cI s.heap.size u  ) (cwV 0 hts gX0_lookForStart_X0_beginTransmission rfl rfl rfl (by decide +kernel) ⟨Nat.le_of_ble_eq_true rfl, Nat.le_of_ble_eq_true rfl⟩) ⟨fun a U g mk q => by obtain ⟨q0, q1, qP, qK, qD⟩ := q; exact ⟨q0, q1, qP, va_K.moved (u := U) (U := U.calling g mk a) (Vm.Alike.refl U.vm) qK, qD⟩, va_recv hK hP (ci := 0) (q0 := 0) rfl rfl, fun U hU hW => ⟨rfl, by rw [hU], by rw [hU]; exact hPc, va_K.moved hW.alike hK, hDc.weaken (fun _ _ _ _ => trivial)⟩⟩ rfl rfl hl.1 rfl (lv_room (Nat.le_of_ble_eq_true rfl)) dX0_lookForStart_31 ⟨Nat.le_of_ble_eq_true rfl, Nat.le_of_ble_eq_true rfl⟩) hS (fun q _ h => hFc q h) hFc (fun  u_7 t H1 locs ht hvm hu_7 hB hz1 hk1 hS => ?_)
      obtain ⟨hP1, -, hD1⟩ := hB
      rw [ht] at hP1
      have hP : va_P (dC, dI) vwCl [(qx, .inr (0, [.int (x_st u_7), .int (x_md u_7), .long (x_bt u_7), .int (x_cm u_7), .ref (x_hr u_7), .int (x_rs u_7), .ref (x_hv u_7), .int (x_vs u_7), .ref qc, .ref qw, .int (x_wz u_7), .ref qs, .int (x_sz u_7)])), (x_hr u_7, .inl (cI, 259, .inl (x_ro u_7))), (x_hv u_7, .inl (cI, 259, .inl (x_rc u_7))), (qc, .inl (cI, 5, .inl (x_cn u_7))), (qw, .inl (cI, 259, .inl (x_wt u_7))), (qs, .inl (cI, 306, .inl (x_sn u_7)))] H1 := hP1
      have hD : va_D A [(qx, .inr (0, [.int (x_st u_7), .int (x_md u_7), .long (x_bt u_7), .int (x_cm u_7), .ref (x_hr u_7), .int (x_rs u_7), .ref (x_hv u_7), .int (x_vs u_7), .ref qc, .ref qw, .int (x_wz u_7), .ref qs, .int (x_sz u_7)])), (x_hr u_7, .inl (cI, 259, .inl (x_ro u_7))), (x_hv u_7, .inl (cI, 259, .inl (x_rc u_7))), (qc, .inl (cI, 5, .inl (x_cn u_7))), (qw, .inl (cI, 259, .inl (x_wt u_7))), (qs, .inl (cI, 306, .inl (x_sn u_7)))] := hD1.weaken (fun k q _ h => hFc q.1 h)
      generalize H1 = H at hP hS ⊢
      refine lv_goto (tgt := 63) hx hb dX0_lookForStart_34 (by decide) ?_
      have hP9 : va_P (dC, dI) vwCl (x_W qx qc qw qs cI u_7) H := hP
      have hD9 : va_D A (x_W qx qc qw qs cI u_7) := hD
      exact W.vret hx hb hr (fun t ht hW => ⟨⟨u_7, rfl, (by subst hu_7; unfold x_lookForStart; rw [if_pos c_1, if_pos c_3]), by rw [ht]; exact hP9, va_K.moved hW.alike hK, hD9⟩, hS.F ht⟩) hS.2.2 dX0_lookForStart_63
  · have hP9 : va_P (dC, dI) vwCl (x_W qx qc qw qs cI u) s.heap := hP
    have hD9 : va_D A (x_W qx qc qw qs cI u) := hD
    exact W.vret hx hb hr (fun t ht hW => ⟨⟨u, rfl, (by unfold x_lookForStart; rw [if_neg c_1]), by rw [ht]; exact hP9, va_K.moved hW.alike hK, hD9⟩, hS.F ht⟩) hS.2.2 dX0_lookForStart_9

abbrev rmX0_lookAtBlock : Room := { frames := 3, cells := 0, slots := 0, locals := 66 }
def x_lookAtBlock (u : x_S)  : x_S := if (x_remainderOf ((j_lushr (x_bt u) 1) ^^^ 127)) = 0 then (x_keepData u ((j_lushr (x_bt u) 1) ^^^ 127)) else (if (x_md u) = 0 then (x_endTransmission u) else (if (x_powerWithRemainder (x_remainderOf ((j_lushr (x_bt u) 1) ^^^ 127))) = (-1) then (x_endTransmission u) else (x_keepData (x_st u, x_md u, x_bt u, x_cm u, x_hr u, x_rs u, x_hv u, x_vs u, x_wz u, x_sz u, x_ro u, x_rc u, upd (x_cn u) 3 (((x_cn u) 3) + 1), x_wt u, x_sn u) (((j_lushr (x_bt u) 1) ^^^ 127) ^^^ (j_lshl 1 (x_powerWithRemainder (x_remainderOf ((j_lushr (x_bt u) 1) ^^^ 127))))))))
set_option maxHeartbeats 4000000 in
set_option maxRecDepth 100000 in
theorem kX0_lookAtBlock (l : Launch) (dC : Nat → ClassId) (dI : Nat → Nat → Nat) (qx qc qw qs : Nat) (cI : ClassId) (sz : Nat) (u : x_S)  : Met l yX0_lookAtBlock wsX0_lookAtBlock rmX0_lookAtBlock (va_Pc [.ref qx] (fun U => U.heap.size = sz ∧ va_P (dC, dI) vwCl (x_W qx qc qw qs cI u) U.heap ∧ va_K (dC, dI) vwCl [(cI, .int)] U ∧ va_D (fun _ => True) (x_W qx qc qw qs cI u))) (va_Qv (fun u2 => u2 = x_lookAtBlock u) (x_At dC dI (va_A (x_W qx qc qw qs cI u) sz) qx qc qw qs cI) (va_A (x_W qx qc qw qs cI u) sz)) 0 0 (va_A (x_W qx qc qw qs cI u) sz) := by
  refine Met.ofW (cc := cX0_lookAtBlock) (maxL := 5) (ret := none) (by decide) rfl ?_
  intro p e s m args below meth c s₁ B hml hv
  obtain ⟨rfl, hsz, hP, hK, hD0⟩ := hv
  have hx := B.exec
  have hb := B.bytes
  have hr := B.returns
  have hts := atoms_spec (ws := wsX0_lookAtBlock) B.pre
  have hown : s.vm.findClass RX0 = some m.cls := findClass_of_methodNamed B.named
  have hlocks := B.notSynchronized
  have hinT : ∀ w ∈ wsX00, w ∈ wsX0_lookAtBlock := by decide +kernel
  subst hsz
  have hD := hD0.self (sz := s.heap.size)
  generalize hAe : va_A (x_W qx qc qw qs cI u) s.heap.size = A at hD ⊢
  have hA : ∀ q : Nat, s.heap.size ≤ q → A q := fun q h => by rw [← hAe]; exact Or.inr h
  have hS : va_S A s.heap s.heap [] := va_S.rf
  have hD : va_D A [(qx, .inr (0, [.int (x_st u), .int (x_md u), .long (x_bt u), .int (x_cm u), .ref (x_hr u), .int (x_rs u), .ref (x_hv u), .int (x_vs u), .ref qc, .ref qw, .int (x_wz u), .ref qs, .int (x_sz u)])), (x_hr u, .inl (cI, 259, .inl (x_ro u))), (x_hv u, .inl (cI, 259, .inl (x_rc u))), (qc, .inl (cI, 5, .inl (x_cn u))), (qw, .inl (cI, 259, .inl (x_wt u))), (qs, .inl (cI, 306, .inl (x_sn u)))] := hD
  have hP : va_P (dC, dI) vwCl [(qx, .inr (0, [.int (x_st u), .int (x_md u), .long (x_bt u), .int (x_cm u), .ref (x_hr u), .int (x_rs u), .ref (x_hv u), .int (x_vs u), .ref qc, .ref qw, .int (x_wz u), .ref qs, .int (x_sz u)])), (x_hr u, .inl (cI, 259, .inl (x_ro u))), (x_hv u, .inl (cI, 259, .inl (x_rc u))), (qc, .inl (cI, 5, .inl (x_cn u))), (qw, .inl (cI, 259, .inl (x_wt u))), (qs, .inl (cI, 306, .inl (x_sn u)))] s.heap := hP
  have hl := lv_entry ([.ref qx]) (n := 5) (Nat.le_of_ble_eq_true rfl)
  rw [lg_entry_eq]
  generalize (lg_sl ([.ref qx]) ++ List.replicate (5 - (lg_sl ([.ref qx])).length) Slot.unset).toArray = ls at hl ⊢
  have hl : lv_has ls 5 [(0, .ref qx)] := hl
  refine lv_aload_n hx hb dX0_lookAtBlock_0 rfl (lv_at hl 0 rfl) ?_
  refine va_get (D := (dC, dI)) (ci := 0) (v := .long (x_bt u)) (C := RX0) (T := TX0) (N := 13) hx hb hts hinT hown hK hP 0 rfl rfl 2 (by decide) (hts (.fieldLink RX0 72 "CodeBlocks" "bits" "J") (by decide +kernel)) (fun _ h9 => h9) rfl dX0_lookAtBlock_1 ?_
  refine lv_iconst (v := 1) hx hb dX0_lookAtBlock_4 (by decide) ?_
  refine lv_lushr (v := j_lushr (x_bt u) 1) hx hb dX0_lookAtBlock_5 rfl ?_
  refine lv_ldc2 hx hb hown (hts (.constantLong RX0 97 127) (by decide +kernel)) dX0_lookAtBlock_6 ?_
  refine lv_lxor hx hb dX0_lookAtBlock_9 ?_
  refine lv_lstore_n (lv' := [(1, .long ((j_lushr (x_bt u) 1) ^^^ 127)), (0, .ref qx)]) hx hb dX0_lookAtBlock_10 rfl hl (by decide) rfl (fun ls hl => ?_)
  refine lv_lload_n hx hb dX0_lookAtBlock_11 rfl (lv_at hl 0 rfl) ?_
  refine vp_callSi (va_runS (As := [.long ((j_lushr (x_bt u) 1) ^^^ 127)]) (rest := []) ⟨hx, hb, hml, hown, hts⟩ (kX0_remainderOf l ((j_lushr (x_bt u) 1) ^^^ 127)) (va_cwS 1 hts gX0_lookAtBlock_X0_remainderOf rfl rfl rfl (by decide +kernel) ⟨Nat.le_of_ble_eq_true rfl, Nat.le_of_ble_eq_true rfl⟩) ⟨fun a U g mk q => q, fun U hU hW => ⟨rfl, trivial⟩⟩ rfl rfl hl.1 rfl (lv_room (Nat.le_of_ble_eq_true rfl)) dX0_lookAtBlock_12 ⟨Nat.le_of_ble_eq_true rfl, Nat.le_of_ble_eq_true rfl⟩).run (fun r_1 hr_1 => ?_)
  subst hr_1
  refine lv_istore_n (lv' := [(3, .int (x_remainderOf ((j_lushr (x_bt u) 1) ^^^ 127))), (1, .long ((j_lushr (x_bt u) 1) ^^^ 127)), (0, .ref qx)]) hx hb dX0_lookAtBlock_15 rfl hl (by decide) rfl (fun ls hl => ?_)
  refine lv_iload_n hx hb dX0_lookAtBlock_16 rfl (lv_at hl 0 rfl) ?_
  refine vp_callSi (va_runS (As := [.int (x_remainderOf ((j_lushr (x_bt u) 1) ^^^ 127))]) (rest := []) ⟨hx, hb, hml, hown, hts⟩ (kX0_powerWithRemainder l (x_remainderOf ((j_lushr (x_bt u) 1) ^^^ 127))) (va_cwS 1 hts gX0_lookAtBlock_X0_powerWithRemainder rfl rfl rfl (by decide +kernel) ⟨Nat.le_of_ble_eq_true rfl, Nat.le_of_ble_eq_true rfl⟩) ⟨fun a U g mk q => q, fun U hU hW => ⟨rfl, trivial⟩⟩ rfl rfl hl.1 rfl (lv_room (Nat.le_of_ble_eq_true rfl)) dX0_lookAtBlock_17 ⟨Nat.le_of_ble_eq_true rfl, Nat.le_of_ble_eq_true rfl⟩).run (fun r_2 hr_2 => ?_)
  subst hr_2
  refine lv_istore (lv' := [(4, .int (x_powerWithRemainder (x_remainderOf ((j_lushr (x_bt u) 1) ^^^ 127)))), (3, .int (x_remainderOf ((j_lushr (x_bt u) 1) ^^^ 127))), (1, .long ((j_lushr (x_bt u) 1) ^^^ 127)), (0, .ref qx)]) hx hb dX0_lookAtBlock_20 hl (by decide) rfl (fun ls hl => ?_)
  refine lv_iload_n hx hb dX0_lookAtBlock_22 rfl (lv_at hl 1 rfl) ?_
  refine lv_if_ne (tgt := 34) hx hb dX0_lookAtBlock_23 (by decide) (fun c_3 => ?_) (fun c_3 => ?_)
  · refine lv_aload_n hx hb dX0_lookAtBlock_34 rfl (lv_at hl 3 rfl) ?_
    refine va_get (D := (dC, dI)) (ci := 0) (v := .int (x_md u)) (C := RX0) (T := TX0) (N := 13) hx hb hts hinT hown hK hP 0 rfl rfl 1 (by decide) (hts (.fieldLink RX0 32 "CodeBlocks" "mends" "Z") (by decide +kernel)) (fun _ h9 => h9) rfl dX0_lookAtBlock_35 ?_
    refine lv_if_eq (tgt := 70) hx hb dX0_lookAtBlock_38 (by decide) (fun c_4 => ?_) (fun c_4 => ?_)
    · refine lv_aload_n hx hb dX0_lookAtBlock_70 rfl (lv_at hl 3 rfl) ?_
      have hPc : va_P (dC, dI) vwCl (x_W qx qc qw qs cI u) s.heap := hP
      have hDc : va_D A (x_W qx qc qw qs cI u) := hD
      have hFc := va_free (wc := (x_W qx qc qw qs cI u)) hD hS hA [0, 1, 2, 3, 4, 5] rfl
      refine va_callv (va_runV (As := []) (rest := []) ⟨hx, hb, hml, hown, hts⟩ (kX0_endTransmission l dC dI qx qc qw qs cI s.heap.size u  ) (cwV 0 hts gX0_lookAtBlock_X0_endTransmission rfl rfl rfl (by decide +kernel) ⟨Nat.le_of_ble_eq_true rfl, Nat.le_of_ble_eq_true rfl⟩) ⟨fun a U g mk q => by obtain ⟨q0, q1, qP, qK, qD⟩ := q; exact ⟨q0, q1, qP, va_K.moved (u := U) (U := U.calling g mk a) (Vm.Alike.refl U.vm) qK, qD⟩, va_recv hK hP (ci := 0) (q0 := 0) rfl rfl, fun U hU hW => ⟨rfl, by rw [hU], by rw [hU]; exact hPc, va_K.moved hW.alike hK, hDc.weaken (fun _ _ _ _ => trivial)⟩⟩ rfl rfl hl.1 rfl (lv_room (Nat.le_of_ble_eq_true rfl)) dX0_lookAtBlock_71 ⟨Nat.le_of_ble_eq_true rfl, Nat.le_of_ble_eq_true rfl⟩) hS (fun q _ h => hFc q h) hFc (fun  u_5 t H1 locs ht hvm hu_5 hB hz1 hk1 hS => ?_)
      obtain ⟨hP1, -, hD1⟩ := hB
      rw [ht] at hP1
      have hP : va_P (dC, dI) vwCl [(qx, .inr (0, [.int (x_st u_5), .int (x_md u_5), .long (x_bt u_5), .int (x_cm u_5), .ref (x_hr u_5), .int (x_rs u_5), .ref (x_hv u_5), .int (x_vs u_5), .ref qc, .ref qw, .int (x_wz u_5), .ref qs, .int (x_sz u_5)])), (x_hr u_5, .inl (cI, 259, .inl (x_ro u_5))), (x_hv u_5, .inl (cI, 259, .inl (x_rc u_5))), (qc, .inl (cI, 5, .inl (x_cn u_5))), (qw, .inl (cI, 259, .inl (x_wt u_5))), (qs, .inl (cI, 306, .inl (x_sn u_5)))] H1 := hP1
      have hD : va_D A [(qx, .inr (0, [.int (x_st u_5), .int (x_md u_5), .long (x_bt u_5), .int (x_cm u_5), .ref (x_hr u_5), .int (x_rs u_5), .ref (x_hv u_5), .int (x_vs u_5), .ref qc, .ref qw, .int (x_wz u_5), .ref qs, .int (x_sz u_5)])), (x_hr u_5, .inl (cI, 259, .inl (x_ro u_5))), (x_hv u_5, .inl (cI, 259, .inl (x_rc u_5))), (qc, .inl (cI, 5, .inl (x_cn u_5))), (qw, .inl (cI, 259, .inl (x_wt u_5))), (qs, .inl (cI, 306, .inl (x_sn u_5)))] := hD1.weaken (fun k q _ h => hFc q.1 h)
      generalize H1 = H at hP hS ⊢
      have hP9 : va_P (dC, dI) vwCl (x_W qx qc qw qs cI u_5) H := hP
      have hD9 : va_D A (x_W qx qc qw qs cI u_5) := hD
      exact W.vret hx hb hr (fun t ht hW => ⟨⟨u_5, rfl, (by subst hu_5; unfold x_lookAtBlock; rw [if_neg c_3, if_pos c_4]), by rw [ht]; exact hP9, va_K.moved hW.alike hK, hD9⟩, hS.F ht⟩) hS.2.2 dX0_lookAtBlock_74
    · refine lv_iload hx hb dX0_lookAtBlock_41 (lv_at hl 0 rfl) ?_
      refine lv_iconst (v := (-1)) hx hb dX0_lookAtBlock_43 (by decide) ?_
      refine lv_icmp_eq (tgt := 70) hx hb dX0_lookAtBlock_44 (by decide) (fun c_6 => ?_) (fun c_6 => ?_)
      · refine lv_aload_n hx hb dX0_lookAtBlock_70 rfl (lv_at hl 3 rfl) ?_
        have hPc : va_P (dC, dI) vwCl (x_W qx qc qw qs cI u) s.heap := hP
        have hDc : va_D A (x_W qx qc qw qs cI u) := hD
        have hFc := va_free (wc := (x_W qx qc qw qs cI u)) hD hS hA [0, 1, 2, 3, 4, 5] rfl
        refine va_callv (va_runV (As := []) (rest := []) ⟨hx, hb, hml, hown, hts⟩ (kX0_endTransmission l dC dI qx qc qw qs cI s.heap.size u  ) (cwV 0 hts gX0_lookAtBlock_X0_endTransmission rfl rfl rfl (by decide +kernel) ⟨Nat.le_of_ble_eq_true rfl, Nat.le_of_ble_eq_true rfl⟩) ⟨fun a U g mk q => by obtain ⟨q0, q1, qP, qK, qD⟩ := q; exact ⟨q0, q1, qP, va_K.moved (u := U) (U := U.calling g mk a) (Vm.Alike.refl U.vm) qK, qD⟩, va_recv hK hP (ci := 0) (q0 := 0) rfl rfl, fun U hU hW => ⟨rfl, by rw [hU], by rw [hU]; exact hPc, va_K.moved hW.alike hK, hDc.weaken (fun _ _ _ _ => trivial)⟩⟩ rfl rfl hl.1 rfl (lv_room (Nat.le_of_ble_eq_true rfl)) dX0_lookAtBlock_71 ⟨Nat.le_of_ble_eq_true rfl, Nat.le_of_ble_eq_true rfl⟩) hS (fun q _ h => hFc q h) hFc (fun  u_7 t H1 locs ht hvm hu_7 hB hz1 hk1 hS => ?_)
        obtain ⟨hP1, -, hD1⟩ := hB
        rw [ht] at hP1
        have hP : va_P (dC, dI) vwCl [(qx, .inr (0, [.int (x_st u_7), .int (x_md u_7), .long (x_bt u_7), .int (x_cm u_7), .ref (x_hr u_7), .int (x_rs u_7), .ref (x_hv u_7), .int (x_vs u_7), .ref qc, .ref qw, .int (x_wz u_7), .ref qs, .int (x_sz u_7)])), (x_hr u_7, .inl (cI, 259, .inl (x_ro u_7))), (x_hv u_7, .inl (cI, 259, .inl (x_rc u_7))), (qc, .inl (cI, 5, .inl (x_cn u_7))), (qw, .inl (cI, 259, .inl (x_wt u_7))), (qs, .inl (cI, 306, .inl (x_sn u_7)))] H1 := hP1
        have hD : va_D A [(qx, .inr (0, [.int (x_st u_7), .int (x_md u_7), .long (x_bt u_7), .int (x_cm u_7), .ref (x_hr u_7), .int (x_rs u_7), .ref (x_hv u_7), .int (x_vs u_7), .ref qc, .ref qw, .int (x_wz u_7), .ref qs, .int (x_sz u_7)])), (x_hr u_7, .inl (cI, 259, .inl (x_ro u_7))), (x_hv u_7, .inl (cI, 259, .inl (x_rc u_7))), (qc, .inl (cI, 5, .inl (x_cn u_7))), (qw, .inl (cI, 259, .inl (x_wt u_7))), (qs, .inl (cI, 306, .inl (x_sn u_7)))] := hD1.weaken (fun k q _ h => hFc q.1 h)
        generalize H1 = H at hP hS ⊢
        have hP9 : va_P (dC, dI) vwCl (x_W qx qc qw qs cI u_7) H := hP
        have hD9 : va_D A (x_W qx qc qw qs cI u_7) := hD
        exact W.vret hx hb hr (fun t ht hW => ⟨⟨u_7, rfl, (by subst hu_7; unfold x_lookAtBlock; rw [if_neg c_3, if_neg c_4, if_pos c_6]), by rw [ht]; exact hP9, va_K.moved hW.alike hK, hD9⟩, hS.F ht⟩) hS.2.2 dX0_lookAtBlock_74
      · refine lv_aload_n hx hb dX0_lookAtBlock_47 rfl (lv_at hl 3 rfl) ?_
        refine va_get (D := (dC, dI)) (ci := 0) (v := .ref qc) (C := RX0) (T := TX0) (N := 13) hx hb hts hinT hown hK hP 0 rfl rfl 8 (by decide) (hts (.fieldLink RX0 20 "CodeBlocks" "counts" "[I") (by decide +kernel)) (fun _ h9 => h9) rfl dX0_lookAtBlock_48 ?_
        refine lv_iconst (v := 3) hx hb dX0_lookAtBlock_51 (by decide) ?_
        refine lv_dup2_11 hx hb dX0_lookAtBlock_52 rfl rfl ?_
        refine va_iald hx hb hK hP 3 0 rfl rfl (j_in (k := 3) rfl (by decide)) dX0_lookAtBlock_53 ?_
        refine W.eq (g2 := F0 m 54 ls [.int ((x_cn u) 3), .int 3, .ref qc]) rfl ?_
        refine lv_iconst (v := 1) hx hb dX0_lookAtBlock_54 (by decide) ?_
        refine lv_iadd hx hb dX0_lookAtBlock_55 ?_
        refine va_iast hx hb hK hP hD hS 3 0 rfl rfl (j_in (k := 3) rfl (by decide)) dX0_lookAtBlock_56 (fun H locs hP hD hS => ?_)
        rw [show (3 : Int32).toNatClampNeg = 3 from (by decide)] at hP hD
        have hP : va_P (dC, dI) vwCl [(qx, .inr (0, [.int (x_st u), .int (x_md u), .long (x_bt u), .int (x_cm u), .ref (x_hr u), .int (x_rs u), .ref (x_hv u), .int (x_vs u), .ref qc, .ref qw, .int (x_wz u), .ref qs, .int (x_sz u)])), (x_hr u, .inl (cI, 259, .inl (x_ro u))), (x_hv u, .inl (cI, 259, .inl (x_rc u))), (qc, .inl (cI, 5, .inl (upd (x_cn u) 3 (((x_cn u) 3) + 1)))), (qw, .inl (cI, 259, .inl (x_wt u))), (qs, .inl (cI, 306, .inl (x_sn u)))] H := hP
        have hD : va_D A [(qx, .inr (0, [.int (x_st u), .int (x_md u), .long (x_bt u), .int (x_cm u), .ref (x_hr u), .int (x_rs u), .ref (x_hv u), .int (x_vs u), .ref qc, .ref qw, .int (x_wz u), .ref qs, .int (x_sz u)])), (x_hr u, .inl (cI, 259, .inl (x_ro u))), (x_hv u, .inl (cI, 259, .inl (x_rc u))), (qc, .inl (cI, 5, .inl (upd (x_cn u) 3 (((x_cn u) 3) + 1)))), (qw, .inl (cI, 259, .inl (x_wt u))), (qs, .inl (cI, 306, .inl (x_sn u)))] := hD
        refine lv_aload_n hx hb dX0_lookAtBlock_57 rfl (lv_at hl 3 rfl) ?_
        refine lv_lload_n hx hb dX0_lookAtBlock_58 rfl (lv_at hl 2 rfl) ?_
        refine lv_lconst (v := 1) hx hb dX0_lookAtBlock_59 (by decide) ?_
        refine lv_iload hx hb dX0_lookAtBlock_60 (lv_at hl 0 rfl) ?_
        refine lv_lshl (v := j_lshl 1 (x_powerWithRemainder (x_remainderOf ((j_lushr (x_bt u) 1) ^^^ 127)))) hx hb dX0_lookAtBlock_62 rfl ?_
        refine lv_lxor hx hb dX0_lookAtBlock_63 ?_
        have hPc : va_P (dC, dI) vwCl (x_W qx qc qw qs cI (x_st u, x_md u, x_bt u, x_cm u, x_hr u, x_rs u, x_hv u, x_vs u, x_wz u, x_sz u, x_ro u, x_rc u, upd (x_cn u) 3 (((x_cn u) 3) + 1), x_wt u, x_sn u)) H := hP
        have hDc : va_D A (x_W qx qc qw qs cI (x_st u, x_md u, x_bt u, x_cm u, x_hr u, x_rs u, x_hv u, x_vs u, x_wz u, x_sz u, x_ro u, x_rc u, upd (x_cn u) 3 (((x_cn u) 3) + 1), x_wt u, x_sn u)) := hD
        have hFc := va_free (wc := (x_W qx qc qw qs cI (x_st u, x_md u, x_bt u, x_cm u, x_hr u, x_rs u, x_hv u, x_vs u, x_wz u, x_sz u, x_ro u, x_rc u, upd (x_cn u) 3 (((x_cn u) 3) + 1), x_wt u, x_sn u))) hD hS hA [0, 1, 2, 3, 4, 5] rfl
        refine va_callv (va_runV (As := [.long (((j_lushr (x_bt u) 1) ^^^ 127) ^^^ (j_lshl 1 (x_powerWithRemainder (x_remainderOf ((j_lushr (x_bt u) 1) ^^^ 127)))))]) (rest := []) ⟨hx, hb, hml, hown, hts⟩ (kX0_keepData l dC dI qx qc qw qs cI H.size (x_st u, x_md u, x_bt u, x_cm u, x_hr u, x_rs u, x_hv u, x_vs u, x_wz u, x_sz u, x_ro u, x_rc u, upd (x_cn u) 3 (((x_cn u) 3) + 1), x_wt u, x_sn u) (((j_lushr (x_bt u) 1) ^^^ 127) ^^^ (j_lshl 1 (x_powerWithRemainder (x_remainderOf ((j_lushr (x_bt u) 1) ^^^ 127))))) ) (cwV 1 hts gX0_lookAtBlock_X0_keepData rfl rfl rfl (by decide +kernel) ⟨Nat.le_of_ble_eq_true rfl, Nat.le_of_ble_eq_true rfl⟩) ⟨fun a U g mk q => by obtain ⟨q0, q1, qP, qK, qD⟩ := q; exact ⟨q0, q1, qP, va_K.moved (u := U) (U := U.calling g mk a) (Vm.Alike.refl U.vm) qK, qD⟩, va_recv hK hP (ci := 0) (q0 := 0) rfl rfl, fun U hU hW => ⟨rfl, by rw [hU], by rw [hU]; exact hPc, va_K.moved hW.alike hK, hDc.weaken (fun _ _ _ _ => trivial)⟩⟩ rfl rfl hl.1 rfl (lv_room (Nat.le_of_ble_eq_true rfl)) dX0_lookAtBlock_64 ⟨Nat.le_of_ble_eq_true rfl, Nat.le_of_ble_eq_true rfl⟩) hS (fun q _ h => hFc q h) hFc (fun  u_8 t H1 locs ht hvm hu_8 hB hz1 hk1 hS => ?_)
        obtain ⟨hP1, -, hD1⟩ := hB
        rw [ht] at hP1
        have hP : va_P (dC, dI) vwCl [(qx, .inr (0, [.int (x_st u_8), .int (x_md u_8), .long (x_bt u_8), .int (x_cm u_8), .ref (x_hr u_8), .int (x_rs u_8), .ref (x_hv u_8), .int (x_vs u_8), .ref qc, .ref qw, .int (x_wz u_8), .ref qs, .int (x_sz u_8)])), (x_hr u_8, .inl (cI, 259, .inl (x_ro u_8))), (x_hv u_8, .inl (cI, 259, .inl (x_rc u_8))), (qc, .inl (cI, 5, .inl (x_cn u_8))), (qw, .inl (cI, 259, .inl (x_wt u_8))), (qs, .inl (cI, 306, .inl (x_sn u_8)))] H1 := hP1
        have hD : va_D A [(qx, .inr (0, [.int (x_st u_8), .int (x_md u_8), .long (x_bt u_8), .int (x_cm u_8), .ref (x_hr u_8), .int (x_rs u_8), .ref (x_hv u_8), .int (x_vs u_8), .ref qc, .ref qw, .int (x_wz u_8), .ref qs, .int (x_sz u_8)])), (x_hr u_8, .inl (cI, 259, .inl (x_ro u_8))), (x_hv u_8, .inl (cI, 259, .inl (x_rc u_8))), (qc, .inl (cI, 5, .inl (x_cn u_8))), (qw, .inl (cI, 259, .inl (x_wt u_8))), (qs, .inl (cI, 306, .inl (x_sn u_8)))] := hD1.weaken (fun k q _ h => hFc q.1 h)
        generalize H1 = H at hP hS ⊢
        refine lv_goto (tgt := 74) hx hb dX0_lookAtBlock_67 (by decide) ?_
        have hP9 : va_P (dC, dI) vwCl (x_W qx qc qw qs cI u_8) H := hP
        have hD9 : va_D A (x_W qx qc qw qs cI u_8) := hD
        exact W.vret hx hb hr (fun t ht hW => ⟨⟨u_8, rfl, (by subst hu_8; unfold x_lookAtBlock; rw [if_neg c_3, if_neg c_4, if_neg c_6]), by rw [ht]; exact hP9, va_K.moved hW.alike hK, hD9⟩, hS.F ht⟩) hS.2.2 dX0_lookAtBlock_74
  · refine lv_aload_n hx hb dX0_lookAtBlock_26 rfl (lv_at hl 3 rfl) ?_
    refine lv_lload_n hx hb dX0_lookAtBlock_27 rfl (lv_at hl 2 rfl) ?_
    have hPc : va_P (dC, dI) vwCl (x_W qx qc qw qs cI u) s.heap := hP
    have hDc : va_D A (x_W qx qc qw qs cI u) := hD
    have hFc := va_free (wc := (x_W qx qc qw qs cI u)) hD hS hA [0, 1, 2, 3, 4, 5] rfl
    refine va_callv (va_runV (As := [.long ((j_lushr (x_bt u) 1) ^^^ 127)]) (rest := []) ⟨hx, hb, hml, hown, hts⟩ (kX0_keepData l dC dI qx qc qw qs cI s.heap.size u ((j_lushr (x_bt u) 1) ^^^ 127) ) (cwV 1 hts gX0_lookAtBlock_X0_keepData rfl rfl rfl (by decide +kernel) ⟨Nat.le_of_ble_eq_true rfl, Nat.le_of_ble_eq_true rfl⟩) ⟨fun a U g mk q => by obtain ⟨q0, q1, qP, qK, qD⟩ := q; exact ⟨q0, q1, qP, va_K.moved (u := U) (U := U.calling g mk a) (Vm.Alike.refl U.vm) qK, qD⟩, va_recv hK hP (ci := 0) (q0 := 0) rfl rfl, fun U hU hW => ⟨rfl, by rw [hU], by rw [hU]; exact hPc, va_K.moved hW.alike hK, hDc.weaken (fun _ _ _ _ => trivial)⟩⟩ rfl rfl hl.1 rfl (lv_room (Nat.le_of_ble_eq_true rfl)) dX0_lookAtBlock_28 ⟨Nat.le_of_ble_eq_true rfl, Nat.le_of_ble_eq_true rfl⟩) hS (fun q _ h => hFc q h) hFc (fun  u_9 t H1 locs ht hvm hu_9 hB hz1 hk1 hS => ?_)
    obtain ⟨hP1, -, hD1⟩ := hB
    rw [ht] at hP1
    have hP : va_P (dC, dI) vwCl [(qx, .inr (0, [.int (x_st u_9), .int (x_md u_9), .long (x_bt u_9), .int (x_cm u_9), .ref (x_hr u_9), .int (x_rs u_9), .ref (x_hv u_9), .int (x_vs u_9), .ref qc, .ref qw, .int (x_wz u_9), .ref qs, .int (x_sz u_9)])), (x_hr u_9, .inl (cI, 259, .inl (x_ro u_9))), (x_hv u_9, .inl (cI, 259, .inl (x_rc u_9))), (qc, .inl (cI, 5, .inl (x_cn u_9))), (qw, .inl (cI, 259, .inl (x_wt u_9))), (qs, .inl (cI, 306, .inl (x_sn u_9)))] H1 := hP1
    have hD : va_D A [(qx, .inr (0, [.int (x_st u_9), .int (x_md u_9), .long (x_bt u_9), .int (x_cm u_9), .ref (x_hr u_9), .int (x_rs u_9), .ref (x_hv u_9), .int (x_vs u_9), .ref qc, .ref qw, .int (x_wz u_9), .ref qs, .int (x_sz u_9)])), (x_hr u_9, .inl (cI, 259, .inl (x_ro u_9))), (x_hv u_9, .inl (cI, 259, .inl (x_rc u_9))), (qc, .inl (cI, 5, .inl (x_cn u_9))), (qw, .inl (cI, 259, .inl (x_wt u_9))), (qs, .inl (cI, 306, .inl (x_sn u_9)))] := hD1.weaken (fun k q _ h => hFc q.1 h)
    generalize H1 = H at hP hS ⊢
    refine lv_goto (tgt := 74) hx hb dX0_lookAtBlock_31 (by decide) ?_
    have hP9 : va_P (dC, dI) vwCl (x_W qx qc qw qs cI u_9) H := hP
    have hD9 : va_D A (x_W qx qc qw qs cI u_9) := hD
    exact W.vret hx hb hr (fun t ht hW => ⟨⟨u_9, rfl, (by subst hu_9; unfold x_lookAtBlock; rw [if_pos c_3]), by rw [ht]; exact hP9, va_K.moved hW.alike hK, hD9⟩, hS.F ht⟩) hS.2.2 dX0_lookAtBlock_74

abbrev rmX0_takeBit : Room := { frames := 4, cells := 0, slots := 0, locals := 90 }
def x_takeBit (u : x_S) (a0 : Int64) : x_S := if (x_st u) = 1 then (x_lookForStart (x_st u, x_md u, (j_lshl (x_bt u) 1) ||| a0, (x_cm u) + 1, x_hr u, x_rs u, x_hv u, x_vs u, x_wz u, x_sz u, x_ro u, x_rc u, x_cn u, x_wt u, x_sn u)) else (if ((x_cm u) + 1) = 64 then (x_lookAtBlock (x_st u, x_md u, (j_lshl (x_bt u) 1) ||| a0, 0, x_hr u, x_rs u, x_hv u, x_vs u, x_wz u, x_sz u, x_ro u, x_rc u, x_cn u, x_wt u, x_sn u)) else (x_st u, x_md u, (j_lshl (x_bt u) 1) ||| a0, (x_cm u) + 1, x_hr u, x_rs u, x_hv u, x_vs u, x_wz u, x_sz u, x_ro u, x_rc u, x_cn u, x_wt u, x_sn u))
set_option maxHeartbeats 4000000 in
set_option maxRecDepth 100000 in
theorem kX0_takeBit (l : Launch) (dC : Nat → ClassId) (dI : Nat → Nat → Nat) (qx qc qw qs : Nat) (cI : ClassId) (sz : Nat) (u : x_S) (a0 : Int64) : Met l yX0_takeBit wsX0_takeBit rmX0_takeBit (va_Pc [.ref qx, .long a0] (fun U => U.heap.size = sz ∧ va_P (dC, dI) vwCl (x_W qx qc qw qs cI u) U.heap ∧ va_K (dC, dI) vwCl [(cI, .int)] U ∧ va_D (fun _ => True) (x_W qx qc qw qs cI u))) (va_Qv (fun u2 => u2 = x_takeBit u a0) (x_At dC dI (va_A (x_W qx qc qw qs cI u) sz) qx qc qw qs cI) (va_A (x_W qx qc qw qs cI u) sz)) 0 0 (va_A (x_W qx qc qw qs cI u) sz) := by
  refine Met.ofW (cc := cX0_takeBit) (maxL := 3) (ret := none) (by decide) rfl ?_
  intro p e s m args below meth c s₁ B hml hv
  obtain ⟨rfl, hsz, hP, hK, hD0⟩ := hv
  have hx := B.exec
  have hb := B.bytes
  have hr := B.returns
  have hts := atoms_spec (ws := wsX0_takeBit) B.pre
  have hown : s.vm.findClass RX0 = some m.cls := findClass_of_methodNamed B.named
  have hlocks := B.notSynchronized
  have hinT : ∀ w ∈ wsX00, w ∈ wsX0_takeBit := by decide +kernel
  subst hsz
  have hD := hD0.self (sz := s.heap.size)
  generalize hAe : va_A (x_W qx qc qw qs cI u) s.heap.size = A at hD ⊢
  have hA : ∀ q : Nat, s.heap.size ≤ q → A q := fun q h => by rw [← hAe]; exact Or.inr h
  have hS : va_S A s.heap s.heap [] := va_S.rf
  have hD : va_D A [(qx, .inr (0, [.int (x_st u), .int (x_md u), .long (x_bt u), .int (x_cm u), .ref (x_hr u), .int (x_rs u), .ref (x_hv u), .int (x_vs u), .ref qc, .ref qw, .int (x_wz u), .ref qs, .int (x_sz u)])), (x_hr u, .inl (cI, 259, .inl (x_ro u))), (x_hv u, .inl (cI, 259, .inl (x_rc u))), (qc, .inl (cI, 5, .inl (x_cn u))), (qw, .inl (cI, 259, .inl (x_wt u))), (qs, .inl (cI, 306, .inl (x_sn u)))] := hD
  have hP : va_P (dC, dI) vwCl [(qx, .inr (0, [.int (x_st u), .int (x_md u), .long (x_bt u), .int (x_cm u), .ref (x_hr u), .int (x_rs u), .ref (x_hv u), .int (x_vs u), .ref qc, .ref qw, .int (x_wz u), .ref qs, .int (x_sz u)])), (x_hr u, .inl (cI, 259, .inl (x_ro u))), (x_hv u, .inl (cI, 259, .inl (x_rc u))), (qc, .inl (cI, 5, .inl (x_cn u))), (qw, .inl (cI, 259, .inl (x_wt u))), (qs, .inl (cI, 306, .inl (x_sn u)))] s.heap := hP
  have hl := lv_entry ([.ref qx, .long a0]) (n := 3) (Nat.le_of_ble_eq_true rfl)
  rw [lg_entry_eq]
  generalize (lg_sl ([.ref qx, .long a0]) ++ List.replicate (3 - (lg_sl ([.ref qx, .long a0])).length) Slot.unset).toArray = ls at hl ⊢
  have hl : lv_has ls 3 [(0, .ref qx), (1, .long a0)] := hl
  refine lv_aload_n hx hb dX0_takeBit_0 rfl (lv_at hl 0 rfl) ?_
  refine lv_aload_n hx hb dX0_takeBit_1 rfl (lv_at hl 0 rfl) ?_
  refine va_get (D := (dC, dI)) (ci := 0) (v := .long (x_bt u)) (C := RX0) (T := TX0) (N := 13) hx hb hts hinT hown hK hP 0 rfl rfl 2 (by decide) (hts (.fieldLink RX0 72 "CodeBlocks" "bits" "J") (by decide +kernel)) (fun _ h9 => h9) rfl dX0_takeBit_2 ?_
  refine lv_iconst (v := 1) hx hb dX0_takeBit_5 (by decide) ?_
  refine lv_lshl (v := j_lshl (x_bt u) 1) hx hb dX0_takeBit_6 rfl ?_
  refine lv_lload_n hx hb dX0_takeBit_7 rfl (lv_at hl 1 rfl) ?_
  refine lv_lor hx hb dX0_takeBit_8 ?_
  refine va_put (D := (dC, dI)) (ci := 0) (v := .long ((j_lshl (x_bt u) 1) ||| a0)) (ty := .long) (C := RX0) (T := TX0) (N := 13) hx hb hts hinT tyX0 tyX0_ok nmX0 hown hK hP hD hS 0 rfl rfl 2 (by decide) (hts (.fieldLink RX0 72 "CodeBlocks" "bits" "J") (by decide +kernel)) (fun _ h9 => h9) rfl (by decide +kernel) rfl rfl (Nat.le_of_ble_eq_true rfl) dX0_takeBit_9 (fun H locs hP hD hS => ?_)
  have hP : va_P (dC, dI) vwCl [(qx, .inr (0, [.int (x_st u), .int (x_md u), .long ((j_lshl (x_bt u) 1) ||| a0), .int (x_cm u), .ref (x_hr u), .int (x_rs u), .ref (x_hv u), .int (x_vs u), .ref qc, .ref qw, .int (x_wz u), .ref qs, .int (x_sz u)])), (x_hr u, .inl (cI, 259, .inl (x_ro u))), (x_hv u, .inl (cI, 259, .inl (x_rc u))), (qc, .inl (cI, 5, .inl (x_cn u))), (qw, .inl (cI, 259, .inl (x_wt u))), (qs, .inl (cI, 306, .inl (x_sn u)))] H := hP
  have hD : va_D A [(qx, .inr (0, [.int (x_st u), .int (x_md u), .long ((j_lshl (x_bt u) 1) ||| a0), .int (x_cm u), .ref (x_hr u), .int (x_rs u), .ref (x_hv u), .int (x_vs u), .ref qc, .ref qw, .int (x_wz u), .ref qs, .int (x_sz u)])), (x_hr u, .inl (cI, 259, .inl (x_ro u))), (x_hv u, .inl (cI, 259, .inl (x_rc u))), (qc, .inl (cI, 5, .inl (x_cn u))), (qw, .inl (cI, 259, .inl (x_wt u))), (qs, .inl (cI, 306, .inl (x_sn u)))] := hD
  refine lv_aload_n hx hb dX0_takeBit_12 rfl (lv_at hl 0 rfl) ?_
  refine lv_dup hx hb dX0_takeBit_13 rfl ?_
  refine va_get (D := (dC, dI)) (ci := 0) (v := .int (x_cm u)) (C := RX0) (T := TX0) (N := 13) hx hb hts hinT hown hK hP 0 rfl rfl 3 (by decide) (hts (.fieldLink RX0 69 "CodeBlocks" "came" "I") (by decide +kernel)) (fun _ h9 => h9) rfl dX0_takeBit_14 ?_
  refine lv_iconst (v := 1) hx hb dX0_takeBit_17 (by decide) ?_
  refine lv_iadd hx hb dX0_takeBit_18 ?_
  refine va_put (D := (dC, dI)) (ci := 0) (v := .int ((x_cm u) + 1)) (ty := .int) (C := RX0) (T := TX0) (N := 13) hx hb hts hinT tyX0 tyX0_ok nmX0 hown hK hP hD hS 0 rfl rfl 3 (by decide) (hts (.fieldLink RX0 69 "CodeBlocks" "came" "I") (by decide +kernel)) (fun _ h9 => h9) rfl (by decide +kernel) rfl rfl (Nat.le_of_ble_eq_true rfl) dX0_takeBit_19 (fun H locs hP hD hS => ?_)
  have hP : va_P (dC, dI) vwCl [(qx, .inr (0, [.int (x_st u), .int (x_md u), .long ((j_lshl (x_bt u) 1) ||| a0), .int ((x_cm u) + 1), .ref (x_hr u), .int (x_rs u), .ref (x_hv u), .int (x_vs u), .ref qc, .ref qw, .int (x_wz u), .ref qs, .int (x_sz u)])), (x_hr u, .inl (cI, 259, .inl (x_ro u))), (x_hv u, .inl (cI, 259, .inl (x_rc u))), (qc, .inl (cI, 5, .inl (x_cn u))), (qw, .inl (cI, 259, .inl (x_wt u))), (qs, .inl (cI, 306, .inl (x_sn u)))] H := hP
  have hD : va_D A [(qx, .inr (0, [.int (x_st u), .int (x_md u), .long ((j_lshl (x_bt u) 1) ||| a0), .int ((x_cm u) + 1), .ref (x_hr u), .int (x_rs u), .ref (x_hv u), .int (x_vs u), .ref qc, .ref qw, .int (x_wz u), .ref qs, .int (x_sz u)])), (x_hr u, .inl (cI, 259, .inl (x_ro u))), (x_hv u, .inl (cI, 259, .inl (x_rc u))), (qc, .inl (cI, 5, .inl (x_cn u))), (qw, .inl (cI, 259, .inl (x_wt u))), (qs, .inl (cI, 306, .inl (x_sn u)))] := hD
  refine lv_aload_n hx hb dX0_takeBit_22 rfl (lv_at hl 0 rfl) ?_
  refine va_get (D := (dC, dI)) (ci := 0) (v := .int (x_st u)) (C := RX0) (T := TX0) (N := 13) hx hb hts hinT hown hK hP 0 rfl rfl 0 (by decide) (hts (.fieldLink RX0 9 "CodeBlocks" "state" "I") (by decide +kernel)) (fun _ h9 => h9) rfl dX0_takeBit_23 ?_
  refine lv_iconst (v := 1) hx hb dX0_takeBit_26 (by decide) ?_
  refine lv_icmp_ne (tgt := 37) hx hb dX0_takeBit_27 (by decide) (fun c_1 => ?_) (fun c_1 => ?_)
  · refine lv_aload_n hx hb dX0_takeBit_37 rfl (lv_at hl 0 rfl) ?_
    refine va_get (D := (dC, dI)) (ci := 0) (v := .int ((x_cm u) + 1)) (C := RX0) (T := TX0) (N := 13) hx hb hts hinT hown hK hP 0 rfl rfl 3 (by decide) (hts (.fieldLink RX0 69 "CodeBlocks" "came" "I") (by decide +kernel)) (fun _ h9 => h9) rfl dX0_takeBit_38 ?_
    refine lv_bipush (v := 64) hx hb dX0_takeBit_41 (by decide) ?_
    refine lv_icmp_ne (tgt := 55) hx hb dX0_takeBit_43 (by decide) (fun c_2 => ?_) (fun c_2 => ?_)
    · have hP9 : va_P (dC, dI) vwCl (x_W qx qc qw qs cI (x_st u, x_md u, (j_lshl (x_bt u) 1) ||| a0, (x_cm u) + 1, x_hr u, x_rs u, x_hv u, x_vs u, x_wz u, x_sz u, x_ro u, x_rc u, x_cn u, x_wt u, x_sn u)) H := hP
      have hD9 : va_D A (x_W qx qc qw qs cI (x_st u, x_md u, (j_lshl (x_bt u) 1) ||| a0, (x_cm u) + 1, x_hr u, x_rs u, x_hv u, x_vs u, x_wz u, x_sz u, x_ro u, x_rc u, x_cn u, x_wt u, x_sn u)) := hD
      exact W.vret hx hb hr (fun t ht hW => ⟨⟨(x_st u, x_md u, (j_lshl (x_bt u) 1) ||| a0, (x_cm u) + 1, x_hr u, x_rs u, x_hv u, x_vs u, x_wz u, x_sz u, x_ro u, x_rc u, x_cn u, x_wt u, x_sn u), rfl, (by unfold x_takeBit; rw [if_neg c_1, if_neg c_2]), by rw [ht]; exact hP9, va_K.moved hW.alike hK, hD9⟩, hS.F ht⟩) hS.2.2 dX0_takeBit_55
    · refine lv_aload_n hx hb dX0_takeBit_46 rfl (lv_at hl 0 rfl) ?_
      refine lv_iconst (v := 0) hx hb dX0_takeBit_47 (by decide) ?_
      refine va_put (D := (dC, dI)) (ci := 0) (v := .int 0) (ty := .int) (C := RX0) (T := TX0) (N := 13) hx hb hts hinT tyX0 tyX0_ok nmX0 hown hK hP hD hS 0 rfl rfl 3 (by decide) (hts (.fieldLink RX0 69 "CodeBlocks" "came" "I") (by decide +kernel)) (fun _ h9 => h9) rfl (by decide +kernel) rfl rfl (Nat.le_of_ble_eq_true rfl) dX0_takeBit_48 (fun H locs hP hD hS => ?_)
      have hP : va_P (dC, dI) vwCl [(qx, .inr (0, [.int (x_st u), .int (x_md u), .long ((j_lshl (x_bt u) 1) ||| a0), .int 0, .ref (x_hr u), .int (x_rs u), .ref (x_hv u), .int (x_vs u), .ref qc, .ref qw, .int (x_wz u), .ref qs, .int (x_sz u)])), (x_hr u, .inl (cI, 259, .inl (x_ro u))), (x_hv u, .inl (cI, 259, .inl (x_rc u))), (qc, .inl (cI, 5, .inl (x_cn u))), (qw, .inl (cI, 259, .inl (x_wt u))), (qs, .inl (cI, 306, .inl (x_sn u)))] H := hP
      have hD : va_D A [(qx, .inr (0, [.int (x_st u), .int (x_md u), .long ((j_lshl (x_bt u) 1) ||| a0), .int 0, .ref (x_hr u), .int (x_rs u), .ref (x_hv u), .int (x_vs u), .ref qc, .ref qw, .int (x_wz u), .ref qs, .int (x_sz u)])), (x_hr u, .inl (cI, 259, .inl (x_ro u))), (x_hv u, .inl (cI, 259, .inl (x_rc u))), (qc, .inl (cI, 5, .inl (x_cn u))), (qw, .inl (cI, 259, .inl (x_wt u))), (qs, .inl (cI, 306, .inl (x_sn u)))] := hD
      refine lv_aload_n hx hb dX0_takeBit_51 rfl (lv_at hl 0 rfl) ?_
      have hPc : va_P (dC, dI) vwCl (x_W qx qc qw qs cI (x_st u, x_md u, (j_lshl (x_bt u) 1) ||| a0, 0, x_hr u, x_rs u, x_hv u, x_vs u, x_wz u, x_sz u, x_ro u, x_rc u, x_cn u, x_wt u, x_sn u)) H := hP
      have hDc : va_D A (x_W qx qc qw qs cI (x_st u, x_md u, (j_lshl (x_bt u) 1) ||| a0, 0, x_hr u, x_rs u, x_hv u, x_vs u, x_wz u, x_sz u, x_ro u, x_rc u, x_cn u, x_wt u, x_sn u)) := hD
      have hFc := va_free (wc := (x_W qx qc qw qs cI (x_st u, x_md u, (j_lshl (x_bt u) 1) ||| a0, 0, x_hr u, x_rs u, x_hv u, x_vs u, x_wz u, x_sz u, x_ro u, x_rc u, x_cn u, x_wt u, x_sn u))) hD hS hA [0, 1, 2, 3, 4, 5] rfl
      refine va_callv (va_runV (As := []) (rest := []) ⟨hx, hb, hml, hown, hts⟩ (kX0_lookAtBlock l dC dI qx qc qw qs cI H.size (x_st u, x_md u, (j_lshl (x_bt u) 1) ||| a0, 0, x_hr u, x_rs u, x_hv u, x_vs u, x_wz u, x_sz u, x_ro u, x_rc u, x_cn u, x_wt u, x_sn u)  ) (cwV 0 hts gX0_takeBit_X0_lookAtBlock rfl rfl rfl (by decide +kernel) ⟨Nat.le_of_ble_eq_true rfl, Nat.le_of_ble_eq_true rfl⟩) ⟨fun a U g mk q => by obtain ⟨q0, q1, qP, qK, qD⟩ := q; exact ⟨q0, q1, qP, va_K.moved (u := U) (U := U.calling g mk a) (Vm.Alike.refl U.vm) qK, qD⟩, va_recv hK hP (ci := 0) (q0 := 0) rfl rfl, fun U hU hW => ⟨rfl, by rw [hU], by rw [hU]; exact hPc, va_K.moved hW.alike hK, hDc.weaken (fun _ _ _ _ => trivial)⟩⟩ rfl rfl hl.1 rfl (lv_room (Nat.le_of_ble_eq_true rfl)) dX0_takeBit_52 ⟨Nat.le_of_ble_eq_true rfl, Nat.le_of_ble_eq_true rfl⟩) hS (fun q _ h => hFc q h) hFc (fun  u_3 t H1 locs ht hvm hu_3 hB hz1 hk1 hS => ?_)
      obtain ⟨hP1, -, hD1⟩ := hB
      rw [ht] at hP1
      have hP : va_P (dC, dI) vwCl [(qx, .inr (0, [.int (x_st u_3), .int (x_md u_3), .long (x_bt u_3), .int (x_cm u_3), .ref (x_hr u_3), .int (x_rs u_3), .ref (x_hv u_3), .int (x_vs u_3), .ref qc, .ref qw, .int (x_wz u_3), .ref qs, .int (x_sz u_3)])), (x_hr u_3, .inl (cI, 259, .inl (x_ro u_3))), (x_hv u_3, .inl (cI, 259, .inl (x_rc u_3))), (qc, .inl (cI, 5, .inl (x_cn u_3))), (qw, .inl (cI, 259, .inl (x_wt u_3))), (qs, .inl (cI, 306, .inl (x_sn u_3)))] H1 := hP1
      have hD : va_D A [(qx, .inr (0, [.int (x_st u_3), .int (x_md u_3), .long (x_bt u_3), .int (x_cm u_3), .ref (x_hr u_3), .int (x_rs u_3), .ref (x_hv u_3), .int (x_vs u_3), .ref qc, .ref qw, .int (x_wz u_3), .ref qs, .int (x_sz u_3)])), (x_hr u_3, .inl (cI, 259, .inl (x_ro u_3))), (x_hv u_3, .inl (cI, 259, .inl (x_rc u_3))), (qc, .inl (cI, 5, .inl (x_cn u_3))), (qw, .inl (cI, 259, .inl (x_wt u_3))), (qs, .inl (cI, 306, .inl (x_sn u_3)))] := hD1.weaken (fun k q _ h => hFc q.1 h)
      generalize H1 = H at hP hS ⊢
      have hP9 : va_P (dC, dI) vwCl (x_W qx qc qw qs cI u_3) H := hP
      have hD9 : va_D A (x_W qx qc qw qs cI u_3) := hD
      exact W.vret hx hb hr (fun t ht hW => ⟨⟨u_3, rfl, (by subst hu_3; unfold x_takeBit; rw [if_neg c_1, if_pos c_2]), by rw [ht]; exact hP9, va_K.moved hW.alike hK, hD9⟩, hS.F ht⟩) hS.2.2 dX0_takeBit_55
  · refine lv_aload_n hx hb dX0_takeBit_30 rfl (lv_at hl 0 rfl) ?_
    have hPc : va_P (dC, dI) vwCl (x_W qx qc qw qs cI (x_st u, x_md u, (j_lshl (x_bt u) 1) ||| a0, (x_cm u) + 1, x_hr u, x_rs u, x_hv u, x_vs u, x_wz u, x_sz u, x_ro u, x_rc u, x_cn u, x_wt u, x_sn u)) H := hP
    have hDc : va_D A (x_W qx qc qw qs cI (x_st u, x_md u, (j_lshl (x_bt u) 1) ||| a0, (x_cm u) + 1, x_hr u, x_rs u, x_hv u, x_vs u, x_wz u, x_sz u, x_ro u, x_rc u, x_cn u, x_wt u, x_sn u)) := hD
    have hFc := va_free (wc := (x_W qx qc qw qs cI (x_st u, x_md u, (j_lshl (x_bt u) 1) ||| a0, (x_cm u) + 1, x_hr u, x_rs u, x_hv u, x_vs u, x_wz u, x_sz u, x_ro u, x_rc u, x_cn u, x_wt u, x_sn u))) hD hS hA [0, 1, 2, 3, 4, 5] rfl
    refine va_callv (va_runV (As := []) (rest := []) ⟨hx, hb, hml, hown, hts⟩ (kX0_lookForStart l dC dI qx qc qw qs cI H.size (x_st u, x_md u, (j_lshl (x_bt u) 1) ||| a0, (x_cm u) + 1, x_hr u, x_rs u, x_hv u, x_vs u, x_wz u, x_sz u, x_ro u, x_rc u, x_cn u, x_wt u, x_sn u)  ) (cwV 0 hts gX0_takeBit_X0_lookForStart rfl rfl rfl (by decide +kernel) ⟨Nat.le_of_ble_eq_true rfl, Nat.le_of_ble_eq_true rfl⟩) ⟨fun a U g mk q => by obtain ⟨q0, q1, qP, qK, qD⟩ := q; exact ⟨q0, q1, qP, va_K.moved (u := U) (U := U.calling g mk a) (Vm.Alike.refl U.vm) qK, qD⟩, va_recv hK hP (ci := 0) (q0 := 0) rfl rfl, fun U hU hW => ⟨rfl, by rw [hU], by rw [hU]; exact hPc, va_K.moved hW.alike hK, hDc.weaken (fun _ _ _ _ => trivial)⟩⟩ rfl rfl hl.1 rfl (lv_room (Nat.le_of_ble_eq_true rfl)) dX0_takeBit_31 ⟨Nat.le_of_ble_eq_true rfl, Nat.le_of_ble_eq_true rfl⟩) hS (fun q _ h => hFc q h) hFc (fun  u_4 t H1 locs ht hvm hu_4 hB hz1 hk1 hS => ?_)
    obtain ⟨hP1, -, hD1⟩ := hB
    rw [ht] at hP1
    have hP : va_P (dC, dI) vwCl [(qx, .inr (0, [.int (x_st u_4), .int (x_md u_4), .long (x_bt u_4), .int (x_cm u_4), .ref (x_hr u_4), .int (x_rs u_4), .ref (x_hv u_4), .int (x_vs u_4), .ref qc, .ref qw, .int (x_wz u_4), .ref qs, .int (x_sz u_4)])), (x_hr u_4, .inl (cI, 259, .inl (x_ro u_4))), (x_hv u_4, .inl (cI, 259, .inl (x_rc u_4))), (qc, .inl (cI, 5, .inl (x_cn u_4))), (qw, .inl (cI, 259, .inl (x_wt u_4))), (qs, .inl (cI, 306, .inl (x_sn u_4)))] H1 := hP1
    have hD : va_D A [(qx, .inr (0, [.int (x_st u_4), .int (x_md u_4), .long (x_bt u_4), .int (x_cm u_4), .ref (x_hr u_4), .int (x_rs u_4), .ref (x_hv u_4), .int (x_vs u_4), .ref qc, .ref qw, .int (x_wz u_4), .ref qs, .int (x_sz u_4)])), (x_hr u_4, .inl (cI, 259, .inl (x_ro u_4))), (x_hv u_4, .inl (cI, 259, .inl (x_rc u_4))), (qc, .inl (cI, 5, .inl (x_cn u_4))), (qw, .inl (cI, 259, .inl (x_wt u_4))), (qs, .inl (cI, 306, .inl (x_sn u_4)))] := hD1.weaken (fun k q _ h => hFc q.1 h)
    generalize H1 = H at hP hS ⊢
    refine lv_goto (tgt := 55) hx hb dX0_takeBit_34 (by decide) ?_
    have hP9 : va_P (dC, dI) vwCl (x_W qx qc qw qs cI u_4) H := hP
    have hD9 : va_D A (x_W qx qc qw qs cI u_4) := hD
    exact W.vret hx hb hr (fun t ht hW => ⟨⟨u_4, rfl, (by subst hu_4; unfold x_takeBit; rw [if_pos c_1]), by rw [ht]; exact hP9, va_K.moved hW.alike hK, hD9⟩, hS.F ht⟩) hS.2.2 dX0_takeBit_55

abbrev rmX0_take : Room := { frames := 5, cells := 0, slots := 0, locals := 112 }
def x_tkF (w : Int64) : Nat → x_S → x_S
  | 0, u => u
  | n + 1, u => x_tkF w n (x_takeBit u ((j_lushr w (nI n)) &&& 1))
set_option maxHeartbeats 4000000 in
set_option maxRecDepth 100000 in
theorem lpX0_take {p : Program} {l : Launch} {e : Env} {s : State} {m : MethodId} {args : Array Value} {below : List Frame} {meth : Method} {c : Code} {Q : State → Prop} (dC : Nat → ClassId) (dI : Nat → Nat → Nat) (qx qc qw qs : Nat) (cI : ClassId) (w : Int64) (z : Int32) (hx : p.tables.exec = Jvm.exec) (hb : c.code = cX0_take) (hml : c.maxLocals = 6) (hown : s.vm.findClass RX0 = some m.cls) (hts : ∀ w ∈ wsX0_take, w.before args s = true) (A : Nat → Prop) (hA : ∀ q : Nat, s.heap.size ≤ q → A q) (hK : va_K (dC, dI) vwCl [(cI, .int)] s) : ∀ (n : Nat) (u : x_S) (x : Int32) (H : Heap) (locs : List Loc) (ls : Array Slot), x = nI n + (-1) → n ≤ 64 → va_P (dC, dI) vwCl (x_W qx qc qw qs cI u) H → va_D A (x_W qx qc qw qs cI u) → va_S A s.heap H locs → lv_has ls 6 [(0, .ref qx), (2, .long w), (4, .int z), (5, .int x)] → (∀ (H : Heap) (locs : List Loc) (ls : Array Slot), va_P (dC, dI) vwCl (x_W qx qc qw qs cI (x_tkF w n u)) H → va_D A (x_W qx qc qw qs cI (x_tkF w n u)) → va_S A s.heap H locs → lv_has ls 6 [(0, .ref qx), (4, .int z)] → W p l e (headSpec wsX0_take rmX0_take).room s m args below meth c H locs 0 0 Q (F0 m 54 ls [])) → W p l e (headSpec wsX0_take rmX0_take).room s m args below meth c H locs 0 0 Q (F0 m 33 ls []) := by
  have hinT : ∀ w ∈ wsX00, w ∈ wsX0_take := by decide +kernel
  intro n
  induction n with
  | zero =>
    intro u x H locs ls ex hn hP hD hS hl kk
    have ex : x = (-1) := by rw [ex]; decide
    subst ex
    have hP : va_P (dC, dI) vwCl [(qx, .inr (0, [.int (x_st u), .int (x_md u), .long (x_bt u), .int (x_cm u), .ref (x_hr u), .int (x_rs u), .ref (x_hv u), .int (x_vs u), .ref qc, .ref qw, .int (x_wz u), .ref qs, .int (x_sz u)])), (x_hr u, .inl (cI, 259, .inl (x_ro u))), (x_hv u, .inl (cI, 259, .inl (x_rc u))), (qc, .inl (cI, 5, .inl (x_cn u))), (qw, .inl (cI, 259, .inl (x_wt u))), (qs, .inl (cI, 306, .inl (x_sn u)))] H := hP
    have hD : va_D A [(qx, .inr (0, [.int (x_st u), .int (x_md u), .long (x_bt u), .int (x_cm u), .ref (x_hr u), .int (x_rs u), .ref (x_hv u), .int (x_vs u), .ref qc, .ref qw, .int (x_wz u), .ref qs, .int (x_sz u)])), (x_hr u, .inl (cI, 259, .inl (x_ro u))), (x_hv u, .inl (cI, 259, .inl (x_rc u))), (qc, .inl (cI, 5, .inl (x_cn u))), (qw, .inl (cI, 259, .inl (x_wt u))), (qs, .inl (cI, 306, .inl (x_sn u)))] := hD
    have hl : lv_has ls 6 [(0, .ref qx), (2, .long w), (4, .int z), (5, .int (-1))] := hl
    refine lv_iload hx hb dX0_take_33 (lv_at hl 3 rfl) ?_
    refine lv_if_lt (tgt := 54) hx hb dX0_take_35 (by decide) (fun c_1 => ?_) (fun c_1 => absurd (by decide) c_1)
    exact kk H locs ls hP hD hS (lv_sub hl [0, 2] rfl)
  | succ n ih =>
    intro u x H locs ls ex hn hP hD hS hl kk
    have ex : x = nI n := by rw [ex]; exact pk_m1 n
    subst ex
    have hP : va_P (dC, dI) vwCl [(qx, .inr (0, [.int (x_st u), .int (x_md u), .long (x_bt u), .int (x_cm u), .ref (x_hr u), .int (x_rs u), .ref (x_hv u), .int (x_vs u), .ref qc, .ref qw, .int (x_wz u), .ref qs, .int (x_sz u)])), (x_hr u, .inl (cI, 259, .inl (x_ro u))), (x_hv u, .inl (cI, 259, .inl (x_rc u))), (qc, .inl (cI, 5, .inl (x_cn u))), (qw, .inl (cI, 259, .inl (x_wt u))), (qs, .inl (cI, 306, .inl (x_sn u)))] H := hP
    have hD : va_D A [(qx, .inr (0, [.int (x_st u), .int (x_md u), .long (x_bt u), .int (x_cm u), .ref (x_hr u), .int (x_rs u), .ref (x_hv u), .int (x_vs u), .ref qc, .ref qw, .int (x_wz u), .ref qs, .int (x_sz u)])), (x_hr u, .inl (cI, 259, .inl (x_ro u))), (x_hv u, .inl (cI, 259, .inl (x_rc u))), (qc, .inl (cI, 5, .inl (x_cn u))), (qw, .inl (cI, 259, .inl (x_wt u))), (qs, .inl (cI, 306, .inl (x_sn u)))] := hD
    have hl : lv_has ls 6 [(0, .ref qx), (2, .long w), (4, .int z), (5, .int (nI n))] := hl
    refine lv_iload hx hb dX0_take_33 (lv_at hl 3 rfl) ?_
    refine lv_if_lt (tgt := 54) hx hb dX0_take_35 (by decide) (fun c_1 => absurd c_1 (nI_pos (by omega))) (fun c_1 => ?_)
    refine lv_aload_n hx hb dX0_take_38 rfl (lv_at hl 0 rfl) ?_
    refine lv_lload_n hx hb dX0_take_39 rfl (lv_at hl 1 rfl) ?_
    refine lv_iload hx hb dX0_take_40 (lv_at hl 3 rfl) ?_
    refine lv_lushr (v := j_lushr w (nI n)) hx hb dX0_take_42 rfl ?_
    refine lv_lconst (v := 1) hx hb dX0_take_43 (by decide) ?_
    refine lv_land hx hb dX0_take_44 ?_
    have hPc : va_P (dC, dI) vwCl (x_W qx qc qw qs cI u) H := hP
    have hDc : va_D A (x_W qx qc qw qs cI u) := hD
    have hFc := va_free (wc := (x_W qx qc qw qs cI u)) hD hS hA [0, 1, 2, 3, 4, 5] rfl
    refine va_callv (va_runV (As := [.long ((j_lushr w (nI n)) &&& 1)]) (rest := []) ⟨hx, hb, hml, hown, hts⟩ (kX0_takeBit l dC dI qx qc qw qs cI H.size u ((j_lushr w (nI n)) &&& 1) ) (cwV 1 hts gX0_take_X0_takeBit rfl rfl rfl (by decide +kernel) ⟨Nat.le_of_ble_eq_true rfl, Nat.le_of_ble_eq_true rfl⟩) ⟨fun a U g mk q => by obtain ⟨q0, q1, qP, qK, qD⟩ := q; exact ⟨q0, q1, qP, va_K.moved (u := U) (U := U.calling g mk a) (Vm.Alike.refl U.vm) qK, qD⟩, va_recv hK hP (ci := 0) (q0 := 0) rfl rfl, fun U hU hW => ⟨rfl, by rw [hU], by rw [hU]; exact hPc, va_K.moved hW.alike hK, hDc.weaken (fun _ _ _ _ => trivial)⟩⟩ rfl rfl hl.1 rfl (lv_room (Nat.le_of_ble_eq_true rfl)) dX0_take_45 ⟨Nat.le_of_ble_eq_true rfl, Nat.le_of_ble_eq_true rfl⟩) hS (fun q _ h => hFc q h) hFc (fun  u_2 t H1 locs ht hvm hu_2 hB hz1 hk1 hS => ?_)
    obtain ⟨hP1, -, hD1⟩ := hB
    rw [ht] at hP1
    have hP : va_P (dC, dI) vwCl [(qx, .inr (0, [.int (x_st u_2), .int (x_md u_2), .long (x_bt u_2), .int (x_cm u_2), .ref (x_hr u_2), .int (x_rs u_2), .ref (x_hv u_2), .int (x_vs u_2), .ref qc, .ref qw, .int (x_wz u_2), .ref qs, .int (x_sz u_2)])), (x_hr u_2, .inl (cI, 259, .inl (x_ro u_2))), (x_hv u_2, .inl (cI, 259, .inl (x_rc u_2))), (qc, .inl (cI, 5, .inl (x_cn u_2))), (qw, .inl (cI, 259, .inl (x_wt u_2))), (qs, .inl (cI, 306, .inl (x_sn u_2)))] H1 := hP1
    have hD : va_D A [(qx, .inr (0, [.int (x_st u_2), .int (x_md u_2), .long (x_bt u_2), .int (x_cm u_2), .ref (x_hr u_2), .int (x_rs u_2), .ref (x_hv u_2), .int (x_vs u_2), .ref qc, .ref qw, .int (x_wz u_2), .ref qs, .int (x_sz u_2)])), (x_hr u_2, .inl (cI, 259, .inl (x_ro u_2))), (x_hv u_2, .inl (cI, 259, .inl (x_rc u_2))), (qc, .inl (cI, 5, .inl (x_cn u_2))), (qw, .inl (cI, 259, .inl (x_wt u_2))), (qs, .inl (cI, 306, .inl (x_sn u_2)))] := hD1.weaken (fun k q _ h => hFc q.1 h)
    generalize H1 = H at hP hS ⊢
    refine lv_iinc (v := (nI n) + (-1)) (lv' := [(5, .int ((nI n) + (-1))), (0, .ref qx), (2, .long w), (4, .int z)]) hx hb dX0_take_48 hl (k := 3) rfl (by rw [show Int32.ofInt (-1) = (-1 : Int32) from by decide]) (by decide) rfl (fun ls hl => ?_)
    refine lv_goto (tgt := 33) hx hb dX0_take_51 (by decide) ?_
    subst hu_2
    have eF : x_tkF w (n + 1) u = x_tkF w n (x_takeBit u ((j_lushr w (nI n)) &&& 1)) := by rw [x_tkF]
    exact ih (x_takeBit u ((j_lushr w (nI n)) &&& 1)) ((nI n) + (-1)) H locs ls rfl (by omega) hP hD hS (lv_sub hl [1, 2, 3, 0] rfl) (fun H locs ls hP hD hS hl => kk H locs ls (by rw [eF]; exact hP) (by rw [eF]; exact hD) hS (by exact hl))
def x_take (u : x_S) (a0 : Int32) (a1 : Int64) : x_S := if (x_st u) = 0 then u else (if a0 < 1 then u else (if a0 ≤ 64 then (x_tkF a1 a0.toNatClampNeg u) else u))
def x_take_r (u : x_S) (a0 : Int32) (a1 : Int64) : Int32 := if (x_st u) = 0 then (-1) else (if a0 < 1 then (-1) else (if a0 ≤ 64 then (((x_cn (x_tkF a1 a0.toNatClampNeg u)) 1) - (x_cn u 1)) else (-1)))
set_option maxHeartbeats 4000000 in
set_option maxRecDepth 100000 in
theorem kX0_take (l : Launch) (dC : Nat → ClassId) (dI : Nat → Nat → Nat) (qx qc qw qs : Nat) (cI : ClassId) (sz : Nat) (u : x_S) (a0 : Int32) (a1 : Int64) : Met l yX0_take wsX0_take rmX0_take (va_Pc [.ref qx, .int a0, .long a1] (fun U => U.heap.size = sz ∧ va_P (dC, dI) vwCl (x_W qx qc qw qs cI u) U.heap ∧ va_K (dC, dI) vwCl [(cI, .int)] U ∧ va_D (fun _ => True) (x_W qx qc qw qs cI u))) (va_Qi (fun r u2 => r = x_take_r u a0 a1 ∧ u2 = x_take u a0 a1) (x_At dC dI (va_A (x_W qx qc qw qs cI u) sz) qx qc qw qs cI) (va_A (x_W qx qc qw qs cI u) sz)) 0 0 (va_A (x_W qx qc qw qs cI u) sz) := by
  refine Met.ofW (cc := cX0_take) (maxL := 6) (ret := some .int) (by decide) rfl ?_
  intro p e s m args below meth c s₁ B hml hv
  obtain ⟨rfl, hsz, hP, hK, hD0⟩ := hv
  have hx := B.exec
  have hb := B.bytes
  have hr := B.returns
  have hts := atoms_spec (ws := wsX0_take) B.pre
  have hown : s.vm.findClass RX0 = some m.cls := findClass_of_methodNamed B.named
  have hlocks := B.notSynchronized
  have hinT : ∀ w ∈ wsX00, w ∈ wsX0_take := by decide +kernel
  subst hsz
  have hD := hD0.self (sz := s.heap.size)
  generalize hAe : va_A (x_W qx qc qw qs cI u) s.heap.size = A at hD ⊢
  have hA : ∀ q : Nat, s.heap.size ≤ q → A q := fun q h => by rw [← hAe]; exact Or.inr h
  have hS : va_S A s.heap s.heap [] := va_S.rf
  have hD : va_D A [(qx, .inr (0, [.int (x_st u), .int (x_md u), .long (x_bt u), .int (x_cm u), .ref (x_hr u), .int (x_rs u), .ref (x_hv u), .int (x_vs u), .ref qc, .ref qw, .int (x_wz u), .ref qs, .int (x_sz u)])), (x_hr u, .inl (cI, 259, .inl (x_ro u))), (x_hv u, .inl (cI, 259, .inl (x_rc u))), (qc, .inl (cI, 5, .inl (x_cn u))), (qw, .inl (cI, 259, .inl (x_wt u))), (qs, .inl (cI, 306, .inl (x_sn u)))] := hD
  have hP : va_P (dC, dI) vwCl [(qx, .inr (0, [.int (x_st u), .int (x_md u), .long (x_bt u), .int (x_cm u), .ref (x_hr u), .int (x_rs u), .ref (x_hv u), .int (x_vs u), .ref qc, .ref qw, .int (x_wz u), .ref qs, .int (x_sz u)])), (x_hr u, .inl (cI, 259, .inl (x_ro u))), (x_hv u, .inl (cI, 259, .inl (x_rc u))), (qc, .inl (cI, 5, .inl (x_cn u))), (qw, .inl (cI, 259, .inl (x_wt u))), (qs, .inl (cI, 306, .inl (x_sn u)))] s.heap := hP
  have hl := lv_entry ([.ref qx, .int a0, .long a1]) (n := 6) (Nat.le_of_ble_eq_true rfl)
  rw [lg_entry_eq]
  generalize (lg_sl ([.ref qx, .int a0, .long a1]) ++ List.replicate (6 - (lg_sl ([.ref qx, .int a0, .long a1])).length) Slot.unset).toArray = ls at hl ⊢
  have hl : lv_has ls 6 [(0, .ref qx), (1, .int a0), (2, .long a1)] := hl
  refine lv_aload_n hx hb dX0_take_0 rfl (lv_at hl 0 rfl) ?_
  refine va_get (D := (dC, dI)) (ci := 0) (v := .int (x_st u)) (C := RX0) (T := TX0) (N := 13) hx hb hts hinT hown hK hP 0 rfl rfl 0 (by decide) (hts (.fieldLink RX0 9 "CodeBlocks" "state" "I") (by decide +kernel)) (fun _ h9 => h9) rfl dX0_take_1 ?_
  refine lv_if_eq (tgt := 18) hx hb dX0_take_4 (by decide) (fun c_1 => ?_) (fun c_1 => ?_)
  · refine lv_iconst (v := (-1)) hx hb dX0_take_18 (by decide) ?_
    have hP9 : va_P (dC, dI) vwCl (x_W qx qc qw qs cI u) s.heap := hP
    have hD9 : va_D A (x_W qx qc qw qs cI u) := hD
    exact W.iret (v := (-1)) hx hb hr (fun t ht hW => ⟨⟨_, u, rfl, ⟨(by unfold x_take_r; rw [if_pos c_1]), (by unfold x_take; rw [if_pos c_1])⟩, by rw [ht]; exact hP9, va_K.moved hW.alike hK, hD9⟩, hS.F ht⟩) hS.2.2 dX0_take_19
  · refine lv_iload_n hx hb dX0_take_7 rfl (lv_at hl 1 rfl) ?_
    refine lv_iconst (v := 1) hx hb dX0_take_8 (by decide) ?_
    refine lv_icmp_lt (tgt := 18) hx hb dX0_take_9 (by decide) (fun c_2 => ?_) (fun c_2 => ?_)
    · refine lv_iconst (v := (-1)) hx hb dX0_take_18 (by decide) ?_
      have hP9 : va_P (dC, dI) vwCl (x_W qx qc qw qs cI u) s.heap := hP
      have hD9 : va_D A (x_W qx qc qw qs cI u) := hD
      exact W.iret (v := (-1)) hx hb hr (fun t ht hW => ⟨⟨_, u, rfl, ⟨(by unfold x_take_r; rw [if_neg c_1, if_pos c_2]), (by unfold x_take; rw [if_neg c_1, if_pos c_2])⟩, by rw [ht]; exact hP9, va_K.moved hW.alike hK, hD9⟩, hS.F ht⟩) hS.2.2 dX0_take_19
    · refine lv_iload_n hx hb dX0_take_12 rfl (lv_at hl 1 rfl) ?_
      refine lv_bipush (v := 64) hx hb dX0_take_13 (by decide) ?_
      refine lv_icmp_le (tgt := 20) hx hb dX0_take_15 (by decide) (fun c_3 => ?_) (fun c_3 => ?_)
      · refine lv_aload_n hx hb dX0_take_20 rfl (lv_at hl 0 rfl) ?_
        refine va_get (D := (dC, dI)) (ci := 0) (v := .ref qc) (C := RX0) (T := TX0) (N := 13) hx hb hts hinT hown hK hP 0 rfl rfl 8 (by decide) (hts (.fieldLink RX0 20 "CodeBlocks" "counts" "[I") (by decide +kernel)) (fun _ h9 => h9) rfl dX0_take_21 ?_
        refine lv_iconst (v := 1) hx hb dX0_take_24 (by decide) ?_
        refine va_iald hx hb hK hP 3 0 rfl rfl (j_in (k := 1) rfl (by decide)) dX0_take_25 ?_
        refine W.eq (g2 := F0 m 26 ls [.int ((x_cn u) 1)]) rfl ?_
        refine lv_istore (lv' := [(4, .int ((x_cn u) 1)), (0, .ref qx), (1, .int a0), (2, .long a1)]) hx hb dX0_take_26 hl (by decide) rfl (fun ls hl => ?_)
        refine lv_iload_n hx hb dX0_take_28 rfl (lv_at hl 2 rfl) ?_
        refine lv_iconst (v := 1) hx hb dX0_take_29 (by decide) ?_
        refine lv_isub hx hb dX0_take_30 ?_
        refine lv_istore (lv' := [(5, .int (a0 - 1)), (4, .int ((x_cn u) 1)), (0, .ref qx), (1, .int a0), (2, .long a1)]) hx hb dX0_take_31 hl (by decide) rfl (fun ls hl => ?_)
        obtain ⟨ea, ha⟩ := j_take c_2 c_3
        refine lpX0_take (l := l) dC dI qx qc qw qs cI a1 (x_cn u 1) hx hb hml hown hts A hA hK  a0.toNatClampNeg u (a0 - 1) s.heap [] ls (by rw [← ea]; exact j_sub1 _) ha hP hD hS (lv_sub hl [2, 4, 1, 0] rfl) (fun H locs ls hP hD hS hl => ?_)
        obtain ⟨v_4, hv_4⟩ : ∃ z, z = x_tkF a1 a0.toNatClampNeg u := ⟨_, rfl⟩
        rw [← hv_4] at hP hD
        have hP : va_P (dC, dI) vwCl [(qx, .inr (0, [.int (x_st v_4), .int (x_md v_4), .long (x_bt v_4), .int (x_cm v_4), .ref (x_hr v_4), .int (x_rs v_4), .ref (x_hv v_4), .int (x_vs v_4), .ref qc, .ref qw, .int (x_wz v_4), .ref qs, .int (x_sz v_4)])), (x_hr v_4, .inl (cI, 259, .inl (x_ro v_4))), (x_hv v_4, .inl (cI, 259, .inl (x_rc v_4))), (qc, .inl (cI, 5, .inl (x_cn v_4))), (qw, .inl (cI, 259, .inl (x_wt v_4))), (qs, .inl (cI, 306, .inl (x_sn v_4)))] H := hP
        have hD : va_D A [(qx, .inr (0, [.int (x_st v_4), .int (x_md v_4), .long (x_bt v_4), .int (x_cm v_4), .ref (x_hr v_4), .int (x_rs v_4), .ref (x_hv v_4), .int (x_vs v_4), .ref qc, .ref qw, .int (x_wz v_4), .ref qs, .int (x_sz v_4)])), (x_hr v_4, .inl (cI, 259, .inl (x_ro v_4))), (x_hv v_4, .inl (cI, 259, .inl (x_rc v_4))), (qc, .inl (cI, 5, .inl (x_cn v_4))), (qw, .inl (cI, 259, .inl (x_wt v_4))), (qs, .inl (cI, 306, .inl (x_sn v_4)))] := hD
        refine lv_aload_n hx hb dX0_take_54 rfl (lv_at hl 0 rfl) ?_
        refine va_get (D := (dC, dI)) (ci := 0) (v := .ref qc) (C := RX0) (T := TX0) (N := 13) hx hb hts hinT hown hK hP 0 rfl rfl 8 (by decide) (hts (.fieldLink RX0 20 "CodeBlocks" "counts" "[I") (by decide +kernel)) (fun _ h9 => h9) rfl dX0_take_55 ?_
        refine lv_iconst (v := 1) hx hb dX0_take_58 (by decide) ?_
        refine va_iald hx hb hK hP 3 0 rfl rfl (j_in (k := 1) rfl (by decide)) dX0_take_59 ?_
        refine W.eq (g2 := F0 m 60 ls [.int ((x_cn v_4) 1)]) rfl ?_
        refine lv_iload hx hb dX0_take_60 (lv_at hl 1 rfl) ?_
        refine lv_isub hx hb dX0_take_62 ?_
        have hP9 : va_P (dC, dI) vwCl (x_W qx qc qw qs cI v_4) H := hP
        have hD9 : va_D A (x_W qx qc qw qs cI v_4) := hD
        exact W.iret (v := ((x_cn v_4) 1) - (x_cn u 1)) hx hb hr (fun t ht hW => ⟨⟨_, v_4, rfl, ⟨(by subst hv_4; unfold x_take_r; rw [if_neg c_1, if_neg c_2, if_pos c_3]), (by subst hv_4; unfold x_take; rw [if_neg c_1, if_neg c_2, if_pos c_3])⟩, by rw [ht]; exact hP9, va_K.moved hW.alike hK, hD9⟩, hS.F ht⟩) hS.2.2 dX0_take_63
      · refine lv_iconst (v := (-1)) hx hb dX0_take_18 (by decide) ?_
        have hP9 : va_P (dC, dI) vwCl (x_W qx qc qw qs cI u) s.heap := hP
        have hD9 : va_D A (x_W qx qc qw qs cI u) := hD
        exact W.iret (v := (-1)) hx hb hr (fun t ht hW => ⟨⟨_, u, rfl, ⟨(by unfold x_take_r; rw [if_neg c_1, if_neg c_2, if_neg c_3]), (by unfold x_take; rw [if_neg c_1, if_neg c_2, if_neg c_3])⟩, by rw [ht]; exact hP9, va_K.moved hW.alike hK, hD9⟩, hS.F ht⟩) hS.2.2 dX0_take_19
end
section
abbrev rmX0_state : Room := { frames := 0, cells := 0, slots := 0, locals := 0 }
def x_state (u : x_S)  : Int32 := x_st u
set_option maxHeartbeats 4000000 in
set_option maxRecDepth 100000 in
theorem kX0_state (l : Launch) (dC : Nat → ClassId) (dI : Nat → Nat → Nat) (qx qc qw qs : Nat) (cI : ClassId) (u : x_S)  : Met l yX0_state wsX0_state rmX0_state (va_Pc [.ref qx] (fun U => va_P (dC, dI) vwCl (x_W qx qc qw qs cI u) U.heap ∧ va_K (dC, dI) vwCl [(cI, .int)] U)) (vp_Si (fun r => r = x_state u)) 0 0 (fun _ => False) := by
  refine Met.ofW (cc := cX0_state) (maxL := 1) (ret := some .int) (by decide) rfl ?_
  intro p e s m args below meth c s₁ B hml hv
  obtain ⟨rfl, hP, hK⟩ := hv
  have hx := B.exec
  have hb := B.bytes
  have hr := B.returns
  have hts := atoms_spec (ws := wsX0_state) B.pre
  have hown : s.vm.findClass RX0 = some m.cls := findClass_of_methodNamed B.named
  have hlocks := B.notSynchronized
  have hinT : ∀ w ∈ wsX00, w ∈ wsX0_state := by decide +kernel
  have hP : va_P (dC, dI) vwCl [(qx, .inr (0, [.int (x_st u), .int (x_md u), .long (x_bt u), .int (x_cm u), .ref (x_hr u), .int (x_rs u), .ref (x_hv u), .int (x_vs u), .ref qc, .ref qw, .int (x_wz u), .ref qs, .int (x_sz u)])), (x_hr u, .inl (cI, 259, .inl (x_ro u))), (x_hv u, .inl (cI, 259, .inl (x_rc u))), (qc, .inl (cI, 5, .inl (x_cn u))), (qw, .inl (cI, 259, .inl (x_wt u))), (qs, .inl (cI, 306, .inl (x_sn u)))] s.heap := hP
  have hl := lv_entry ([.ref qx]) (n := 1) (Nat.le_of_ble_eq_true rfl)
  rw [lg_entry_eq]
  generalize (lg_sl ([.ref qx]) ++ List.replicate (1 - (lg_sl ([.ref qx])).length) Slot.unset).toArray = ls at hl ⊢
  have hl : lv_has ls 1 [(0, .ref qx)] := hl
  refine lv_aload_n hx hb dX0_state_0 rfl (lv_at hl 0 rfl) ?_
  refine va_get (D := (dC, dI)) (ci := 0) (v := .int (x_st u)) (C := RX0) (T := TX0) (N := 13) hx hb hts hinT hown hK hP 0 rfl rfl 0 (by decide) (hts (.fieldLink RX0 9 "CodeBlocks" "state" "I") (by decide +kernel)) (fun _ h9 => h9) rfl dX0_state_1 ?_
  exact W.iret (v := x_st u) hx hb hr (fun t ht hW => ⟨_, rfl, (rfl), ht⟩) (fun q h => by cases h) dX0_state_4

abbrev rmX0_count : Room := { frames := 0, cells := 0, slots := 0, locals := 0 }
def x_count (u : x_S) (a0 : Int32) : Int32 := if a0 < 0 then (-1) else (if 5 ≤ a0 then (-1) else ((x_cn u) a0.toNatClampNeg))
set_option maxHeartbeats 4000000 in
set_option maxRecDepth 100000 in
theorem kX0_count (l : Launch) (dC : Nat → ClassId) (dI : Nat → Nat → Nat) (qx qc qw qs : Nat) (cI : ClassId) (u : x_S) (a0 : Int32) : Met l yX0_count wsX0_count rmX0_count (va_Pc [.ref qx, .int a0] (fun U => va_P (dC, dI) vwCl (x_W qx qc qw qs cI u) U.heap ∧ va_K (dC, dI) vwCl [(cI, .int)] U)) (vp_Si (fun r => r = x_count u a0)) 0 0 (fun _ => False) := by
  refine Met.ofW (cc := cX0_count) (maxL := 2) (ret := some .int) (by decide) rfl ?_
  intro p e s m args below meth c s₁ B hml hv
  obtain ⟨rfl, hP, hK⟩ := hv
  have hx := B.exec
  have hb := B.bytes
  have hr := B.returns
  have hts := atoms_spec (ws := wsX0_count) B.pre
  have hown : s.vm.findClass RX0 = some m.cls := findClass_of_methodNamed B.named
  have hlocks := B.notSynchronized
  have hinT : ∀ w ∈ wsX00, w ∈ wsX0_count := by decide +kernel
  have hP : va_P (dC, dI) vwCl [(qx, .inr (0, [.int (x_st u), .int (x_md u), .long (x_bt u), .int (x_cm u), .ref (x_hr u), .int (x_rs u), .ref (x_hv u), .int (x_vs u), .ref qc, .ref qw, .int (x_wz u), .ref qs, .int (x_sz u)])), (x_hr u, .inl (cI, 259, .inl (x_ro u))), (x_hv u, .inl (cI, 259, .inl (x_rc u))), (qc, .inl (cI, 5, .inl (x_cn u))), (qw, .inl (cI, 259, .inl (x_wt u))), (qs, .inl (cI, 306, .inl (x_sn u)))] s.heap := hP
  have hl := lv_entry ([.ref qx, .int a0]) (n := 2) (Nat.le_of_ble_eq_true rfl)
  rw [lg_entry_eq]
  generalize (lg_sl ([.ref qx, .int a0]) ++ List.replicate (2 - (lg_sl ([.ref qx, .int a0])).length) Slot.unset).toArray = ls at hl ⊢
  have hl : lv_has ls 2 [(0, .ref qx), (1, .int a0)] := hl
  refine lv_iload_n hx hb dX0_count_0 rfl (lv_at hl 1 rfl) ?_
  refine lv_if_lt (tgt := 22) hx hb dX0_count_1 (by decide) (fun c_1 => ?_) (fun c_1 => ?_)
  · refine lv_iconst (v := (-1)) hx hb dX0_count_22 (by decide) ?_
    exact W.iret (v := (-1)) hx hb hr (fun t ht hW => ⟨_, rfl, (by unfold x_count; rw [if_pos c_1]), ht⟩) (fun q h => by cases h) dX0_count_23
  · refine lv_iload_n hx hb dX0_count_4 rfl (lv_at hl 1 rfl) ?_
    refine lv_aload_n hx hb dX0_count_5 rfl (lv_at hl 0 rfl) ?_
    refine va_get (D := (dC, dI)) (ci := 0) (v := .ref qc) (C := RX0) (T := TX0) (N := 13) hx hb hts hinT hown hK hP 0 rfl rfl 8 (by decide) (hts (.fieldLink RX0 20 "CodeBlocks" "counts" "[I") (by decide +kernel)) (fun _ h9 => h9) rfl dX0_count_6 ?_
    refine va_alen hx hb hK hP 3 0 rfl rfl (v := 5) rfl dX0_count_9 ?_
    refine lv_icmp_ge (tgt := 22) hx hb dX0_count_10 (by decide) (fun c_2 => ?_) (fun c_2 => ?_)
    · refine lv_iconst (v := (-1)) hx hb dX0_count_22 (by decide) ?_
      exact W.iret (v := (-1)) hx hb hr (fun t ht hW => ⟨_, rfl, (by unfold x_count; rw [if_neg c_1, if_pos c_2]), ht⟩) (fun q h => by cases h) dX0_count_23
    · refine lv_aload_n hx hb dX0_count_13 rfl (lv_at hl 0 rfl) ?_
      refine va_get (D := (dC, dI)) (ci := 0) (v := .ref qc) (C := RX0) (T := TX0) (N := 13) hx hb hts hinT hown hK hP 0 rfl rfl 8 (by decide) (hts (.fieldLink RX0 20 "CodeBlocks" "counts" "[I") (by decide +kernel)) (fun _ h9 => h9) rfl dX0_count_14 ?_
      refine lv_iload_n hx hb dX0_count_17 rfl (lv_at hl 1 rfl) ?_
      refine va_iald hx hb hK hP 3 0 rfl rfl (j_in2 (by decide) c_1 c_2) dX0_count_18 ?_
      refine lv_goto (tgt := 23) hx hb dX0_count_19 (by decide) ?_
      exact W.iret (v := (x_cn u) a0.toNatClampNeg) hx hb hr (fun t ht hW => ⟨_, rfl, (by unfold x_count; rw [if_neg c_1, if_neg c_2]), ht⟩) (fun q h => by cases h) dX0_count_23

abbrev rmX0_size : Room := { frames := 0, cells := 0, slots := 0, locals := 0 }
def x_size (u : x_S)  : Int32 := x_vs u
set_option maxHeartbeats 4000000 in
set_option maxRecDepth 100000 in
theorem kX0_size (l : Launch) (dC : Nat → ClassId) (dI : Nat → Nat → Nat) (qx qc qw qs : Nat) (cI : ClassId) (u : x_S)  : Met l yX0_size wsX0_size rmX0_size (va_Pc [.ref qx] (fun U => va_P (dC, dI) vwCl (x_W qx qc qw qs cI u) U.heap ∧ va_K (dC, dI) vwCl [(cI, .int)] U)) (vp_Si (fun r => r = x_size u)) 0 0 (fun _ => False) := by
  refine Met.ofW (cc := cX0_size) (maxL := 1) (ret := some .int) (by decide) rfl ?_
  intro p e s m args below meth c s₁ B hml hv
  obtain ⟨rfl, hP, hK⟩ := hv
  have hx := B.exec
  have hb := B.bytes
  have hr := B.returns
  have hts := atoms_spec (ws := wsX0_size) B.pre
  have hown : s.vm.findClass RX0 = some m.cls := findClass_of_methodNamed B.named
  have hlocks := B.notSynchronized
  have hinT : ∀ w ∈ wsX00, w ∈ wsX0_size := by decide +kernel
  have hP : va_P (dC, dI) vwCl [(qx, .inr (0, [.int (x_st u), .int (x_md u), .long (x_bt u), .int (x_cm u), .ref (x_hr u), .int (x_rs u), .ref (x_hv u), .int (x_vs u), .ref qc, .ref qw, .int (x_wz u), .ref qs, .int (x_sz u)])), (x_hr u, .inl (cI, 259, .inl (x_ro u))), (x_hv u, .inl (cI, 259, .inl (x_rc u))), (qc, .inl (cI, 5, .inl (x_cn u))), (qw, .inl (cI, 259, .inl (x_wt u))), (qs, .inl (cI, 306, .inl (x_sn u)))] s.heap := hP
  have hl := lv_entry ([.ref qx]) (n := 1) (Nat.le_of_ble_eq_true rfl)
  rw [lg_entry_eq]
  generalize (lg_sl ([.ref qx]) ++ List.replicate (1 - (lg_sl ([.ref qx])).length) Slot.unset).toArray = ls at hl ⊢
  have hl : lv_has ls 1 [(0, .ref qx)] := hl
  refine lv_aload_n hx hb dX0_size_0 rfl (lv_at hl 0 rfl) ?_
  refine va_get (D := (dC, dI)) (ci := 0) (v := .int (x_vs u)) (C := RX0) (T := TX0) (N := 13) hx hb hts hinT hown hK hP 0 rfl rfl 7 (by decide) (hts (.fieldLink RX0 40 "CodeBlocks" "receivedSize" "I") (by decide +kernel)) (fun _ h9 => h9) rfl dX0_size_1 ?_
  exact W.iret (v := x_vs u) hx hb hr (fun t ht hW => ⟨_, rfl, (rfl), ht⟩) (fun q h => by cases h) dX0_size_4

abbrev rmX0_byteAt : Room := { frames := 0, cells := 0, slots := 0, locals := 0 }
def x_byteAt (u : x_S) (a0 : Int32) : Int32 := if a0 < 0 then (-1) else (if (x_vs u) ≤ a0 then (-1) else (if 259 ≤ a0 then (-1) else ((x_rc u) a0.toNatClampNeg)))
set_option maxHeartbeats 4000000 in
set_option maxRecDepth 100000 in
theorem kX0_byteAt (l : Launch) (dC : Nat → ClassId) (dI : Nat → Nat → Nat) (qx qc qw qs : Nat) (cI : ClassId) (u : x_S) (a0 : Int32) : Met l yX0_byteAt wsX0_byteAt rmX0_byteAt (va_Pc [.ref qx, .int a0] (fun U => va_P (dC, dI) vwCl (x_W qx qc qw qs cI u) U.heap ∧ va_K (dC, dI) vwCl [(cI, .int)] U)) (vp_Si (fun r => r = x_byteAt u a0)) 0 0 (fun _ => False) := by
  refine Met.ofW (cc := cX0_byteAt) (maxL := 2) (ret := some .int) (by decide) rfl ?_
  intro p e s m args below meth c s₁ B hml hv
  obtain ⟨rfl, hP, hK⟩ := hv
  have hx := B.exec
  have hb := B.bytes
  have hr := B.returns
  have hts := atoms_spec (ws := wsX0_byteAt) B.pre
  have hown : s.vm.findClass RX0 = some m.cls := findClass_of_methodNamed B.named
  have hlocks := B.notSynchronized
  have hinT : ∀ w ∈ wsX00, w ∈ wsX0_byteAt := by decide +kernel
  have hP : va_P (dC, dI) vwCl [(qx, .inr (0, [.int (x_st u), .int (x_md u), .long (x_bt u), .int (x_cm u), .ref (x_hr u), .int (x_rs u), .ref (x_hv u), .int (x_vs u), .ref qc, .ref qw, .int (x_wz u), .ref qs, .int (x_sz u)])), (x_hr u, .inl (cI, 259, .inl (x_ro u))), (x_hv u, .inl (cI, 259, .inl (x_rc u))), (qc, .inl (cI, 5, .inl (x_cn u))), (qw, .inl (cI, 259, .inl (x_wt u))), (qs, .inl (cI, 306, .inl (x_sn u)))] s.heap := hP
  have hl := lv_entry ([.ref qx, .int a0]) (n := 2) (Nat.le_of_ble_eq_true rfl)
  rw [lg_entry_eq]
  generalize (lg_sl ([.ref qx, .int a0]) ++ List.replicate (2 - (lg_sl ([.ref qx, .int a0])).length) Slot.unset).toArray = ls at hl ⊢
  have hl : lv_has ls 2 [(0, .ref qx), (1, .int a0)] := hl
  refine lv_iload_n hx hb dX0_byteAt_0 rfl (lv_at hl 1 rfl) ?_
  refine lv_if_lt (tgt := 30) hx hb dX0_byteAt_1 (by decide) (fun c_1 => ?_) (fun c_1 => ?_)
  · refine lv_iconst (v := (-1)) hx hb dX0_byteAt_30 (by decide) ?_
    exact W.iret (v := (-1)) hx hb hr (fun t ht hW => ⟨_, rfl, (by unfold x_byteAt; rw [if_pos c_1]), ht⟩) (fun q h => by cases h) dX0_byteAt_31
  · refine lv_iload_n hx hb dX0_byteAt_4 rfl (lv_at hl 1 rfl) ?_
    refine lv_aload_n hx hb dX0_byteAt_5 rfl (lv_at hl 0 rfl) ?_
    refine va_get (D := (dC, dI)) (ci := 0) (v := .int (x_vs u)) (C := RX0) (T := TX0) (N := 13) hx hb hts hinT hown hK hP 0 rfl rfl 7 (by decide) (hts (.fieldLink RX0 40 "CodeBlocks" "receivedSize" "I") (by decide +kernel)) (fun _ h9 => h9) rfl dX0_byteAt_6 ?_
    refine lv_icmp_ge (tgt := 30) hx hb dX0_byteAt_9 (by decide) (fun c_2 => ?_) (fun c_2 => ?_)
    · refine lv_iconst (v := (-1)) hx hb dX0_byteAt_30 (by decide) ?_
      exact W.iret (v := (-1)) hx hb hr (fun t ht hW => ⟨_, rfl, (by unfold x_byteAt; rw [if_neg c_1, if_pos c_2]), ht⟩) (fun q h => by cases h) dX0_byteAt_31
    · refine lv_iload_n hx hb dX0_byteAt_12 rfl (lv_at hl 1 rfl) ?_
      refine lv_aload_n hx hb dX0_byteAt_13 rfl (lv_at hl 0 rfl) ?_
      refine va_get (D := (dC, dI)) (ci := 0) (v := .ref (x_hv u)) (C := RX0) (T := TX0) (N := 13) hx hb hts hinT hown hK hP 0 rfl rfl 6 (by decide) (hts (.fieldLink RX0 17 "CodeBlocks" "received" "[I") (by decide +kernel)) (fun _ h9 => h9) rfl dX0_byteAt_14 ?_
      refine va_alen hx hb hK hP 2 0 rfl rfl (v := 259) rfl dX0_byteAt_17 ?_
      refine lv_icmp_ge (tgt := 30) hx hb dX0_byteAt_18 (by decide) (fun c_3 => ?_) (fun c_3 => ?_)
      · refine lv_iconst (v := (-1)) hx hb dX0_byteAt_30 (by decide) ?_
        exact W.iret (v := (-1)) hx hb hr (fun t ht hW => ⟨_, rfl, (by unfold x_byteAt; rw [if_neg c_1, if_neg c_2, if_pos c_3]), ht⟩) (fun q h => by cases h) dX0_byteAt_31
      · refine lv_aload_n hx hb dX0_byteAt_21 rfl (lv_at hl 0 rfl) ?_
        refine va_get (D := (dC, dI)) (ci := 0) (v := .ref (x_hv u)) (C := RX0) (T := TX0) (N := 13) hx hb hts hinT hown hK hP 0 rfl rfl 6 (by decide) (hts (.fieldLink RX0 17 "CodeBlocks" "received" "[I") (by decide +kernel)) (fun _ h9 => h9) rfl dX0_byteAt_22 ?_
        refine lv_iload_n hx hb dX0_byteAt_25 rfl (lv_at hl 1 rfl) ?_
        refine va_iald hx hb hK hP 2 0 rfl rfl (j_in2 (by decide) c_1 c_3) dX0_byteAt_26 ?_
        refine lv_goto (tgt := 31) hx hb dX0_byteAt_27 (by decide) ?_
        exact W.iret (v := (x_rc u) a0.toNatClampNeg) hx hb hr (fun t ht hW => ⟨_, rfl, (by unfold x_byteAt; rw [if_neg c_1, if_neg c_2, if_neg c_3]), ht⟩) (fun q h => by cases h) dX0_byteAt_31

abbrev rmX0_sent : Room := { frames := 0, cells := 0, slots := 0, locals := 0 }
def x_sent (u : x_S) (a0 : Int32) : Int32 := if a0 < 0 then (-1) else (if (x_sz u) ≤ a0 then (-1) else (if 306 ≤ a0 then (-1) else ((x_sn u) a0.toNatClampNeg)))
set_option maxHeartbeats 4000000 in
set_option maxRecDepth 100000 in
theorem kX0_sent (l : Launch) (dC : Nat → ClassId) (dI : Nat → Nat → Nat) (qx qc qw qs : Nat) (cI : ClassId) (u : x_S) (a0 : Int32) : Met l yX0_sent wsX0_sent rmX0_sent (va_Pc [.ref qx, .int a0] (fun U => va_P (dC, dI) vwCl (x_W qx qc qw qs cI u) U.heap ∧ va_K (dC, dI) vwCl [(cI, .int)] U)) (vp_Si (fun r => r = x_sent u a0)) 0 0 (fun _ => False) := by
  refine Met.ofW (cc := cX0_sent) (maxL := 2) (ret := some .int) (by decide) rfl ?_
  intro p e s m args below meth c s₁ B hml hv
  obtain ⟨rfl, hP, hK⟩ := hv
  have hx := B.exec
  have hb := B.bytes
  have hr := B.returns
  have hts := atoms_spec (ws := wsX0_sent) B.pre
  have hown : s.vm.findClass RX0 = some m.cls := findClass_of_methodNamed B.named
  have hlocks := B.notSynchronized
  have hinT : ∀ w ∈ wsX00, w ∈ wsX0_sent := by decide +kernel
  have hP : va_P (dC, dI) vwCl [(qx, .inr (0, [.int (x_st u), .int (x_md u), .long (x_bt u), .int (x_cm u), .ref (x_hr u), .int (x_rs u), .ref (x_hv u), .int (x_vs u), .ref qc, .ref qw, .int (x_wz u), .ref qs, .int (x_sz u)])), (x_hr u, .inl (cI, 259, .inl (x_ro u))), (x_hv u, .inl (cI, 259, .inl (x_rc u))), (qc, .inl (cI, 5, .inl (x_cn u))), (qw, .inl (cI, 259, .inl (x_wt u))), (qs, .inl (cI, 306, .inl (x_sn u)))] s.heap := hP
  have hl := lv_entry ([.ref qx, .int a0]) (n := 2) (Nat.le_of_ble_eq_true rfl)
  rw [lg_entry_eq]
  generalize (lg_sl ([.ref qx, .int a0]) ++ List.replicate (2 - (lg_sl ([.ref qx, .int a0])).length) Slot.unset).toArray = ls at hl ⊢
  have hl : lv_has ls 2 [(0, .ref qx), (1, .int a0)] := hl
  refine lv_iload_n hx hb dX0_sent_0 rfl (lv_at hl 1 rfl) ?_
  refine lv_if_lt (tgt := 30) hx hb dX0_sent_1 (by decide) (fun c_1 => ?_) (fun c_1 => ?_)
  · refine lv_iconst (v := (-1)) hx hb dX0_sent_30 (by decide) ?_
    exact W.iret (v := (-1)) hx hb hr (fun t ht hW => ⟨_, rfl, (by unfold x_sent; rw [if_pos c_1]), ht⟩) (fun q h => by cases h) dX0_sent_31
  · refine lv_iload_n hx hb dX0_sent_4 rfl (lv_at hl 1 rfl) ?_
    refine lv_aload_n hx hb dX0_sent_5 rfl (lv_at hl 0 rfl) ?_
    refine va_get (D := (dC, dI)) (ci := 0) (v := .int (x_sz u)) (C := RX0) (T := TX0) (N := 13) hx hb hts hinT hown hK hP 0 rfl rfl 12 (by decide) (hts (.fieldLink RX0 49 "CodeBlocks" "sentSize" "I") (by decide +kernel)) (fun _ h9 => h9) rfl dX0_sent_6 ?_
    refine lv_icmp_ge (tgt := 30) hx hb dX0_sent_9 (by decide) (fun c_2 => ?_) (fun c_2 => ?_)
    · refine lv_iconst (v := (-1)) hx hb dX0_sent_30 (by decide) ?_
      exact W.iret (v := (-1)) hx hb hr (fun t ht hW => ⟨_, rfl, (by unfold x_sent; rw [if_neg c_1, if_pos c_2]), ht⟩) (fun q h => by cases h) dX0_sent_31
    · refine lv_iload_n hx hb dX0_sent_12 rfl (lv_at hl 1 rfl) ?_
      refine lv_aload_n hx hb dX0_sent_13 rfl (lv_at hl 0 rfl) ?_
      refine va_get (D := (dC, dI)) (ci := 0) (v := .ref qs) (C := RX0) (T := TX0) (N := 13) hx hb hts hinT hown hK hP 0 rfl rfl 11 (by decide) (hts (.fieldLink RX0 26 "CodeBlocks" "sent" "[I") (by decide +kernel)) (fun _ h9 => h9) rfl dX0_sent_14 ?_
      refine va_alen hx hb hK hP 5 0 rfl rfl (v := 306) rfl dX0_sent_17 ?_
      refine lv_icmp_ge (tgt := 30) hx hb dX0_sent_18 (by decide) (fun c_3 => ?_) (fun c_3 => ?_)
      · refine lv_iconst (v := (-1)) hx hb dX0_sent_30 (by decide) ?_
        exact W.iret (v := (-1)) hx hb hr (fun t ht hW => ⟨_, rfl, (by unfold x_sent; rw [if_neg c_1, if_neg c_2, if_pos c_3]), ht⟩) (fun q h => by cases h) dX0_sent_31
      · refine lv_aload_n hx hb dX0_sent_21 rfl (lv_at hl 0 rfl) ?_
        refine va_get (D := (dC, dI)) (ci := 0) (v := .ref qs) (C := RX0) (T := TX0) (N := 13) hx hb hts hinT hown hK hP 0 rfl rfl 11 (by decide) (hts (.fieldLink RX0 26 "CodeBlocks" "sent" "[I") (by decide +kernel)) (fun _ h9 => h9) rfl dX0_sent_22 ?_
        refine lv_iload_n hx hb dX0_sent_25 rfl (lv_at hl 1 rfl) ?_
        refine va_iald hx hb hK hP 5 0 rfl rfl (j_in2 (by decide) c_1 c_3) dX0_sent_26 ?_
        refine lv_goto (tgt := 31) hx hb dX0_sent_27 (by decide) ?_
        exact W.iret (v := (x_sn u) a0.toNatClampNeg) hx hb hr (fun t ht hW => ⟨_, rfl, (by unfold x_sent; rw [if_neg c_1, if_neg c_2, if_neg c_3]), ht⟩) (fun q h => by cases h) dX0_sent_31

abbrev rmX0_put : Room := { frames := 0, cells := 0, slots := 0, locals := 0 }
def x_put (u : x_S) (a0 : Int32) : x_S := if (x_wz u) < 0 then u else (if (x_wz u) < 259 then (x_st u, x_md u, x_bt u, x_cm u, x_hr u, x_rs u, x_hv u, x_vs u, (x_wz u) + 1, x_sz u, x_ro u, x_rc u, x_cn u, upd (x_wt u) ((x_wz u).toNatClampNeg) (a0 &&& 255), x_sn u) else u)
def x_put_r (u : x_S) (a0 : Int32) : Int32 := if (x_wz u) < 0 then (-1) else (if (x_wz u) < 259 then ((x_wz u) + 1) else (-1))
set_option maxHeartbeats 4000000 in
set_option maxRecDepth 100000 in
theorem kX0_put (l : Launch) (dC : Nat → ClassId) (dI : Nat → Nat → Nat) (qx qc qw qs : Nat) (cI : ClassId) (sz : Nat) (u : x_S) (a0 : Int32) : Met l yX0_put wsX0_put rmX0_put (va_Pc [.ref qx, .int a0] (fun U => U.heap.size = sz ∧ va_P (dC, dI) vwCl (x_W qx qc qw qs cI u) U.heap ∧ va_K (dC, dI) vwCl [(cI, .int)] U ∧ va_D (fun _ => True) (x_W qx qc qw qs cI u))) (va_Qi (fun r u2 => r = x_put_r u a0 ∧ u2 = x_put u a0) (x_At dC dI (va_A (x_W qx qc qw qs cI u) sz) qx qc qw qs cI) (va_A (x_W qx qc qw qs cI u) sz)) 0 0 (va_A (x_W qx qc qw qs cI u) sz) := by
  refine Met.ofW (cc := cX0_put) (maxL := 2) (ret := some .int) (by decide) rfl ?_
  intro p e s m args below meth c s₁ B hml hv
  obtain ⟨rfl, hsz, hP, hK, hD0⟩ := hv
  have hx := B.exec
  have hb := B.bytes
  have hr := B.returns
  have hts := atoms_spec (ws := wsX0_put) B.pre
  have hown : s.vm.findClass RX0 = some m.cls := findClass_of_methodNamed B.named
  have hlocks := B.notSynchronized
  have hinT : ∀ w ∈ wsX00, w ∈ wsX0_put := by decide +kernel
  subst hsz
  have hD := hD0.self (sz := s.heap.size)
  generalize hAe : va_A (x_W qx qc qw qs cI u) s.heap.size = A at hD ⊢
  have hA : ∀ q : Nat, s.heap.size ≤ q → A q := fun q h => by rw [← hAe]; exact Or.inr h
  have hS : va_S A s.heap s.heap [] := va_S.rf
  have hD : va_D A [(qx, .inr (0, [.int (x_st u), .int (x_md u), .long (x_bt u), .int (x_cm u), .ref (x_hr u), .int (x_rs u), .ref (x_hv u), .int (x_vs u), .ref qc, .ref qw, .int (x_wz u), .ref qs, .int (x_sz u)])), (x_hr u, .inl (cI, 259, .inl (x_ro u))), (x_hv u, .inl (cI, 259, .inl (x_rc u))), (qc, .inl (cI, 5, .inl (x_cn u))), (qw, .inl (cI, 259, .inl (x_wt u))), (qs, .inl (cI, 306, .inl (x_sn u)))] := hD
  have hP : va_P (dC, dI) vwCl [(qx, .inr (0, [.int (x_st u), .int (x_md u), .long (x_bt u), .int (x_cm u), .ref (x_hr u), .int (x_rs u), .ref (x_hv u), .int (x_vs u), .ref qc, .ref qw, .int (x_wz u), .ref qs, .int (x_sz u)])), (x_hr u, .inl (cI, 259, .inl (x_ro u))), (x_hv u, .inl (cI, 259, .inl (x_rc u))), (qc, .inl (cI, 5, .inl (x_cn u))), (qw, .inl (cI, 259, .inl (x_wt u))), (qs, .inl (cI, 306, .inl (x_sn u)))] s.heap := hP
  have hl := lv_entry ([.ref qx, .int a0]) (n := 2) (Nat.le_of_ble_eq_true rfl)
  rw [lg_entry_eq]
  generalize (lg_sl ([.ref qx, .int a0]) ++ List.replicate (2 - (lg_sl ([.ref qx, .int a0])).length) Slot.unset).toArray = ls at hl ⊢
  have hl : lv_has ls 2 [(0, .ref qx), (1, .int a0)] := hl
  refine lv_aload_n hx hb dX0_put_0 rfl (lv_at hl 0 rfl) ?_
  refine va_get (D := (dC, dI)) (ci := 0) (v := .int (x_wz u)) (C := RX0) (T := TX0) (N := 13) hx hb hts hinT hown hK hP 0 rfl rfl 10 (by decide) (hts (.fieldLink RX0 43 "CodeBlocks" "waitingSize" "I") (by decide +kernel)) (fun _ h9 => h9) rfl dX0_put_1 ?_
  refine lv_if_lt (tgt := 19) hx hb dX0_put_4 (by decide) (fun c_1 => ?_) (fun c_1 => ?_)
  · refine lv_iconst (v := (-1)) hx hb dX0_put_19 (by decide) ?_
    have hP9 : va_P (dC, dI) vwCl (x_W qx qc qw qs cI u) s.heap := hP
    have hD9 : va_D A (x_W qx qc qw qs cI u) := hD
    exact W.iret (v := (-1)) hx hb hr (fun t ht hW => ⟨⟨_, u, rfl, ⟨(by unfold x_put_r; rw [if_pos c_1]), (by unfold x_put; rw [if_pos c_1])⟩, by rw [ht]; exact hP9, va_K.moved hW.alike hK, hD9⟩, hS.F ht⟩) hS.2.2 dX0_put_20
  · refine lv_aload_n hx hb dX0_put_7 rfl (lv_at hl 0 rfl) ?_
    refine va_get (D := (dC, dI)) (ci := 0) (v := .int (x_wz u)) (C := RX0) (T := TX0) (N := 13) hx hb hts hinT hown hK hP 0 rfl rfl 10 (by decide) (hts (.fieldLink RX0 43 "CodeBlocks" "waitingSize" "I") (by decide +kernel)) (fun _ h9 => h9) rfl dX0_put_8 ?_
    refine lv_aload_n hx hb dX0_put_11 rfl (lv_at hl 0 rfl) ?_
    refine va_get (D := (dC, dI)) (ci := 0) (v := .ref qw) (C := RX0) (T := TX0) (N := 13) hx hb hts hinT hown hK hP 0 rfl rfl 9 (by decide) (hts (.fieldLink RX0 23 "CodeBlocks" "waiting" "[I") (by decide +kernel)) (fun _ h9 => h9) rfl dX0_put_12 ?_
    refine va_alen hx hb hK hP 4 0 rfl rfl (v := 259) rfl dX0_put_15 ?_
    refine lv_icmp_lt (tgt := 21) hx hb dX0_put_16 (by decide) (fun c_2 => ?_) (fun c_2 => ?_)
    · refine lv_aload_n hx hb dX0_put_21 rfl (lv_at hl 0 rfl) ?_
      refine va_get (D := (dC, dI)) (ci := 0) (v := .ref qw) (C := RX0) (T := TX0) (N := 13) hx hb hts hinT hown hK hP 0 rfl rfl 9 (by decide) (hts (.fieldLink RX0 23 "CodeBlocks" "waiting" "[I") (by decide +kernel)) (fun _ h9 => h9) rfl dX0_put_22 ?_
      refine lv_aload_n hx hb dX0_put_25 rfl (lv_at hl 0 rfl) ?_
      refine va_get (D := (dC, dI)) (ci := 0) (v := .int (x_wz u)) (C := RX0) (T := TX0) (N := 13) hx hb hts hinT hown hK hP 0 rfl rfl 10 (by decide) (hts (.fieldLink RX0 43 "CodeBlocks" "waitingSize" "I") (by decide +kernel)) (fun _ h9 => h9) rfl dX0_put_26 ?_
      refine lv_iload_n hx hb dX0_put_29 rfl (lv_at hl 1 rfl) ?_
      refine lv_sipush (v := 255) hx hb dX0_put_30 (by decide) ?_
      refine lv_iand hx hb dX0_put_33 ?_
      refine va_iast hx hb hK hP hD hS 4 0 rfl rfl (j_in3 (by decide) c_1 c_2) dX0_put_34 (fun H locs hP hD hS => ?_)
      have hP : va_P (dC, dI) vwCl [(qx, .inr (0, [.int (x_st u), .int (x_md u), .long (x_bt u), .int (x_cm u), .ref (x_hr u), .int (x_rs u), .ref (x_hv u), .int (x_vs u), .ref qc, .ref qw, .int (x_wz u), .ref qs, .int (x_sz u)])), (x_hr u, .inl (cI, 259, .inl (x_ro u))), (x_hv u, .inl (cI, 259, .inl (x_rc u))), (qc, .inl (cI, 5, .inl (x_cn u))), (qw, .inl (cI, 259, .inl (upd (x_wt u) ((x_wz u).toNatClampNeg) (a0 &&& 255)))), (qs, .inl (cI, 306, .inl (x_sn u)))] H := hP
      have hD : va_D A [(qx, .inr (0, [.int (x_st u), .int (x_md u), .long (x_bt u), .int (x_cm u), .ref (x_hr u), .int (x_rs u), .ref (x_hv u), .int (x_vs u), .ref qc, .ref qw, .int (x_wz u), .ref qs, .int (x_sz u)])), (x_hr u, .inl (cI, 259, .inl (x_ro u))), (x_hv u, .inl (cI, 259, .inl (x_rc u))), (qc, .inl (cI, 5, .inl (x_cn u))), (qw, .inl (cI, 259, .inl (upd (x_wt u) ((x_wz u).toNatClampNeg) (a0 &&& 255)))), (qs, .inl (cI, 306, .inl (x_sn u)))] := hD
      refine lv_aload_n hx hb dX0_put_35 rfl (lv_at hl 0 rfl) ?_
      refine lv_dup hx hb dX0_put_36 rfl ?_
      refine va_get (D := (dC, dI)) (ci := 0) (v := .int (x_wz u)) (C := RX0) (T := TX0) (N := 13) hx hb hts hinT hown hK hP 0 rfl rfl 10 (by decide) (hts (.fieldLink RX0 43 "CodeBlocks" "waitingSize" "I") (by decide +kernel)) (fun _ h9 => h9) rfl dX0_put_37 ?_
      refine lv_iconst (v := 1) hx hb dX0_put_40 (by decide) ?_
      refine lv_iadd hx hb dX0_put_41 ?_
      refine va_put (D := (dC, dI)) (ci := 0) (v := .int ((x_wz u) + 1)) (ty := .int) (C := RX0) (T := TX0) (N := 13) hx hb hts hinT tyX0 tyX0_ok nmX0 hown hK hP hD hS 0 rfl rfl 10 (by decide) (hts (.fieldLink RX0 43 "CodeBlocks" "waitingSize" "I") (by decide +kernel)) (fun _ h9 => h9) rfl (by decide +kernel) rfl rfl (Nat.le_of_ble_eq_true rfl) dX0_put_42 (fun H locs hP hD hS => ?_)
      have hP : va_P (dC, dI) vwCl [(qx, .inr (0, [.int (x_st u), .int (x_md u), .long (x_bt u), .int (x_cm u), .ref (x_hr u), .int (x_rs u), .ref (x_hv u), .int (x_vs u), .ref qc, .ref qw, .int ((x_wz u) + 1), .ref qs, .int (x_sz u)])), (x_hr u, .inl (cI, 259, .inl (x_ro u))), (x_hv u, .inl (cI, 259, .inl (x_rc u))), (qc, .inl (cI, 5, .inl (x_cn u))), (qw, .inl (cI, 259, .inl (upd (x_wt u) ((x_wz u).toNatClampNeg) (a0 &&& 255)))), (qs, .inl (cI, 306, .inl (x_sn u)))] H := hP
      have hD : va_D A [(qx, .inr (0, [.int (x_st u), .int (x_md u), .long (x_bt u), .int (x_cm u), .ref (x_hr u), .int (x_rs u), .ref (x_hv u), .int (x_vs u), .ref qc, .ref qw, .int ((x_wz u) + 1), .ref qs, .int (x_sz u)])), (x_hr u, .inl (cI, 259, .inl (x_ro u))), (x_hv u, .inl (cI, 259, .inl (x_rc u))), (qc, .inl (cI, 5, .inl (x_cn u))), (qw, .inl (cI, 259, .inl (upd (x_wt u) ((x_wz u).toNatClampNeg) (a0 &&& 255)))), (qs, .inl (cI, 306, .inl (x_sn u)))] := hD
      refine lv_aload_n hx hb dX0_put_45 rfl (lv_at hl 0 rfl) ?_
      refine va_get (D := (dC, dI)) (ci := 0) (v := .int ((x_wz u) + 1)) (C := RX0) (T := TX0) (N := 13) hx hb hts hinT hown hK hP 0 rfl rfl 10 (by decide) (hts (.fieldLink RX0 43 "CodeBlocks" "waitingSize" "I") (by decide +kernel)) (fun _ h9 => h9) rfl dX0_put_46 ?_
      have hP9 : va_P (dC, dI) vwCl (x_W qx qc qw qs cI (x_st u, x_md u, x_bt u, x_cm u, x_hr u, x_rs u, x_hv u, x_vs u, (x_wz u) + 1, x_sz u, x_ro u, x_rc u, x_cn u, upd (x_wt u) ((x_wz u).toNatClampNeg) (a0 &&& 255), x_sn u)) H := hP
      have hD9 : va_D A (x_W qx qc qw qs cI (x_st u, x_md u, x_bt u, x_cm u, x_hr u, x_rs u, x_hv u, x_vs u, (x_wz u) + 1, x_sz u, x_ro u, x_rc u, x_cn u, upd (x_wt u) ((x_wz u).toNatClampNeg) (a0 &&& 255), x_sn u)) := hD
      exact W.iret (v := (x_wz u) + 1) hx hb hr (fun t ht hW => ⟨⟨_, (x_st u, x_md u, x_bt u, x_cm u, x_hr u, x_rs u, x_hv u, x_vs u, (x_wz u) + 1, x_sz u, x_ro u, x_rc u, x_cn u, upd (x_wt u) ((x_wz u).toNatClampNeg) (a0 &&& 255), x_sn u), rfl, ⟨(by unfold x_put_r; rw [if_neg c_1, if_pos c_2]), (by unfold x_put; rw [if_neg c_1, if_pos c_2])⟩, by rw [ht]; exact hP9, va_K.moved hW.alike hK, hD9⟩, hS.F ht⟩) hS.2.2 dX0_put_49
    · refine lv_iconst (v := (-1)) hx hb dX0_put_19 (by decide) ?_
      have hP9 : va_P (dC, dI) vwCl (x_W qx qc qw qs cI u) s.heap := hP
      have hD9 : va_D A (x_W qx qc qw qs cI u) := hD
      exact W.iret (v := (-1)) hx hb hr (fun t ht hW => ⟨⟨_, u, rfl, ⟨(by unfold x_put_r; rw [if_neg c_1, if_neg c_2]), (by unfold x_put; rw [if_neg c_1, if_neg c_2])⟩, by rw [ht]; exact hP9, va_K.moved hW.alike hK, hD9⟩, hS.F ht⟩) hS.2.2 dX0_put_20

abbrev rmX0_turn : Room := { frames := 1, cells := 0, slots := 0, locals := 20 }
def x_turn (u : x_S) (b : Bool) : x_S := if (x_st u) = 0 then (if (j_b b) = 0 then u else (x_beginSearch u)) else (if (j_b b) = 1 then u else (if (j_b b) = 0 then (0, x_md u, x_bt u, x_cm u, x_hr u, x_rs u, x_hv u, x_vs u, x_wz u, x_sz u, x_ro u, x_rc u, x_cn u, x_wt u, x_sn u) else (x_beginSearch u)))
def x_turn_r (u : x_S) (b : Bool) : Int32 := if (x_st u) = 0 then (if (j_b b) = 0 then 0 else 1) else (if (j_b b) = 1 then 0 else (if (j_b b) = 0 then 1 else 1))
set_option maxHeartbeats 4000000 in
set_option maxRecDepth 100000 in
theorem kX0_turn (l : Launch) (dC : Nat → ClassId) (dI : Nat → Nat → Nat) (qx qc qw qs : Nat) (cI : ClassId) (sz : Nat) (u : x_S) (b : Bool) : Met l yX0_turn wsX0_turn rmX0_turn (va_Pc [.ref qx, .int (j_b b)] (fun U => U.heap.size = sz ∧ va_P (dC, dI) vwCl (x_W qx qc qw qs cI u) U.heap ∧ va_K (dC, dI) vwCl [(cI, .int)] U ∧ va_D (fun _ => True) (x_W qx qc qw qs cI u))) (va_Qi (fun r u2 => r = x_turn_r u b ∧ u2 = x_turn u b) (x_At dC dI (va_A (x_W qx qc qw qs cI u) sz) qx qc qw qs cI) (va_A (x_W qx qc qw qs cI u) sz)) 0 0 (va_A (x_W qx qc qw qs cI u) sz) := by
  refine Met.ofW (cc := cX0_turn) (maxL := 2) (ret := some .boolean) (by decide) rfl ?_
  intro p e s m args below meth c s₁ B hml hv
  obtain ⟨rfl, hsz, hP, hK, hD0⟩ := hv
  have hx := B.exec
  have hb := B.bytes
  have hr := B.returns
  have hts := atoms_spec (ws := wsX0_turn) B.pre
  have hown : s.vm.findClass RX0 = some m.cls := findClass_of_methodNamed B.named
  have hlocks := B.notSynchronized
  have hinT : ∀ w ∈ wsX00, w ∈ wsX0_turn := by decide +kernel
  subst hsz
  have hD := hD0.self (sz := s.heap.size)
  generalize hAe : va_A (x_W qx qc qw qs cI u) s.heap.size = A at hD ⊢
  have hA : ∀ q : Nat, s.heap.size ≤ q → A q := fun q h => by rw [← hAe]; exact Or.inr h
  have hS : va_S A s.heap s.heap [] := va_S.rf
  have hD : va_D A [(qx, .inr (0, [.int (x_st u), .int (x_md u), .long (x_bt u), .int (x_cm u), .ref (x_hr u), .int (x_rs u), .ref (x_hv u), .int (x_vs u), .ref qc, .ref qw, .int (x_wz u), .ref qs, .int (x_sz u)])), (x_hr u, .inl (cI, 259, .inl (x_ro u))), (x_hv u, .inl (cI, 259, .inl (x_rc u))), (qc, .inl (cI, 5, .inl (x_cn u))), (qw, .inl (cI, 259, .inl (x_wt u))), (qs, .inl (cI, 306, .inl (x_sn u)))] := hD
  have hP : va_P (dC, dI) vwCl [(qx, .inr (0, [.int (x_st u), .int (x_md u), .long (x_bt u), .int (x_cm u), .ref (x_hr u), .int (x_rs u), .ref (x_hv u), .int (x_vs u), .ref qc, .ref qw, .int (x_wz u), .ref qs, .int (x_sz u)])), (x_hr u, .inl (cI, 259, .inl (x_ro u))), (x_hv u, .inl (cI, 259, .inl (x_rc u))), (qc, .inl (cI, 5, .inl (x_cn u))), (qw, .inl (cI, 259, .inl (x_wt u))), (qs, .inl (cI, 306, .inl (x_sn u)))] s.heap := hP
  have hl := lv_entry ([.ref qx, .int (j_b b)]) (n := 2) (Nat.le_of_ble_eq_true rfl)
  rw [lg_entry_eq]
  generalize (lg_sl ([.ref qx, .int (j_b b)]) ++ List.replicate (2 - (lg_sl ([.ref qx, .int (j_b b)])).length) Slot.unset).toArray = ls at hl ⊢
  have hl : lv_has ls 2 [(0, .ref qx), (1, .int (j_b b))] := hl
  refine lv_iload_n hx hb dX0_turn_0 rfl (lv_at hl 1 rfl) ?_
  refine lv_aload_n hx hb dX0_turn_1 rfl (lv_at hl 0 rfl) ?_
  refine va_get (D := (dC, dI)) (ci := 0) (v := .int (x_st u)) (C := RX0) (T := TX0) (N := 13) hx hb hts hinT hown hK hP 0 rfl rfl 0 (by decide) (hts (.fieldLink RX0 9 "CodeBlocks" "state" "I") (by decide +kernel)) (fun _ h9 => h9) rfl dX0_turn_2 ?_
  refine lv_if_eq (tgt := 12) hx hb dX0_turn_5 (by decide) (fun c_1 => ?_) (fun c_1 => ?_)
  · refine lv_iconst (v := 0) hx hb dX0_turn_12 (by decide) ?_
    refine lv_icmp_ne (tgt := 18) hx hb dX0_turn_13 (by decide) (fun c_2 => ?_) (fun c_2 => ?_)
    · refine lv_iload_n hx hb dX0_turn_18 rfl (lv_at hl 1 rfl) ?_
      refine lv_if_eq (tgt := 29) hx hb dX0_turn_19 (by decide) (fun c_3 => absurd c_3 (c_2)) (fun c_3 => ?_)
      refine lv_aload_n hx hb dX0_turn_22 rfl (lv_at hl 0 rfl) ?_
      have hPc : va_P (dC, dI) vwCl (x_W qx qc qw qs cI u) s.heap := hP
      have hDc : va_D A (x_W qx qc qw qs cI u) := hD
      have hFc := va_free (wc := (x_W qx qc qw qs cI u)) hD hS hA [0, 1, 2, 3, 4, 5] rfl
      refine va_callv (va_runV (As := []) (rest := []) ⟨hx, hb, hml, hown, hts⟩ (kX0_beginSearch l dC dI qx qc qw qs cI s.heap.size u  ) (cwV 0 hts gX0_turn_X0_beginSearch rfl rfl rfl (by decide +kernel) ⟨Nat.le_of_ble_eq_true rfl, Nat.le_of_ble_eq_true rfl⟩) ⟨fun a U g mk q => by obtain ⟨q0, q1, qP, qK, qD⟩ := q; exact ⟨q0, q1, qP, va_K.moved (u := U) (U := U.calling g mk a) (Vm.Alike.refl U.vm) qK, qD⟩, va_recv hK hP (ci := 0) (q0 := 0) rfl rfl, fun U hU hW => ⟨rfl, by rw [hU], by rw [hU]; exact hPc, va_K.moved hW.alike hK, hDc.weaken (fun _ _ _ _ => trivial)⟩⟩ rfl rfl hl.1 rfl (lv_room (Nat.le_of_ble_eq_true rfl)) dX0_turn_23 ⟨Nat.le_of_ble_eq_true rfl, Nat.le_of_ble_eq_true rfl⟩) hS (fun q _ h => hFc q h) hFc (fun  u_4 t H1 locs ht hvm hu_4 hB hz1 hk1 hS => ?_)
      obtain ⟨hP1, -, hD1⟩ := hB
      rw [ht] at hP1
      have hP : va_P (dC, dI) vwCl [(qx, .inr (0, [.int (x_st u_4), .int (x_md u_4), .long (x_bt u_4), .int (x_cm u_4), .ref (x_hr u_4), .int (x_rs u_4), .ref (x_hv u_4), .int (x_vs u_4), .ref qc, .ref qw, .int (x_wz u_4), .ref qs, .int (x_sz u_4)])), (x_hr u_4, .inl (cI, 259, .inl (x_ro u_4))), (x_hv u_4, .inl (cI, 259, .inl (x_rc u_4))), (qc, .inl (cI, 5, .inl (x_cn u_4))), (qw, .inl (cI, 259, .inl (x_wt u_4))), (qs, .inl (cI, 306, .inl (x_sn u_4)))] H1 := hP1
      have hD : va_D A [(qx, .inr (0, [.int (x_st u_4), .int (x_md u_4), .long (x_bt u_4), .int (x_cm u_4), .ref (x_hr u_4), .int (x_rs u_4), .ref (x_hv u_4), .int (x_vs u_4), .ref qc, .ref qw, .int (x_wz u_4), .ref qs, .int (x_sz u_4)])), (x_hr u_4, .inl (cI, 259, .inl (x_ro u_4))), (x_hv u_4, .inl (cI, 259, .inl (x_rc u_4))), (qc, .inl (cI, 5, .inl (x_cn u_4))), (qw, .inl (cI, 259, .inl (x_wt u_4))), (qs, .inl (cI, 306, .inl (x_sn u_4)))] := hD1.weaken (fun k q _ h => hFc q.1 h)
      generalize H1 = H at hP hS ⊢
      refine lv_goto (tgt := 34) hx hb dX0_turn_26 (by decide) ?_
      refine lv_iconst (v := 1) hx hb dX0_turn_34 (by decide) ?_
      have hP9 : va_P (dC, dI) vwCl (x_W qx qc qw qs cI u_4) H := hP
      have hD9 : va_D A (x_W qx qc qw qs cI u_4) := hD
      exact W.zret (v := 1) hx hb hr (by first | rfl | decide) (fun t ht hW => ⟨⟨_, u_4, rfl, ⟨(by subst hu_4; unfold x_turn_r; rw [if_pos c_1, if_neg c_2]), (by subst hu_4; unfold x_turn; rw [if_pos c_1, if_neg c_2])⟩, by rw [ht]; exact hP9, va_K.moved hW.alike hK, hD9⟩, hS.F ht⟩) hS.2.2 dX0_turn_35
    · refine lv_iconst (v := 0) hx hb dX0_turn_16 (by decide) ?_
      have hP9 : va_P (dC, dI) vwCl (x_W qx qc qw qs cI u) s.heap := hP
      have hD9 : va_D A (x_W qx qc qw qs cI u) := hD
      exact W.zret (v := 0) hx hb hr (by first | rfl | decide) (fun t ht hW => ⟨⟨_, u, rfl, ⟨(by unfold x_turn_r; rw [if_pos c_1, if_pos c_2]), (by unfold x_turn; rw [if_pos c_1, if_pos c_2])⟩, by rw [ht]; exact hP9, va_K.moved hW.alike hK, hD9⟩, hS.F ht⟩) hS.2.2 dX0_turn_17
  · refine lv_iconst (v := 1) hx hb dX0_turn_8 (by decide) ?_
    refine lv_goto (tgt := 13) hx hb dX0_turn_9 (by decide) ?_
    refine lv_icmp_ne (tgt := 18) hx hb dX0_turn_13 (by decide) (fun c_5 => ?_) (fun c_5 => ?_)
    · refine lv_iload_n hx hb dX0_turn_18 rfl (lv_at hl 1 rfl) ?_
      refine lv_if_eq (tgt := 29) hx hb dX0_turn_19 (by decide) (fun c_6 => ?_) (fun c_6 => ?_)
      · refine lv_aload_n hx hb dX0_turn_29 rfl (lv_at hl 0 rfl) ?_
        refine lv_iconst (v := 0) hx hb dX0_turn_30 (by decide) ?_
        refine va_put (D := (dC, dI)) (ci := 0) (v := .int 0) (ty := .int) (C := RX0) (T := TX0) (N := 13) hx hb hts hinT tyX0 tyX0_ok nmX0 hown hK hP hD hS 0 rfl rfl 0 (by decide) (hts (.fieldLink RX0 9 "CodeBlocks" "state" "I") (by decide +kernel)) (fun _ h9 => h9) rfl (by decide +kernel) rfl rfl (Nat.le_of_ble_eq_true rfl) dX0_turn_31 (fun H locs hP hD hS => ?_)
        have hP : va_P (dC, dI) vwCl [(qx, .inr (0, [.int 0, .int (x_md u), .long (x_bt u), .int (x_cm u), .ref (x_hr u), .int (x_rs u), .ref (x_hv u), .int (x_vs u), .ref qc, .ref qw, .int (x_wz u), .ref qs, .int (x_sz u)])), (x_hr u, .inl (cI, 259, .inl (x_ro u))), (x_hv u, .inl (cI, 259, .inl (x_rc u))), (qc, .inl (cI, 5, .inl (x_cn u))), (qw, .inl (cI, 259, .inl (x_wt u))), (qs, .inl (cI, 306, .inl (x_sn u)))] H := hP
        have hD : va_D A [(qx, .inr (0, [.int 0, .int (x_md u), .long (x_bt u), .int (x_cm u), .ref (x_hr u), .int (x_rs u), .ref (x_hv u), .int (x_vs u), .ref qc, .ref qw, .int (x_wz u), .ref qs, .int (x_sz u)])), (x_hr u, .inl (cI, 259, .inl (x_ro u))), (x_hv u, .inl (cI, 259, .inl (x_rc u))), (qc, .inl (cI, 5, .inl (x_cn u))), (qw, .inl (cI, 259, .inl (x_wt u))), (qs, .inl (cI, 306, .inl (x_sn u)))] := hD
        refine lv_iconst (v := 1) hx hb dX0_turn_34 (by decide) ?_
        have hP9 : va_P (dC, dI) vwCl (x_W qx qc qw qs cI (0, x_md u, x_bt u, x_cm u, x_hr u, x_rs u, x_hv u, x_vs u, x_wz u, x_sz u, x_ro u, x_rc u, x_cn u, x_wt u, x_sn u)) H := hP
        have hD9 : va_D A (x_W qx qc qw qs cI (0, x_md u, x_bt u, x_cm u, x_hr u, x_rs u, x_hv u, x_vs u, x_wz u, x_sz u, x_ro u, x_rc u, x_cn u, x_wt u, x_sn u)) := hD
        exact W.zret (v := 1) hx hb hr (by first | rfl | decide) (fun t ht hW => ⟨⟨_, (0, x_md u, x_bt u, x_cm u, x_hr u, x_rs u, x_hv u, x_vs u, x_wz u, x_sz u, x_ro u, x_rc u, x_cn u, x_wt u, x_sn u), rfl, ⟨(by unfold x_turn_r; rw [if_neg c_1, if_neg c_5, if_pos c_6]), (by unfold x_turn; rw [if_neg c_1, if_neg c_5, if_pos c_6])⟩, by rw [ht]; exact hP9, va_K.moved hW.alike hK, hD9⟩, hS.F ht⟩) hS.2.2 dX0_turn_35
      · refine lv_aload_n hx hb dX0_turn_22 rfl (lv_at hl 0 rfl) ?_
        have hPc : va_P (dC, dI) vwCl (x_W qx qc qw qs cI u) s.heap := hP
        have hDc : va_D A (x_W qx qc qw qs cI u) := hD
        have hFc := va_free (wc := (x_W qx qc qw qs cI u)) hD hS hA [0, 1, 2, 3, 4, 5] rfl
        refine va_callv (va_runV (As := []) (rest := []) ⟨hx, hb, hml, hown, hts⟩ (kX0_beginSearch l dC dI qx qc qw qs cI s.heap.size u  ) (cwV 0 hts gX0_turn_X0_beginSearch rfl rfl rfl (by decide +kernel) ⟨Nat.le_of_ble_eq_true rfl, Nat.le_of_ble_eq_true rfl⟩) ⟨fun a U g mk q => by obtain ⟨q0, q1, qP, qK, qD⟩ := q; exact ⟨q0, q1, qP, va_K.moved (u := U) (U := U.calling g mk a) (Vm.Alike.refl U.vm) qK, qD⟩, va_recv hK hP (ci := 0) (q0 := 0) rfl rfl, fun U hU hW => ⟨rfl, by rw [hU], by rw [hU]; exact hPc, va_K.moved hW.alike hK, hDc.weaken (fun _ _ _ _ => trivial)⟩⟩ rfl rfl hl.1 rfl (lv_room (Nat.le_of_ble_eq_true rfl)) dX0_turn_23 ⟨Nat.le_of_ble_eq_true rfl, Nat.le_of_ble_eq_true rfl⟩) hS (fun q _ h => hFc q h) hFc (fun  u_7 t H1 locs ht hvm hu_7 hB hz1 hk1 hS => ?_)
        obtain ⟨hP1, -, hD1⟩ := hB
        rw [ht] at hP1
        have hP : va_P (dC, dI) vwCl [(qx, .inr (0, [.int (x_st u_7), .int (x_md u_7), .long (x_bt u_7), .int (x_cm u_7), .ref (x_hr u_7), .int (x_rs u_7), .ref (x_hv u_7), .int (x_vs u_7), .ref qc, .ref qw, .int (x_wz u_7), .ref qs, .int (x_sz u_7)])), (x_hr u_7, .inl (cI, 259, .inl (x_ro u_7))), (x_hv u_7, .inl (cI, 259, .inl (x_rc u_7))), (qc, .inl (cI, 5, .inl (x_cn u_7))), (qw, .inl (cI, 259, .inl (x_wt u_7))), (qs, .inl (cI, 306, .inl (x_sn u_7)))] H1 := hP1
        have hD : va_D A [(qx, .inr (0, [.int (x_st u_7), .int (x_md u_7), .long (x_bt u_7), .int (x_cm u_7), .ref (x_hr u_7), .int (x_rs u_7), .ref (x_hv u_7), .int (x_vs u_7), .ref qc, .ref qw, .int (x_wz u_7), .ref qs, .int (x_sz u_7)])), (x_hr u_7, .inl (cI, 259, .inl (x_ro u_7))), (x_hv u_7, .inl (cI, 259, .inl (x_rc u_7))), (qc, .inl (cI, 5, .inl (x_cn u_7))), (qw, .inl (cI, 259, .inl (x_wt u_7))), (qs, .inl (cI, 306, .inl (x_sn u_7)))] := hD1.weaken (fun k q _ h => hFc q.1 h)
        generalize H1 = H at hP hS ⊢
        refine lv_goto (tgt := 34) hx hb dX0_turn_26 (by decide) ?_
        refine lv_iconst (v := 1) hx hb dX0_turn_34 (by decide) ?_
        have hP9 : va_P (dC, dI) vwCl (x_W qx qc qw qs cI u_7) H := hP
        have hD9 : va_D A (x_W qx qc qw qs cI u_7) := hD
        exact W.zret (v := 1) hx hb hr (by first | rfl | decide) (fun t ht hW => ⟨⟨_, u_7, rfl, ⟨(by subst hu_7; unfold x_turn_r; rw [if_neg c_1, if_neg c_5, if_neg c_6]), (by subst hu_7; unfold x_turn; rw [if_neg c_1, if_neg c_5, if_neg c_6])⟩, by rw [ht]; exact hP9, va_K.moved hW.alike hK, hD9⟩, hS.F ht⟩) hS.2.2 dX0_turn_35
    · refine lv_iconst (v := 0) hx hb dX0_turn_16 (by decide) ?_
      have hP9 : va_P (dC, dI) vwCl (x_W qx qc qw qs cI u) s.heap := hP
      have hD9 : va_D A (x_W qx qc qw qs cI u) := hD
      exact W.zret (v := 0) hx hb hr (by first | rfl | decide) (fun t ht hW => ⟨⟨_, u, rfl, ⟨(by unfold x_turn_r; rw [if_neg c_1, if_pos c_5]), (by unfold x_turn; rw [if_neg c_1, if_pos c_5])⟩, by rw [ht]; exact hP9, va_K.moved hW.alike hK, hD9⟩, hS.F ht⟩) hS.2.2 dX0_turn_17

abbrev rmX0_mending : Room := { frames := 0, cells := 0, slots := 0, locals := 0 }
def x_mending (u : x_S) (b : Bool) : x_S := (x_st u, j_b b, x_bt u, x_cm u, x_hr u, x_rs u, x_hv u, x_vs u, x_wz u, x_sz u, x_ro u, x_rc u, x_cn u, x_wt u, x_sn u)
set_option maxHeartbeats 4000000 in
set_option maxRecDepth 100000 in
theorem kX0_mending (l : Launch) (dC : Nat → ClassId) (dI : Nat → Nat → Nat) (qx qc qw qs : Nat) (cI : ClassId) (sz : Nat) (u : x_S) (b : Bool) : Met l yX0_mending wsX0_mending rmX0_mending (va_Pc [.ref qx, .int (j_b b)] (fun U => U.heap.size = sz ∧ va_P (dC, dI) vwCl (x_W qx qc qw qs cI u) U.heap ∧ va_K (dC, dI) vwCl [(cI, .int)] U ∧ va_D (fun _ => True) (x_W qx qc qw qs cI u))) (va_Qv (fun u2 => u2 = x_mending u b) (x_At dC dI (va_A (x_W qx qc qw qs cI u) sz) qx qc qw qs cI) (va_A (x_W qx qc qw qs cI u) sz)) 0 0 (va_A (x_W qx qc qw qs cI u) sz) := by
  refine Met.ofW (cc := cX0_mending) (maxL := 2) (ret := none) (by decide) rfl ?_
  intro p e s m args below meth c s₁ B hml hv
  obtain ⟨rfl, hsz, hP, hK, hD0⟩ := hv
  have hx := B.exec
  have hb := B.bytes
  have hr := B.returns
  have hts := atoms_spec (ws := wsX0_mending) B.pre
  have hown : s.vm.findClass RX0 = some m.cls := findClass_of_methodNamed B.named
  have hlocks := B.notSynchronized
  have hinT : ∀ w ∈ wsX00, w ∈ wsX0_mending := by decide +kernel
  subst hsz
  have hD := hD0.self (sz := s.heap.size)
  generalize hAe : va_A (x_W qx qc qw qs cI u) s.heap.size = A at hD ⊢
  have hA : ∀ q : Nat, s.heap.size ≤ q → A q := fun q h => by rw [← hAe]; exact Or.inr h
  have hS : va_S A s.heap s.heap [] := va_S.rf
  have hD : va_D A [(qx, .inr (0, [.int (x_st u), .int (x_md u), .long (x_bt u), .int (x_cm u), .ref (x_hr u), .int (x_rs u), .ref (x_hv u), .int (x_vs u), .ref qc, .ref qw, .int (x_wz u), .ref qs, .int (x_sz u)])), (x_hr u, .inl (cI, 259, .inl (x_ro u))), (x_hv u, .inl (cI, 259, .inl (x_rc u))), (qc, .inl (cI, 5, .inl (x_cn u))), (qw, .inl (cI, 259, .inl (x_wt u))), (qs, .inl (cI, 306, .inl (x_sn u)))] := hD
  have hP : va_P (dC, dI) vwCl [(qx, .inr (0, [.int (x_st u), .int (x_md u), .long (x_bt u), .int (x_cm u), .ref (x_hr u), .int (x_rs u), .ref (x_hv u), .int (x_vs u), .ref qc, .ref qw, .int (x_wz u), .ref qs, .int (x_sz u)])), (x_hr u, .inl (cI, 259, .inl (x_ro u))), (x_hv u, .inl (cI, 259, .inl (x_rc u))), (qc, .inl (cI, 5, .inl (x_cn u))), (qw, .inl (cI, 259, .inl (x_wt u))), (qs, .inl (cI, 306, .inl (x_sn u)))] s.heap := hP
  have hl := lv_entry ([.ref qx, .int (j_b b)]) (n := 2) (Nat.le_of_ble_eq_true rfl)
  rw [lg_entry_eq]
  generalize (lg_sl ([.ref qx, .int (j_b b)]) ++ List.replicate (2 - (lg_sl ([.ref qx, .int (j_b b)])).length) Slot.unset).toArray = ls at hl ⊢
  have hl : lv_has ls 2 [(0, .ref qx), (1, .int (j_b b))] := hl
  refine lv_aload_n hx hb dX0_mending_0 rfl (lv_at hl 0 rfl) ?_
  refine lv_iload_n hx hb dX0_mending_1 rfl (lv_at hl 1 rfl) ?_
  refine va_put (D := (dC, dI)) (ci := 0) (v := .int (j_b b)) (ty := .boolean) (C := RX0) (T := TX0) (N := 13) hx hb hts hinT tyX0 tyX0_ok nmX0 hown hK hP hD hS 0 rfl rfl 1 (by decide) (hts (.fieldLink RX0 32 "CodeBlocks" "mends" "Z") (by decide +kernel)) (fun _ h9 => h9) rfl (by decide +kernel) (by cases b <;> rfl) (by cases b <;> rfl) (Nat.le_of_ble_eq_true rfl) dX0_mending_2 (fun H locs hP hD hS => ?_)
  have hP : va_P (dC, dI) vwCl [(qx, .inr (0, [.int (x_st u), .int (j_b b), .long (x_bt u), .int (x_cm u), .ref (x_hr u), .int (x_rs u), .ref (x_hv u), .int (x_vs u), .ref qc, .ref qw, .int (x_wz u), .ref qs, .int (x_sz u)])), (x_hr u, .inl (cI, 259, .inl (x_ro u))), (x_hv u, .inl (cI, 259, .inl (x_rc u))), (qc, .inl (cI, 5, .inl (x_cn u))), (qw, .inl (cI, 259, .inl (x_wt u))), (qs, .inl (cI, 306, .inl (x_sn u)))] H := hP
  have hD : va_D A [(qx, .inr (0, [.int (x_st u), .int (j_b b), .long (x_bt u), .int (x_cm u), .ref (x_hr u), .int (x_rs u), .ref (x_hv u), .int (x_vs u), .ref qc, .ref qw, .int (x_wz u), .ref qs, .int (x_sz u)])), (x_hr u, .inl (cI, 259, .inl (x_ro u))), (x_hv u, .inl (cI, 259, .inl (x_rc u))), (qc, .inl (cI, 5, .inl (x_cn u))), (qw, .inl (cI, 259, .inl (x_wt u))), (qs, .inl (cI, 306, .inl (x_sn u)))] := hD
  have hP9 : va_P (dC, dI) vwCl (x_W qx qc qw qs cI (x_st u, j_b b, x_bt u, x_cm u, x_hr u, x_rs u, x_hv u, x_vs u, x_wz u, x_sz u, x_ro u, x_rc u, x_cn u, x_wt u, x_sn u)) H := hP
  have hD9 : va_D A (x_W qx qc qw qs cI (x_st u, j_b b, x_bt u, x_cm u, x_hr u, x_rs u, x_hv u, x_vs u, x_wz u, x_sz u, x_ro u, x_rc u, x_cn u, x_wt u, x_sn u)) := hD
  exact W.vret hx hb hr (fun t ht hW => ⟨⟨(x_st u, j_b b, x_bt u, x_cm u, x_hr u, x_rs u, x_hv u, x_vs u, x_wz u, x_sz u, x_ro u, x_rc u, x_cn u, x_wt u, x_sn u), rfl, (rfl), by rw [ht]; exact hP9, va_K.moved hW.alike hK, hD9⟩, hS.F ht⟩) hS.2.2 dX0_mending_5
end
section
abbrev rmX0_fillLastBlock : Room := { frames := 1, cells := 0, slots := 0, locals := 21 }
def x_flF : Nat → x_S → x_S
  | 0, u => u
  | n + 1, u => if x_wz u - x_wz u / 7 * 7 = 0 then u else x_flF n (x_put u 85)
set_option maxHeartbeats 4000000 in
set_option maxRecDepth 100000 in
theorem lpX0_fillLastBlock {p : Program} {l : Launch} {e : Env} {s : State} {m : MethodId} {args : Array Value} {below : List Frame} {meth : Method} {c : Code} {Q : State → Prop} (dC : Nat → ClassId) (dI : Nat → Nat → Nat) (qx qc qw qs : Nat) (cI : ClassId) (hx : p.tables.exec = Jvm.exec) (hb : c.code = cX0_fillLastBlock) (hml : c.maxLocals = 2) (hown : s.vm.findClass RX0 = some m.cls) (hts : ∀ w ∈ wsX0_fillLastBlock, w.before args s = true) (A : Nat → Prop) (hA : ∀ q : Nat, s.heap.size ≤ q → A q) (hK : va_K (dC, dI) vwCl [(cI, .int)] s) : ∀ (n : Nat) (u : x_S) (k : Nat) (H : Heap) (locs : List Loc) (ls : Array Slot), k + n = 7 → va_P (dC, dI) vwCl (x_W qx qc qw qs cI u) H → va_D A (x_W qx qc qw qs cI u) → va_S A s.heap H locs → lv_has ls 2 [(0, .ref qx), (1, .int (nI k))] → (∀ (H : Heap) (locs : List Loc) (ls : Array Slot), va_P (dC, dI) vwCl (x_W qx qc qw qs cI (x_flF n u)) H → va_D A (x_W qx qc qw qs cI (x_flF n u)) → va_S A s.heap H locs → lv_has ls 2 [(0, .ref qx)] → W p l e (headSpec wsX0_fillLastBlock rmX0_fillLastBlock).room s m args below meth c H locs 0 0 Q (F0 m 31 ls [])) → W p l e (headSpec wsX0_fillLastBlock rmX0_fillLastBlock).room s m args below meth c H locs 0 0 Q (F0 m 2 ls []) := by
  have hinT : ∀ w ∈ wsX00, w ∈ wsX0_fillLastBlock := by decide +kernel
  intro n
  induction n with
  | zero =>
    intro u k H locs ls hn hP hD hS hl kk
    have hk : k = 7 := by omega
    subst hk
    have hP : va_P (dC, dI) vwCl [(qx, .inr (0, [.int (x_st u), .int (x_md u), .long (x_bt u), .int (x_cm u), .ref (x_hr u), .int (x_rs u), .ref (x_hv u), .int (x_vs u), .ref qc, .ref qw, .int (x_wz u), .ref qs, .int (x_sz u)])), (x_hr u, .inl (cI, 259, .inl (x_ro u))), (x_hv u, .inl (cI, 259, .inl (x_rc u))), (qc, .inl (cI, 5, .inl (x_cn u))), (qw, .inl (cI, 259, .inl (x_wt u))), (qs, .inl (cI, 306, .inl (x_sn u)))] H := hP
    have hD : va_D A [(qx, .inr (0, [.int (x_st u), .int (x_md u), .long (x_bt u), .int (x_cm u), .ref (x_hr u), .int (x_rs u), .ref (x_hv u), .int (x_vs u), .ref qc, .ref qw, .int (x_wz u), .ref qs, .int (x_sz u)])), (x_hr u, .inl (cI, 259, .inl (x_ro u))), (x_hv u, .inl (cI, 259, .inl (x_rc u))), (qc, .inl (cI, 5, .inl (x_cn u))), (qw, .inl (cI, 259, .inl (x_wt u))), (qs, .inl (cI, 306, .inl (x_sn u)))] := hD
    have hl : lv_has ls 2 [(0, .ref qx), (1, .int (nI 7))] := hl
    refine lv_iload_n hx hb dX0_fillLastBlock_2 rfl (lv_at hl 1 rfl) ?_
    refine lv_bipush (v := 7) hx hb dX0_fillLastBlock_3 (by decide) ?_
    refine lv_icmp_ge (tgt := 31) hx hb dX0_fillLastBlock_5 (by decide) (fun c_1 => ?_) (fun c_1 => absurd (by decide) c_1)
    exact kk H locs ls hP hD hS (lv_sub hl [0] rfl)
  | succ n ih =>
    intro u k H locs ls hn hP hD hS hl kk
    have hP : va_P (dC, dI) vwCl [(qx, .inr (0, [.int (x_st u), .int (x_md u), .long (x_bt u), .int (x_cm u), .ref (x_hr u), .int (x_rs u), .ref (x_hv u), .int (x_vs u), .ref qc, .ref qw, .int (x_wz u), .ref qs, .int (x_sz u)])), (x_hr u, .inl (cI, 259, .inl (x_ro u))), (x_hv u, .inl (cI, 259, .inl (x_rc u))), (qc, .inl (cI, 5, .inl (x_cn u))), (qw, .inl (cI, 259, .inl (x_wt u))), (qs, .inl (cI, 306, .inl (x_sn u)))] H := hP
    have hD : va_D A [(qx, .inr (0, [.int (x_st u), .int (x_md u), .long (x_bt u), .int (x_cm u), .ref (x_hr u), .int (x_rs u), .ref (x_hv u), .int (x_vs u), .ref qc, .ref qw, .int (x_wz u), .ref qs, .int (x_sz u)])), (x_hr u, .inl (cI, 259, .inl (x_ro u))), (x_hv u, .inl (cI, 259, .inl (x_rc u))), (qc, .inl (cI, 5, .inl (x_cn u))), (qw, .inl (cI, 259, .inl (x_wt u))), (qs, .inl (cI, 306, .inl (x_sn u)))] := hD
    have hl : lv_has ls 2 [(0, .ref qx), (1, .int (nI k))] := hl
    refine lv_iload_n hx hb dX0_fillLastBlock_2 rfl (lv_at hl 1 rfl) ?_
    refine lv_bipush (v := 7) hx hb dX0_fillLastBlock_3 (by decide) ?_
    refine lv_icmp_ge (tgt := 31) hx hb dX0_fillLastBlock_5 (by decide) (fun c_1 => absurd c_1 (show ¬ nI 7 ≤ nI k from nI_ge (by omega) (by decide))) (fun c_1 => ?_)
    refine lv_aload_n hx hb dX0_fillLastBlock_8 rfl (lv_at hl 0 rfl) ?_
    refine va_get (D := (dC, dI)) (ci := 0) (v := .int (x_wz u)) (C := RX0) (T := TX0) (N := 13) hx hb hts hinT hown hK hP 0 rfl rfl 10 (by decide) (hts (.fieldLink RX0 43 "CodeBlocks" "waitingSize" "I") (by decide +kernel)) (fun _ h9 => h9) rfl dX0_fillLastBlock_9 ?_
    refine lv_bipush (v := 7) hx hb dX0_fillLastBlock_12 (by decide) ?_
    refine lv_irem hx hb dX0_fillLastBlock_14 (by decide) ?_
    refine lv_if_eq (tgt := 31) hx hb dX0_fillLastBlock_15 (by decide) (fun c_2 => ?_) (fun c_2 => ?_)
    · have eF : x_flF (n + 1) u = u := by rw [x_flF, if_pos c_2]
      exact kk H locs ls (by rw [eF]; exact hP) (by rw [eF]; exact hD) hS (by exact lv_sub hl [0] rfl)
    · refine lv_aload_n hx hb dX0_fillLastBlock_18 rfl (lv_at hl 0 rfl) ?_
      refine lv_bipush (v := 85) hx hb dX0_fillLastBlock_19 (by decide) ?_
      have hPc : va_P (dC, dI) vwCl (x_W qx qc qw qs cI u) H := hP
      have hDc : va_D A (x_W qx qc qw qs cI u) := hD
      have hFc := va_free (wc := (x_W qx qc qw qs cI u)) hD hS hA [0, 1, 2, 3, 4, 5] rfl
      refine va_calli (va_runV (As := [.int 85]) (rest := []) ⟨hx, hb, hml, hown, hts⟩ (kX0_put l dC dI qx qc qw qs cI H.size u 85 ) (cwV 1 hts gX0_fillLastBlock_X0_put rfl rfl rfl (by decide +kernel) ⟨Nat.le_of_ble_eq_true rfl, Nat.le_of_ble_eq_true rfl⟩) ⟨fun a U g mk q => by obtain ⟨q0, q1, qP, qK, qD⟩ := q; exact ⟨q0, q1, qP, va_K.moved (u := U) (U := U.calling g mk a) (Vm.Alike.refl U.vm) qK, qD⟩, va_recv hK hP (ci := 0) (q0 := 0) rfl rfl, fun U hU hW => ⟨rfl, by rw [hU], by rw [hU]; exact hPc, va_K.moved hW.alike hK, hDc.weaken (fun _ _ _ _ => trivial)⟩⟩ rfl rfl hl.1 rfl (lv_room (Nat.le_of_ble_eq_true rfl)) dX0_fillLastBlock_21 ⟨Nat.le_of_ble_eq_true rfl, Nat.le_of_ble_eq_true rfl⟩) hS (fun q _ h => hFc q h) hFc (fun r_4 u_3 t H1 locs ht hvm hu_3 hB hz1 hk1 hS => ?_)
      obtain ⟨hP1, -, hD1⟩ := hB
      rw [ht] at hP1
      obtain ⟨hr_4, hu_3⟩ := hu_3
      subst hr_4
      have hP : va_P (dC, dI) vwCl [(qx, .inr (0, [.int (x_st u_3), .int (x_md u_3), .long (x_bt u_3), .int (x_cm u_3), .ref (x_hr u_3), .int (x_rs u_3), .ref (x_hv u_3), .int (x_vs u_3), .ref qc, .ref qw, .int (x_wz u_3), .ref qs, .int (x_sz u_3)])), (x_hr u_3, .inl (cI, 259, .inl (x_ro u_3))), (x_hv u_3, .inl (cI, 259, .inl (x_rc u_3))), (qc, .inl (cI, 5, .inl (x_cn u_3))), (qw, .inl (cI, 259, .inl (x_wt u_3))), (qs, .inl (cI, 306, .inl (x_sn u_3)))] H1 := hP1
      have hD : va_D A [(qx, .inr (0, [.int (x_st u_3), .int (x_md u_3), .long (x_bt u_3), .int (x_cm u_3), .ref (x_hr u_3), .int (x_rs u_3), .ref (x_hv u_3), .int (x_vs u_3), .ref qc, .ref qw, .int (x_wz u_3), .ref qs, .int (x_sz u_3)])), (x_hr u_3, .inl (cI, 259, .inl (x_ro u_3))), (x_hv u_3, .inl (cI, 259, .inl (x_rc u_3))), (qc, .inl (cI, 5, .inl (x_cn u_3))), (qw, .inl (cI, 259, .inl (x_wt u_3))), (qs, .inl (cI, 306, .inl (x_sn u_3)))] := hD1.weaken (fun k q _ h => hFc q.1 h)
      generalize H1 = H at hP hS ⊢
      refine lv_pop hx hb dX0_fillLastBlock_24 rfl ?_
      refine lv_iinc (v := nI (k + 1)) (lv' := [(1, .int (nI (k + 1))), (0, .ref qx)]) hx hb dX0_fillLastBlock_25 hl (k := 1) rfl (j_inc k 1) (by decide) rfl (fun ls hl => ?_)
      refine lv_goto (tgt := 2) hx hb dX0_fillLastBlock_28 (by decide) ?_
      subst hu_3
      have eF : x_flF (n + 1) u = x_flF n (x_put u 85) := by rw [x_flF, if_neg c_2]
      exact ih (x_put u 85) (k + 1) H locs ls (by omega) hP hD hS (lv_sub hl [1, 0] rfl) (fun H locs ls hP hD hS hl => kk H locs ls (by rw [eF]; exact hP) (by rw [eF]; exact hD) hS (by exact hl))
def x_fillLastBlock (u : x_S)  : x_S := (x_flF 6 u)
set_option maxHeartbeats 4000000 in
set_option maxRecDepth 100000 in
theorem kX0_fillLastBlock (l : Launch) (dC : Nat → ClassId) (dI : Nat → Nat → Nat) (qx qc qw qs : Nat) (cI : ClassId) (sz : Nat) (u : x_S)  : Met l yX0_fillLastBlock wsX0_fillLastBlock rmX0_fillLastBlock (va_Pc [.ref qx] (fun U => U.heap.size = sz ∧ va_P (dC, dI) vwCl (x_W qx qc qw qs cI u) U.heap ∧ va_K (dC, dI) vwCl [(cI, .int)] U ∧ va_D (fun _ => True) (x_W qx qc qw qs cI u))) (va_Qv (fun u2 => u2 = x_fillLastBlock u) (x_At dC dI (va_A (x_W qx qc qw qs cI u) sz) qx qc qw qs cI) (va_A (x_W qx qc qw qs cI u) sz)) 0 0 (va_A (x_W qx qc qw qs cI u) sz) := by
  refine Met.ofW (cc := cX0_fillLastBlock) (maxL := 2) (ret := none) (by decide) rfl ?_
  intro p e s m args below meth c s₁ B hml hv
  obtain ⟨rfl, hsz, hP, hK, hD0⟩ := hv
  have hx := B.exec
  have hb := B.bytes
  have hr := B.returns
  have hts := atoms_spec (ws := wsX0_fillLastBlock) B.pre
  have hown : s.vm.findClass RX0 = some m.cls := findClass_of_methodNamed B.named
  have hlocks := B.notSynchronized
  have hinT : ∀ w ∈ wsX00, w ∈ wsX0_fillLastBlock := by decide +kernel
  subst hsz
  have hD := hD0.self (sz := s.heap.size)
  generalize hAe : va_A (x_W qx qc qw qs cI u) s.heap.size = A at hD ⊢
  have hA : ∀ q : Nat, s.heap.size ≤ q → A q := fun q h => by rw [← hAe]; exact Or.inr h
  have hS : va_S A s.heap s.heap [] := va_S.rf
  have hD : va_D A [(qx, .inr (0, [.int (x_st u), .int (x_md u), .long (x_bt u), .int (x_cm u), .ref (x_hr u), .int (x_rs u), .ref (x_hv u), .int (x_vs u), .ref qc, .ref qw, .int (x_wz u), .ref qs, .int (x_sz u)])), (x_hr u, .inl (cI, 259, .inl (x_ro u))), (x_hv u, .inl (cI, 259, .inl (x_rc u))), (qc, .inl (cI, 5, .inl (x_cn u))), (qw, .inl (cI, 259, .inl (x_wt u))), (qs, .inl (cI, 306, .inl (x_sn u)))] := hD
  have hP : va_P (dC, dI) vwCl [(qx, .inr (0, [.int (x_st u), .int (x_md u), .long (x_bt u), .int (x_cm u), .ref (x_hr u), .int (x_rs u), .ref (x_hv u), .int (x_vs u), .ref qc, .ref qw, .int (x_wz u), .ref qs, .int (x_sz u)])), (x_hr u, .inl (cI, 259, .inl (x_ro u))), (x_hv u, .inl (cI, 259, .inl (x_rc u))), (qc, .inl (cI, 5, .inl (x_cn u))), (qw, .inl (cI, 259, .inl (x_wt u))), (qs, .inl (cI, 306, .inl (x_sn u)))] s.heap := hP
  have hl := lv_entry ([.ref qx]) (n := 2) (Nat.le_of_ble_eq_true rfl)
  rw [lg_entry_eq]
  generalize (lg_sl ([.ref qx]) ++ List.replicate (2 - (lg_sl ([.ref qx])).length) Slot.unset).toArray = ls at hl ⊢
  have hl : lv_has ls 2 [(0, .ref qx)] := hl
  refine lv_iconst (v := 1) hx hb dX0_fillLastBlock_0 (by decide) ?_
  refine lv_istore_n (lv' := [(1, .int 1), (0, .ref qx)]) hx hb dX0_fillLastBlock_1 rfl hl (by decide) rfl (fun ls hl => ?_)
  refine lpX0_fillLastBlock (l := l) dC dI qx qc qw qs cI  hx hb hml hown hts A hA hK  6 u 1 s.heap [] ls rfl hP hD hS (lv_sub hl [1, 0] rfl) (fun H locs ls hP hD hS hl => ?_)
  obtain ⟨v_1, hv_1⟩ : ∃ z, z = x_flF 6 u := ⟨_, rfl⟩
  rw [← hv_1] at hP hD
  have hP : va_P (dC, dI) vwCl [(qx, .inr (0, [.int (x_st v_1), .int (x_md v_1), .long (x_bt v_1), .int (x_cm v_1), .ref (x_hr v_1), .int (x_rs v_1), .ref (x_hv v_1), .int (x_vs v_1), .ref qc, .ref qw, .int (x_wz v_1), .ref qs, .int (x_sz v_1)])), (x_hr v_1, .inl (cI, 259, .inl (x_ro v_1))), (x_hv v_1, .inl (cI, 259, .inl (x_rc v_1))), (qc, .inl (cI, 5, .inl (x_cn v_1))), (qw, .inl (cI, 259, .inl (x_wt v_1))), (qs, .inl (cI, 306, .inl (x_sn v_1)))] H := hP
  have hD : va_D A [(qx, .inr (0, [.int (x_st v_1), .int (x_md v_1), .long (x_bt v_1), .int (x_cm v_1), .ref (x_hr v_1), .int (x_rs v_1), .ref (x_hv v_1), .int (x_vs v_1), .ref qc, .ref qw, .int (x_wz v_1), .ref qs, .int (x_sz v_1)])), (x_hr v_1, .inl (cI, 259, .inl (x_ro v_1))), (x_hv v_1, .inl (cI, 259, .inl (x_rc v_1))), (qc, .inl (cI, 5, .inl (x_cn v_1))), (qw, .inl (cI, 259, .inl (x_wt v_1))), (qs, .inl (cI, 306, .inl (x_sn v_1)))] := hD
  have hP9 : va_P (dC, dI) vwCl (x_W qx qc qw qs cI v_1) H := hP
  have hD9 : va_D A (x_W qx qc qw qs cI v_1) := hD
  exact W.vret hx hb hr (fun t ht hW => ⟨⟨v_1, rfl, (by subst hv_1; rfl), by rw [ht]; exact hP9, va_K.moved hW.alike hK, hD9⟩, hS.F ht⟩) hS.2.2 dX0_fillLastBlock_31

abbrev rmX0_waitingData : Room := { frames := 0, cells := 0, slots := 0, locals := 0 }
def x_wdF (u : x_S) : Nat → Nat → Int64 → Int64
  | 0, _, d => d
  | n + 1, j, d => x_wdF u n (j + 1) ((j_lshl d 8) ||| (x_wt u j).toInt64)
set_option maxHeartbeats 4000000 in
set_option maxRecDepth 100000 in
theorem lpX0_waitingData {p : Program} {l : Launch} {e : Env} {s : State} {m : MethodId} {args : Array Value} {below : List Frame} {meth : Method} {c : Code} {H : Heap} {locs : List Loc} {Q : State → Prop} (dC : Nat → ClassId) (dI : Nat → Nat → Nat) (qx qc qw qs : Nat) (cI : ClassId) (k : Nat) (hk : k ≤ 252) (hx : p.tables.exec = Jvm.exec) (hb : c.code = cX0_waitingData) (hml : c.maxLocals = 5) (hown : s.vm.findClass RX0 = some m.cls) (hts : ∀ w ∈ wsX0_waitingData, w.before args s = true) (u : x_S) (hP : va_P (dC, dI) vwCl (x_W qx qc qw qs cI u) H) (hK : va_K (dC, dI) vwCl [(cI, .int)] s) : ∀ (n : Nat) (j : Nat) (d : Int64) (ls : Array Slot), j + n = k + 7 → lv_has ls 5 [(0, .ref qx), (1, .int (nI k)), (2, .long d), (4, .int (nI j))] → (∀ (ls : Array Slot), lv_has ls 5 [(2, .long (x_wdF u n j d))] → W p l e (headSpec wsX0_waitingData rmX0_waitingData).room s m args below meth c H locs 0 0 Q (F0 m 49 ls [])) → W p l e (headSpec wsX0_waitingData rmX0_waitingData).room s m args below meth c H locs 0 0 Q (F0 m 5 ls []) := by
  have hinT : ∀ w ∈ wsX00, w ∈ wsX0_waitingData := by decide +kernel
  have hP : va_P (dC, dI) vwCl [(qx, .inr (0, [.int (x_st u), .int (x_md u), .long (x_bt u), .int (x_cm u), .ref (x_hr u), .int (x_rs u), .ref (x_hv u), .int (x_vs u), .ref qc, .ref qw, .int (x_wz u), .ref qs, .int (x_sz u)])), (x_hr u, .inl (cI, 259, .inl (x_ro u))), (x_hv u, .inl (cI, 259, .inl (x_rc u))), (qc, .inl (cI, 5, .inl (x_cn u))), (qw, .inl (cI, 259, .inl (x_wt u))), (qs, .inl (cI, 306, .inl (x_sn u)))] H := hP
  intro n
  induction n with
  | zero =>
    intro j d ls hn hl kk
    have hj : j = k + 7 := by omega
    subst hj
    have hl : lv_has ls 5 [(0, .ref qx), (1, .int (nI k)), (2, .long d), (4, .int (nI (k + 7)))] := hl
    refine lv_iload hx hb dX0_waitingData_5 (lv_at hl 3 rfl) ?_
    refine lv_iload_n hx hb dX0_waitingData_7 rfl (lv_at hl 1 rfl) ?_
    refine lv_bipush (v := 7) hx hb dX0_waitingData_8 (by decide) ?_
    refine lv_iadd hx hb dX0_waitingData_10 ?_
    refine lv_icmp_ge (tgt := 49) hx hb dX0_waitingData_11 (by decide) (fun c_1 => ?_) (fun c_1 => absurd ((show nI k + nI 7 ≤ nI (k + 7) from by rw [nI_add]; exact nI_le (Nat.le_refl _) (by omega))) c_1)
    exact kk ls (lv_sub hl [2] rfl)
  | succ n ih =>
    intro j d ls hn hl kk
    have hl : lv_has ls 5 [(0, .ref qx), (1, .int (nI k)), (2, .long d), (4, .int (nI j))] := hl
    refine lv_iload hx hb dX0_waitingData_5 (lv_at hl 3 rfl) ?_
    refine lv_iload_n hx hb dX0_waitingData_7 rfl (lv_at hl 1 rfl) ?_
    refine lv_bipush (v := 7) hx hb dX0_waitingData_8 (by decide) ?_
    refine lv_iadd hx hb dX0_waitingData_10 ?_
    refine lv_icmp_ge (tgt := 49) hx hb dX0_waitingData_11 (by decide) (fun c_1 => absurd c_1 ((show ¬ nI k + nI 7 ≤ nI j from by rw [nI_add]; exact nI_ge (by omega) (by omega)))) (fun c_1 => ?_)
    refine lv_iload hx hb dX0_waitingData_14 (lv_at hl 3 rfl) ?_
    refine lv_if_lt (tgt := 49) hx hb dX0_waitingData_16 (by decide) (fun c_2 => absurd c_2 (nI_pos (by omega))) (fun c_2 => ?_)
    refine lv_iload hx hb dX0_waitingData_19 (lv_at hl 3 rfl) ?_
    refine lv_aload_n hx hb dX0_waitingData_21 rfl (lv_at hl 0 rfl) ?_
    refine va_get (D := (dC, dI)) (ci := 0) (v := .ref qw) (C := RX0) (T := TX0) (N := 13) hx hb hts hinT hown hK hP 0 rfl rfl 9 (by decide) (hts (.fieldLink RX0 23 "CodeBlocks" "waiting" "[I") (by decide +kernel)) (fun _ h9 => h9) rfl dX0_waitingData_22 ?_
    refine va_alen hx hb hK hP 4 0 rfl rfl (v := 259) rfl dX0_waitingData_25 ?_
    refine lv_icmp_ge (tgt := 49) hx hb dX0_waitingData_26 (by decide) (fun c_3 => absurd c_3 ((show ¬ nI 259 ≤ nI j from nI_ge (by omega) (by decide)))) (fun c_3 => ?_)
    refine lv_lload_n hx hb dX0_waitingData_29 rfl (lv_at hl 2 rfl) ?_
    refine lv_bipush (v := 8) hx hb dX0_waitingData_30 (by decide) ?_
    refine lv_lshl (v := j_lshl d 8) hx hb dX0_waitingData_32 rfl ?_
    refine lv_aload_n hx hb dX0_waitingData_33 rfl (lv_at hl 0 rfl) ?_
    refine va_get (D := (dC, dI)) (ci := 0) (v := .ref qw) (C := RX0) (T := TX0) (N := 13) hx hb hts hinT hown hK hP 0 rfl rfl 9 (by decide) (hts (.fieldLink RX0 23 "CodeBlocks" "waiting" "[I") (by decide +kernel)) (fun _ h9 => h9) rfl dX0_waitingData_34 ?_
    refine lv_iload hx hb dX0_waitingData_37 (lv_at hl 3 rfl) ?_
    refine va_iald hx hb hK hP 4 0 rfl rfl (vp_in_nI (by omega) (by decide)) dX0_waitingData_39 ?_
    refine W.eq (g2 := F0 m 40 ls [.int ((x_wt u) j), .long (j_lshl d 8)]) (by rw [nI_clamp (by omega)]) ?_
    refine lv_i2l (v := ((x_wt u) j).toInt64) hx hb dX0_waitingData_40 rfl ?_
    refine lv_lor hx hb dX0_waitingData_41 ?_
    refine lv_lstore_n (lv' := [(2, .long ((j_lshl d 8) ||| (((x_wt u) j).toInt64))), (0, .ref qx), (1, .int (nI k)), (4, .int (nI j))]) hx hb dX0_waitingData_42 rfl hl (by decide) rfl (fun ls hl => ?_)
    refine lv_iinc (v := nI (j + 1)) (lv' := [(4, .int (nI (j + 1))), (2, .long ((j_lshl d 8) ||| (((x_wt u) j).toInt64))), (0, .ref qx), (1, .int (nI k))]) hx hb dX0_waitingData_43 hl (k := 3) rfl (j_inc j 1) (by decide) rfl (fun ls hl => ?_)
    refine lv_goto (tgt := 5) hx hb dX0_waitingData_46 (by decide) ?_
    have eF : x_wdF u (n + 1) j d = x_wdF u n (j + 1) ((j_lshl d 8) ||| (((x_wt u) j).toInt64)) := by rw [x_wdF]
    exact ih (j + 1) ((j_lshl d 8) ||| (((x_wt u) j).toInt64)) ls (by omega) (lv_sub hl [2, 3, 1, 0] rfl) (fun ls hl => kk ls (by rw [eF]; exact hl))
def x_waitingData (u : x_S) (k : Nat) : Int64 := x_wdF u 7 k 0
set_option maxHeartbeats 4000000 in
set_option maxRecDepth 100000 in
theorem kX0_waitingData (l : Launch) (dC : Nat → ClassId) (dI : Nat → Nat → Nat) (qx qc qw qs : Nat) (cI : ClassId) (u : x_S) (k : Nat) (hk : k ≤ 252) : Met l yX0_waitingData wsX0_waitingData rmX0_waitingData (va_Pc [.ref qx, .int (nI k)] (fun U => va_P (dC, dI) vwCl (x_W qx qc qw qs cI u) U.heap ∧ va_K (dC, dI) vwCl [(cI, .int)] U)) (vp_Sl (fun r => r = x_waitingData u k)) 0 0 (fun _ => False) := by
  refine Met.ofW (cc := cX0_waitingData) (maxL := 5) (ret := some .long) (by decide) rfl ?_
  intro p e s m args below meth c s₁ B hml hv
  obtain ⟨rfl, hP, hK⟩ := hv
  have hx := B.exec
  have hb := B.bytes
  have hr := B.returns
  have hts := atoms_spec (ws := wsX0_waitingData) B.pre
  have hown : s.vm.findClass RX0 = some m.cls := findClass_of_methodNamed B.named
  have hlocks := B.notSynchronized
  have hinT : ∀ w ∈ wsX00, w ∈ wsX0_waitingData := by decide +kernel
  have hP : va_P (dC, dI) vwCl [(qx, .inr (0, [.int (x_st u), .int (x_md u), .long (x_bt u), .int (x_cm u), .ref (x_hr u), .int (x_rs u), .ref (x_hv u), .int (x_vs u), .ref qc, .ref qw, .int (x_wz u), .ref qs, .int (x_sz u)])), (x_hr u, .inl (cI, 259, .inl (x_ro u))), (x_hv u, .inl (cI, 259, .inl (x_rc u))), (qc, .inl (cI, 5, .inl (x_cn u))), (qw, .inl (cI, 259, .inl (x_wt u))), (qs, .inl (cI, 306, .inl (x_sn u)))] s.heap := hP
  have hl := lv_entry ([.ref qx, .int (nI k)]) (n := 5) (Nat.le_of_ble_eq_true rfl)
  rw [lg_entry_eq]
  generalize (lg_sl ([.ref qx, .int (nI k)]) ++ List.replicate (5 - (lg_sl ([.ref qx, .int (nI k)])).length) Slot.unset).toArray = ls at hl ⊢
  have hl : lv_has ls 5 [(0, .ref qx), (1, .int (nI k))] := hl
  refine lv_lconst (v := 0) hx hb dX0_waitingData_0 (by decide) ?_
  refine lv_lstore_n (lv' := [(2, .long 0), (0, .ref qx), (1, .int (nI k))]) hx hb dX0_waitingData_1 rfl hl (by decide) rfl (fun ls hl => ?_)
  refine lv_iload_n hx hb dX0_waitingData_2 rfl (lv_at hl 2 rfl) ?_
  refine lv_istore (lv' := [(4, .int (nI k)), (2, .long 0), (0, .ref qx), (1, .int (nI k))]) hx hb dX0_waitingData_3 hl (by decide) rfl (fun ls hl => ?_)
  refine lpX0_waitingData (l := l) dC dI qx qc qw qs cI k hk hx hb hml hown hts u hP hK 7 k 0 ls rfl (lv_sub hl [2, 3, 1, 0] rfl) (fun ls hl => ?_)
  refine lv_lload_n hx hb dX0_waitingData_49 rfl (lv_at hl 0 rfl) ?_
  exact W.lret (v := x_wdF u 7 k 0) hx hb hr (fun t ht hW => ⟨_, rfl, (rfl), ht⟩) (fun q h => by cases h) dX0_waitingData_50

abbrev rmX0_sendBytes : Room := { frames := 1, cells := 0, slots := 0, locals := 22 }
def x_sbF (d : Int64) : Nat → x_S → x_S
  | 0, u => u
  | n + 1, u => if x_sz u < 0 then u else if 306 ≤ x_sz u then u else x_sbF d n (x_st u, x_md u, x_bt u, x_cm u, x_hr u, x_rs u, x_hv u, x_vs u, x_wz u, x_sz u + 1, x_ro u, x_rc u, x_cn u, x_wt u, upd (x_sn u) (x_sz u).toNatClampNeg (x_byteOf d (nI n)))
set_option maxHeartbeats 4000000 in
set_option maxRecDepth 100000 in
theorem lpX0_sendBytes {p : Program} {l : Launch} {e : Env} {s : State} {m : MethodId} {args : Array Value} {below : List Frame} {meth : Method} {c : Code} {Q : State → Prop} (dC : Nat → ClassId) (dI : Nat → Nat → Nat) (qx qc qw qs : Nat) (cI : ClassId) (d : Int64) (hx : p.tables.exec = Jvm.exec) (hb : c.code = cX0_sendBytes) (hml : c.maxLocals = 5) (hown : s.vm.findClass RX0 = some m.cls) (hts : ∀ w ∈ wsX0_sendBytes, w.before args s = true) (A : Nat → Prop) (hA : ∀ q : Nat, s.heap.size ≤ q → A q) (hK : va_K (dC, dI) vwCl [(cI, .int)] s) : ∀ (n : Nat) (u : x_S) (x : Int32) (H : Heap) (locs : List Loc) (ls : Array Slot), x = nI n + (-1) → n ≤ 64 → va_P (dC, dI) vwCl (x_W qx qc qw qs cI u) H → va_D A (x_W qx qc qw qs cI u) → va_S A s.heap H locs → lv_has ls 5 [(0, .ref qx), (1, .long d), (4, .int x)] → (∀ (H : Heap) (locs : List Loc) (ls : Array Slot), va_P (dC, dI) vwCl (x_W qx qc qw qs cI (x_sbF d n u)) H → va_D A (x_W qx qc qw qs cI (x_sbF d n u)) → va_S A s.heap H locs → lv_has ls 5 [(0, .ref qx)] → W p l e (headSpec wsX0_sendBytes rmX0_sendBytes).room s m args below meth c H locs 0 0 Q (F0 m 60 ls [])) → W p l e (headSpec wsX0_sendBytes rmX0_sendBytes).room s m args below meth c H locs 0 0 Q (F0 m 5 ls []) := by
  have hinT : ∀ w ∈ wsX00, w ∈ wsX0_sendBytes := by decide +kernel
  intro n
  induction n with
  | zero =>
    intro u x H locs ls ex hn hP hD hS hl kk
    have ex : x = (-1) := by rw [ex]; decide
    subst ex
    have hP : va_P (dC, dI) vwCl [(qx, .inr (0, [.int (x_st u), .int (x_md u), .long (x_bt u), .int (x_cm u), .ref (x_hr u), .int (x_rs u), .ref (x_hv u), .int (x_vs u), .ref qc, .ref qw, .int (x_wz u), .ref qs, .int (x_sz u)])), (x_hr u, .inl (cI, 259, .inl (x_ro u))), (x_hv u, .inl (cI, 259, .inl (x_rc u))), (qc, .inl (cI, 5, .inl (x_cn u))), (qw, .inl (cI, 259, .inl (x_wt u))), (qs, .inl (cI, 306, .inl (x_sn u)))] H := hP
    have hD : va_D A [(qx, .inr (0, [.int (x_st u), .int (x_md u), .long (x_bt u), .int (x_cm u), .ref (x_hr u), .int (x_rs u), .ref (x_hv u), .int (x_vs u), .ref qc, .ref qw, .int (x_wz u), .ref qs, .int (x_sz u)])), (x_hr u, .inl (cI, 259, .inl (x_ro u))), (x_hv u, .inl (cI, 259, .inl (x_rc u))), (qc, .inl (cI, 5, .inl (x_cn u))), (qw, .inl (cI, 259, .inl (x_wt u))), (qs, .inl (cI, 306, .inl (x_sn u)))] := hD
    have hl : lv_has ls 5 [(0, .ref qx), (1, .long d), (4, .int (-1))] := hl
    refine lv_iload hx hb dX0_sendBytes_5 (lv_at hl 2 rfl) ?_
    refine lv_if_lt (tgt := 60) hx hb dX0_sendBytes_7 (by decide) (fun c_1 => ?_) (fun c_1 => absurd (by decide) c_1)
    exact kk H locs ls hP hD hS (lv_sub hl [0] rfl)
  | succ n ih =>
    intro u x H locs ls ex hn hP hD hS hl kk
    have ex : x = nI n := by rw [ex]; exact pk_m1 n
    subst ex
    have hP : va_P (dC, dI) vwCl [(qx, .inr (0, [.int (x_st u), .int (x_md u), .long (x_bt u), .int (x_cm u), .ref (x_hr u), .int (x_rs u), .ref (x_hv u), .int (x_vs u), .ref qc, .ref qw, .int (x_wz u), .ref qs, .int (x_sz u)])), (x_hr u, .inl (cI, 259, .inl (x_ro u))), (x_hv u, .inl (cI, 259, .inl (x_rc u))), (qc, .inl (cI, 5, .inl (x_cn u))), (qw, .inl (cI, 259, .inl (x_wt u))), (qs, .inl (cI, 306, .inl (x_sn u)))] H := hP
    have hD : va_D A [(qx, .inr (0, [.int (x_st u), .int (x_md u), .long (x_bt u), .int (x_cm u), .ref (x_hr u), .int (x_rs u), .ref (x_hv u), .int (x_vs u), .ref qc, .ref qw, .int (x_wz u), .ref qs, .int (x_sz u)])), (x_hr u, .inl (cI, 259, .inl (x_ro u))), (x_hv u, .inl (cI, 259, .inl (x_rc u))), (qc, .inl (cI, 5, .inl (x_cn u))), (qw, .inl (cI, 259, .inl (x_wt u))), (qs, .inl (cI, 306, .inl (x_sn u)))] := hD
    have hl : lv_has ls 5 [(0, .ref qx), (1, .long d), (4, .int (nI n))] := hl
    refine lv_iload hx hb dX0_sendBytes_5 (lv_at hl 2 rfl) ?_
    refine lv_if_lt (tgt := 60) hx hb dX0_sendBytes_7 (by decide) (fun c_1 => absurd c_1 (nI_pos (by omega))) (fun c_1 => ?_)
    refine lv_aload_n hx hb dX0_sendBytes_10 rfl (lv_at hl 0 rfl) ?_
    refine va_get (D := (dC, dI)) (ci := 0) (v := .int (x_sz u)) (C := RX0) (T := TX0) (N := 13) hx hb hts hinT hown hK hP 0 rfl rfl 12 (by decide) (hts (.fieldLink RX0 49 "CodeBlocks" "sentSize" "I") (by decide +kernel)) (fun _ h9 => h9) rfl dX0_sendBytes_11 ?_
    refine lv_if_lt (tgt := 60) hx hb dX0_sendBytes_14 (by decide) (fun c_2 => ?_) (fun c_2 => ?_)
    · have eF : x_sbF d (n + 1) u = u := by rw [x_sbF, if_pos c_2]
      exact kk H locs ls (by rw [eF]; exact hP) (by rw [eF]; exact hD) hS (by exact lv_sub hl [0] rfl)
    · refine lv_aload_n hx hb dX0_sendBytes_17 rfl (lv_at hl 0 rfl) ?_
      refine va_get (D := (dC, dI)) (ci := 0) (v := .int (x_sz u)) (C := RX0) (T := TX0) (N := 13) hx hb hts hinT hown hK hP 0 rfl rfl 12 (by decide) (hts (.fieldLink RX0 49 "CodeBlocks" "sentSize" "I") (by decide +kernel)) (fun _ h9 => h9) rfl dX0_sendBytes_18 ?_
      refine lv_aload_n hx hb dX0_sendBytes_21 rfl (lv_at hl 0 rfl) ?_
      refine va_get (D := (dC, dI)) (ci := 0) (v := .ref qs) (C := RX0) (T := TX0) (N := 13) hx hb hts hinT hown hK hP 0 rfl rfl 11 (by decide) (hts (.fieldLink RX0 26 "CodeBlocks" "sent" "[I") (by decide +kernel)) (fun _ h9 => h9) rfl dX0_sendBytes_22 ?_
      refine va_alen hx hb hK hP 5 0 rfl rfl (v := 306) rfl dX0_sendBytes_25 ?_
      refine lv_icmp_ge (tgt := 60) hx hb dX0_sendBytes_26 (by decide) (fun c_3 => ?_) (fun c_3 => ?_)
      · have eF : x_sbF d (n + 1) u = u := by rw [x_sbF, if_neg c_2, if_pos c_3]
        exact kk H locs ls (by rw [eF]; exact hP) (by rw [eF]; exact hD) hS (by exact lv_sub hl [0] rfl)
      · refine lv_aload_n hx hb dX0_sendBytes_29 rfl (lv_at hl 0 rfl) ?_
        refine va_get (D := (dC, dI)) (ci := 0) (v := .ref qs) (C := RX0) (T := TX0) (N := 13) hx hb hts hinT hown hK hP 0 rfl rfl 11 (by decide) (hts (.fieldLink RX0 26 "CodeBlocks" "sent" "[I") (by decide +kernel)) (fun _ h9 => h9) rfl dX0_sendBytes_30 ?_
        refine lv_aload_n hx hb dX0_sendBytes_33 rfl (lv_at hl 0 rfl) ?_
        refine va_get (D := (dC, dI)) (ci := 0) (v := .int (x_sz u)) (C := RX0) (T := TX0) (N := 13) hx hb hts hinT hown hK hP 0 rfl rfl 12 (by decide) (hts (.fieldLink RX0 49 "CodeBlocks" "sentSize" "I") (by decide +kernel)) (fun _ h9 => h9) rfl dX0_sendBytes_34 ?_
        refine lv_lload_n hx hb dX0_sendBytes_37 rfl (lv_at hl 1 rfl) ?_
        refine lv_iload hx hb dX0_sendBytes_38 (lv_at hl 2 rfl) ?_
        refine vp_callSi (va_runS (As := [.long d, .int (nI n)]) (rest := [.int (x_sz u), .ref qs]) ⟨hx, hb, hml, hown, hts⟩ (kX0_byteOf l d (nI n)) (va_cwS 2 hts gX0_sendBytes_X0_byteOf rfl rfl rfl (by decide +kernel) ⟨Nat.le_of_ble_eq_true rfl, Nat.le_of_ble_eq_true rfl⟩) ⟨fun a U g mk q => q, fun U hU hW => ⟨rfl, trivial⟩⟩ rfl rfl hl.1 rfl (lv_room (Nat.le_of_ble_eq_true rfl)) dX0_sendBytes_40 ⟨Nat.le_of_ble_eq_true rfl, Nat.le_of_ble_eq_true rfl⟩).run (fun r_4 hr_4 => ?_)
        subst hr_4
        refine va_iast hx hb hK hP hD hS 5 0 rfl rfl (j_in2 (by decide) c_2 c_3) dX0_sendBytes_43 (fun H locs hP hD hS => ?_)
        have hP : va_P (dC, dI) vwCl [(qx, .inr (0, [.int (x_st u), .int (x_md u), .long (x_bt u), .int (x_cm u), .ref (x_hr u), .int (x_rs u), .ref (x_hv u), .int (x_vs u), .ref qc, .ref qw, .int (x_wz u), .ref qs, .int (x_sz u)])), (x_hr u, .inl (cI, 259, .inl (x_ro u))), (x_hv u, .inl (cI, 259, .inl (x_rc u))), (qc, .inl (cI, 5, .inl (x_cn u))), (qw, .inl (cI, 259, .inl (x_wt u))), (qs, .inl (cI, 306, .inl (upd (x_sn u) ((x_sz u).toNatClampNeg) (x_byteOf d (nI n)))))] H := hP
        have hD : va_D A [(qx, .inr (0, [.int (x_st u), .int (x_md u), .long (x_bt u), .int (x_cm u), .ref (x_hr u), .int (x_rs u), .ref (x_hv u), .int (x_vs u), .ref qc, .ref qw, .int (x_wz u), .ref qs, .int (x_sz u)])), (x_hr u, .inl (cI, 259, .inl (x_ro u))), (x_hv u, .inl (cI, 259, .inl (x_rc u))), (qc, .inl (cI, 5, .inl (x_cn u))), (qw, .inl (cI, 259, .inl (x_wt u))), (qs, .inl (cI, 306, .inl (upd (x_sn u) ((x_sz u).toNatClampNeg) (x_byteOf d (nI n)))))] := hD
        refine lv_aload_n hx hb dX0_sendBytes_44 rfl (lv_at hl 0 rfl) ?_
        refine lv_dup hx hb dX0_sendBytes_45 rfl ?_
        refine va_get (D := (dC, dI)) (ci := 0) (v := .int (x_sz u)) (C := RX0) (T := TX0) (N := 13) hx hb hts hinT hown hK hP 0 rfl rfl 12 (by decide) (hts (.fieldLink RX0 49 "CodeBlocks" "sentSize" "I") (by decide +kernel)) (fun _ h9 => h9) rfl dX0_sendBytes_46 ?_
        refine lv_iconst (v := 1) hx hb dX0_sendBytes_49 (by decide) ?_
        refine lv_iadd hx hb dX0_sendBytes_50 ?_
        refine va_put (D := (dC, dI)) (ci := 0) (v := .int ((x_sz u) + 1)) (ty := .int) (C := RX0) (T := TX0) (N := 13) hx hb hts hinT tyX0 tyX0_ok nmX0 hown hK hP hD hS 0 rfl rfl 12 (by decide) (hts (.fieldLink RX0 49 "CodeBlocks" "sentSize" "I") (by decide +kernel)) (fun _ h9 => h9) rfl (by decide +kernel) rfl rfl (Nat.le_of_ble_eq_true rfl) dX0_sendBytes_51 (fun H locs hP hD hS => ?_)
        have hP : va_P (dC, dI) vwCl [(qx, .inr (0, [.int (x_st u), .int (x_md u), .long (x_bt u), .int (x_cm u), .ref (x_hr u), .int (x_rs u), .ref (x_hv u), .int (x_vs u), .ref qc, .ref qw, .int (x_wz u), .ref qs, .int ((x_sz u) + 1)])), (x_hr u, .inl (cI, 259, .inl (x_ro u))), (x_hv u, .inl (cI, 259, .inl (x_rc u))), (qc, .inl (cI, 5, .inl (x_cn u))), (qw, .inl (cI, 259, .inl (x_wt u))), (qs, .inl (cI, 306, .inl (upd (x_sn u) ((x_sz u).toNatClampNeg) (x_byteOf d (nI n)))))] H := hP
        have hD : va_D A [(qx, .inr (0, [.int (x_st u), .int (x_md u), .long (x_bt u), .int (x_cm u), .ref (x_hr u), .int (x_rs u), .ref (x_hv u), .int (x_vs u), .ref qc, .ref qw, .int (x_wz u), .ref qs, .int ((x_sz u) + 1)])), (x_hr u, .inl (cI, 259, .inl (x_ro u))), (x_hv u, .inl (cI, 259, .inl (x_rc u))), (qc, .inl (cI, 5, .inl (x_cn u))), (qw, .inl (cI, 259, .inl (x_wt u))), (qs, .inl (cI, 306, .inl (upd (x_sn u) ((x_sz u).toNatClampNeg) (x_byteOf d (nI n)))))] := hD
        refine lv_iinc (v := (nI n) + (-1)) (lv' := [(4, .int ((nI n) + (-1))), (0, .ref qx), (1, .long d)]) hx hb dX0_sendBytes_54 hl (k := 2) rfl (by rw [show Int32.ofInt (-1) = (-1 : Int32) from by decide]) (by decide) rfl (fun ls hl => ?_)
        refine lv_goto (tgt := 5) hx hb dX0_sendBytes_57 (by decide) ?_
        have eF : x_sbF d (n + 1) u = x_sbF d n (x_st u, x_md u, x_bt u, x_cm u, x_hr u, x_rs u, x_hv u, x_vs u, x_wz u, (x_sz u) + 1, x_ro u, x_rc u, x_cn u, x_wt u, upd (x_sn u) ((x_sz u).toNatClampNeg) (x_byteOf d (nI n))) := by rw [x_sbF, if_neg c_2, if_neg c_3]
        exact ih (x_st u, x_md u, x_bt u, x_cm u, x_hr u, x_rs u, x_hv u, x_vs u, x_wz u, (x_sz u) + 1, x_ro u, x_rc u, x_cn u, x_wt u, upd (x_sn u) ((x_sz u).toNatClampNeg) (x_byteOf d (nI n))) ((nI n) + (-1)) H locs ls rfl (by omega) hP hD hS (lv_sub hl [1, 2, 0] rfl) (fun H locs ls hP hD hS hl => kk H locs ls (by rw [eF]; exact hP) (by rw [eF]; exact hD) hS (by exact hl))
def x_sendBytes (u : x_S) (a0 : Int64) (b : Nat) : x_S := (x_sbF a0 b u)
set_option maxHeartbeats 4000000 in
set_option maxRecDepth 100000 in
theorem kX0_sendBytes (l : Launch) (dC : Nat → ClassId) (dI : Nat → Nat → Nat) (qx qc qw qs : Nat) (cI : ClassId) (sz : Nat) (u : x_S) (a0 : Int64) (b : Nat) (hb8 : b ≤ 8) : Met l yX0_sendBytes wsX0_sendBytes rmX0_sendBytes (va_Pc [.ref qx, .long a0, .int (nI b)] (fun U => U.heap.size = sz ∧ va_P (dC, dI) vwCl (x_W qx qc qw qs cI u) U.heap ∧ va_K (dC, dI) vwCl [(cI, .int)] U ∧ va_D (fun _ => True) (x_W qx qc qw qs cI u))) (va_Qv (fun u2 => u2 = x_sendBytes u a0 b) (x_At dC dI (va_A (x_W qx qc qw qs cI u) sz) qx qc qw qs cI) (va_A (x_W qx qc qw qs cI u) sz)) 0 0 (va_A (x_W qx qc qw qs cI u) sz) := by
  refine Met.ofW (cc := cX0_sendBytes) (maxL := 5) (ret := none) (by decide) rfl ?_
  intro p e s m args below meth c s₁ B hml hv
  obtain ⟨rfl, hsz, hP, hK, hD0⟩ := hv
  have hx := B.exec
  have hb := B.bytes
  have hr := B.returns
  have hts := atoms_spec (ws := wsX0_sendBytes) B.pre
  have hown : s.vm.findClass RX0 = some m.cls := findClass_of_methodNamed B.named
  have hlocks := B.notSynchronized
  have hinT : ∀ w ∈ wsX00, w ∈ wsX0_sendBytes := by decide +kernel
  subst hsz
  have hD := hD0.self (sz := s.heap.size)
  generalize hAe : va_A (x_W qx qc qw qs cI u) s.heap.size = A at hD ⊢
  have hA : ∀ q : Nat, s.heap.size ≤ q → A q := fun q h => by rw [← hAe]; exact Or.inr h
  have hS : va_S A s.heap s.heap [] := va_S.rf
  have hD : va_D A [(qx, .inr (0, [.int (x_st u), .int (x_md u), .long (x_bt u), .int (x_cm u), .ref (x_hr u), .int (x_rs u), .ref (x_hv u), .int (x_vs u), .ref qc, .ref qw, .int (x_wz u), .ref qs, .int (x_sz u)])), (x_hr u, .inl (cI, 259, .inl (x_ro u))), (x_hv u, .inl (cI, 259, .inl (x_rc u))), (qc, .inl (cI, 5, .inl (x_cn u))), (qw, .inl (cI, 259, .inl (x_wt u))), (qs, .inl (cI, 306, .inl (x_sn u)))] := hD
  have hP : va_P (dC, dI) vwCl [(qx, .inr (0, [.int (x_st u), .int (x_md u), .long (x_bt u), .int (x_cm u), .ref (x_hr u), .int (x_rs u), .ref (x_hv u), .int (x_vs u), .ref qc, .ref qw, .int (x_wz u), .ref qs, .int (x_sz u)])), (x_hr u, .inl (cI, 259, .inl (x_ro u))), (x_hv u, .inl (cI, 259, .inl (x_rc u))), (qc, .inl (cI, 5, .inl (x_cn u))), (qw, .inl (cI, 259, .inl (x_wt u))), (qs, .inl (cI, 306, .inl (x_sn u)))] s.heap := hP
  have hl := lv_entry ([.ref qx, .long a0, .int (nI b)]) (n := 5) (Nat.le_of_ble_eq_true rfl)
  rw [lg_entry_eq]
  generalize (lg_sl ([.ref qx, .long a0, .int (nI b)]) ++ List.replicate (5 - (lg_sl ([.ref qx, .long a0, .int (nI b)])).length) Slot.unset).toArray = ls at hl ⊢
  have hl : lv_has ls 5 [(0, .ref qx), (1, .long a0), (3, .int (nI b))] := hl
  refine lv_iload_n hx hb dX0_sendBytes_0 rfl (lv_at hl 2 rfl) ?_
  refine lv_iconst (v := 1) hx hb dX0_sendBytes_1 (by decide) ?_
  refine lv_isub hx hb dX0_sendBytes_2 ?_
  refine lv_istore (lv' := [(4, .int ((nI b) - 1)), (0, .ref qx), (1, .long a0), (3, .int (nI b))]) hx hb dX0_sendBytes_3 hl (by decide) rfl (fun ls hl => ?_)
  refine lpX0_sendBytes (l := l) dC dI qx qc qw qs cI a0 hx hb hml hown hts A hA hK  b u ((nI b) - 1) s.heap [] ls (j_sub1 _) (by omega) hP hD hS (lv_sub hl [1, 2, 0] rfl) (fun H locs ls hP hD hS hl => ?_)
  obtain ⟨v_1, hv_1⟩ : ∃ z, z = x_sbF a0 b u := ⟨_, rfl⟩
  rw [← hv_1] at hP hD
  have hP : va_P (dC, dI) vwCl [(qx, .inr (0, [.int (x_st v_1), .int (x_md v_1), .long (x_bt v_1), .int (x_cm v_1), .ref (x_hr v_1), .int (x_rs v_1), .ref (x_hv v_1), .int (x_vs v_1), .ref qc, .ref qw, .int (x_wz v_1), .ref qs, .int (x_sz v_1)])), (x_hr v_1, .inl (cI, 259, .inl (x_ro v_1))), (x_hv v_1, .inl (cI, 259, .inl (x_rc v_1))), (qc, .inl (cI, 5, .inl (x_cn v_1))), (qw, .inl (cI, 259, .inl (x_wt v_1))), (qs, .inl (cI, 306, .inl (x_sn v_1)))] H := hP
  have hD : va_D A [(qx, .inr (0, [.int (x_st v_1), .int (x_md v_1), .long (x_bt v_1), .int (x_cm v_1), .ref (x_hr v_1), .int (x_rs v_1), .ref (x_hv v_1), .int (x_vs v_1), .ref qc, .ref qw, .int (x_wz v_1), .ref qs, .int (x_sz v_1)])), (x_hr v_1, .inl (cI, 259, .inl (x_ro v_1))), (x_hv v_1, .inl (cI, 259, .inl (x_rc v_1))), (qc, .inl (cI, 5, .inl (x_cn v_1))), (qw, .inl (cI, 259, .inl (x_wt v_1))), (qs, .inl (cI, 306, .inl (x_sn v_1)))] := hD
  have hP9 : va_P (dC, dI) vwCl (x_W qx qc qw qs cI v_1) H := hP
  have hD9 : va_D A (x_W qx qc qw qs cI v_1) := hD
  exact W.vret hx hb hr (fun t ht hW => ⟨⟨v_1, rfl, (by subst hv_1; rfl), by rw [ht]; exact hP9, va_K.moved hW.alike hK, hD9⟩, hS.F ht⟩) hS.2.2 dX0_sendBytes_60
end
section
abbrev rmX0_send : Room := { frames := 3, cells := 0, slots := 0, locals := 66 }
def x_tl (j : Nat) : Int32 := if j = 7 then 121 else 197
abbrev x_Tl (t : Nat) (A : Nat → Prop) (U : State) : Prop := va_Z "CodeBlocks" "TAIL" "[I" (.ref t) A U U.heap ∧ va_T .int t 8 (fun j => .int (x_tl j)) A U U.heap
theorem x_sb_wz (d : Int64) : ∀ (n : Nat) (u : x_S), x_wz (x_sbF d n u) = x_wz u ∧ x_wt (x_sbF d n u) = x_wt u := by
  intro n
  induction n with
  | zero => intro u; exact ⟨rfl, rfl⟩
  | succ n ih =>
    intro u
    rw [x_sbF]
    split
    · exact ⟨rfl, rfl⟩
    · split
      · exact ⟨rfl, rfl⟩
      · exact ih _
theorem x_put_at {u : x_S} {W : Nat} (b : Int32) (e : x_wz u = nI W) (h : W < 259) : x_put u b = (x_st u, x_md u, x_bt u, x_cm u, x_hr u, x_rs u, x_hv u, x_vs u, nI (W + 1), x_sz u, x_ro u, x_rc u, x_cn u, upd (x_wt u) W (b &&& 255), x_sn u) := by
  unfold x_put
  rw [e, if_neg (nI_pos (by omega)), if_pos (show nI W < 259 from (show nI W < nI 259 from nI_lt h (by decide))), nI_clamp (by omega), nI_1]
theorem x_fl_wz : ∀ (n : Nat) (u : x_S) (W : Nat), x_wz u = nI W → W ≤ 259 → (W % 7 = 0 ∨ 7 ≤ n + W % 7) → x_wz (x_flF n u) = nI (7 * ((W + 6) / 7)) := by
  intro n
  induction n with
  | zero =>
    intro u W e h1 h2
    have : 7 * ((W + 6) / 7) = W := by omega
    rw [this]; exact e
  | succ n ih =>
    intro u W e h1 h2
    have er : x_wz u - x_wz u / 7 * 7 = nI (W % 7) := by
      rw [e]; exact pk_rem (by omega) (by decide) (by decide)
    rw [x_flF, er]
    by_cases h0 : W % 7 = 0
    · rw [h0, if_pos nI_0, e]
      have : 7 * ((W + 6) / 7) = W := by omega
      rw [this]
    · rw [if_neg (nI_ne0 (by omega) (by omega)), x_put_at 85 e (by omega)]
      rw [ih _ (W + 1) rfl (by omega) (by omega)]
      congr 2
      omega
def x_s1F : Nat → Nat → x_S → x_S
  | 0, _, u => u
  | n + 1, i, u => x_s1F n (i + 1) (x_sendBytes u (x_blockOf (x_waitingData u (7 * i))) 8)
def x_s2F : Nat → Nat → x_S → x_S
  | 0, _, u => u
  | n + 1, j, u => x_s2F n (j + 1) (x_sendBytes u (x_tl j).toInt64 1)
set_option maxHeartbeats 4000000 in
set_option maxRecDepth 100000 in
theorem lpX0_send1 {p : Program} {l : Launch} {e : Env} {s : State} {m : MethodId} {args : Array Value} {below : List Frame} {meth : Method} {c : Code} {Q : State → Prop} (dC : Nat → ClassId) (dI : Nat → Nat → Nat) (qx qc qw qs : Nat) (cI : ClassId) (q : Nat) (hq : q ≤ 37) (hx : p.tables.exec = Jvm.exec) (hb : c.code = cX0_send) (hml : c.maxLocals = 5) (hown : s.vm.findClass RX0 = some m.cls) (hts : ∀ w ∈ wsX0_send, w.before args s = true) (A : Nat → Prop) (hA : ∀ q : Nat, s.heap.size ≤ q → A q) (hK : va_K (dC, dI) vwCl [(cI, .int)] s) : ∀ (n : Nat) (u : x_S) (i : Nat) (H : Heap) (locs : List Loc) (ls : Array Slot), i + n = q → x_wz u = nI (7 * q) → va_P (dC, dI) vwCl (x_W qx qc qw qs cI u) H → va_D A (x_W qx qc qw qs cI u) → va_S A s.heap H locs → lv_has ls 5 [(0, .ref qx), (1, .int (nI (7 * i)))] → (∀ (H : Heap) (locs : List Loc) (ls : Array Slot), va_P (dC, dI) vwCl (x_W qx qc qw qs cI (x_s1F n i u)) H → va_D A (x_W qx qc qw qs cI (x_s1F n i u)) → va_S A s.heap H locs → lv_has ls 5 [(0, .ref qx)] → W p l e (headSpec wsX0_send rmX0_send).room s m args below meth c H locs 0 0 Q (F0 m 56 ls [])) → W p l e (headSpec wsX0_send rmX0_send).room s m args below meth c H locs 0 0 Q (F0 m 28 ls []) := by
  have hinT : ∀ w ∈ wsX00, w ∈ wsX0_send := by decide +kernel
  intro n
  induction n with
  | zero =>
    intro u i H locs ls hn ew hP hD hS hl kk
    have hi : i = q := by omega
    subst hi
    have hP : va_P (dC, dI) vwCl [(qx, .inr (0, [.int (x_st u), .int (x_md u), .long (x_bt u), .int (x_cm u), .ref (x_hr u), .int (x_rs u), .ref (x_hv u), .int (x_vs u), .ref qc, .ref qw, .int (x_wz u), .ref qs, .int (x_sz u)])), (x_hr u, .inl (cI, 259, .inl (x_ro u))), (x_hv u, .inl (cI, 259, .inl (x_rc u))), (qc, .inl (cI, 5, .inl (x_cn u))), (qw, .inl (cI, 259, .inl (x_wt u))), (qs, .inl (cI, 306, .inl (x_sn u)))] H := hP
    have hD : va_D A [(qx, .inr (0, [.int (x_st u), .int (x_md u), .long (x_bt u), .int (x_cm u), .ref (x_hr u), .int (x_rs u), .ref (x_hv u), .int (x_vs u), .ref qc, .ref qw, .int (x_wz u), .ref qs, .int (x_sz u)])), (x_hr u, .inl (cI, 259, .inl (x_ro u))), (x_hv u, .inl (cI, 259, .inl (x_rc u))), (qc, .inl (cI, 5, .inl (x_cn u))), (qw, .inl (cI, 259, .inl (x_wt u))), (qs, .inl (cI, 306, .inl (x_sn u)))] := hD
    have hl : lv_has ls 5 [(0, .ref qx), (1, .int (nI (7 * i)))] := hl
    refine lv_iload_n hx hb dX0_send_28 rfl (lv_at hl 1 rfl) ?_
    refine lv_aload_n hx hb dX0_send_29 rfl (lv_at hl 0 rfl) ?_
    refine va_get (D := (dC, dI)) (ci := 0) (v := .int (x_wz u)) (C := RX0) (T := TX0) (N := 13) hx hb hts hinT hown hK hP 0 rfl rfl 10 (by decide) (hts (.fieldLink RX0 43 "CodeBlocks" "waitingSize" "I") (by decide +kernel)) (fun _ h9 => h9) rfl dX0_send_30 ?_
    refine lv_icmp_ge (tgt := 56) hx hb dX0_send_33 (by decide) (fun c_1 => ?_) (fun c_1 => absurd ((by rw [ew]; exact nI_le (Nat.le_refl _) (by omega))) c_1)
    exact kk H locs ls hP hD hS (lv_sub hl [0] rfl)
  | succ n ih =>
    intro u i H locs ls hn ew hP hD hS hl kk
    have hP : va_P (dC, dI) vwCl [(qx, .inr (0, [.int (x_st u), .int (x_md u), .long (x_bt u), .int (x_cm u), .ref (x_hr u), .int (x_rs u), .ref (x_hv u), .int (x_vs u), .ref qc, .ref qw, .int (x_wz u), .ref qs, .int (x_sz u)])), (x_hr u, .inl (cI, 259, .inl (x_ro u))), (x_hv u, .inl (cI, 259, .inl (x_rc u))), (qc, .inl (cI, 5, .inl (x_cn u))), (qw, .inl (cI, 259, .inl (x_wt u))), (qs, .inl (cI, 306, .inl (x_sn u)))] H := hP
    have hD : va_D A [(qx, .inr (0, [.int (x_st u), .int (x_md u), .long (x_bt u), .int (x_cm u), .ref (x_hr u), .int (x_rs u), .ref (x_hv u), .int (x_vs u), .ref qc, .ref qw, .int (x_wz u), .ref qs, .int (x_sz u)])), (x_hr u, .inl (cI, 259, .inl (x_ro u))), (x_hv u, .inl (cI, 259, .inl (x_rc u))), (qc, .inl (cI, 5, .inl (x_cn u))), (qw, .inl (cI, 259, .inl (x_wt u))), (qs, .inl (cI, 306, .inl (x_sn u)))] := hD
    have hl : lv_has ls 5 [(0, .ref qx), (1, .int (nI (7 * i)))] := hl
    refine lv_iload_n hx hb dX0_send_28 rfl (lv_at hl 1 rfl) ?_
    refine lv_aload_n hx hb dX0_send_29 rfl (lv_at hl 0 rfl) ?_
    refine va_get (D := (dC, dI)) (ci := 0) (v := .int (x_wz u)) (C := RX0) (T := TX0) (N := 13) hx hb hts hinT hown hK hP 0 rfl rfl 10 (by decide) (hts (.fieldLink RX0 43 "CodeBlocks" "waitingSize" "I") (by decide +kernel)) (fun _ h9 => h9) rfl dX0_send_30 ?_
    refine lv_icmp_ge (tgt := 56) hx hb dX0_send_33 (by decide) (fun c_1 => absurd c_1 ((by rw [ew]; exact nI_ge (by omega) (by omega)))) (fun c_1 => ?_)
    refine lv_aload_n hx hb dX0_send_36 rfl (lv_at hl 0 rfl) ?_
    refine lv_aload_n hx hb dX0_send_37 rfl (lv_at hl 0 rfl) ?_
    refine lv_iload_n hx hb dX0_send_38 rfl (lv_at hl 1 rfl) ?_
    have hPc : va_P (dC, dI) vwCl (x_W qx qc qw qs cI u) H := hP
    refine vp_callSl (va_runV (As := [.int (nI (7 * i))]) (rest := [.ref qx]) ⟨hx, hb, hml, hown, hts⟩ (kX0_waitingData l dC dI qx qc qw qs cI u (7 * i) (by omega)) (cwV 1 hts gX0_send_X0_waitingData rfl rfl rfl (by decide +kernel) ⟨Nat.le_of_ble_eq_true rfl, Nat.le_of_ble_eq_true rfl⟩) ⟨fun a U g mk q => by obtain ⟨q0, qP, qK⟩ := q; exact ⟨q0, qP, va_K.moved (u := U) (U := U.calling g mk a) (Vm.Alike.refl U.vm) qK⟩, va_recv hK hP (ci := 0) (q0 := 0) rfl rfl, fun U hU hW => ⟨rfl, by rw [hU]; exact hPc, va_K.moved hW.alike hK⟩⟩ rfl rfl hl.1 rfl (lv_room (Nat.le_of_ble_eq_true rfl)) dX0_send_39 ⟨Nat.le_of_ble_eq_true rfl, Nat.le_of_ble_eq_true rfl⟩).run (fun r_2 hr_2 => ?_)
    subst hr_2
    refine vp_callSl (va_runS (As := [.long (x_waitingData u (7 * i))]) (rest := [.ref qx]) ⟨hx, hb, hml, hown, hts⟩ (kX0_blockOf l (x_waitingData u (7 * i))) (va_cwS 1 hts gX0_send_X0_blockOf rfl rfl rfl (by decide +kernel) ⟨Nat.le_of_ble_eq_true rfl, Nat.le_of_ble_eq_true rfl⟩) ⟨fun a U g mk q => q, fun U hU hW => ⟨rfl, trivial⟩⟩ rfl rfl hl.1 rfl (lv_room (Nat.le_of_ble_eq_true rfl)) dX0_send_42 ⟨Nat.le_of_ble_eq_true rfl, Nat.le_of_ble_eq_true rfl⟩).run (fun r_3 hr_3 => ?_)
    subst hr_3
    refine lv_bipush (v := 8) hx hb dX0_send_45 (by decide) ?_
    have hPc : va_P (dC, dI) vwCl (x_W qx qc qw qs cI u) H := hP
    have hDc : va_D A (x_W qx qc qw qs cI u) := hD
    have hFc := va_free (wc := (x_W qx qc qw qs cI u)) hD hS hA [0, 1, 2, 3, 4, 5] rfl
    refine va_callv (va_runV (As := [.long (x_blockOf (x_waitingData u (7 * i))), .int 8]) (rest := []) ⟨hx, hb, hml, hown, hts⟩ (kX0_sendBytes l dC dI qx qc qw qs cI H.size u (x_blockOf (x_waitingData u (7 * i))) 8 (by decide)) (cwV 2 hts gX0_send_X0_sendBytes rfl rfl rfl (by decide +kernel) ⟨Nat.le_of_ble_eq_true rfl, Nat.le_of_ble_eq_true rfl⟩) ⟨fun a U g mk q => by obtain ⟨q0, q1, qP, qK, qD⟩ := q; exact ⟨q0, q1, qP, va_K.moved (u := U) (U := U.calling g mk a) (Vm.Alike.refl U.vm) qK, qD⟩, va_recv hK hP (ci := 0) (q0 := 0) rfl rfl, fun U hU hW => ⟨rfl, by rw [hU], by rw [hU]; exact hPc, va_K.moved hW.alike hK, hDc.weaken (fun _ _ _ _ => trivial)⟩⟩ rfl rfl hl.1 rfl (lv_room (Nat.le_of_ble_eq_true rfl)) dX0_send_47 ⟨Nat.le_of_ble_eq_true rfl, Nat.le_of_ble_eq_true rfl⟩) hS (fun q _ h => hFc q h) hFc (fun  u_4 t H1 locs ht hvm hu_4 hB hz1 hk1 hS => ?_)
    obtain ⟨hP1, -, hD1⟩ := hB
    rw [ht] at hP1
    have hP : va_P (dC, dI) vwCl [(qx, .inr (0, [.int (x_st u_4), .int (x_md u_4), .long (x_bt u_4), .int (x_cm u_4), .ref (x_hr u_4), .int (x_rs u_4), .ref (x_hv u_4), .int (x_vs u_4), .ref qc, .ref qw, .int (x_wz u_4), .ref qs, .int (x_sz u_4)])), (x_hr u_4, .inl (cI, 259, .inl (x_ro u_4))), (x_hv u_4, .inl (cI, 259, .inl (x_rc u_4))), (qc, .inl (cI, 5, .inl (x_cn u_4))), (qw, .inl (cI, 259, .inl (x_wt u_4))), (qs, .inl (cI, 306, .inl (x_sn u_4)))] H1 := hP1
    have hD : va_D A [(qx, .inr (0, [.int (x_st u_4), .int (x_md u_4), .long (x_bt u_4), .int (x_cm u_4), .ref (x_hr u_4), .int (x_rs u_4), .ref (x_hv u_4), .int (x_vs u_4), .ref qc, .ref qw, .int (x_wz u_4), .ref qs, .int (x_sz u_4)])), (x_hr u_4, .inl (cI, 259, .inl (x_ro u_4))), (x_hv u_4, .inl (cI, 259, .inl (x_rc u_4))), (qc, .inl (cI, 5, .inl (x_cn u_4))), (qw, .inl (cI, 259, .inl (x_wt u_4))), (qs, .inl (cI, 306, .inl (x_sn u_4)))] := hD1.weaken (fun k q _ h => hFc q.1 h)
    generalize H1 = H at hP hS ⊢
    refine lv_iinc (v := nI (7 * (i + 1))) (lv' := [(1, .int (nI (7 * (i + 1)))), (0, .ref qx)]) hx hb dX0_send_50 hl (k := 1) rfl (show nI (7 * i) + nI 7 = nI (7 * (i + 1)) from by rw [nI_add]; rfl) (by decide) rfl (fun ls hl => ?_)
    refine lv_goto (tgt := 28) hx hb dX0_send_53 (by decide) ?_
    subst hu_4
    have eF : x_s1F (n + 1) i u = x_s1F n (i + 1) (x_sendBytes u (x_blockOf (x_waitingData u (7 * i))) 8) := by rw [x_s1F]
    exact ih (x_sendBytes u (x_blockOf (x_waitingData u (7 * i))) 8) (i + 1) H locs ls (by omega) ((x_sb_wz _ _ _).1.trans ew) hP hD hS (lv_sub hl [1, 0] rfl) (fun H locs ls hP hD hS hl => kk H locs ls (by rw [eF]; exact hP) (by rw [eF]; exact hD) hS (by exact hl))
set_option maxHeartbeats 4000000 in
set_option maxRecDepth 100000 in
theorem lpX0_send2 {p : Program} {l : Launch} {e : Env} {s : State} {m : MethodId} {args : Array Value} {below : List Frame} {meth : Method} {c : Code} {Q : State → Prop} (dC : Nat → ClassId) (dI : Nat → Nat → Nat) (qx qc qw qs : Nat) (cI : ClassId) (tT : Nat) (hx : p.tables.exec = Jvm.exec) (hb : c.code = cX0_send) (hml : c.maxLocals = 5) (hown : s.vm.findClass RX0 = some m.cls) (hts : ∀ w ∈ wsX0_send, w.before args s = true) (A : Nat → Prop) (hA : ∀ q : Nat, s.heap.size ≤ q → A q) (hK : va_K (dC, dI) vwCl [(cI, .int)] s) (hT : va_T .int tT 8 (fun j => .int (x_tl j)) A s s.heap) : ∀ (n : Nat) (u : x_S) (j : Nat) (H : Heap) (locs : List Loc) (ls : Array Slot), j + n = 8 → va_P (dC, dI) vwCl (x_W qx qc qw qs cI u) H → va_D A (x_W qx qc qw qs cI u) → va_S A s.heap H locs → lv_has ls 5 [(0, .ref qx), (1, .ref tT), (2, .int 8), (3, .int (nI j))] → (∀ (H : Heap) (locs : List Loc) (ls : Array Slot), va_P (dC, dI) vwCl (x_W qx qc qw qs cI (x_s2F n j u)) H → va_D A (x_W qx qc qw qs cI (x_s2F n j u)) → va_S A s.heap H locs → lv_has ls 5 [(0, .ref qx)] → W p l e (headSpec wsX0_send rmX0_send).room s m args below meth c H locs 0 0 Q (F0 m 89 ls [])) → W p l e (headSpec wsX0_send rmX0_send).room s m args below meth c H locs 0 0 Q (F0 m 65 ls []) := by
  have hinT : ∀ w ∈ wsX00, w ∈ wsX0_send := by decide +kernel
  intro n
  induction n with
  | zero =>
    intro u j H locs ls hn hP hD hS hl kk
    have hj : j = 8 := by omega
    subst hj
    have hP : va_P (dC, dI) vwCl [(qx, .inr (0, [.int (x_st u), .int (x_md u), .long (x_bt u), .int (x_cm u), .ref (x_hr u), .int (x_rs u), .ref (x_hv u), .int (x_vs u), .ref qc, .ref qw, .int (x_wz u), .ref qs, .int (x_sz u)])), (x_hr u, .inl (cI, 259, .inl (x_ro u))), (x_hv u, .inl (cI, 259, .inl (x_rc u))), (qc, .inl (cI, 5, .inl (x_cn u))), (qw, .inl (cI, 259, .inl (x_wt u))), (qs, .inl (cI, 306, .inl (x_sn u)))] H := hP
    have hD : va_D A [(qx, .inr (0, [.int (x_st u), .int (x_md u), .long (x_bt u), .int (x_cm u), .ref (x_hr u), .int (x_rs u), .ref (x_hv u), .int (x_vs u), .ref qc, .ref qw, .int (x_wz u), .ref qs, .int (x_sz u)])), (x_hr u, .inl (cI, 259, .inl (x_ro u))), (x_hv u, .inl (cI, 259, .inl (x_rc u))), (qc, .inl (cI, 5, .inl (x_cn u))), (qw, .inl (cI, 259, .inl (x_wt u))), (qs, .inl (cI, 306, .inl (x_sn u)))] := hD
    have hl : lv_has ls 5 [(0, .ref qx), (1, .ref tT), (2, .int 8), (3, .int (nI 8))] := hl
    refine lv_iload_n hx hb dX0_send_65 rfl (lv_at hl 3 rfl) ?_
    refine lv_iload_n hx hb dX0_send_66 rfl (lv_at hl 2 rfl) ?_
    refine lv_icmp_ge (tgt := 89) hx hb dX0_send_67 (by decide) (fun c_1 => ?_) (fun c_1 => absurd (by decide) c_1)
    exact kk H locs ls hP hD hS (lv_sub hl [0] rfl)
  | succ n ih =>
    intro u j H locs ls hn hP hD hS hl kk
    have hP : va_P (dC, dI) vwCl [(qx, .inr (0, [.int (x_st u), .int (x_md u), .long (x_bt u), .int (x_cm u), .ref (x_hr u), .int (x_rs u), .ref (x_hv u), .int (x_vs u), .ref qc, .ref qw, .int (x_wz u), .ref qs, .int (x_sz u)])), (x_hr u, .inl (cI, 259, .inl (x_ro u))), (x_hv u, .inl (cI, 259, .inl (x_rc u))), (qc, .inl (cI, 5, .inl (x_cn u))), (qw, .inl (cI, 259, .inl (x_wt u))), (qs, .inl (cI, 306, .inl (x_sn u)))] H := hP
    have hD : va_D A [(qx, .inr (0, [.int (x_st u), .int (x_md u), .long (x_bt u), .int (x_cm u), .ref (x_hr u), .int (x_rs u), .ref (x_hv u), .int (x_vs u), .ref qc, .ref qw, .int (x_wz u), .ref qs, .int (x_sz u)])), (x_hr u, .inl (cI, 259, .inl (x_ro u))), (x_hv u, .inl (cI, 259, .inl (x_rc u))), (qc, .inl (cI, 5, .inl (x_cn u))), (qw, .inl (cI, 259, .inl (x_wt u))), (qs, .inl (cI, 306, .inl (x_sn u)))] := hD
    have hl : lv_has ls 5 [(0, .ref qx), (1, .ref tT), (2, .int 8), (3, .int (nI j))] := hl
    refine lv_iload_n hx hb dX0_send_65 rfl (lv_at hl 3 rfl) ?_
    refine lv_iload_n hx hb dX0_send_66 rfl (lv_at hl 2 rfl) ?_
    refine lv_icmp_ge (tgt := 89) hx hb dX0_send_67 (by decide) (fun c_1 => absurd c_1 (show ¬ nI 8 ≤ nI j from nI_ge (by omega) (by decide))) (fun c_1 => ?_)
    refine lv_aload_n hx hb dX0_send_70 rfl (lv_at hl 1 rfl) ?_
    refine lv_iload_n hx hb dX0_send_71 rfl (lv_at hl 3 rfl) ?_
    refine va_ti hx hb hT hS (vp_in_nI (by omega) (by decide)) (v := .int (x_tl j)) (by rw [nI_clamp (by omega)]) dX0_send_72 ?_
    refine lv_istore (lv' := [(4, .int (x_tl j)), (0, .ref qx), (1, .ref tT), (2, .int 8), (3, .int (nI j))]) hx hb dX0_send_73 hl (by decide) rfl (fun ls hl => ?_)
    refine lv_aload_n hx hb dX0_send_75 rfl (lv_at hl 1 rfl) ?_
    refine lv_iload hx hb dX0_send_76 (lv_at hl 0 rfl) ?_
    refine lv_i2l (v := (x_tl j).toInt64) hx hb dX0_send_78 rfl ?_
    refine lv_iconst (v := 1) hx hb dX0_send_79 (by decide) ?_
    have hPc : va_P (dC, dI) vwCl (x_W qx qc qw qs cI u) H := hP
    have hDc : va_D A (x_W qx qc qw qs cI u) := hD
    have hFc := va_free (wc := (x_W qx qc qw qs cI u)) hD hS hA [0, 1, 2, 3, 4, 5] rfl
    refine va_callv (va_runV (As := [.long ((x_tl j).toInt64), .int 1]) (rest := []) ⟨hx, hb, hml, hown, hts⟩ (kX0_sendBytes l dC dI qx qc qw qs cI H.size u ((x_tl j).toInt64) 1 (by decide)) (cwV 2 hts gX0_send_X0_sendBytes rfl rfl rfl (by decide +kernel) ⟨Nat.le_of_ble_eq_true rfl, Nat.le_of_ble_eq_true rfl⟩) ⟨fun a U g mk q => by obtain ⟨q0, q1, qP, qK, qD⟩ := q; exact ⟨q0, q1, qP, va_K.moved (u := U) (U := U.calling g mk a) (Vm.Alike.refl U.vm) qK, qD⟩, va_recv hK hP (ci := 0) (q0 := 0) rfl rfl, fun U hU hW => ⟨rfl, by rw [hU], by rw [hU]; exact hPc, va_K.moved hW.alike hK, hDc.weaken (fun _ _ _ _ => trivial)⟩⟩ rfl rfl hl.1 rfl (lv_room (Nat.le_of_ble_eq_true rfl)) dX0_send_80 ⟨Nat.le_of_ble_eq_true rfl, Nat.le_of_ble_eq_true rfl⟩) hS (fun q _ h => hFc q h) hFc (fun  u_2 t H1 locs ht hvm hu_2 hB hz1 hk1 hS => ?_)
    obtain ⟨hP1, -, hD1⟩ := hB
    rw [ht] at hP1
    have hP : va_P (dC, dI) vwCl [(qx, .inr (0, [.int (x_st u_2), .int (x_md u_2), .long (x_bt u_2), .int (x_cm u_2), .ref (x_hr u_2), .int (x_rs u_2), .ref (x_hv u_2), .int (x_vs u_2), .ref qc, .ref qw, .int (x_wz u_2), .ref qs, .int (x_sz u_2)])), (x_hr u_2, .inl (cI, 259, .inl (x_ro u_2))), (x_hv u_2, .inl (cI, 259, .inl (x_rc u_2))), (qc, .inl (cI, 5, .inl (x_cn u_2))), (qw, .inl (cI, 259, .inl (x_wt u_2))), (qs, .inl (cI, 306, .inl (x_sn u_2)))] H1 := hP1
    have hD : va_D A [(qx, .inr (0, [.int (x_st u_2), .int (x_md u_2), .long (x_bt u_2), .int (x_cm u_2), .ref (x_hr u_2), .int (x_rs u_2), .ref (x_hv u_2), .int (x_vs u_2), .ref qc, .ref qw, .int (x_wz u_2), .ref qs, .int (x_sz u_2)])), (x_hr u_2, .inl (cI, 259, .inl (x_ro u_2))), (x_hv u_2, .inl (cI, 259, .inl (x_rc u_2))), (qc, .inl (cI, 5, .inl (x_cn u_2))), (qw, .inl (cI, 259, .inl (x_wt u_2))), (qs, .inl (cI, 306, .inl (x_sn u_2)))] := hD1.weaken (fun k q _ h => hFc q.1 h)
    generalize H1 = H at hP hS ⊢
    refine lv_iinc (v := nI (j + 1)) (lv' := [(3, .int (nI (j + 1))), (4, .int (x_tl j)), (0, .ref qx), (1, .ref tT), (2, .int 8)]) hx hb dX0_send_83 hl (k := 4) rfl (j_inc j 1) (by decide) rfl (fun ls hl => ?_)
    refine lv_goto (tgt := 65) hx hb dX0_send_86 (by decide) ?_
    subst hu_2
    have eF : x_s2F (n + 1) j u = x_s2F n (j + 1) (x_sendBytes u ((x_tl j).toInt64) 1) := by rw [x_s2F]
    exact ih (x_sendBytes u ((x_tl j).toInt64) 1) (j + 1) H locs ls (by omega) hP hD hS (lv_sub hl [2, 3, 4, 0] rfl) (fun H locs ls hP hD hS hl => kk H locs ls (by rw [eF]; exact hP) (by rw [eF]; exact hD) hS (by exact hl))
def x_sz0 (u : x_S) : x_S := (x_st u, x_md u, x_bt u, x_cm u, x_hr u, x_rs u, x_hv u, x_vs u, x_wz u, 0, x_ro u, x_rc u, x_cn u, x_wt u, x_sn u)
def x_wz0 (u : x_S) : x_S := (x_st u, x_md u, x_bt u, x_cm u, x_hr u, x_rs u, x_hv u, x_vs u, 0, x_sz u, x_ro u, x_rc u, x_cn u, x_wt u, x_sn u)
def x_sendT (u : x_S) (q : Nat) : x_S := x_s2F 8 0 (x_s1F q 0 (x_sendBytes (x_sz0 (x_fillLastBlock u)) 60304 2))
def x_send (u : x_S) (q : Nat) : x_S := if x_wz u = 0 then u else x_wz0 (x_sendT u q)
def x_send_r (u : x_S) (q : Nat) : Int32 := if x_wz u = 0 then (-1) else x_sz (x_sendT u q)
set_option maxHeartbeats 4000000 in
set_option maxRecDepth 100000 in
theorem kX0_send (l : Launch) (dC : Nat → ClassId) (dI : Nat → Nat → Nat) (qx qc qw qs : Nat) (cI : ClassId) (sz : Nat) (u : x_S)  (Wn : Nat) (hWn : Wn ≤ 259) (ew : x_wz u = nI Wn) (tT : Nat) : Met l yX0_send wsX0_send rmX0_send (va_Pc [.ref qx] (fun U => U.heap.size = sz ∧ va_P (dC, dI) vwCl (x_W qx qc qw qs cI u) U.heap ∧ va_K (dC, dI) vwCl [(cI, .int)] U ∧ va_D (fun _ => True) (x_W qx qc qw qs cI u) ∧ x_Tl tT (va_A (x_W qx qc qw qs cI u) sz) U)) (va_Qi (fun r u2 => r = x_send_r u ((Wn + 6) / 7) ∧ u2 = x_send u ((Wn + 6) / 7)) (x_At dC dI (va_A (x_W qx qc qw qs cI u) sz) qx qc qw qs cI) (va_A (x_W qx qc qw qs cI u) sz)) 0 0 (va_A (x_W qx qc qw qs cI u) sz) := by
  refine Met.ofW (cc := cX0_send) (maxL := 5) (ret := some .int) (by decide) rfl ?_
  intro p e s m args below meth c s₁ B hml hv
  obtain ⟨rfl, hsz, hP, hK, hD0, hXP⟩ := hv
  have hx := B.exec
  have hb := B.bytes
  have hr := B.returns
  have hts := atoms_spec (ws := wsX0_send) B.pre
  have hown : s.vm.findClass RX0 = some m.cls := findClass_of_methodNamed B.named
  have hlocks := B.notSynchronized
  have hinT : ∀ w ∈ wsX00, w ∈ wsX0_send := by decide +kernel
  subst hsz
  have hD := hD0.self (sz := s.heap.size)
  generalize hAe : va_A (x_W qx qc qw qs cI u) s.heap.size = A at hD hXP ⊢
  have hA : ∀ q : Nat, s.heap.size ≤ q → A q := fun q h => by rw [← hAe]; exact Or.inr h
  have hS : va_S A s.heap s.heap [] := va_S.rf
  have hD : va_D A [(qx, .inr (0, [.int (x_st u), .int (x_md u), .long (x_bt u), .int (x_cm u), .ref (x_hr u), .int (x_rs u), .ref (x_hv u), .int (x_vs u), .ref qc, .ref qw, .int (x_wz u), .ref qs, .int (x_sz u)])), (x_hr u, .inl (cI, 259, .inl (x_ro u))), (x_hv u, .inl (cI, 259, .inl (x_rc u))), (qc, .inl (cI, 5, .inl (x_cn u))), (qw, .inl (cI, 259, .inl (x_wt u))), (qs, .inl (cI, 306, .inl (x_sn u)))] := hD
  have hP : va_P (dC, dI) vwCl [(qx, .inr (0, [.int (x_st u), .int (x_md u), .long (x_bt u), .int (x_cm u), .ref (x_hr u), .int (x_rs u), .ref (x_hv u), .int (x_vs u), .ref qc, .ref qw, .int (x_wz u), .ref qs, .int (x_sz u)])), (x_hr u, .inl (cI, 259, .inl (x_ro u))), (x_hv u, .inl (cI, 259, .inl (x_rc u))), (qc, .inl (cI, 5, .inl (x_cn u))), (qw, .inl (cI, 259, .inl (x_wt u))), (qs, .inl (cI, 306, .inl (x_sn u)))] s.heap := hP
  have hl := lv_entry ([.ref qx]) (n := 5) (Nat.le_of_ble_eq_true rfl)
  rw [lg_entry_eq]
  generalize (lg_sl ([.ref qx]) ++ List.replicate (5 - (lg_sl ([.ref qx])).length) Slot.unset).toArray = ls at hl ⊢
  have hl : lv_has ls 5 [(0, .ref qx)] := hl
  obtain ⟨hZ, hT⟩ := hXP
  refine lv_aload_n hx hb dX0_send_0 rfl (lv_at hl 0 rfl) ?_
  refine va_get (D := (dC, dI)) (ci := 0) (v := .int (x_wz u)) (C := RX0) (T := TX0) (N := 13) hx hb hts hinT hown hK hP 0 rfl rfl 10 (by decide) (hts (.fieldLink RX0 43 "CodeBlocks" "waitingSize" "I") (by decide +kernel)) (fun _ h9 => h9) rfl dX0_send_1 ?_
  refine lv_if_ne (tgt := 9) hx hb dX0_send_4 (by decide) (fun c_1 => ?_) (fun c_1 => ?_)
  · refine lv_aload_n hx hb dX0_send_9 rfl (lv_at hl 0 rfl) ?_
    have hPc : va_P (dC, dI) vwCl (x_W qx qc qw qs cI u) s.heap := hP
    have hDc : va_D A (x_W qx qc qw qs cI u) := hD
    have hFc := va_free (wc := (x_W qx qc qw qs cI u)) hD hS hA [0, 1, 2, 3, 4, 5] rfl
    refine va_callv (va_runV (As := []) (rest := []) ⟨hx, hb, hml, hown, hts⟩ (kX0_fillLastBlock l dC dI qx qc qw qs cI s.heap.size u  ) (cwV 0 hts gX0_send_X0_fillLastBlock rfl rfl rfl (by decide +kernel) ⟨Nat.le_of_ble_eq_true rfl, Nat.le_of_ble_eq_true rfl⟩) ⟨fun a U g mk q => by obtain ⟨q0, q1, qP, qK, qD⟩ := q; exact ⟨q0, q1, qP, va_K.moved (u := U) (U := U.calling g mk a) (Vm.Alike.refl U.vm) qK, qD⟩, va_recv hK hP (ci := 0) (q0 := 0) rfl rfl, fun U hU hW => ⟨rfl, by rw [hU], by rw [hU]; exact hPc, va_K.moved hW.alike hK, hDc.weaken (fun _ _ _ _ => trivial)⟩⟩ rfl rfl hl.1 rfl (lv_room (Nat.le_of_ble_eq_true rfl)) dX0_send_10 ⟨Nat.le_of_ble_eq_true rfl, Nat.le_of_ble_eq_true rfl⟩) hS (fun q _ h => hFc q h) hFc (fun  u_2 t H1 locs ht hvm hu_2 hB hz1 hk1 hS => ?_)
    obtain ⟨hP1, -, hD1⟩ := hB
    rw [ht] at hP1
    have hP : va_P (dC, dI) vwCl [(qx, .inr (0, [.int (x_st u_2), .int (x_md u_2), .long (x_bt u_2), .int (x_cm u_2), .ref (x_hr u_2), .int (x_rs u_2), .ref (x_hv u_2), .int (x_vs u_2), .ref qc, .ref qw, .int (x_wz u_2), .ref qs, .int (x_sz u_2)])), (x_hr u_2, .inl (cI, 259, .inl (x_ro u_2))), (x_hv u_2, .inl (cI, 259, .inl (x_rc u_2))), (qc, .inl (cI, 5, .inl (x_cn u_2))), (qw, .inl (cI, 259, .inl (x_wt u_2))), (qs, .inl (cI, 306, .inl (x_sn u_2)))] H1 := hP1
    have hD : va_D A [(qx, .inr (0, [.int (x_st u_2), .int (x_md u_2), .long (x_bt u_2), .int (x_cm u_2), .ref (x_hr u_2), .int (x_rs u_2), .ref (x_hv u_2), .int (x_vs u_2), .ref qc, .ref qw, .int (x_wz u_2), .ref qs, .int (x_sz u_2)])), (x_hr u_2, .inl (cI, 259, .inl (x_ro u_2))), (x_hv u_2, .inl (cI, 259, .inl (x_rc u_2))), (qc, .inl (cI, 5, .inl (x_cn u_2))), (qw, .inl (cI, 259, .inl (x_wt u_2))), (qs, .inl (cI, 306, .inl (x_sn u_2)))] := hD1.weaken (fun k q _ h => hFc q.1 h)
    generalize H1 = H at hP hS ⊢
    refine lv_aload_n hx hb dX0_send_13 rfl (lv_at hl 0 rfl) ?_
    refine lv_iconst (v := 0) hx hb dX0_send_14 (by decide) ?_
    refine va_put (D := (dC, dI)) (ci := 0) (v := .int 0) (ty := .int) (C := RX0) (T := TX0) (N := 13) hx hb hts hinT tyX0 tyX0_ok nmX0 hown hK hP hD hS 0 rfl rfl 12 (by decide) (hts (.fieldLink RX0 49 "CodeBlocks" "sentSize" "I") (by decide +kernel)) (fun _ h9 => h9) rfl (by decide +kernel) rfl rfl (Nat.le_of_ble_eq_true rfl) dX0_send_15 (fun H locs hP hD hS => ?_)
    have hP : va_P (dC, dI) vwCl [(qx, .inr (0, [.int (x_st u_2), .int (x_md u_2), .long (x_bt u_2), .int (x_cm u_2), .ref (x_hr u_2), .int (x_rs u_2), .ref (x_hv u_2), .int (x_vs u_2), .ref qc, .ref qw, .int (x_wz u_2), .ref qs, .int 0])), (x_hr u_2, .inl (cI, 259, .inl (x_ro u_2))), (x_hv u_2, .inl (cI, 259, .inl (x_rc u_2))), (qc, .inl (cI, 5, .inl (x_cn u_2))), (qw, .inl (cI, 259, .inl (x_wt u_2))), (qs, .inl (cI, 306, .inl (x_sn u_2)))] H := hP
    have hD : va_D A [(qx, .inr (0, [.int (x_st u_2), .int (x_md u_2), .long (x_bt u_2), .int (x_cm u_2), .ref (x_hr u_2), .int (x_rs u_2), .ref (x_hv u_2), .int (x_vs u_2), .ref qc, .ref qw, .int (x_wz u_2), .ref qs, .int 0])), (x_hr u_2, .inl (cI, 259, .inl (x_ro u_2))), (x_hv u_2, .inl (cI, 259, .inl (x_rc u_2))), (qc, .inl (cI, 5, .inl (x_cn u_2))), (qw, .inl (cI, 259, .inl (x_wt u_2))), (qs, .inl (cI, 306, .inl (x_sn u_2)))] := hD
    refine lv_aload_n hx hb dX0_send_18 rfl (lv_at hl 0 rfl) ?_
    refine lv_ldc2 hx hb hown (hts (.constantLong RX0 52 60304) (by decide +kernel)) dX0_send_19 ?_
    refine lv_iconst (v := 2) hx hb dX0_send_22 (by decide) ?_
    have hPc : va_P (dC, dI) vwCl (x_W qx qc qw qs cI (x_st u_2, x_md u_2, x_bt u_2, x_cm u_2, x_hr u_2, x_rs u_2, x_hv u_2, x_vs u_2, x_wz u_2, 0, x_ro u_2, x_rc u_2, x_cn u_2, x_wt u_2, x_sn u_2)) H := hP
    have hDc : va_D A (x_W qx qc qw qs cI (x_st u_2, x_md u_2, x_bt u_2, x_cm u_2, x_hr u_2, x_rs u_2, x_hv u_2, x_vs u_2, x_wz u_2, 0, x_ro u_2, x_rc u_2, x_cn u_2, x_wt u_2, x_sn u_2)) := hD
    have hFc := va_free (wc := (x_W qx qc qw qs cI (x_st u_2, x_md u_2, x_bt u_2, x_cm u_2, x_hr u_2, x_rs u_2, x_hv u_2, x_vs u_2, x_wz u_2, 0, x_ro u_2, x_rc u_2, x_cn u_2, x_wt u_2, x_sn u_2))) hD hS hA [0, 1, 2, 3, 4, 5] rfl
    refine va_callv (va_runV (As := [.long 60304, .int 2]) (rest := []) ⟨hx, hb, hml, hown, hts⟩ (kX0_sendBytes l dC dI qx qc qw qs cI H.size (x_st u_2, x_md u_2, x_bt u_2, x_cm u_2, x_hr u_2, x_rs u_2, x_hv u_2, x_vs u_2, x_wz u_2, 0, x_ro u_2, x_rc u_2, x_cn u_2, x_wt u_2, x_sn u_2) 60304 2 (by decide)) (cwV 2 hts gX0_send_X0_sendBytes rfl rfl rfl (by decide +kernel) ⟨Nat.le_of_ble_eq_true rfl, Nat.le_of_ble_eq_true rfl⟩) ⟨fun a U g mk q => by obtain ⟨q0, q1, qP, qK, qD⟩ := q; exact ⟨q0, q1, qP, va_K.moved (u := U) (U := U.calling g mk a) (Vm.Alike.refl U.vm) qK, qD⟩, va_recv hK hP (ci := 0) (q0 := 0) rfl rfl, fun U hU hW => ⟨rfl, by rw [hU], by rw [hU]; exact hPc, va_K.moved hW.alike hK, hDc.weaken (fun _ _ _ _ => trivial)⟩⟩ rfl rfl hl.1 rfl (lv_room (Nat.le_of_ble_eq_true rfl)) dX0_send_23 ⟨Nat.le_of_ble_eq_true rfl, Nat.le_of_ble_eq_true rfl⟩) hS (fun q _ h => hFc q h) hFc (fun  u_3 t H1 locs ht hvm hu_3 hB hz1 hk1 hS => ?_)
    obtain ⟨hP1, -, hD1⟩ := hB
    rw [ht] at hP1
    have hP : va_P (dC, dI) vwCl [(qx, .inr (0, [.int (x_st u_3), .int (x_md u_3), .long (x_bt u_3), .int (x_cm u_3), .ref (x_hr u_3), .int (x_rs u_3), .ref (x_hv u_3), .int (x_vs u_3), .ref qc, .ref qw, .int (x_wz u_3), .ref qs, .int (x_sz u_3)])), (x_hr u_3, .inl (cI, 259, .inl (x_ro u_3))), (x_hv u_3, .inl (cI, 259, .inl (x_rc u_3))), (qc, .inl (cI, 5, .inl (x_cn u_3))), (qw, .inl (cI, 259, .inl (x_wt u_3))), (qs, .inl (cI, 306, .inl (x_sn u_3)))] H1 := hP1
    have hD : va_D A [(qx, .inr (0, [.int (x_st u_3), .int (x_md u_3), .long (x_bt u_3), .int (x_cm u_3), .ref (x_hr u_3), .int (x_rs u_3), .ref (x_hv u_3), .int (x_vs u_3), .ref qc, .ref qw, .int (x_wz u_3), .ref qs, .int (x_sz u_3)])), (x_hr u_3, .inl (cI, 259, .inl (x_ro u_3))), (x_hv u_3, .inl (cI, 259, .inl (x_rc u_3))), (qc, .inl (cI, 5, .inl (x_cn u_3))), (qw, .inl (cI, 259, .inl (x_wt u_3))), (qs, .inl (cI, 306, .inl (x_sn u_3)))] := hD1.weaken (fun k q _ h => hFc q.1 h)
    generalize H1 = H at hP hS ⊢
    refine lv_iconst (v := 0) hx hb dX0_send_26 (by decide) ?_
    refine lv_istore_n (lv' := [(1, .int 0), (0, .ref qx)]) hx hb dX0_send_27 rfl hl (by decide) rfl (fun ls hl => ?_)
    have ew1 : x_wz u_3 = nI (7 * ((Wn + 6) / 7)) := by rw [hu_3]; exact (x_sb_wz _ _ _).1.trans (by rw [hu_2]; exact x_fl_wz 6 u Wn ew hWn (by omega))
    refine lpX0_send1 (l := l) dC dI qx qc qw qs cI ((Wn + 6) / 7) (by omega) hx hb hml hown hts A hA hK  ((Wn + 6) / 7) u_3 0 H locs ls (by omega) ew1 hP hD hS (lv_sub hl [1, 0] rfl) (fun H locs ls hP hD hS hl => ?_)
    obtain ⟨v_4, hv_4⟩ : ∃ z, z = x_s1F ((Wn + 6) / 7) 0 u_3 := ⟨_, rfl⟩
    rw [← hv_4] at hP hD
    have hP : va_P (dC, dI) vwCl [(qx, .inr (0, [.int (x_st v_4), .int (x_md v_4), .long (x_bt v_4), .int (x_cm v_4), .ref (x_hr v_4), .int (x_rs v_4), .ref (x_hv v_4), .int (x_vs v_4), .ref qc, .ref qw, .int (x_wz v_4), .ref qs, .int (x_sz v_4)])), (x_hr v_4, .inl (cI, 259, .inl (x_ro v_4))), (x_hv v_4, .inl (cI, 259, .inl (x_rc v_4))), (qc, .inl (cI, 5, .inl (x_cn v_4))), (qw, .inl (cI, 259, .inl (x_wt v_4))), (qs, .inl (cI, 306, .inl (x_sn v_4)))] H := hP
    have hD : va_D A [(qx, .inr (0, [.int (x_st v_4), .int (x_md v_4), .long (x_bt v_4), .int (x_cm v_4), .ref (x_hr v_4), .int (x_rs v_4), .ref (x_hv v_4), .int (x_vs v_4), .ref qc, .ref qw, .int (x_wz v_4), .ref qs, .int (x_sz v_4)])), (x_hr v_4, .inl (cI, 259, .inl (x_ro v_4))), (x_hv v_4, .inl (cI, 259, .inl (x_rc v_4))), (qc, .inl (cI, 5, .inl (x_cn v_4))), (qw, .inl (cI, 259, .inl (x_wt v_4))), (qs, .inl (cI, 306, .inl (x_sn v_4)))] := hD
    refine va_gets hx hb hZ hS hown (hts (.fieldLink RX0 66 "CodeBlocks" "TAIL" "[I") (by decide +kernel)) (fun _ h9 => h9) dX0_send_56 ?_
    refine lv_astore_n (lv' := [(1, .ref tT), (0, .ref qx)]) hx hb dX0_send_59 rfl hl (by decide) rfl (fun ls hl => ?_)
    refine lv_aload_n hx hb dX0_send_60 rfl (lv_at hl 0 rfl) ?_
    refine va_tlen hx hb hT hS (v := 8) rfl dX0_send_61 ?_
    refine lv_istore_n (lv' := [(2, .int 8), (1, .ref tT), (0, .ref qx)]) hx hb dX0_send_62 rfl hl (by decide) rfl (fun ls hl => ?_)
    refine lv_iconst (v := 0) hx hb dX0_send_63 (by decide) ?_
    refine lv_istore_n (lv' := [(3, .int 0), (2, .int 8), (1, .ref tT), (0, .ref qx)]) hx hb dX0_send_64 rfl hl (by decide) rfl (fun ls hl => ?_)
    refine lpX0_send2 (l := l) dC dI qx qc qw qs cI tT hx hb hml hown hts A hA hK hT 8 v_4 0 H locs ls rfl hP hD hS (lv_sub hl [3, 2, 1, 0] rfl) (fun H locs ls hP hD hS hl => ?_)
    obtain ⟨v_5, hv_5⟩ : ∃ z, z = x_s2F 8 0 v_4 := ⟨_, rfl⟩
    rw [← hv_5] at hP hD
    have hP : va_P (dC, dI) vwCl [(qx, .inr (0, [.int (x_st v_5), .int (x_md v_5), .long (x_bt v_5), .int (x_cm v_5), .ref (x_hr v_5), .int (x_rs v_5), .ref (x_hv v_5), .int (x_vs v_5), .ref qc, .ref qw, .int (x_wz v_5), .ref qs, .int (x_sz v_5)])), (x_hr v_5, .inl (cI, 259, .inl (x_ro v_5))), (x_hv v_5, .inl (cI, 259, .inl (x_rc v_5))), (qc, .inl (cI, 5, .inl (x_cn v_5))), (qw, .inl (cI, 259, .inl (x_wt v_5))), (qs, .inl (cI, 306, .inl (x_sn v_5)))] H := hP
    have hD : va_D A [(qx, .inr (0, [.int (x_st v_5), .int (x_md v_5), .long (x_bt v_5), .int (x_cm v_5), .ref (x_hr v_5), .int (x_rs v_5), .ref (x_hv v_5), .int (x_vs v_5), .ref qc, .ref qw, .int (x_wz v_5), .ref qs, .int (x_sz v_5)])), (x_hr v_5, .inl (cI, 259, .inl (x_ro v_5))), (x_hv v_5, .inl (cI, 259, .inl (x_rc v_5))), (qc, .inl (cI, 5, .inl (x_cn v_5))), (qw, .inl (cI, 259, .inl (x_wt v_5))), (qs, .inl (cI, 306, .inl (x_sn v_5)))] := hD
    refine lv_aload_n hx hb dX0_send_89 rfl (lv_at hl 0 rfl) ?_
    refine lv_iconst (v := 0) hx hb dX0_send_90 (by decide) ?_
    refine va_put (D := (dC, dI)) (ci := 0) (v := .int 0) (ty := .int) (C := RX0) (T := TX0) (N := 13) hx hb hts hinT tyX0 tyX0_ok nmX0 hown hK hP hD hS 0 rfl rfl 10 (by decide) (hts (.fieldLink RX0 43 "CodeBlocks" "waitingSize" "I") (by decide +kernel)) (fun _ h9 => h9) rfl (by decide +kernel) rfl rfl (Nat.le_of_ble_eq_true rfl) dX0_send_91 (fun H locs hP hD hS => ?_)
    have hP : va_P (dC, dI) vwCl [(qx, .inr (0, [.int (x_st v_5), .int (x_md v_5), .long (x_bt v_5), .int (x_cm v_5), .ref (x_hr v_5), .int (x_rs v_5), .ref (x_hv v_5), .int (x_vs v_5), .ref qc, .ref qw, .int 0, .ref qs, .int (x_sz v_5)])), (x_hr v_5, .inl (cI, 259, .inl (x_ro v_5))), (x_hv v_5, .inl (cI, 259, .inl (x_rc v_5))), (qc, .inl (cI, 5, .inl (x_cn v_5))), (qw, .inl (cI, 259, .inl (x_wt v_5))), (qs, .inl (cI, 306, .inl (x_sn v_5)))] H := hP
    have hD : va_D A [(qx, .inr (0, [.int (x_st v_5), .int (x_md v_5), .long (x_bt v_5), .int (x_cm v_5), .ref (x_hr v_5), .int (x_rs v_5), .ref (x_hv v_5), .int (x_vs v_5), .ref qc, .ref qw, .int 0, .ref qs, .int (x_sz v_5)])), (x_hr v_5, .inl (cI, 259, .inl (x_ro v_5))), (x_hv v_5, .inl (cI, 259, .inl (x_rc v_5))), (qc, .inl (cI, 5, .inl (x_cn v_5))), (qw, .inl (cI, 259, .inl (x_wt v_5))), (qs, .inl (cI, 306, .inl (x_sn v_5)))] := hD
    refine lv_aload_n hx hb dX0_send_94 rfl (lv_at hl 0 rfl) ?_
    refine va_get (D := (dC, dI)) (ci := 0) (v := .int (x_sz v_5)) (C := RX0) (T := TX0) (N := 13) hx hb hts hinT hown hK hP 0 rfl rfl 12 (by decide) (hts (.fieldLink RX0 49 "CodeBlocks" "sentSize" "I") (by decide +kernel)) (fun _ h9 => h9) rfl dX0_send_95 ?_
    have e5 : v_5 = x_sendT u ((Wn + 6) / 7) := by rw [hv_5, hv_4, hu_3, hu_2, x_sendT, x_sz0]
    have hP9 : va_P (dC, dI) vwCl (x_W qx qc qw qs cI (x_st v_5, x_md v_5, x_bt v_5, x_cm v_5, x_hr v_5, x_rs v_5, x_hv v_5, x_vs v_5, 0, x_sz v_5, x_ro v_5, x_rc v_5, x_cn v_5, x_wt v_5, x_sn v_5)) H := hP
    have hD9 : va_D A (x_W qx qc qw qs cI (x_st v_5, x_md v_5, x_bt v_5, x_cm v_5, x_hr v_5, x_rs v_5, x_hv v_5, x_vs v_5, 0, x_sz v_5, x_ro v_5, x_rc v_5, x_cn v_5, x_wt v_5, x_sn v_5)) := hD
    exact W.iret (v := x_sz v_5) hx hb hr (fun t ht hW => ⟨⟨_, (x_st v_5, x_md v_5, x_bt v_5, x_cm v_5, x_hr v_5, x_rs v_5, x_hv v_5, x_vs v_5, 0, x_sz v_5, x_ro v_5, x_rc v_5, x_cn v_5, x_wt v_5, x_sn v_5), rfl, ⟨(by rw [e5]; unfold x_send_r; rw [if_neg c_1]), ((show _ = x_wz0 v_5 from rfl).trans (by rw [e5]; unfold x_send; rw [if_neg c_1]))⟩, by rw [ht]; exact hP9, va_K.moved hW.alike hK, hD9⟩, hS.F ht⟩) hS.2.2 dX0_send_98
  · refine lv_iconst (v := (-1)) hx hb dX0_send_7 (by decide) ?_
    have hP9 : va_P (dC, dI) vwCl (x_W qx qc qw qs cI u) s.heap := hP
    have hD9 : va_D A (x_W qx qc qw qs cI u) := hD
    exact W.iret (v := (-1)) hx hb hr (fun t ht hW => ⟨⟨_, u, rfl, ⟨(by unfold x_send_r; rw [if_pos c_1]), (by unfold x_send; rw [if_pos c_1])⟩, by rw [ht]; exact hP9, va_K.moved hW.alike hK, hD9⟩, hS.F ht⟩) hS.2.2 dX0_send_8
end
section
abbrev rmX0_init : Room := { frames := 1, cells := 5, slots := 1088, locals := 12 }
def x_init (hr hv : Nat) : x_S := (0, 0, 0, 0, hr, 0, hv, 0, 0, 0, (fun _ => 0), (fun _ => 0), (fun _ => 0), (fun _ => 0), (fun _ => 0))
set_option maxHeartbeats 4000000 in
set_option maxRecDepth 100000 in
theorem kX0_init (l : Launch) (dC : Nat → ClassId) (dI : Nat → Nat → Nat) (qx : Nat) (sz : Nat) : Met l yX0_init wsX0_init rmX0_init (va_Pc [.ref qx] (fun U => U.heap.size = sz ∧ va_P (dC, dI) vwCl [(qx, .inr (0, [.int 0, .int 0, .long 0, .int 0, .null, .int 0, .null, .int 0, .null, .null, .int 0, .null, .int 0]))] U.heap ∧ va_K (dC, dI) vwCl [] U ∧ va_D (fun _ => True) [(qx, .inr (0, [.int 0, .int 0, .long 0, .int 0, .null, .int 0, .null, .int 0, .null, .null, .int 0, .null, .int 0]))])) (va_Qv (fun _ => True) (fun (w : Nat × Nat × Nat × Nat × Nat × ClassId) t => x_At dC dI (va_A [(qx, .inr (0, [.int 0, .int 0, .long 0, .int 0, .null, .int 0, .null, .int 0, .null, .null, .int 0, .null, .int 0]))] sz) qx w.2.2.1 w.2.2.2.1 w.2.2.2.2.1 w.2.2.2.2.2 (x_init w.1 w.2.1) t) (va_A [(qx, .inr (0, [.int 0, .int 0, .long 0, .int 0, .null, .int 0, .null, .int 0, .null, .null, .int 0, .null, .int 0]))] sz)) 5 1088 (va_A [(qx, .inr (0, [.int 0, .int 0, .long 0, .int 0, .null, .int 0, .null, .int 0, .null, .null, .int 0, .null, .int 0]))] sz) := by
  refine Met.ofW (cc := cX0_init) (maxL := 1) (ret := none) (by decide) rfl ?_
  intro p e s m args below meth c s₁ B hml hv
  obtain ⟨rfl, hsz, hP, hK, hD0⟩ := hv
  have hx := B.exec
  have hb := B.bytes
  have hr := B.returns
  have hts := atoms_spec (ws := wsX0_init) B.pre
  have hown : s.vm.findClass RX0 = some m.cls := findClass_of_methodNamed B.named
  have hlocks := B.notSynchronized
  have hin : meth.name = "<init>" := (name_of_methodNamed B.named B.method).1
  have hinT : ∀ w ∈ wsX00, w ∈ wsX0_init := by decide +kernel
  subst hsz
  have hD := hD0.self (sz := s.heap.size)
  generalize hAe : va_A [(qx, .inr (0, [.int 0, .int 0, .long 0, .int 0, .null, .int 0, .null, .int 0, .null, .null, .int 0, .null, .int 0]))] s.heap.size = A at hD ⊢
  have hA : ∀ q : Nat, s.heap.size ≤ q → A q := fun q h => by rw [← hAe]; exact Or.inr h
  have hS : va_S A s.heap s.heap [] := va_S.rf
  have hP : va_P (dC, dI) vwCl [(qx, .inr (0, [.int 0, .int 0, .long 0, .int 0, .null, .int 0, .null, .int 0, .null, .null, .int 0, .null, .int 0]))] s.heap := hP
  have hl := lv_entry ([.ref qx]) (n := 1) (Nat.le_of_ble_eq_true rfl)
  rw [lg_entry_eq]
  generalize (lg_sl ([.ref qx]) ++ List.replicate (1 - (lg_sl ([.ref qx])).length) Slot.unset).toArray = ls at hl ⊢
  have hl : lv_has ls 1 [(0, .ref qx)] := hl
  refine lv_aload_n hx hb dX0_init_0 rfl (lv_at hl 0 rfl) ?_
  refine W.objInit hx hb hown (hts (.methodLink RX0 3 objectInit) (by decide +kernel)) (hts (.instanceMethod objectInit) (by decide +kernel)) (hts _ (List.mem_cons_of_mem _ (List.mem_append_left _ (List.mem_of_getElem? (i := 2) rfl)))) rfl (by rw [hml]; exact hl.1) rfl dX0_init_1 (Nat.le_of_ble_eq_true rfl) (Nat.le_of_ble_eq_true rfl) ?_
  refine W.eq (g2 := F0 m 4 ls []) rfl ?_
  refine lv_aload_n hx hb dX0_init_4 rfl (lv_at hl 0 rfl) ?_
  refine lv_iconst (v := 0) hx hb dX0_init_5 (by decide) ?_
  refine va_put (D := (dC, dI)) (ci := 0) (v := .int 0) (ty := .int) (C := RX0) (T := TX0) (N := 13) hx hb hts hinT tyX0 tyX0_ok nmX0 hown hK hP hD hS 0 rfl rfl 0 (by decide) (hts (.fieldLink RX0 9 "CodeBlocks" "state" "I") (by decide +kernel)) (fun _ h9 => h9) rfl (by decide +kernel) rfl rfl (Nat.le_of_ble_eq_true rfl) dX0_init_6 (fun H locs hP hD hS => ?_)
  have hP : va_P (dC, dI) vwCl [(qx, .inr (0, [.int 0, .int 0, .long 0, .int 0, .null, .int 0, .null, .int 0, .null, .null, .int 0, .null, .int 0]))] H := hP
  have hD : va_D A [(qx, .inr (0, [.int 0, .int 0, .long 0, .int 0, .null, .int 0, .null, .int 0, .null, .null, .int 0, .null, .int 0]))] := hD
  refine lv_aload_n hx hb dX0_init_9 rfl (lv_at hl 0 rfl) ?_
  refine lv_sipush (v := 259) hx hb dX0_init_10 (by decide) ?_
  refine va_newa (atype := .int) (N' := 259) (a0 := (259, .inl (fun _ => 0))) (ty := .int) (n := 259) hx hb (hts (.arrayClass .int) (by decide +kernel)) rfl hK hP hD hS hA (fun _ => rfl) (by decide) (by decide) (by decide) (Nat.le_of_ble_eq_true rfl) (Nat.le_of_ble_eq_true rfl) dX0_init_13 (fun q0 c0 H hK hP hD hS => ?_)
  have hK : va_K (dC, dI) vwCl [(c0, .int)] s := hK
  have hP : va_P (dC, dI) vwCl [(qx, .inr (0, [.int 0, .int 0, .long 0, .int 0, .null, .int 0, .null, .int 0, .null, .null, .int 0, .null, .int 0])), (q0, .inl (c0, 259, .inl (fun _ => 0)))] H := hP
  have hD : va_D A [(qx, .inr (0, [.int 0, .int 0, .long 0, .int 0, .null, .int 0, .null, .int 0, .null, .null, .int 0, .null, .int 0])), (q0, .inl (c0, 259, .inl (fun _ => 0)))] := hD
  refine W.widen (k := 1) (n := 259) (by omega) (by omega) ?_
  refine va_put (D := (dC, dI)) (ci := 0) (v := .ref q0) (ty := .array .int) (C := RX0) (T := TX0) (N := 13) hx hb hts hinT tyX0 tyX0_ok nmX0 hown hK hP hD hS 0 rfl rfl 4 (by decide) (hts (.fieldLink RX0 13 "CodeBlocks" "row" "[I") (by decide +kernel)) (fun _ h9 => h9) rfl (by decide +kernel) rfl rfl (Nat.le_of_ble_eq_true rfl) dX0_init_15 (fun H locs hP hD hS => ?_)
  have hP : va_P (dC, dI) vwCl [(qx, .inr (0, [.int 0, .int 0, .long 0, .int 0, .ref q0, .int 0, .null, .int 0, .null, .null, .int 0, .null, .int 0])), (q0, .inl (c0, 259, .inl (fun _ => 0)))] H := hP
  have hD : va_D A [(qx, .inr (0, [.int 0, .int 0, .long 0, .int 0, .ref q0, .int 0, .null, .int 0, .null, .null, .int 0, .null, .int 0])), (q0, .inl (c0, 259, .inl (fun _ => 0)))] := hD
  refine lv_aload_n hx hb dX0_init_18 rfl (lv_at hl 0 rfl) ?_
  refine lv_sipush (v := 259) hx hb dX0_init_19 (by decide) ?_
  refine va_newa (atype := .int) (N' := 259) (a0 := (259, .inl (fun _ => 0))) (ty := .int) (n := 259) hx hb (hts (.arrayClass .int) (by decide +kernel)) rfl hK hP hD hS hA (fun _ => rfl) (by decide) (by decide) (by decide) (Nat.le_of_ble_eq_true rfl) (Nat.le_of_ble_eq_true rfl) dX0_init_22 (fun q1 c1 H hK hP hD hS => ?_)
  have hK : va_K (dC, dI) vwCl [(c0, .int), (c1, .int)] s := hK
  have hP : va_P (dC, dI) vwCl [(qx, .inr (0, [.int 0, .int 0, .long 0, .int 0, .ref q0, .int 0, .null, .int 0, .null, .null, .int 0, .null, .int 0])), (q0, .inl (c0, 259, .inl (fun _ => 0))), (q1, .inl (c1, 259, .inl (fun _ => 0)))] H := hP
  have hD : va_D A [(qx, .inr (0, [.int 0, .int 0, .long 0, .int 0, .ref q0, .int 0, .null, .int 0, .null, .null, .int 0, .null, .int 0])), (q0, .inl (c0, 259, .inl (fun _ => 0))), (q1, .inl (c1, 259, .inl (fun _ => 0)))] := hD
  refine W.widen (k := 2) (n := 518) (by omega) (by omega) ?_
  refine va_put (D := (dC, dI)) (ci := 0) (v := .ref q1) (ty := .array .int) (C := RX0) (T := TX0) (N := 13) hx hb hts hinT tyX0 tyX0_ok nmX0 hown hK hP hD hS 0 rfl rfl 6 (by decide) (hts (.fieldLink RX0 17 "CodeBlocks" "received" "[I") (by decide +kernel)) (fun _ h9 => h9) rfl (by decide +kernel) rfl rfl (Nat.le_of_ble_eq_true rfl) dX0_init_24 (fun H locs hP hD hS => ?_)
  have hP : va_P (dC, dI) vwCl [(qx, .inr (0, [.int 0, .int 0, .long 0, .int 0, .ref q0, .int 0, .ref q1, .int 0, .null, .null, .int 0, .null, .int 0])), (q0, .inl (c0, 259, .inl (fun _ => 0))), (q1, .inl (c1, 259, .inl (fun _ => 0)))] H := hP
  have hD : va_D A [(qx, .inr (0, [.int 0, .int 0, .long 0, .int 0, .ref q0, .int 0, .ref q1, .int 0, .null, .null, .int 0, .null, .int 0])), (q0, .inl (c0, 259, .inl (fun _ => 0))), (q1, .inl (c1, 259, .inl (fun _ => 0)))] := hD
  refine lv_aload_n hx hb dX0_init_27 rfl (lv_at hl 0 rfl) ?_
  refine lv_iconst (v := 5) hx hb dX0_init_28 (by decide) ?_
  refine va_newa (atype := .int) (N' := 5) (a0 := (5, .inl (fun _ => 0))) (ty := .int) (n := 5) hx hb (hts (.arrayClass .int) (by decide +kernel)) rfl hK hP hD hS hA (fun _ => rfl) (by decide) (by decide) (by decide) (Nat.le_of_ble_eq_true rfl) (Nat.le_of_ble_eq_true rfl) dX0_init_29 (fun q2 c2 H hK hP hD hS => ?_)
  have hK : va_K (dC, dI) vwCl [(c0, .int), (c1, .int), (c2, .int)] s := hK
  have hP : va_P (dC, dI) vwCl [(qx, .inr (0, [.int 0, .int 0, .long 0, .int 0, .ref q0, .int 0, .ref q1, .int 0, .null, .null, .int 0, .null, .int 0])), (q0, .inl (c0, 259, .inl (fun _ => 0))), (q1, .inl (c1, 259, .inl (fun _ => 0))), (q2, .inl (c2, 5, .inl (fun _ => 0)))] H := hP
  have hD : va_D A [(qx, .inr (0, [.int 0, .int 0, .long 0, .int 0, .ref q0, .int 0, .ref q1, .int 0, .null, .null, .int 0, .null, .int 0])), (q0, .inl (c0, 259, .inl (fun _ => 0))), (q1, .inl (c1, 259, .inl (fun _ => 0))), (q2, .inl (c2, 5, .inl (fun _ => 0)))] := hD
  refine W.widen (k := 3) (n := 523) (by omega) (by omega) ?_
  refine va_putF (D := (dC, dI)) (ci := 0) (v := .ref q2) (ty := .array .int) (C := RX0) (T := TX0) (N := 13) hx hb hts hinT tyX0 tyX0_ok nmX0 hown hK hP hD hS 0 rfl rfl 8 (by decide) (hts (.fieldLink RX0 20 "CodeBlocks" "counts" "[I") (by decide +kernel)) (fun _ h9 => h9) rfl hin rfl (by decide +kernel) rfl rfl (Nat.le_of_ble_eq_true rfl) dX0_init_31 (fun H locs hP hD hS => ?_)
  have hP : va_P (dC, dI) vwCl [(qx, .inr (0, [.int 0, .int 0, .long 0, .int 0, .ref q0, .int 0, .ref q1, .int 0, .ref q2, .null, .int 0, .null, .int 0])), (q0, .inl (c0, 259, .inl (fun _ => 0))), (q1, .inl (c1, 259, .inl (fun _ => 0))), (q2, .inl (c2, 5, .inl (fun _ => 0)))] H := hP
  have hD : va_D A [(qx, .inr (0, [.int 0, .int 0, .long 0, .int 0, .ref q0, .int 0, .ref q1, .int 0, .ref q2, .null, .int 0, .null, .int 0])), (q0, .inl (c0, 259, .inl (fun _ => 0))), (q1, .inl (c1, 259, .inl (fun _ => 0))), (q2, .inl (c2, 5, .inl (fun _ => 0)))] := hD
  refine lv_aload_n hx hb dX0_init_34 rfl (lv_at hl 0 rfl) ?_
  refine lv_sipush (v := 259) hx hb dX0_init_35 (by decide) ?_
  refine va_newa (atype := .int) (N' := 259) (a0 := (259, .inl (fun _ => 0))) (ty := .int) (n := 259) hx hb (hts (.arrayClass .int) (by decide +kernel)) rfl hK hP hD hS hA (fun _ => rfl) (by decide) (by decide) (by decide) (Nat.le_of_ble_eq_true rfl) (Nat.le_of_ble_eq_true rfl) dX0_init_38 (fun q3 c3 H hK hP hD hS => ?_)
  have hK : va_K (dC, dI) vwCl [(c0, .int), (c1, .int), (c2, .int), (c3, .int)] s := hK
  have hP : va_P (dC, dI) vwCl [(qx, .inr (0, [.int 0, .int 0, .long 0, .int 0, .ref q0, .int 0, .ref q1, .int 0, .ref q2, .null, .int 0, .null, .int 0])), (q0, .inl (c0, 259, .inl (fun _ => 0))), (q1, .inl (c1, 259, .inl (fun _ => 0))), (q2, .inl (c2, 5, .inl (fun _ => 0))), (q3, .inl (c3, 259, .inl (fun _ => 0)))] H := hP
  have hD : va_D A [(qx, .inr (0, [.int 0, .int 0, .long 0, .int 0, .ref q0, .int 0, .ref q1, .int 0, .ref q2, .null, .int 0, .null, .int 0])), (q0, .inl (c0, 259, .inl (fun _ => 0))), (q1, .inl (c1, 259, .inl (fun _ => 0))), (q2, .inl (c2, 5, .inl (fun _ => 0))), (q3, .inl (c3, 259, .inl (fun _ => 0)))] := hD
  refine W.widen (k := 4) (n := 782) (by omega) (by omega) ?_
  refine va_putF (D := (dC, dI)) (ci := 0) (v := .ref q3) (ty := .array .int) (C := RX0) (T := TX0) (N := 13) hx hb hts hinT tyX0 tyX0_ok nmX0 hown hK hP hD hS 0 rfl rfl 9 (by decide) (hts (.fieldLink RX0 23 "CodeBlocks" "waiting" "[I") (by decide +kernel)) (fun _ h9 => h9) rfl hin rfl (by decide +kernel) rfl rfl (Nat.le_of_ble_eq_true rfl) dX0_init_40 (fun H locs hP hD hS => ?_)
  have hP : va_P (dC, dI) vwCl [(qx, .inr (0, [.int 0, .int 0, .long 0, .int 0, .ref q0, .int 0, .ref q1, .int 0, .ref q2, .ref q3, .int 0, .null, .int 0])), (q0, .inl (c0, 259, .inl (fun _ => 0))), (q1, .inl (c1, 259, .inl (fun _ => 0))), (q2, .inl (c2, 5, .inl (fun _ => 0))), (q3, .inl (c3, 259, .inl (fun _ => 0)))] H := hP
  have hD : va_D A [(qx, .inr (0, [.int 0, .int 0, .long 0, .int 0, .ref q0, .int 0, .ref q1, .int 0, .ref q2, .ref q3, .int 0, .null, .int 0])), (q0, .inl (c0, 259, .inl (fun _ => 0))), (q1, .inl (c1, 259, .inl (fun _ => 0))), (q2, .inl (c2, 5, .inl (fun _ => 0))), (q3, .inl (c3, 259, .inl (fun _ => 0)))] := hD
  refine lv_aload_n hx hb dX0_init_43 rfl (lv_at hl 0 rfl) ?_
  refine lv_sipush (v := 306) hx hb dX0_init_44 (by decide) ?_
  refine va_newa (atype := .int) (N' := 306) (a0 := (306, .inl (fun _ => 0))) (ty := .int) (n := 306) hx hb (hts (.arrayClass .int) (by decide +kernel)) rfl hK hP hD hS hA (fun _ => rfl) (by decide) (by decide) (by decide) (Nat.le_of_ble_eq_true rfl) (Nat.le_of_ble_eq_true rfl) dX0_init_47 (fun q4 c4 H hK hP hD hS => ?_)
  have hK : va_K (dC, dI) vwCl [(c0, .int), (c1, .int), (c2, .int), (c3, .int), (c4, .int)] s := hK
  have hP : va_P (dC, dI) vwCl [(qx, .inr (0, [.int 0, .int 0, .long 0, .int 0, .ref q0, .int 0, .ref q1, .int 0, .ref q2, .ref q3, .int 0, .null, .int 0])), (q0, .inl (c0, 259, .inl (fun _ => 0))), (q1, .inl (c1, 259, .inl (fun _ => 0))), (q2, .inl (c2, 5, .inl (fun _ => 0))), (q3, .inl (c3, 259, .inl (fun _ => 0))), (q4, .inl (c4, 306, .inl (fun _ => 0)))] H := hP
  have hD : va_D A [(qx, .inr (0, [.int 0, .int 0, .long 0, .int 0, .ref q0, .int 0, .ref q1, .int 0, .ref q2, .ref q3, .int 0, .null, .int 0])), (q0, .inl (c0, 259, .inl (fun _ => 0))), (q1, .inl (c1, 259, .inl (fun _ => 0))), (q2, .inl (c2, 5, .inl (fun _ => 0))), (q3, .inl (c3, 259, .inl (fun _ => 0))), (q4, .inl (c4, 306, .inl (fun _ => 0)))] := hD
  refine W.widen (k := 5) (n := 1088) (by omega) (by omega) ?_
  refine va_putF (D := (dC, dI)) (ci := 0) (v := .ref q4) (ty := .array .int) (C := RX0) (T := TX0) (N := 13) hx hb hts hinT tyX0 tyX0_ok nmX0 hown hK hP hD hS 0 rfl rfl 11 (by decide) (hts (.fieldLink RX0 26 "CodeBlocks" "sent" "[I") (by decide +kernel)) (fun _ h9 => h9) rfl hin rfl (by decide +kernel) rfl rfl (Nat.le_of_ble_eq_true rfl) dX0_init_49 (fun H locs hP hD hS => ?_)
  have hP : va_P (dC, dI) vwCl [(qx, .inr (0, [.int 0, .int 0, .long 0, .int 0, .ref q0, .int 0, .ref q1, .int 0, .ref q2, .ref q3, .int 0, .ref q4, .int 0])), (q0, .inl (c0, 259, .inl (fun _ => 0))), (q1, .inl (c1, 259, .inl (fun _ => 0))), (q2, .inl (c2, 5, .inl (fun _ => 0))), (q3, .inl (c3, 259, .inl (fun _ => 0))), (q4, .inl (c4, 306, .inl (fun _ => 0)))] H := hP
  have hD : va_D A [(qx, .inr (0, [.int 0, .int 0, .long 0, .int 0, .ref q0, .int 0, .ref q1, .int 0, .ref q2, .ref q3, .int 0, .ref q4, .int 0])), (q0, .inl (c0, 259, .inl (fun _ => 0))), (q1, .inl (c1, 259, .inl (fun _ => 0))), (q2, .inl (c2, 5, .inl (fun _ => 0))), (q3, .inl (c3, 259, .inl (fun _ => 0))), (q4, .inl (c4, 306, .inl (fun _ => 0)))] := hD
  have e1 : c1 = c0 := Option.some.inj ((show s.vm.findClass _ = some c1 from (hK.2 1 _ rfl).2).symm.trans (show s.vm.findClass _ = some c0 from (hK.2 0 _ rfl).2))
  have e2 : c2 = c0 := Option.some.inj ((show s.vm.findClass _ = some c2 from (hK.2 2 _ rfl).2).symm.trans (show s.vm.findClass _ = some c0 from (hK.2 0 _ rfl).2))
  have e3 : c3 = c0 := Option.some.inj ((show s.vm.findClass _ = some c3 from (hK.2 3 _ rfl).2).symm.trans (show s.vm.findClass _ = some c0 from (hK.2 0 _ rfl).2))
  have e4 : c4 = c0 := Option.some.inj ((show s.vm.findClass _ = some c4 from (hK.2 4 _ rfl).2).symm.trans (show s.vm.findClass _ = some c0 from (hK.2 0 _ rfl).2))
  subst e1
  subst e2
  subst e3
  subst e4
  have hK9 : va_K (dC, dI) vwCl [(_, .int)] s := hK.sub [0] rfl
  exact W.vret hx hb hr (fun t ht hW => ⟨⟨(q0, q1, q2, q3, q4, _), rfl, trivial, by rw [ht]; exact hP, va_K.moved hW.alike hK9, hD⟩, hS.F ht⟩) hS.2.2 dX0_init_52
end
section
theorem j_in4 {k N : Int32} {n : Nat} (hN : N.toInt + 1 = n) (h0 : ¬ k < 0) (h1 : k ≤ N) : vp_in k n := by
  rw [vp_in_iff]
  rw [Int32.lt_iff_toInt_lt, Int32.toInt_zero] at h0
  rw [Int32.le_iff_toInt_le] at h1
  omega
theorem j_in5 {k : Int32} {N n : Nat} (hN : N ≤ n ∧ n < 2 ^ 31) (h0 : ¬ k < 0) (h1 : k < nI N) : vp_in k n := by
  rw [vp_in_iff]
  rw [Int32.lt_iff_toInt_lt, Int32.toInt_zero] at h0
  rw [Int32.lt_iff_toInt_lt, nI_toInt (by omega)] at h1
  omega
theorem j_ltn {a b : Nat} (ha : a < 2 ^ 31) (hb : b < 2 ^ 31) (h : ¬ nI a ≤ nI b) : b < a := by
  rw [nI_leI ha hb] at h; omega
abbrev j_lshr (x : Int64) (y : Int32) : Int64 := x >>> (y.toInt64 &&& 63)
theorem inM : ∀ w ∈ wsX10, w ∈ tb := by decide +kernel
abbrev m_S : Type := Int32 × Int32 × Int32 × Nat × Nat × Nat × Nat × Nat × (Nat → Int32) × (Nat → Int32) × (Nat → Int32) × (Nat → Int32) × (Nat → Int32) × (Nat → Int32)
abbrev m_th (u : m_S) : Int32 := u.1
abbrev m_st (u : m_S) : Int32 := u.2.1
abbrev m_md (u : m_S) : Int32 := u.2.2.1
abbrev m_mn (u : m_S) : Nat := u.2.2.2.1
abbrev m_rw (u : m_S) : Nat := u.2.2.2.2.1
abbrev m_sz (u : m_S) : Nat := u.2.2.2.2.2.1
abbrev m_wn (u : m_S) : Nat := u.2.2.2.2.2.2.1
abbrev m_sn (u : m_S) : Nat := u.2.2.2.2.2.2.2.1
abbrev m_bi (u : m_S) : Nat → Int32 := u.2.2.2.2.2.2.2.2.1
abbrev m_ro (u : m_S) : Nat → Int32 := u.2.2.2.2.2.2.2.2.2.1
abbrev m_rc (u : m_S) : Nat → Int32 := u.2.2.2.2.2.2.2.2.2.2.1
abbrev m_wt (u : m_S) : Nat → Int32 := u.2.2.2.2.2.2.2.2.2.2.2.1
abbrev m_se (u : m_S) : Nat → Int32 := u.2.2.2.2.2.2.2.2.2.2.2.2.1
abbrev m_cn (u : m_S) : Nat → Int32 := u.2.2.2.2.2.2.2.2.2.2.2.2.2
abbrev m_W (qm pb pr pv pw ps pc : Nat) (cI : ClassId) (u : m_S) : va_W := [(qm, .inr (1, [.int (m_th u), .int (m_st u), .int (m_md u), .ref pb, .int (nI (m_mn u)), .ref pr, .int (nI (m_rw u)), .ref pv, .int (nI (m_sz u)), .ref pw, .int (nI (m_wn u)), .ref ps, .int (nI (m_sn u)), .ref pc])), (pb, .inl (cI, 64, .inl (m_bi u))), (pr, .inl (cI, 259, .inl (m_ro u))), (pv, .inl (cI, 259, .inl (m_rc u))), (pw, .inl (cI, 259, .inl (m_wt u))), (ps, .inl (cI, 306, .inl (m_se u))), (pc, .inl (cI, 5, .inl (m_cn u)))]
abbrev m_At (dC : Nat → ClassId) (dI : Nat → Nat → Nat) (A : Nat → Prop) (qm pb pr pv pw ps pc : Nat) (cI : ClassId) (u : m_S) (t : State) : Prop := va_P (dC, dI) vwCl (m_W qm pb pr pv pw ps pc cI u) t.heap ∧ va_K (dC, dI) vwCl [(cI, .int)] t ∧ va_D A (m_W qm pb pr pv pw ps pc cI u)
theorem fl_7 : Cond.fieldLink RX1 7 "CodeBlocksModel" "bits" "[I" ∈ tb := by decide +kernel
theorem fl_13 : Cond.fieldLink RX1 13 "CodeBlocksModel" "row" "[I" ∈ tb := by decide +kernel
theorem fl_16 : Cond.fieldLink RX1 16 "CodeBlocksModel" "received" "[I" ∈ tb := by decide +kernel
theorem fl_19 : Cond.fieldLink RX1 19 "CodeBlocksModel" "wanted" "[I" ∈ tb := by decide +kernel
theorem fl_22 : Cond.fieldLink RX1 22 "CodeBlocksModel" "sent" "[I" ∈ tb := by decide +kernel
theorem fl_25 : Cond.fieldLink RX1 25 "CodeBlocksModel" "counts" "[I" ∈ tb := by decide +kernel
theorem fl_28 : Cond.fieldLink RX1 28 "CodeBlocksModel" "thrown" "I" ∈ tb := by decide +kernel
theorem fl_36 : Cond.fieldLink RX1 36 "CodeBlocksModel" "mends" "Z" ∈ tb := by decide +kernel
theorem fl_40 : Cond.fieldLink RX1 40 "CodeBlocksModel" "state" "I" ∈ tb := by decide +kernel
theorem fl_43 : Cond.fieldLink RX1 43 "CodeBlocksModel" "many" "I" ∈ tb := by decide +kernel
theorem fl_46 : Cond.fieldLink RX1 46 "CodeBlocksModel" "rows" "I" ∈ tb := by decide +kernel
theorem fl_49 : Cond.fieldLink RX1 49 "CodeBlocksModel" "size" "I" ∈ tb := by decide +kernel
theorem fl_74 : Cond.fieldLink RX1 74 "CodeBlocksModel" "wants" "I" ∈ tb := by decide +kernel
theorem fl_77 : Cond.fieldLink RX1 77 "CodeBlocksModel" "sends" "I" ∈ tb := by decide +kernel
theorem gM_X1_divided {c0 : Cond} : GoodIn (c0 :: tb) (wsV RX1 32 RX1 yX1_divided vX1_divided) := tb_v (tb_in tbX1_divided) (by decide +kernel)
theorem gM_X1_begins {c0 : Cond} : GoodIn (c0 :: tb) (wsV RX1 52 RX1 yX1_begins vX1_begins) := tb_v (tb_in tbX1_begins) (by decide +kernel)
theorem gM_X1_wrong {c0 : Cond} : GoodIn (c0 :: tb) (wsV RX1 56 RX1 yX1_wrong vX1_wrong) := tb_v (tb_in tbX1_wrong) (by decide +kernel)
theorem gM_X1_ends {c0 : Cond} : GoodIn (c0 :: tb) (wsV RX1 60 RX1 yX1_ends vX1_ends) := tb_v (tb_in tbX1_ends) (by decide +kernel)
theorem gM_X1_block {c0 : Cond} : GoodIn (c0 :: tb) (wsV RX1 64 RX1 yX1_block vX1_block) := tb_v (tb_in tbX1_block) (by decide +kernel)
theorem gM_X1_look {c0 : Cond} : GoodIn (c0 :: tb) (wsV RX1 67 RX1 yX1_look vX1_look) := tb_v (tb_in tbX1_look) (by decide +kernel)
theorem gM_X1_bit {c0 : Cond} : GoodIn (c0 :: tb) (wsV RX1 70 RX1 yX1_bit vX1_bit) := tb_v (tb_in tbX1_bit) (by decide +kernel)
theorem gM_X1_out {c0 : Cond} : GoodIn (c0 :: tb) (wsV RX1 80 RX1 yX1_out vX1_out) := tb_v (tb_in tbX1_out) (by decide +kernel)
theorem gM_X1_check {c0 : Cond} : GoodIn (c0 :: tb) (wsV RX1 83 RX1 yX1_check vX1_check) := tb_v (tb_in tbX1_check) (by decide +kernel)
theorem tbObj : Cond.code objectInit ⟨#[0xb1]⟩ 1 none ∈ tb := List.mem_filter.mpr ⟨by decide +kernel, rfl⟩
end
section
abbrev rmX1_divided : Room := { frames := 0, cells := 0, slots := 0, locals := 0 }
def m_rd (z : Int32) : Int32 := if z ≤ 127 then z else z ^^^ 197
def m_dvF (u : m_S) (a0 : Int32) : Nat → Nat → Int32 → Int32
  | 0, _, r => r
  | n + 1, k, r => m_dvF u a0 n (k + 1) (m_rd ((2 * r) + (((m_bi u k) ^^^ (if nI k ≤ 55 then 0 else 1)) ^^^ (if nI k = a0 then 1 else 0))))
set_option maxHeartbeats 4000000 in
set_option maxRecDepth 100000 in
theorem lpX1_divided {p : Program} {l : Launch} {e : Env} {s : State} {m : MethodId} {args : Array Value} {below : List Frame} {meth : Method} {c : Code} {H : Heap} {locs : List Loc} {Q : State → Prop} (dC : Nat → ClassId) (dI : Nat → Nat → Nat) (qm pb pr pv pw ps pc : Nat) (cI : ClassId) (a0 : Int32) (hx : p.tables.exec = Jvm.exec) (hb : c.code = cX1_divided) (hml : c.maxLocals = 5) (hown : s.vm.findClass RX1 = some m.cls) (hts : ∀ w ∈ vX1_divided, w.before args s = true) (u : m_S) (hP : va_P (dC, dI) vwCl (m_W qm pb pr pv pw ps pc cI u) H) (hK : va_K (dC, dI) vwCl [(cI, .int)] s) : ∀ (n : Nat) (k : Nat) (r : Int32) (ls : Array Slot), k + n = 63 → lv_has ls 5 [(0, .ref qm), (1, .int a0), (2, .int r), (3, .int (nI k))] → (∀ (ls : Array Slot), lv_has ls 5 [(2, .int (m_dvF u a0 n k r))] → W p l e (headSpec vX1_divided rmX1_divided).room s m args below meth c H locs 0 0 Q (F0 m 70 ls [])) → W p l e (headSpec vX1_divided rmX1_divided).room s m args below meth c H locs 0 0 Q (F0 m 4 ls []) := by
  have hinT : ∀ w ∈ wsX10, w ∈ vX1_divided := fun w h => List.mem_cons_of_mem _ (inM w h)
  have hP : va_P (dC, dI) vwCl [(qm, .inr (1, [.int (m_th u), .int (m_st u), .int (m_md u), .ref pb, .int (nI (m_mn u)), .ref pr, .int (nI (m_rw u)), .ref pv, .int (nI (m_sz u)), .ref pw, .int (nI (m_wn u)), .ref ps, .int (nI (m_sn u)), .ref pc])), (pb, .inl (cI, 64, .inl (m_bi u))), (pr, .inl (cI, 259, .inl (m_ro u))), (pv, .inl (cI, 259, .inl (m_rc u))), (pw, .inl (cI, 259, .inl (m_wt u))), (ps, .inl (cI, 306, .inl (m_se u))), (pc, .inl (cI, 5, .inl (m_cn u)))] H := hP
  intro n
  induction n with
  | zero =>
    intro k r ls hn hl kk
    have hk : k = 63 := by omega
    subst hk
    have hl : lv_has ls 5 [(0, .ref qm), (1, .int a0), (2, .int r), (3, .int (nI 63))] := hl
    refine lv_iload_n hx hb dX1_divided_4 rfl (lv_at hl 3 rfl) ?_
    refine lv_bipush (v := 63) hx hb dX1_divided_5 (by decide) ?_
    refine lv_icmp_ge (tgt := 70) hx hb dX1_divided_7 (by decide) (fun c_1 => ?_) (fun c_1 => absurd (by decide) c_1)
    exact kk ls (lv_sub hl [2] rfl)
  | succ n ih =>
    intro k r ls hn hl kk
    have hl : lv_has ls 5 [(0, .ref qm), (1, .int a0), (2, .int r), (3, .int (nI k))] := hl
    refine lv_iload_n hx hb dX1_divided_4 rfl (lv_at hl 3 rfl) ?_
    refine lv_bipush (v := 63) hx hb dX1_divided_5 (by decide) ?_
    refine lv_icmp_ge (tgt := 70) hx hb dX1_divided_7 (by decide) (fun c_1 => absurd c_1 (show ¬ nI 63 ≤ nI k from nI_ge (by omega) (by decide))) (fun c_1 => ?_)
    refine lv_aload_n hx hb dX1_divided_10 rfl (lv_at hl 0 rfl) ?_
    refine va_get (D := (dC, dI)) (ci := 1) (v := .ref pb) (C := RX1) (T := TX1) (N := 14) hx hb hts hinT hown hK hP 0 rfl rfl 3 (by decide) (hts _ (List.mem_cons_of_mem _ fl_7)) (fun _ h9 => h9) rfl dX1_divided_11 ?_
    refine lv_iload_n hx hb dX1_divided_14 rfl (lv_at hl 3 rfl) ?_
    refine va_iald hx hb hK hP 1 0 rfl rfl (vp_in_nI (by omega) (by decide)) dX1_divided_15 ?_
    refine W.eq (g2 := F0 m 16 ls [.int ((m_bi u) k)]) (by rw [nI_clamp (by omega)]) ?_
    refine lv_iload_n hx hb dX1_divided_16 rfl (lv_at hl 3 rfl) ?_
    refine lv_bipush (v := 55) hx hb dX1_divided_17 (by decide) ?_
    refine lv_icmp_le (tgt := 26) hx hb dX1_divided_19 (by decide) (fun c_2 => ?_) (fun c_2 => ?_)
    · refine lv_iconst (v := 0) hx hb dX1_divided_26 (by decide) ?_
      refine lv_ixor hx hb dX1_divided_27 ?_
      refine lv_iload_n hx hb dX1_divided_28 rfl (lv_at hl 3 rfl) ?_
      refine lv_iload_n hx hb dX1_divided_29 rfl (lv_at hl 1 rfl) ?_
      refine lv_icmp_ne (tgt := 37) hx hb dX1_divided_30 (by decide) (fun c_3 => ?_) (fun c_3 => ?_)
      · refine lv_iconst (v := 0) hx hb dX1_divided_37 (by decide) ?_
        refine lv_ixor hx hb dX1_divided_38 ?_
        refine lv_istore (lv' := [(4, .int ((((m_bi u) k) ^^^ 0) ^^^ 0)), (0, .ref qm), (1, .int a0), (2, .int r), (3, .int (nI k))]) hx hb dX1_divided_39 hl (by decide) rfl (fun ls hl => ?_)
        refine lv_iconst (v := 2) hx hb dX1_divided_41 (by decide) ?_
        refine lv_iload_n hx hb dX1_divided_42 rfl (lv_at hl 3 rfl) ?_
        refine lv_imul hx hb dX1_divided_43 ?_
        refine lv_iload hx hb dX1_divided_44 (lv_at hl 0 rfl) ?_
        refine lv_iadd hx hb dX1_divided_46 ?_
        refine lv_istore_n (lv' := [(2, .int ((2 * r) + ((((m_bi u) k) ^^^ 0) ^^^ 0))), (4, .int ((((m_bi u) k) ^^^ 0) ^^^ 0)), (0, .ref qm), (1, .int a0), (3, .int (nI k))]) hx hb dX1_divided_47 rfl hl (by decide) rfl (fun ls hl => ?_)
        refine lv_iload_n hx hb dX1_divided_48 rfl (lv_at hl 0 rfl) ?_
        refine lv_bipush (v := 127) hx hb dX1_divided_49 (by decide) ?_
        refine lv_icmp_le (tgt := 62) hx hb dX1_divided_51 (by decide) (fun c_4 => ?_) (fun c_4 => ?_)
        · refine lv_iload_n hx hb dX1_divided_62 rfl (lv_at hl 0 rfl) ?_
          refine lv_istore_n (lv' := [(2, .int ((2 * r) + ((((m_bi u) k) ^^^ 0) ^^^ 0))), (4, .int ((((m_bi u) k) ^^^ 0) ^^^ 0)), (0, .ref qm), (1, .int a0), (3, .int (nI k))]) hx hb dX1_divided_63 rfl hl (by decide) rfl (fun ls hl => ?_)
          refine lv_iinc (v := nI (k + 1)) (lv' := [(3, .int (nI (k + 1))), (2, .int ((2 * r) + ((((m_bi u) k) ^^^ 0) ^^^ 0))), (4, .int ((((m_bi u) k) ^^^ 0) ^^^ 0)), (0, .ref qm), (1, .int a0)]) hx hb dX1_divided_64 hl (k := 4) rfl (show nI k + nI 1 = nI (k + 1) from nI_add _ _) (by decide) rfl (fun ls hl => ?_)
          refine lv_goto (tgt := 4) hx hb dX1_divided_67 (by decide) ?_
          have eF : m_dvF u a0 (n + 1) k r = m_dvF u a0 n (k + 1) ((2 * r) + ((((m_bi u) k) ^^^ 0) ^^^ 0)) := by simp only [m_dvF, m_rd, if_pos c_2, if_neg c_3, if_pos c_4]
          exact ih (k + 1) ((2 * r) + ((((m_bi u) k) ^^^ 0) ^^^ 0)) ls (by omega) (lv_sub hl [3, 4, 1, 0] rfl) (fun ls hl => kk ls (by rw [eF]; exact hl))
        · refine lv_iload_n hx hb dX1_divided_54 rfl (lv_at hl 0 rfl) ?_
          refine lv_sipush (v := 197) hx hb dX1_divided_55 (by decide) ?_
          refine lv_ixor hx hb dX1_divided_58 ?_
          refine lv_goto (tgt := 63) hx hb dX1_divided_59 (by decide) ?_
          refine lv_istore_n (lv' := [(2, .int (((2 * r) + ((((m_bi u) k) ^^^ 0) ^^^ 0)) ^^^ 197)), (4, .int ((((m_bi u) k) ^^^ 0) ^^^ 0)), (0, .ref qm), (1, .int a0), (3, .int (nI k))]) hx hb dX1_divided_63 rfl hl (by decide) rfl (fun ls hl => ?_)
          refine lv_iinc (v := nI (k + 1)) (lv' := [(3, .int (nI (k + 1))), (2, .int (((2 * r) + ((((m_bi u) k) ^^^ 0) ^^^ 0)) ^^^ 197)), (4, .int ((((m_bi u) k) ^^^ 0) ^^^ 0)), (0, .ref qm), (1, .int a0)]) hx hb dX1_divided_64 hl (k := 4) rfl (show nI k + nI 1 = nI (k + 1) from nI_add _ _) (by decide) rfl (fun ls hl => ?_)
          refine lv_goto (tgt := 4) hx hb dX1_divided_67 (by decide) ?_
          have eF : m_dvF u a0 (n + 1) k r = m_dvF u a0 n (k + 1) (((2 * r) + ((((m_bi u) k) ^^^ 0) ^^^ 0)) ^^^ 197) := by simp only [m_dvF, m_rd, if_pos c_2, if_neg c_3, if_neg c_4]
          exact ih (k + 1) (((2 * r) + ((((m_bi u) k) ^^^ 0) ^^^ 0)) ^^^ 197) ls (by omega) (lv_sub hl [3, 4, 1, 0] rfl) (fun ls hl => kk ls (by rw [eF]; exact hl))
      · refine lv_iconst (v := 1) hx hb dX1_divided_33 (by decide) ?_
        refine lv_goto (tgt := 38) hx hb dX1_divided_34 (by decide) ?_
        refine lv_ixor hx hb dX1_divided_38 ?_
        refine lv_istore (lv' := [(4, .int ((((m_bi u) k) ^^^ 0) ^^^ 1)), (0, .ref qm), (1, .int a0), (2, .int r), (3, .int (nI k))]) hx hb dX1_divided_39 hl (by decide) rfl (fun ls hl => ?_)
        refine lv_iconst (v := 2) hx hb dX1_divided_41 (by decide) ?_
        refine lv_iload_n hx hb dX1_divided_42 rfl (lv_at hl 3 rfl) ?_
        refine lv_imul hx hb dX1_divided_43 ?_
        refine lv_iload hx hb dX1_divided_44 (lv_at hl 0 rfl) ?_
        refine lv_iadd hx hb dX1_divided_46 ?_
        refine lv_istore_n (lv' := [(2, .int ((2 * r) + ((((m_bi u) k) ^^^ 0) ^^^ 1))), (4, .int ((((m_bi u) k) ^^^ 0) ^^^ 1)), (0, .ref qm), (1, .int a0), (3, .int (nI k))]) hx hb dX1_divided_47 rfl hl (by decide) rfl (fun ls hl => ?_)
        refine lv_iload_n hx hb dX1_divided_48 rfl (lv_at hl 0 rfl) ?_
        refine lv_bipush (v := 127) hx hb dX1_divided_49 (by decide) ?_
        refine lv_icmp_le (tgt := 62) hx hb dX1_divided_51 (by decide) (fun c_5 => ?_) (fun c_5 => ?_)
        · refine lv_iload_n hx hb dX1_divided_62 rfl (lv_at hl 0 rfl) ?_
          refine lv_istore_n (lv' := [(2, .int ((2 * r) + ((((m_bi u) k) ^^^ 0) ^^^ 1))), (4, .int ((((m_bi u) k) ^^^ 0) ^^^ 1)), (0, .ref qm), (1, .int a0), (3, .int (nI k))]) hx hb dX1_divided_63 rfl hl (by decide) rfl (fun ls hl => ?_)
          refine lv_iinc (v := nI (k + 1)) (lv' := [(3, .int (nI (k + 1))), (2, .int ((2 * r) + ((((m_bi u) k) ^^^ 0) ^^^ 1))), (4, .int ((((m_bi u) k) ^^^ 0) ^^^ 1)), (0, .ref qm), (1, .int a0)]) hx hb dX1_divided_64 hl (k := 4) rfl (show nI k + nI 1 = nI (k + 1) from nI_add _ _) (by decide) rfl (fun ls hl => ?_)
          refine lv_goto (tgt := 4) hx hb dX1_divided_67 (by decide) ?_
          have eF : m_dvF u a0 (n + 1) k r = m_dvF u a0 n (k + 1) ((2 * r) + ((((m_bi u) k) ^^^ 0) ^^^ 1)) := by simp only [m_dvF, m_rd, if_pos c_2, if_pos c_3, if_pos c_5]
          exact ih (k + 1) ((2 * r) + ((((m_bi u) k) ^^^ 0) ^^^ 1)) ls (by omega) (lv_sub hl [3, 4, 1, 0] rfl) (fun ls hl => kk ls (by rw [eF]; exact hl))
        · refine lv_iload_n hx hb dX1_divided_54 rfl (lv_at hl 0 rfl) ?_
          refine lv_sipush (v := 197) hx hb dX1_divided_55 (by decide) ?_
          refine lv_ixor hx hb dX1_divided_58 ?_
          refine lv_goto (tgt := 63) hx hb dX1_divided_59 (by decide) ?_
          refine lv_istore_n (lv' := [(2, .int (((2 * r) + ((((m_bi u) k) ^^^ 0) ^^^ 1)) ^^^ 197)), (4, .int ((((m_bi u) k) ^^^ 0) ^^^ 1)), (0, .ref qm), (1, .int a0), (3, .int (nI k))]) hx hb dX1_divided_63 rfl hl (by decide) rfl (fun ls hl => ?_)
          refine lv_iinc (v := nI (k + 1)) (lv' := [(3, .int (nI (k + 1))), (2, .int (((2 * r) + ((((m_bi u) k) ^^^ 0) ^^^ 1)) ^^^ 197)), (4, .int ((((m_bi u) k) ^^^ 0) ^^^ 1)), (0, .ref qm), (1, .int a0)]) hx hb dX1_divided_64 hl (k := 4) rfl (show nI k + nI 1 = nI (k + 1) from nI_add _ _) (by decide) rfl (fun ls hl => ?_)
          refine lv_goto (tgt := 4) hx hb dX1_divided_67 (by decide) ?_
          have eF : m_dvF u a0 (n + 1) k r = m_dvF u a0 n (k + 1) (((2 * r) + ((((m_bi u) k) ^^^ 0) ^^^ 1)) ^^^ 197) := by simp only [m_dvF, m_rd, if_pos c_2, if_pos c_3, if_neg c_5]
          exact ih (k + 1) (((2 * r) + ((((m_bi u) k) ^^^ 0) ^^^ 1)) ^^^ 197) ls (by omega) (lv_sub hl [3, 4, 1, 0] rfl) (fun ls hl => kk ls (by rw [eF]; exact hl))
    · refine lv_iconst (v := 1) hx hb dX1_divided_22 (by decide) ?_
      refine lv_goto (tgt := 27) hx hb dX1_divided_23 (by decide) ?_
      refine lv_ixor hx hb dX1_divided_27 ?_
      refine lv_iload_n hx hb dX1_divided_28 rfl (lv_at hl 3 rfl) ?_
      refine lv_iload_n hx hb dX1_divided_29 rfl (lv_at hl 1 rfl) ?_
      refine lv_icmp_ne (tgt := 37) hx hb dX1_divided_30 (by decide) (fun c_6 => ?_) (fun c_6 => ?_)
      · refine lv_iconst (v := 0) hx hb dX1_divided_37 (by decide) ?_
        refine lv_ixor hx hb dX1_divided_38 ?_
        refine lv_istore (lv' := [(4, .int ((((m_bi u) k) ^^^ 1) ^^^ 0)), (0, .ref qm), (1, .int a0), (2, .int r), (3, .int (nI k))]) hx hb dX1_divided_39 hl (by decide) rfl (fun ls hl => ?_)
        refine lv_iconst (v := 2) hx hb dX1_divided_41 (by decide) ?_
        refine lv_iload_n hx hb dX1_divided_42 rfl (lv_at hl 3 rfl) ?_
        refine lv_imul hx hb dX1_divided_43 ?_
        refine lv_iload hx hb dX1_divided_44 (lv_at hl 0 rfl) ?_
        refine lv_iadd hx hb dX1_divided_46 ?_
        refine lv_istore_n (lv' := [(2, .int ((2 * r) + ((((m_bi u) k) ^^^ 1) ^^^ 0))), (4, .int ((((m_bi u) k) ^^^ 1) ^^^ 0)), (0, .ref qm), (1, .int a0), (3, .int (nI k))]) hx hb dX1_divided_47 rfl hl (by decide) rfl (fun ls hl => ?_)
        refine lv_iload_n hx hb dX1_divided_48 rfl (lv_at hl 0 rfl) ?_
        refine lv_bipush (v := 127) hx hb dX1_divided_49 (by decide) ?_
        refine lv_icmp_le (tgt := 62) hx hb dX1_divided_51 (by decide) (fun c_7 => ?_) (fun c_7 => ?_)
        · refine lv_iload_n hx hb dX1_divided_62 rfl (lv_at hl 0 rfl) ?_
          refine lv_istore_n (lv' := [(2, .int ((2 * r) + ((((m_bi u) k) ^^^ 1) ^^^ 0))), (4, .int ((((m_bi u) k) ^^^ 1) ^^^ 0)), (0, .ref qm), (1, .int a0), (3, .int (nI k))]) hx hb dX1_divided_63 rfl hl (by decide) rfl (fun ls hl => ?_)
          refine lv_iinc (v := nI (k + 1)) (lv' := [(3, .int (nI (k + 1))), (2, .int ((2 * r) + ((((m_bi u) k) ^^^ 1) ^^^ 0))), (4, .int ((((m_bi u) k) ^^^ 1) ^^^ 0)), (0, .ref qm), (1, .int a0)]) hx hb dX1_divided_64 hl (k := 4) rfl (show nI k + nI 1 = nI (k + 1) from nI_add _ _) (by decide) rfl (fun ls hl => ?_)
          refine lv_goto (tgt := 4) hx hb dX1_divided_67 (by decide) ?_
          have eF : m_dvF u a0 (n + 1) k r = m_dvF u a0 n (k + 1) ((2 * r) + ((((m_bi u) k) ^^^ 1) ^^^ 0)) := by simp only [m_dvF, m_rd, if_neg c_2, if_neg c_6, if_pos c_7]
          exact ih (k + 1) ((2 * r) + ((((m_bi u) k) ^^^ 1) ^^^ 0)) ls (by omega) (lv_sub hl [3, 4, 1, 0] rfl) (fun ls hl => kk ls (by rw [eF]; exact hl))
        · refine lv_iload_n hx hb dX1_divided_54 rfl (lv_at hl 0 rfl) ?_
          refine lv_sipush (v := 197) hx hb dX1_divided_55 (by decide) ?_
          refine lv_ixor hx hb dX1_divided_58 ?_
          refine lv_goto (tgt := 63) hx hb dX1_divided_59 (by decide) ?_
          refine lv_istore_n (lv' := [(2, .int (((2 * r) + ((((m_bi u) k) ^^^ 1) ^^^ 0)) ^^^ 197)), (4, .int ((((m_bi u) k) ^^^ 1) ^^^ 0)), (0, .ref qm), (1, .int a0), (3, .int (nI k))]) hx hb dX1_divided_63 rfl hl (by decide) rfl (fun ls hl => ?_)
          refine lv_iinc (v := nI (k + 1)) (lv' := [(3, .int (nI (k + 1))), (2, .int (((2 * r) + ((((m_bi u) k) ^^^ 1) ^^^ 0)) ^^^ 197)), (4, .int ((((m_bi u) k) ^^^ 1) ^^^ 0)), (0, .ref qm), (1, .int a0)]) hx hb dX1_divided_64 hl (k := 4) rfl (show nI k + nI 1 = nI (k + 1) from nI_add _ _) (by decide) rfl (fun ls hl => ?_)
          refine lv_goto (tgt := 4) hx hb dX1_divided_67 (by decide) ?_
          have eF : m_dvF u a0 (n + 1) k r = m_dvF u a0 n (k + 1) (((2 * r) + ((((m_bi u) k) ^^^ 1) ^^^ 0)) ^^^ 197) := by simp only [m_dvF, m_rd, if_neg c_2, if_neg c_6, if_neg c_7]
          exact ih (k + 1) (((2 * r) + ((((m_bi u) k) ^^^ 1) ^^^ 0)) ^^^ 197) ls (by omega) (lv_sub hl [3, 4, 1, 0] rfl) (fun ls hl => kk ls (by rw [eF]; exact hl))
      · refine lv_iconst (v := 1) hx hb dX1_divided_33 (by decide) ?_
        refine lv_goto (tgt := 38) hx hb dX1_divided_34 (by decide) ?_
        refine lv_ixor hx hb dX1_divided_38 ?_
        refine lv_istore (lv' := [(4, .int ((((m_bi u) k) ^^^ 1) ^^^ 1)), (0, .ref qm), (1, .int a0), (2, .int r), (3, .int (nI k))]) hx hb dX1_divided_39 hl (by decide) rfl (fun ls hl => ?_)
        refine lv_iconst (v := 2) hx hb dX1_divided_41 (by decide) ?_
        refine lv_iload_n hx hb dX1_divided_42 rfl (lv_at hl 3 rfl) ?_
        refine lv_imul hx hb dX1_divided_43 ?_
        refine lv_iload hx hb dX1_divided_44 (lv_at hl 0 rfl) ?_
        refine lv_iadd hx hb dX1_divided_46 ?_
        refine lv_istore_n (lv' := [(2, .int ((2 * r) + ((((m_bi u) k) ^^^ 1) ^^^ 1))), (4, .int ((((m_bi u) k) ^^^ 1) ^^^ 1)), (0, .ref qm), (1, .int a0), (3, .int (nI k))]) hx hb dX1_divided_47 rfl hl (by decide) rfl (fun ls hl => ?_)
        refine lv_iload_n hx hb dX1_divided_48 rfl (lv_at hl 0 rfl) ?_
        refine lv_bipush (v := 127) hx hb dX1_divided_49 (by decide) ?_
        refine lv_icmp_le (tgt := 62) hx hb dX1_divided_51 (by decide) (fun c_8 => ?_) (fun c_8 => ?_)
        · refine lv_iload_n hx hb dX1_divided_62 rfl (lv_at hl 0 rfl) ?_
          refine lv_istore_n (lv' := [(2, .int ((2 * r) + ((((m_bi u) k) ^^^ 1) ^^^ 1))), (4, .int ((((m_bi u) k) ^^^ 1) ^^^ 1)), (0, .ref qm), (1, .int a0), (3, .int (nI k))]) hx hb dX1_divided_63 rfl hl (by decide) rfl (fun ls hl => ?_)
          refine lv_iinc (v := nI (k + 1)) (lv' := [(3, .int (nI (k + 1))), (2, .int ((2 * r) + ((((m_bi u) k) ^^^ 1) ^^^ 1))), (4, .int ((((m_bi u) k) ^^^ 1) ^^^ 1)), (0, .ref qm), (1, .int a0)]) hx hb dX1_divided_64 hl (k := 4) rfl (show nI k + nI 1 = nI (k + 1) from nI_add _ _) (by decide) rfl (fun ls hl => ?_)
          refine lv_goto (tgt := 4) hx hb dX1_divided_67 (by decide) ?_
          have eF : m_dvF u a0 (n + 1) k r = m_dvF u a0 n (k + 1) ((2 * r) + ((((m_bi u) k) ^^^ 1) ^^^ 1)) := by simp only [m_dvF, m_rd, if_neg c_2, if_pos c_6, if_pos c_8]
          exact ih (k + 1) ((2 * r) + ((((m_bi u) k) ^^^ 1) ^^^ 1)) ls (by omega) (lv_sub hl [3, 4, 1, 0] rfl) (fun ls hl => kk ls (by rw [eF]; exact hl))
        · refine lv_iload_n hx hb dX1_divided_54 rfl (lv_at hl 0 rfl) ?_
          refine lv_sipush (v := 197) hx hb dX1_divided_55 (by decide) ?_
          refine lv_ixor hx hb dX1_divided_58 ?_
          refine lv_goto (tgt := 63) hx hb dX1_divided_59 (by decide) ?_
          refine lv_istore_n (lv' := [(2, .int (((2 * r) + ((((m_bi u) k) ^^^ 1) ^^^ 1)) ^^^ 197)), (4, .int ((((m_bi u) k) ^^^ 1) ^^^ 1)), (0, .ref qm), (1, .int a0), (3, .int (nI k))]) hx hb dX1_divided_63 rfl hl (by decide) rfl (fun ls hl => ?_)
          refine lv_iinc (v := nI (k + 1)) (lv' := [(3, .int (nI (k + 1))), (2, .int (((2 * r) + ((((m_bi u) k) ^^^ 1) ^^^ 1)) ^^^ 197)), (4, .int ((((m_bi u) k) ^^^ 1) ^^^ 1)), (0, .ref qm), (1, .int a0)]) hx hb dX1_divided_64 hl (k := 4) rfl (show nI k + nI 1 = nI (k + 1) from nI_add _ _) (by decide) rfl (fun ls hl => ?_)
          refine lv_goto (tgt := 4) hx hb dX1_divided_67 (by decide) ?_
          have eF : m_dvF u a0 (n + 1) k r = m_dvF u a0 n (k + 1) (((2 * r) + ((((m_bi u) k) ^^^ 1) ^^^ 1)) ^^^ 197) := by simp only [m_dvF, m_rd, if_neg c_2, if_pos c_6, if_neg c_8]
          exact ih (k + 1) (((2 * r) + ((((m_bi u) k) ^^^ 1) ^^^ 1)) ^^^ 197) ls (by omega) (lv_sub hl [3, 4, 1, 0] rfl) (fun ls hl => kk ls (by rw [eF]; exact hl))
def m_divided (u : m_S) (a0 : Int32) : Int32 := if (m_dvF u a0 63 0 0) = 0 then 1 else 0
set_option maxHeartbeats 4000000 in
set_option maxRecDepth 100000 in
theorem kX1_divided (l : Launch) (dC : Nat → ClassId) (dI : Nat → Nat → Nat) (qm pb pr pv pw ps pc : Nat) (cI : ClassId) (u : m_S) (a0 : Int32) : Met l yX1_divided vX1_divided rmX1_divided (va_Pc [.ref qm, .int a0] (fun U => va_P (dC, dI) vwCl (m_W qm pb pr pv pw ps pc cI u) U.heap ∧ va_K (dC, dI) vwCl [(cI, .int)] U)) (vp_Si (fun r => r = m_divided u a0)) 0 0 (fun _ => False) := by
  refine Met.ofW (cc := cX1_divided) (maxL := 5) (ret := some .boolean) (by decide) rfl ?_
  intro p e s m args below meth c s₁ B hml hv
  obtain ⟨rfl, hP, hK⟩ := hv
  have hx := B.exec
  have hb := B.bytes
  have hr := B.returns
  have hts := atoms_spec (ws := vX1_divided) B.pre
  have hown : s.vm.findClass RX1 = some m.cls := findClass_of_methodNamed B.named
  have hlocks := B.notSynchronized
  have hinT : ∀ w ∈ wsX10, w ∈ vX1_divided := fun w h => List.mem_cons_of_mem _ (inM w h)
  have hP : va_P (dC, dI) vwCl [(qm, .inr (1, [.int (m_th u), .int (m_st u), .int (m_md u), .ref pb, .int (nI (m_mn u)), .ref pr, .int (nI (m_rw u)), .ref pv, .int (nI (m_sz u)), .ref pw, .int (nI (m_wn u)), .ref ps, .int (nI (m_sn u)), .ref pc])), (pb, .inl (cI, 64, .inl (m_bi u))), (pr, .inl (cI, 259, .inl (m_ro u))), (pv, .inl (cI, 259, .inl (m_rc u))), (pw, .inl (cI, 259, .inl (m_wt u))), (ps, .inl (cI, 306, .inl (m_se u))), (pc, .inl (cI, 5, .inl (m_cn u)))] s.heap := hP
  have hl := lv_entry ([.ref qm, .int a0]) (n := 5) (Nat.le_of_ble_eq_true rfl)
  rw [lg_entry_eq]
  generalize (lg_sl ([.ref qm, .int a0]) ++ List.replicate (5 - (lg_sl ([.ref qm, .int a0])).length) Slot.unset).toArray = ls at hl ⊢
  have hl : lv_has ls 5 [(0, .ref qm), (1, .int a0)] := hl
  refine lv_iconst (v := 0) hx hb dX1_divided_0 (by decide) ?_
  refine lv_istore_n (lv' := [(2, .int 0), (0, .ref qm), (1, .int a0)]) hx hb dX1_divided_1 rfl hl (by decide) rfl (fun ls hl => ?_)
  refine lv_iconst (v := 0) hx hb dX1_divided_2 (by decide) ?_
  refine lv_istore_n (lv' := [(3, .int 0), (2, .int 0), (0, .ref qm), (1, .int a0)]) hx hb dX1_divided_3 rfl hl (by decide) rfl (fun ls hl => ?_)
  refine lpX1_divided (l := l) dC dI qm pb pr pv pw ps pc cI a0 hx hb hml hown hts u hP hK 63 0 0 ls rfl (lv_sub hl [2, 3, 1, 0] rfl) (fun ls hl => ?_)
  refine lv_iload_n hx hb dX1_divided_70 rfl (lv_at hl 0 rfl) ?_
  refine lv_if_ne (tgt := 78) hx hb dX1_divided_71 (by decide) (fun c_1 => ?_) (fun c_1 => ?_)
  · refine lv_iconst (v := 0) hx hb dX1_divided_78 (by decide) ?_
    exact W.zret (v := 0) hx hb hr (by first | rfl | decide) (fun t ht hW => ⟨_, rfl, (by unfold m_divided; rw [if_neg c_1]), ht⟩) (fun q h => by cases h) dX1_divided_79
  · refine lv_iconst (v := 1) hx hb dX1_divided_74 (by decide) ?_
    refine lv_goto (tgt := 79) hx hb dX1_divided_75 (by decide) ?_
    exact W.zret (v := 1) hx hb hr (by first | rfl | decide) (fun t ht hW => ⟨_, rfl, (by unfold m_divided; rw [if_pos c_1]), ht⟩) (fun q h => by cases h) dX1_divided_79

abbrev rmX1_wrong : Room := { frames := 1, cells := 0, slots := 0, locals := 24 }
def m_wrF (u : m_S) : Nat → Nat → Int32 → Int32
  | 0, _, f => f
  | n + 1, k, f => if m_md u = 0 then f else m_wrF u n (k + 1) (if m_divided u (nI k) = 0 then f else nI k)
set_option maxHeartbeats 4000000 in
set_option maxRecDepth 100000 in
theorem lpX1_wrong {p : Program} {l : Launch} {e : Env} {s : State} {m : MethodId} {args : Array Value} {below : List Frame} {meth : Method} {c : Code} {H : Heap} {locs : List Loc} {Q : State → Prop} (dC : Nat → ClassId) (dI : Nat → Nat → Nat) (qm pb pr pv pw ps pc : Nat) (cI : ClassId) (hx : p.tables.exec = Jvm.exec) (hb : c.code = cX1_wrong) (hml : c.maxLocals = 3) (hown : s.vm.findClass RX1 = some m.cls) (hts : ∀ w ∈ vX1_wrong, w.before args s = true) (u : m_S) (hP : va_P (dC, dI) vwCl (m_W qm pb pr pv pw ps pc cI u) H) (hK : va_K (dC, dI) vwCl [(cI, .int)] s) : ∀ (n : Nat) (k : Nat) (f : Int32) (ls : Array Slot), k + n = 63 → lv_has ls 3 [(0, .ref qm), (1, .int f), (2, .int (nI k))] → (∀ (ls : Array Slot), lv_has ls 3 [(1, .int (m_wrF u n k f))] → W p l e (headSpec vX1_wrong rmX1_wrong).room s m args below meth c H locs 0 0 Q (F0 m 48 ls [])) → W p l e (headSpec vX1_wrong rmX1_wrong).room s m args below meth c H locs 0 0 Q (F0 m 15 ls []) := by
  have hinT : ∀ w ∈ wsX10, w ∈ vX1_wrong := fun w h => List.mem_cons_of_mem _ (inM w h)
  have hP : va_P (dC, dI) vwCl [(qm, .inr (1, [.int (m_th u), .int (m_st u), .int (m_md u), .ref pb, .int (nI (m_mn u)), .ref pr, .int (nI (m_rw u)), .ref pv, .int (nI (m_sz u)), .ref pw, .int (nI (m_wn u)), .ref ps, .int (nI (m_sn u)), .ref pc])), (pb, .inl (cI, 64, .inl (m_bi u))), (pr, .inl (cI, 259, .inl (m_ro u))), (pv, .inl (cI, 259, .inl (m_rc u))), (pw, .inl (cI, 259, .inl (m_wt u))), (ps, .inl (cI, 306, .inl (m_se u))), (pc, .inl (cI, 5, .inl (m_cn u)))] H := hP
  intro n
  induction n with
  | zero =>
    intro k f ls hn hl kk
    have hk : k = 63 := by omega
    subst hk
    have hl : lv_has ls 3 [(0, .ref qm), (1, .int f), (2, .int (nI 63))] := hl
    refine lv_iload_n hx hb dX1_wrong_15 rfl (lv_at hl 2 rfl) ?_
    refine lv_bipush (v := 63) hx hb dX1_wrong_16 (by decide) ?_
    refine lv_icmp_ge (tgt := 48) hx hb dX1_wrong_18 (by decide) (fun c_1 => ?_) (fun c_1 => absurd (by decide) c_1)
    exact kk ls (lv_sub hl [1] rfl)
  | succ n ih =>
    intro k f ls hn hl kk
    have hl : lv_has ls 3 [(0, .ref qm), (1, .int f), (2, .int (nI k))] := hl
    refine lv_iload_n hx hb dX1_wrong_15 rfl (lv_at hl 2 rfl) ?_
    refine lv_bipush (v := 63) hx hb dX1_wrong_16 (by decide) ?_
    refine lv_icmp_ge (tgt := 48) hx hb dX1_wrong_18 (by decide) (fun c_1 => absurd c_1 (show ¬ nI 63 ≤ nI k from nI_ge (by omega) (by decide))) (fun c_1 => ?_)
    refine lv_aload_n hx hb dX1_wrong_21 rfl (lv_at hl 0 rfl) ?_
    refine va_get (D := (dC, dI)) (ci := 1) (v := .int (m_md u)) (C := RX1) (T := TX1) (N := 14) hx hb hts hinT hown hK hP 0 rfl rfl 2 (by decide) (hts _ (List.mem_cons_of_mem _ fl_36)) (fun _ h9 => h9) rfl dX1_wrong_22 ?_
    refine lv_if_eq (tgt := 48) hx hb dX1_wrong_25 (by decide) (fun c_2 => ?_) (fun c_2 => ?_)
    · have eF : m_wrF u (n + 1) k f = f := by rw [m_wrF, if_pos c_2]
      exact kk ls (by rw [eF]; exact lv_sub hl [1] rfl)
    · refine lv_aload_n hx hb dX1_wrong_28 rfl (lv_at hl 0 rfl) ?_
      refine lv_iload_n hx hb dX1_wrong_29 rfl (lv_at hl 2 rfl) ?_
      have hPc : va_P (dC, dI) vwCl (m_W qm pb pr pv pw ps pc cI u) H := hP
      refine vp_callSi (va_runV (As := [.int (nI k)]) (rest := []) ⟨hx, hb, hml, hown, hts⟩ (kX1_divided l dC dI qm pb pr pv pw ps pc cI u (nI k) ) (cwV 1 hts gM_X1_divided rfl rfl rfl (by decide +kernel) ⟨Nat.le_of_ble_eq_true rfl, Nat.le_of_ble_eq_true rfl⟩) ⟨fun a U g mk q => by obtain ⟨q0, qP, qK⟩ := q; exact ⟨q0, qP, va_K.moved (u := U) (U := U.calling g mk a) (Vm.Alike.refl U.vm) qK⟩, va_recv hK hP (ci := 1) (q0 := 0) rfl rfl, fun U hU hW => ⟨rfl, by rw [hU]; exact hPc, va_K.moved hW.alike hK⟩⟩ rfl rfl hl.1 rfl (lv_room (Nat.le_of_ble_eq_true rfl)) dX1_wrong_30 ⟨Nat.le_of_ble_eq_true rfl, Nat.le_of_ble_eq_true rfl⟩).run (fun r_3 hr_3 => ?_)
      subst hr_3
      refine lv_if_eq (tgt := 40) hx hb dX1_wrong_33 (by decide) (fun c_4 => ?_) (fun c_4 => ?_)
      · refine lv_iload_n hx hb dX1_wrong_40 rfl (lv_at hl 1 rfl) ?_
        refine lv_istore_n (lv' := [(1, .int f), (0, .ref qm), (2, .int (nI k))]) hx hb dX1_wrong_41 rfl hl (by decide) rfl (fun ls hl => ?_)
        refine lv_iinc (v := nI (k + 1)) (lv' := [(2, .int (nI (k + 1))), (1, .int f), (0, .ref qm)]) hx hb dX1_wrong_42 hl (k := 2) rfl (show nI k + nI 1 = nI (k + 1) from nI_add _ _) (by decide) rfl (fun ls hl => ?_)
        refine lv_goto (tgt := 15) hx hb dX1_wrong_45 (by decide) ?_
        have eF : m_wrF u (n + 1) k f = m_wrF u n (k + 1) f := by rw [m_wrF, if_neg c_2, if_pos c_4]
        exact ih (k + 1) f ls (by omega) (lv_sub hl [2, 1, 0] rfl) (fun ls hl => kk ls (by rw [eF]; exact hl))
      · refine lv_iload_n hx hb dX1_wrong_36 rfl (lv_at hl 2 rfl) ?_
        refine lv_goto (tgt := 41) hx hb dX1_wrong_37 (by decide) ?_
        refine lv_istore_n (lv' := [(1, .int (nI k)), (0, .ref qm), (2, .int (nI k))]) hx hb dX1_wrong_41 rfl hl (by decide) rfl (fun ls hl => ?_)
        refine lv_iinc (v := nI (k + 1)) (lv' := [(2, .int (nI (k + 1))), (1, .int (nI k)), (0, .ref qm)]) hx hb dX1_wrong_42 hl (k := 2) rfl (show nI k + nI 1 = nI (k + 1) from nI_add _ _) (by decide) rfl (fun ls hl => ?_)
        refine lv_goto (tgt := 15) hx hb dX1_wrong_45 (by decide) ?_
        have eF : m_wrF u (n + 1) k f = m_wrF u n (k + 1) (nI k) := by rw [m_wrF, if_neg c_2, if_neg c_4]
        exact ih (k + 1) (nI k) ls (by omega) (lv_sub hl [2, 1, 0] rfl) (fun ls hl => kk ls (by rw [eF]; exact hl))
def m_wrong (u : m_S)  : Int32 := if (m_divided u (-1)) = 0 then (m_wrF u 63 0 (-2)) else (-1)
set_option maxHeartbeats 4000000 in
set_option maxRecDepth 100000 in
theorem kX1_wrong (l : Launch) (dC : Nat → ClassId) (dI : Nat → Nat → Nat) (qm pb pr pv pw ps pc : Nat) (cI : ClassId) (u : m_S)  : Met l yX1_wrong vX1_wrong rmX1_wrong (va_Pc [.ref qm] (fun U => va_P (dC, dI) vwCl (m_W qm pb pr pv pw ps pc cI u) U.heap ∧ va_K (dC, dI) vwCl [(cI, .int)] U)) (vp_Si (fun r => r = m_wrong u)) 0 0 (fun _ => False) := by
  refine Met.ofW (cc := cX1_wrong) (maxL := 3) (ret := some .int) (by decide) rfl ?_
  intro p e s m args below meth c s₁ B hml hv
  obtain ⟨rfl, hP, hK⟩ := hv
  have hx := B.exec
  have hb := B.bytes
  have hr := B.returns
  have hts := atoms_spec (ws := vX1_wrong) B.pre
  have hown : s.vm.findClass RX1 = some m.cls := findClass_of_methodNamed B.named
  have hlocks := B.notSynchronized
  have hinT : ∀ w ∈ wsX10, w ∈ vX1_wrong := fun w h => List.mem_cons_of_mem _ (inM w h)
  have hP : va_P (dC, dI) vwCl [(qm, .inr (1, [.int (m_th u), .int (m_st u), .int (m_md u), .ref pb, .int (nI (m_mn u)), .ref pr, .int (nI (m_rw u)), .ref pv, .int (nI (m_sz u)), .ref pw, .int (nI (m_wn u)), .ref ps, .int (nI (m_sn u)), .ref pc])), (pb, .inl (cI, 64, .inl (m_bi u))), (pr, .inl (cI, 259, .inl (m_ro u))), (pv, .inl (cI, 259, .inl (m_rc u))), (pw, .inl (cI, 259, .inl (m_wt u))), (ps, .inl (cI, 306, .inl (m_se u))), (pc, .inl (cI, 5, .inl (m_cn u)))] s.heap := hP
  have hl := lv_entry ([.ref qm]) (n := 3) (Nat.le_of_ble_eq_true rfl)
  rw [lg_entry_eq]
  generalize (lg_sl ([.ref qm]) ++ List.replicate (3 - (lg_sl ([.ref qm])).length) Slot.unset).toArray = ls at hl ⊢
  have hl : lv_has ls 3 [(0, .ref qm)] := hl
  refine lv_aload_n hx hb dX1_wrong_0 rfl (lv_at hl 0 rfl) ?_
  refine lv_iconst (v := (-1)) hx hb dX1_wrong_1 (by decide) ?_
  have hPc : va_P (dC, dI) vwCl (m_W qm pb pr pv pw ps pc cI u) s.heap := hP
  refine vp_callSi (va_runV (As := [.int (-1)]) (rest := []) ⟨hx, hb, hml, hown, hts⟩ (kX1_divided l dC dI qm pb pr pv pw ps pc cI u (-1) ) (cwV 1 hts gM_X1_divided rfl rfl rfl (by decide +kernel) ⟨Nat.le_of_ble_eq_true rfl, Nat.le_of_ble_eq_true rfl⟩) ⟨fun a U g mk q => by obtain ⟨q0, qP, qK⟩ := q; exact ⟨q0, qP, va_K.moved (u := U) (U := U.calling g mk a) (Vm.Alike.refl U.vm) qK⟩, va_recv hK hP (ci := 1) (q0 := 0) rfl rfl, fun U hU hW => ⟨rfl, by rw [hU]; exact hPc, va_K.moved hW.alike hK⟩⟩ rfl rfl hl.1 rfl (lv_room (Nat.le_of_ble_eq_true rfl)) dX1_wrong_2 ⟨Nat.le_of_ble_eq_true rfl, Nat.le_of_ble_eq_true rfl⟩).run (fun r_1 hr_1 => ?_)
  subst hr_1
  refine lv_if_eq (tgt := 10) hx hb dX1_wrong_5 (by decide) (fun c_2 => ?_) (fun c_2 => ?_)
  · refine lv_bipush (v := (-2)) hx hb dX1_wrong_10 (by decide) ?_
    refine lv_istore_n (lv' := [(1, .int (-2)), (0, .ref qm)]) hx hb dX1_wrong_12 rfl hl (by decide) rfl (fun ls hl => ?_)
    refine lv_iconst (v := 0) hx hb dX1_wrong_13 (by decide) ?_
    refine lv_istore_n (lv' := [(2, .int 0), (1, .int (-2)), (0, .ref qm)]) hx hb dX1_wrong_14 rfl hl (by decide) rfl (fun ls hl => ?_)
    refine lpX1_wrong (l := l) dC dI qm pb pr pv pw ps pc cI  hx hb hml hown hts u hP hK 63 0 (-2) ls rfl (lv_sub hl [2, 1, 0] rfl) (fun ls hl => ?_)
    refine lv_iload_n hx hb dX1_wrong_48 rfl (lv_at hl 0 rfl) ?_
    exact W.iret (v := m_wrF u 63 0 (-2)) hx hb hr (fun t ht hW => ⟨_, rfl, (by unfold m_wrong; rw [if_pos c_2]), ht⟩) (fun q h => by cases h) dX1_wrong_49
  · refine lv_iconst (v := (-1)) hx hb dX1_wrong_8 (by decide) ?_
    exact W.iret (v := (-1)) hx hb hr (fun t ht hW => ⟨_, rfl, (by unfold m_wrong; rw [if_neg c_2]), ht⟩) (fun q h => by cases h) dX1_wrong_9
end
section
abbrev rmX1_begins : Room := { frames := 0, cells := 0, slots := 0, locals := 0 }
def m_begins (u : m_S) (a0 : Int32) : m_S := (m_th u, a0, m_md u, 0, m_rw u, m_sz u, m_wn u, m_sn u, m_bi u, m_ro u, m_rc u, m_wt u, m_se u, m_cn u)
set_option maxHeartbeats 4000000 in
set_option maxRecDepth 100000 in
theorem kX1_begins (l : Launch) (dC : Nat → ClassId) (dI : Nat → Nat → Nat) (qm pb pr pv pw ps pc : Nat) (cI : ClassId) (sz : Nat) (u : m_S) (a0 : Int32) : Met l yX1_begins vX1_begins rmX1_begins (va_Pc [.ref qm, .int a0] (fun U => U.heap.size = sz ∧ va_P (dC, dI) vwCl (m_W qm pb pr pv pw ps pc cI u) U.heap ∧ va_K (dC, dI) vwCl [(cI, .int)] U ∧ va_D (fun _ => True) (m_W qm pb pr pv pw ps pc cI u))) (va_Qv (fun u2 => u2 = m_begins u a0) (m_At dC dI (va_A (m_W qm pb pr pv pw ps pc cI u) sz) qm pb pr pv pw ps pc cI) (va_A (m_W qm pb pr pv pw ps pc cI u) sz)) 0 0 (va_A (m_W qm pb pr pv pw ps pc cI u) sz) := by
  refine Met.ofW (cc := cX1_begins) (maxL := 2) (ret := none) (by decide) rfl ?_
  intro p e s m args below meth c s₁ B hml hv
  obtain ⟨rfl, hsz, hP, hK, hD0⟩ := hv
  have hx := B.exec
  have hb := B.bytes
  have hr := B.returns
  have hts := atoms_spec (ws := vX1_begins) B.pre
  have hown : s.vm.findClass RX1 = some m.cls := findClass_of_methodNamed B.named
  have hlocks := B.notSynchronized
  have hinT : ∀ w ∈ wsX10, w ∈ vX1_begins := fun w h => List.mem_cons_of_mem _ (inM w h)
  subst hsz
  have hD := hD0.self (sz := s.heap.size)
  generalize hAe : va_A (m_W qm pb pr pv pw ps pc cI u) s.heap.size = A at hD ⊢
  have hA : ∀ q : Nat, s.heap.size ≤ q → A q := fun q h => by rw [← hAe]; exact Or.inr h
  have hS : va_S A s.heap s.heap [] := va_S.rf
  have hD : va_D A [(qm, .inr (1, [.int (m_th u), .int (m_st u), .int (m_md u), .ref pb, .int (nI (m_mn u)), .ref pr, .int (nI (m_rw u)), .ref pv, .int (nI (m_sz u)), .ref pw, .int (nI (m_wn u)), .ref ps, .int (nI (m_sn u)), .ref pc])), (pb, .inl (cI, 64, .inl (m_bi u))), (pr, .inl (cI, 259, .inl (m_ro u))), (pv, .inl (cI, 259, .inl (m_rc u))), (pw, .inl (cI, 259, .inl (m_wt u))), (ps, .inl (cI, 306, .inl (m_se u))), (pc, .inl (cI, 5, .inl (m_cn u)))] := hD
  have hP : va_P (dC, dI) vwCl [(qm, .inr (1, [.int (m_th u), .int (m_st u), .int (m_md u), .ref pb, .int (nI (m_mn u)), .ref pr, .int (nI (m_rw u)), .ref pv, .int (nI (m_sz u)), .ref pw, .int (nI (m_wn u)), .ref ps, .int (nI (m_sn u)), .ref pc])), (pb, .inl (cI, 64, .inl (m_bi u))), (pr, .inl (cI, 259, .inl (m_ro u))), (pv, .inl (cI, 259, .inl (m_rc u))), (pw, .inl (cI, 259, .inl (m_wt u))), (ps, .inl (cI, 306, .inl (m_se u))), (pc, .inl (cI, 5, .inl (m_cn u)))] s.heap := hP
  have hl := lv_entry ([.ref qm, .int a0]) (n := 2) (Nat.le_of_ble_eq_true rfl)
  rw [lg_entry_eq]
  generalize (lg_sl ([.ref qm, .int a0]) ++ List.replicate (2 - (lg_sl ([.ref qm, .int a0])).length) Slot.unset).toArray = ls at hl ⊢
  have hl : lv_has ls 2 [(0, .ref qm), (1, .int a0)] := hl
  refine lv_aload_n hx hb dX1_begins_0 rfl (lv_at hl 0 rfl) ?_
  refine lv_iload_n hx hb dX1_begins_1 rfl (lv_at hl 1 rfl) ?_
  refine va_put (D := (dC, dI)) (ci := 1) (v := .int a0) (ty := .int) (C := RX1) (T := TX1) (N := 14) hx hb hts hinT tyX1 tyX1_ok nmX1 hown hK hP hD hS 0 rfl rfl 1 (by decide) (hts _ (List.mem_cons_of_mem _ fl_40)) (fun _ h9 => h9) rfl (by decide +kernel) rfl rfl (Nat.le_of_ble_eq_true rfl) dX1_begins_2 (fun H locs hP hD hS => ?_)
  have hP : va_P (dC, dI) vwCl [(qm, .inr (1, [.int (m_th u), .int a0, .int (m_md u), .ref pb, .int (nI (m_mn u)), .ref pr, .int (nI (m_rw u)), .ref pv, .int (nI (m_sz u)), .ref pw, .int (nI (m_wn u)), .ref ps, .int (nI (m_sn u)), .ref pc])), (pb, .inl (cI, 64, .inl (m_bi u))), (pr, .inl (cI, 259, .inl (m_ro u))), (pv, .inl (cI, 259, .inl (m_rc u))), (pw, .inl (cI, 259, .inl (m_wt u))), (ps, .inl (cI, 306, .inl (m_se u))), (pc, .inl (cI, 5, .inl (m_cn u)))] H := hP
  have hD : va_D A [(qm, .inr (1, [.int (m_th u), .int a0, .int (m_md u), .ref pb, .int (nI (m_mn u)), .ref pr, .int (nI (m_rw u)), .ref pv, .int (nI (m_sz u)), .ref pw, .int (nI (m_wn u)), .ref ps, .int (nI (m_sn u)), .ref pc])), (pb, .inl (cI, 64, .inl (m_bi u))), (pr, .inl (cI, 259, .inl (m_ro u))), (pv, .inl (cI, 259, .inl (m_rc u))), (pw, .inl (cI, 259, .inl (m_wt u))), (ps, .inl (cI, 306, .inl (m_se u))), (pc, .inl (cI, 5, .inl (m_cn u)))] := hD
  refine lv_aload_n hx hb dX1_begins_5 rfl (lv_at hl 0 rfl) ?_
  refine lv_iconst (v := 0) hx hb dX1_begins_6 (by decide) ?_
  refine va_put (D := (dC, dI)) (ci := 1) (v := .int 0) (ty := .int) (C := RX1) (T := TX1) (N := 14) hx hb hts hinT tyX1 tyX1_ok nmX1 hown hK hP hD hS 0 rfl rfl 4 (by decide) (hts _ (List.mem_cons_of_mem _ fl_43)) (fun _ h9 => h9) rfl (by decide +kernel) rfl rfl (Nat.le_of_ble_eq_true rfl) dX1_begins_7 (fun H locs hP hD hS => ?_)
  have hP : va_P (dC, dI) vwCl [(qm, .inr (1, [.int (m_th u), .int a0, .int (m_md u), .ref pb, .int 0, .ref pr, .int (nI (m_rw u)), .ref pv, .int (nI (m_sz u)), .ref pw, .int (nI (m_wn u)), .ref ps, .int (nI (m_sn u)), .ref pc])), (pb, .inl (cI, 64, .inl (m_bi u))), (pr, .inl (cI, 259, .inl (m_ro u))), (pv, .inl (cI, 259, .inl (m_rc u))), (pw, .inl (cI, 259, .inl (m_wt u))), (ps, .inl (cI, 306, .inl (m_se u))), (pc, .inl (cI, 5, .inl (m_cn u)))] H := hP
  have hD : va_D A [(qm, .inr (1, [.int (m_th u), .int a0, .int (m_md u), .ref pb, .int 0, .ref pr, .int (nI (m_rw u)), .ref pv, .int (nI (m_sz u)), .ref pw, .int (nI (m_wn u)), .ref ps, .int (nI (m_sn u)), .ref pc])), (pb, .inl (cI, 64, .inl (m_bi u))), (pr, .inl (cI, 259, .inl (m_ro u))), (pv, .inl (cI, 259, .inl (m_rc u))), (pw, .inl (cI, 259, .inl (m_wt u))), (ps, .inl (cI, 306, .inl (m_se u))), (pc, .inl (cI, 5, .inl (m_cn u)))] := hD
  have hP9 : va_P (dC, dI) vwCl (m_W qm pb pr pv pw ps pc cI (m_th u, a0, m_md u, 0, m_rw u, m_sz u, m_wn u, m_sn u, m_bi u, m_ro u, m_rc u, m_wt u, m_se u, m_cn u)) H := hP
  have hD9 : va_D A (m_W qm pb pr pv pw ps pc cI (m_th u, a0, m_md u, 0, m_rw u, m_sz u, m_wn u, m_sn u, m_bi u, m_ro u, m_rc u, m_wt u, m_se u, m_cn u)) := hD
  exact W.vret hx hb hr (fun t ht hW => ⟨⟨(m_th u, a0, m_md u, 0, m_rw u, m_sz u, m_wn u, m_sn u, m_bi u, m_ro u, m_rc u, m_wt u, m_se u, m_cn u), rfl, (rfl), by rw [ht]; exact hP9, va_K.moved hW.alike hK, hD9⟩, hS.F ht⟩) hS.2.2 dX1_begins_10

abbrev rmX1_ends : Room := { frames := 1, cells := 0, slots := 0, locals := 21 }
def m_enF : Nat → Nat → m_S → m_S
  | 0, _, u => u
  | n + 1, k, u => m_enF n (k + 1) (m_th u, m_st u, m_md u, m_mn u, m_rw u, m_sz u, m_wn u, m_sn u, m_bi u, m_ro u, upd (m_rc u) k ((m_ro u) k), m_wt u, m_se u, m_cn u)
set_option maxHeartbeats 4000000 in
set_option maxRecDepth 100000 in
theorem lpX1_ends {p : Program} {l : Launch} {e : Env} {s : State} {m : MethodId} {args : Array Value} {below : List Frame} {meth : Method} {c : Code} {Q : State → Prop} (dC : Nat → ClassId) (dI : Nat → Nat → Nat) (qm pb pr pv pw ps pc : Nat) (cI : ClassId) (hx : p.tables.exec = Jvm.exec) (hb : c.code = cX1_ends) (hml : c.maxLocals = 2) (hown : s.vm.findClass RX1 = some m.cls) (hts : ∀ w ∈ vX1_ends, w.before args s = true) (A : Nat → Prop) (hA : ∀ q : Nat, s.heap.size ≤ q → A q) (hK : va_K (dC, dI) vwCl [(cI, .int)] s) : ∀ (n : Nat) (u : m_S) (k : Nat) (H : Heap) (locs : List Loc) (ls : Array Slot), k + n = m_rw u → m_rw u ≤ 259 → va_P (dC, dI) vwCl (m_W qm pb pr pv pw ps pc cI u) H → va_D A (m_W qm pb pr pv pw ps pc cI u) → va_S A s.heap H locs → lv_has ls 2 [(0, .ref qm), (1, .int (nI k))] → (∀ (H : Heap) (locs : List Loc) (ls : Array Slot), va_P (dC, dI) vwCl (m_W qm pb pr pv pw ps pc cI (m_enF n k u)) H → va_D A (m_W qm pb pr pv pw ps pc cI (m_enF n k u)) → va_S A s.heap H locs → lv_has ls 2 [(0, .ref qm)] → W p l e (headSpec vX1_ends rmX1_ends).room s m args below meth c H locs 0 0 Q (F0 m 38 ls [])) → W p l e (headSpec vX1_ends rmX1_ends).room s m args below meth c H locs 0 0 Q (F0 m 12 ls []) := by
  have hinT : ∀ w ∈ wsX10, w ∈ vX1_ends := fun w h => List.mem_cons_of_mem _ (inM w h)
  intro n
  induction n with
  | zero =>
    intro u k H locs ls hn hrw hP hD hS hl kk
    have hk : k = m_rw u := by omega
    subst hk
    have hP : va_P (dC, dI) vwCl [(qm, .inr (1, [.int (m_th u), .int (m_st u), .int (m_md u), .ref pb, .int (nI (m_mn u)), .ref pr, .int (nI (m_rw u)), .ref pv, .int (nI (m_sz u)), .ref pw, .int (nI (m_wn u)), .ref ps, .int (nI (m_sn u)), .ref pc])), (pb, .inl (cI, 64, .inl (m_bi u))), (pr, .inl (cI, 259, .inl (m_ro u))), (pv, .inl (cI, 259, .inl (m_rc u))), (pw, .inl (cI, 259, .inl (m_wt u))), (ps, .inl (cI, 306, .inl (m_se u))), (pc, .inl (cI, 5, .inl (m_cn u)))] H := hP
    have hD : va_D A [(qm, .inr (1, [.int (m_th u), .int (m_st u), .int (m_md u), .ref pb, .int (nI (m_mn u)), .ref pr, .int (nI (m_rw u)), .ref pv, .int (nI (m_sz u)), .ref pw, .int (nI (m_wn u)), .ref ps, .int (nI (m_sn u)), .ref pc])), (pb, .inl (cI, 64, .inl (m_bi u))), (pr, .inl (cI, 259, .inl (m_ro u))), (pv, .inl (cI, 259, .inl (m_rc u))), (pw, .inl (cI, 259, .inl (m_wt u))), (ps, .inl (cI, 306, .inl (m_se u))), (pc, .inl (cI, 5, .inl (m_cn u)))] := hD
    have hl : lv_has ls 2 [(0, .ref qm), (1, .int (nI (m_rw u)))] := hl
    refine lv_iload_n hx hb dX1_ends_12 rfl (lv_at hl 1 rfl) ?_
    refine lv_aload_n hx hb dX1_ends_13 rfl (lv_at hl 0 rfl) ?_
    refine va_get (D := (dC, dI)) (ci := 1) (v := .int (nI (m_rw u))) (C := RX1) (T := TX1) (N := 14) hx hb hts hinT hown hK hP 0 rfl rfl 6 (by decide) (hts _ (List.mem_cons_of_mem _ fl_46)) (fun _ h9 => h9) rfl dX1_ends_14 ?_
    refine lv_icmp_ge (tgt := 38) hx hb dX1_ends_17 (by decide) (fun c_1 => ?_) (fun c_1 => absurd (nI_le (Nat.le_refl _) (by omega)) c_1)
    exact kk H locs ls hP hD hS (lv_sub hl [0] rfl)
  | succ n ih =>
    intro u k H locs ls hn hrw hP hD hS hl kk
    have hP : va_P (dC, dI) vwCl [(qm, .inr (1, [.int (m_th u), .int (m_st u), .int (m_md u), .ref pb, .int (nI (m_mn u)), .ref pr, .int (nI (m_rw u)), .ref pv, .int (nI (m_sz u)), .ref pw, .int (nI (m_wn u)), .ref ps, .int (nI (m_sn u)), .ref pc])), (pb, .inl (cI, 64, .inl (m_bi u))), (pr, .inl (cI, 259, .inl (m_ro u))), (pv, .inl (cI, 259, .inl (m_rc u))), (pw, .inl (cI, 259, .inl (m_wt u))), (ps, .inl (cI, 306, .inl (m_se u))), (pc, .inl (cI, 5, .inl (m_cn u)))] H := hP
    have hD : va_D A [(qm, .inr (1, [.int (m_th u), .int (m_st u), .int (m_md u), .ref pb, .int (nI (m_mn u)), .ref pr, .int (nI (m_rw u)), .ref pv, .int (nI (m_sz u)), .ref pw, .int (nI (m_wn u)), .ref ps, .int (nI (m_sn u)), .ref pc])), (pb, .inl (cI, 64, .inl (m_bi u))), (pr, .inl (cI, 259, .inl (m_ro u))), (pv, .inl (cI, 259, .inl (m_rc u))), (pw, .inl (cI, 259, .inl (m_wt u))), (ps, .inl (cI, 306, .inl (m_se u))), (pc, .inl (cI, 5, .inl (m_cn u)))] := hD
    have hl : lv_has ls 2 [(0, .ref qm), (1, .int (nI k))] := hl
    refine lv_iload_n hx hb dX1_ends_12 rfl (lv_at hl 1 rfl) ?_
    refine lv_aload_n hx hb dX1_ends_13 rfl (lv_at hl 0 rfl) ?_
    refine va_get (D := (dC, dI)) (ci := 1) (v := .int (nI (m_rw u))) (C := RX1) (T := TX1) (N := 14) hx hb hts hinT hown hK hP 0 rfl rfl 6 (by decide) (hts _ (List.mem_cons_of_mem _ fl_46)) (fun _ h9 => h9) rfl dX1_ends_14 ?_
    refine lv_icmp_ge (tgt := 38) hx hb dX1_ends_17 (by decide) (fun c_1 => absurd c_1 (nI_ge (by omega) (by omega))) (fun c_1 => ?_)
    refine lv_aload_n hx hb dX1_ends_20 rfl (lv_at hl 0 rfl) ?_
    refine va_get (D := (dC, dI)) (ci := 1) (v := .ref pv) (C := RX1) (T := TX1) (N := 14) hx hb hts hinT hown hK hP 0 rfl rfl 7 (by decide) (hts _ (List.mem_cons_of_mem _ fl_16)) (fun _ h9 => h9) rfl dX1_ends_21 ?_
    refine lv_iload_n hx hb dX1_ends_24 rfl (lv_at hl 1 rfl) ?_
    refine lv_aload_n hx hb dX1_ends_25 rfl (lv_at hl 0 rfl) ?_
    refine va_get (D := (dC, dI)) (ci := 1) (v := .ref pr) (C := RX1) (T := TX1) (N := 14) hx hb hts hinT hown hK hP 0 rfl rfl 5 (by decide) (hts _ (List.mem_cons_of_mem _ fl_13)) (fun _ h9 => h9) rfl dX1_ends_26 ?_
    refine lv_iload_n hx hb dX1_ends_29 rfl (lv_at hl 1 rfl) ?_
    refine va_iald hx hb hK hP 2 0 rfl rfl (vp_in_nI (by omega) (by decide)) dX1_ends_30 ?_
    refine W.eq (g2 := F0 m 31 ls [.int ((m_ro u) k), .int (nI k), .ref pv]) (by rw [nI_clamp (by omega)]) ?_
    refine va_iast hx hb hK hP hD hS 3 0 rfl rfl (vp_in_nI (by omega) (by decide)) dX1_ends_31 (fun H locs hP hD hS => ?_)
    rw [show (nI k : Int32).toNatClampNeg = k from (nI_clamp (by omega))] at hP hD
    have hP : va_P (dC, dI) vwCl [(qm, .inr (1, [.int (m_th u), .int (m_st u), .int (m_md u), .ref pb, .int (nI (m_mn u)), .ref pr, .int (nI (m_rw u)), .ref pv, .int (nI (m_sz u)), .ref pw, .int (nI (m_wn u)), .ref ps, .int (nI (m_sn u)), .ref pc])), (pb, .inl (cI, 64, .inl (m_bi u))), (pr, .inl (cI, 259, .inl (m_ro u))), (pv, .inl (cI, 259, .inl (upd (m_rc u) k ((m_ro u) k)))), (pw, .inl (cI, 259, .inl (m_wt u))), (ps, .inl (cI, 306, .inl (m_se u))), (pc, .inl (cI, 5, .inl (m_cn u)))] H := hP
    have hD : va_D A [(qm, .inr (1, [.int (m_th u), .int (m_st u), .int (m_md u), .ref pb, .int (nI (m_mn u)), .ref pr, .int (nI (m_rw u)), .ref pv, .int (nI (m_sz u)), .ref pw, .int (nI (m_wn u)), .ref ps, .int (nI (m_sn u)), .ref pc])), (pb, .inl (cI, 64, .inl (m_bi u))), (pr, .inl (cI, 259, .inl (m_ro u))), (pv, .inl (cI, 259, .inl (upd (m_rc u) k ((m_ro u) k)))), (pw, .inl (cI, 259, .inl (m_wt u))), (ps, .inl (cI, 306, .inl (m_se u))), (pc, .inl (cI, 5, .inl (m_cn u)))] := hD
    refine lv_iinc (v := nI (k + 1)) (lv' := [(1, .int (nI (k + 1))), (0, .ref qm)]) hx hb dX1_ends_32 hl (k := 1) rfl (show nI k + nI 1 = nI (k + 1) from nI_add _ _) (by decide) rfl (fun ls hl => ?_)
    refine lv_goto (tgt := 12) hx hb dX1_ends_35 (by decide) ?_
    have eF : m_enF (n + 1) k u = m_enF n (k + 1) (m_th u, m_st u, m_md u, m_mn u, m_rw u, m_sz u, m_wn u, m_sn u, m_bi u, m_ro u, upd (m_rc u) k ((m_ro u) k), m_wt u, m_se u, m_cn u) := by rw [m_enF]
    exact ih (m_th u, m_st u, m_md u, m_mn u, m_rw u, m_sz u, m_wn u, m_sn u, m_bi u, m_ro u, upd (m_rc u) k ((m_ro u) k), m_wt u, m_se u, m_cn u) (k + 1) H locs ls (show k + 1 + n = m_rw u from by omega) hrw hP hD hS (lv_sub hl [1, 0] rfl) (fun H locs ls hP hD hS hl => kk H locs ls (by rw [eF]; exact hP) (by rw [eF]; exact hD) hS (by exact hl))
def m_ends (u : m_S)  : m_S := if (nI (m_rw (m_enF (m_rw u) 0 (m_th u, m_st u, m_md u, m_mn u, m_rw u, m_sz u, m_wn u, m_sn u, m_bi u, m_ro u, m_rc u, m_wt u, m_se u, upd (m_cn u) 1 (((m_cn u) 1) + 1))))) ≤ 0 then (m_begins (m_th (m_enF (m_rw u) 0 (m_th u, m_st u, m_md u, m_mn u, m_rw u, m_sz u, m_wn u, m_sn u, m_bi u, m_ro u, m_rc u, m_wt u, m_se u, upd (m_cn u) 1 (((m_cn u) 1) + 1))), m_st (m_enF (m_rw u) 0 (m_th u, m_st u, m_md u, m_mn u, m_rw u, m_sz u, m_wn u, m_sn u, m_bi u, m_ro u, m_rc u, m_wt u, m_se u, upd (m_cn u) 1 (((m_cn u) 1) + 1))), m_md (m_enF (m_rw u) 0 (m_th u, m_st u, m_md u, m_mn u, m_rw u, m_sz u, m_wn u, m_sn u, m_bi u, m_ro u, m_rc u, m_wt u, m_se u, upd (m_cn u) 1 (((m_cn u) 1) + 1))), m_mn (m_enF (m_rw u) 0 (m_th u, m_st u, m_md u, m_mn u, m_rw u, m_sz u, m_wn u, m_sn u, m_bi u, m_ro u, m_rc u, m_wt u, m_se u, upd (m_cn u) 1 (((m_cn u) 1) + 1))), 0, m_sz (m_enF (m_rw u) 0 (m_th u, m_st u, m_md u, m_mn u, m_rw u, m_sz u, m_wn u, m_sn u, m_bi u, m_ro u, m_rc u, m_wt u, m_se u, upd (m_cn u) 1 (((m_cn u) 1) + 1))), m_wn (m_enF (m_rw u) 0 (m_th u, m_st u, m_md u, m_mn u, m_rw u, m_sz u, m_wn u, m_sn u, m_bi u, m_ro u, m_rc u, m_wt u, m_se u, upd (m_cn u) 1 (((m_cn u) 1) + 1))), m_sn (m_enF (m_rw u) 0 (m_th u, m_st u, m_md u, m_mn u, m_rw u, m_sz u, m_wn u, m_sn u, m_bi u, m_ro u, m_rc u, m_wt u, m_se u, upd (m_cn u) 1 (((m_cn u) 1) + 1))), m_bi (m_enF (m_rw u) 0 (m_th u, m_st u, m_md u, m_mn u, m_rw u, m_sz u, m_wn u, m_sn u, m_bi u, m_ro u, m_rc u, m_wt u, m_se u, upd (m_cn u) 1 (((m_cn u) 1) + 1))), m_ro (m_enF (m_rw u) 0 (m_th u, m_st u, m_md u, m_mn u, m_rw u, m_sz u, m_wn u, m_sn u, m_bi u, m_ro u, m_rc u, m_wt u, m_se u, upd (m_cn u) 1 (((m_cn u) 1) + 1))), m_rc (m_enF (m_rw u) 0 (m_th u, m_st u, m_md u, m_mn u, m_rw u, m_sz u, m_wn u, m_sn u, m_bi u, m_ro u, m_rc u, m_wt u, m_se u, upd (m_cn u) 1 (((m_cn u) 1) + 1))), m_wt (m_enF (m_rw u) 0 (m_th u, m_st u, m_md u, m_mn u, m_rw u, m_sz u, m_wn u, m_sn u, m_bi u, m_ro u, m_rc u, m_wt u, m_se u, upd (m_cn u) 1 (((m_cn u) 1) + 1))), m_se (m_enF (m_rw u) 0 (m_th u, m_st u, m_md u, m_mn u, m_rw u, m_sz u, m_wn u, m_sn u, m_bi u, m_ro u, m_rc u, m_wt u, m_se u, upd (m_cn u) 1 (((m_cn u) 1) + 1))), m_cn (m_enF (m_rw u) 0 (m_th u, m_st u, m_md u, m_mn u, m_rw u, m_sz u, m_wn u, m_sn u, m_bi u, m_ro u, m_rc u, m_wt u, m_se u, upd (m_cn u) 1 (((m_cn u) 1) + 1)))) 1) else (m_begins (m_th (m_enF (m_rw u) 0 (m_th u, m_st u, m_md u, m_mn u, m_rw u, m_sz u, m_wn u, m_sn u, m_bi u, m_ro u, m_rc u, m_wt u, m_se u, upd (m_cn u) 1 (((m_cn u) 1) + 1))), m_st (m_enF (m_rw u) 0 (m_th u, m_st u, m_md u, m_mn u, m_rw u, m_sz u, m_wn u, m_sn u, m_bi u, m_ro u, m_rc u, m_wt u, m_se u, upd (m_cn u) 1 (((m_cn u) 1) + 1))), m_md (m_enF (m_rw u) 0 (m_th u, m_st u, m_md u, m_mn u, m_rw u, m_sz u, m_wn u, m_sn u, m_bi u, m_ro u, m_rc u, m_wt u, m_se u, upd (m_cn u) 1 (((m_cn u) 1) + 1))), m_mn (m_enF (m_rw u) 0 (m_th u, m_st u, m_md u, m_mn u, m_rw u, m_sz u, m_wn u, m_sn u, m_bi u, m_ro u, m_rc u, m_wt u, m_se u, upd (m_cn u) 1 (((m_cn u) 1) + 1))), 0, m_rw (m_enF (m_rw u) 0 (m_th u, m_st u, m_md u, m_mn u, m_rw u, m_sz u, m_wn u, m_sn u, m_bi u, m_ro u, m_rc u, m_wt u, m_se u, upd (m_cn u) 1 (((m_cn u) 1) + 1))), m_wn (m_enF (m_rw u) 0 (m_th u, m_st u, m_md u, m_mn u, m_rw u, m_sz u, m_wn u, m_sn u, m_bi u, m_ro u, m_rc u, m_wt u, m_se u, upd (m_cn u) 1 (((m_cn u) 1) + 1))), m_sn (m_enF (m_rw u) 0 (m_th u, m_st u, m_md u, m_mn u, m_rw u, m_sz u, m_wn u, m_sn u, m_bi u, m_ro u, m_rc u, m_wt u, m_se u, upd (m_cn u) 1 (((m_cn u) 1) + 1))), m_bi (m_enF (m_rw u) 0 (m_th u, m_st u, m_md u, m_mn u, m_rw u, m_sz u, m_wn u, m_sn u, m_bi u, m_ro u, m_rc u, m_wt u, m_se u, upd (m_cn u) 1 (((m_cn u) 1) + 1))), m_ro (m_enF (m_rw u) 0 (m_th u, m_st u, m_md u, m_mn u, m_rw u, m_sz u, m_wn u, m_sn u, m_bi u, m_ro u, m_rc u, m_wt u, m_se u, upd (m_cn u) 1 (((m_cn u) 1) + 1))), m_rc (m_enF (m_rw u) 0 (m_th u, m_st u, m_md u, m_mn u, m_rw u, m_sz u, m_wn u, m_sn u, m_bi u, m_ro u, m_rc u, m_wt u, m_se u, upd (m_cn u) 1 (((m_cn u) 1) + 1))), m_wt (m_enF (m_rw u) 0 (m_th u, m_st u, m_md u, m_mn u, m_rw u, m_sz u, m_wn u, m_sn u, m_bi u, m_ro u, m_rc u, m_wt u, m_se u, upd (m_cn u) 1 (((m_cn u) 1) + 1))), m_se (m_enF (m_rw u) 0 (m_th u, m_st u, m_md u, m_mn u, m_rw u, m_sz u, m_wn u, m_sn u, m_bi u, m_ro u, m_rc u, m_wt u, m_se u, upd (m_cn u) 1 (((m_cn u) 1) + 1))), m_cn (m_enF (m_rw u) 0 (m_th u, m_st u, m_md u, m_mn u, m_rw u, m_sz u, m_wn u, m_sn u, m_bi u, m_ro u, m_rc u, m_wt u, m_se u, upd (m_cn u) 1 (((m_cn u) 1) + 1)))) 1)
set_option maxHeartbeats 4000000 in
set_option maxRecDepth 100000 in
theorem kX1_ends (l : Launch) (dC : Nat → ClassId) (dI : Nat → Nat → Nat) (qm pb pr pv pw ps pc : Nat) (cI : ClassId) (sz : Nat) (u : m_S)  (hrw : m_rw u ≤ 259) : Met l yX1_ends vX1_ends rmX1_ends (va_Pc [.ref qm] (fun U => U.heap.size = sz ∧ va_P (dC, dI) vwCl (m_W qm pb pr pv pw ps pc cI u) U.heap ∧ va_K (dC, dI) vwCl [(cI, .int)] U ∧ va_D (fun _ => True) (m_W qm pb pr pv pw ps pc cI u))) (va_Qv (fun u2 => u2 = m_ends u) (m_At dC dI (va_A (m_W qm pb pr pv pw ps pc cI u) sz) qm pb pr pv pw ps pc cI) (va_A (m_W qm pb pr pv pw ps pc cI u) sz)) 0 0 (va_A (m_W qm pb pr pv pw ps pc cI u) sz) := by
  refine Met.ofW (cc := cX1_ends) (maxL := 2) (ret := none) (by decide) rfl ?_
  intro p e s m args below meth c s₁ B hml hv
  obtain ⟨rfl, hsz, hP, hK, hD0⟩ := hv
  have hx := B.exec
  have hb := B.bytes
  have hr := B.returns
  have hts := atoms_spec (ws := vX1_ends) B.pre
  have hown : s.vm.findClass RX1 = some m.cls := findClass_of_methodNamed B.named
  have hlocks := B.notSynchronized
  have hinT : ∀ w ∈ wsX10, w ∈ vX1_ends := fun w h => List.mem_cons_of_mem _ (inM w h)
  subst hsz
  have hD := hD0.self (sz := s.heap.size)
  generalize hAe : va_A (m_W qm pb pr pv pw ps pc cI u) s.heap.size = A at hD ⊢
  have hA : ∀ q : Nat, s.heap.size ≤ q → A q := fun q h => by rw [← hAe]; exact Or.inr h
  have hS : va_S A s.heap s.heap [] := va_S.rf
  have hD : va_D A [(qm, .inr (1, [.int (m_th u), .int (m_st u), .int (m_md u), .ref pb, .int (nI (m_mn u)), .ref pr, .int (nI (m_rw u)), .ref pv, .int (nI (m_sz u)), .ref pw, .int (nI (m_wn u)), .ref ps, .int (nI (m_sn u)), .ref pc])), (pb, .inl (cI, 64, .inl (m_bi u))), (pr, .inl (cI, 259, .inl (m_ro u))), (pv, .inl (cI, 259, .inl (m_rc u))), (pw, .inl (cI, 259, .inl (m_wt u))), (ps, .inl (cI, 306, .inl (m_se u))), (pc, .inl (cI, 5, .inl (m_cn u)))] := hD
  have hP : va_P (dC, dI) vwCl [(qm, .inr (1, [.int (m_th u), .int (m_st u), .int (m_md u), .ref pb, .int (nI (m_mn u)), .ref pr, .int (nI (m_rw u)), .ref pv, .int (nI (m_sz u)), .ref pw, .int (nI (m_wn u)), .ref ps, .int (nI (m_sn u)), .ref pc])), (pb, .inl (cI, 64, .inl (m_bi u))), (pr, .inl (cI, 259, .inl (m_ro u))), (pv, .inl (cI, 259, .inl (m_rc u))), (pw, .inl (cI, 259, .inl (m_wt u))), (ps, .inl (cI, 306, .inl (m_se u))), (pc, .inl (cI, 5, .inl (m_cn u)))] s.heap := hP
  have hl := lv_entry ([.ref qm]) (n := 2) (Nat.le_of_ble_eq_true rfl)
  rw [lg_entry_eq]
  generalize (lg_sl ([.ref qm]) ++ List.replicate (2 - (lg_sl ([.ref qm])).length) Slot.unset).toArray = ls at hl ⊢
  have hl : lv_has ls 2 [(0, .ref qm)] := hl
  refine lv_aload_n hx hb dX1_ends_0 rfl (lv_at hl 0 rfl) ?_
  refine va_get (D := (dC, dI)) (ci := 1) (v := .ref pc) (C := RX1) (T := TX1) (N := 14) hx hb hts hinT hown hK hP 0 rfl rfl 13 (by decide) (hts _ (List.mem_cons_of_mem _ fl_25)) (fun _ h9 => h9) rfl dX1_ends_1 ?_
  refine lv_iconst (v := 1) hx hb dX1_ends_4 (by decide) ?_
  refine lv_dup2_11 hx hb dX1_ends_5 rfl rfl ?_
  refine va_iald hx hb hK hP 6 0 rfl rfl (j_in (k := 1) rfl (by decide)) dX1_ends_6 ?_
  refine W.eq (g2 := F0 m 7 ls [.int ((m_cn u) 1), .int 1, .ref pc]) rfl ?_
  refine lv_iconst (v := 1) hx hb dX1_ends_7 (by decide) ?_
  refine lv_iadd hx hb dX1_ends_8 ?_
  refine va_iast hx hb hK hP hD hS 6 0 rfl rfl (j_in (k := 1) rfl (by decide)) dX1_ends_9 (fun H locs hP hD hS => ?_)
  rw [show (1 : Int32).toNatClampNeg = 1 from (by decide)] at hP hD
  have hP : va_P (dC, dI) vwCl [(qm, .inr (1, [.int (m_th u), .int (m_st u), .int (m_md u), .ref pb, .int (nI (m_mn u)), .ref pr, .int (nI (m_rw u)), .ref pv, .int (nI (m_sz u)), .ref pw, .int (nI (m_wn u)), .ref ps, .int (nI (m_sn u)), .ref pc])), (pb, .inl (cI, 64, .inl (m_bi u))), (pr, .inl (cI, 259, .inl (m_ro u))), (pv, .inl (cI, 259, .inl (m_rc u))), (pw, .inl (cI, 259, .inl (m_wt u))), (ps, .inl (cI, 306, .inl (m_se u))), (pc, .inl (cI, 5, .inl (upd (m_cn u) 1 (((m_cn u) 1) + 1))))] H := hP
  have hD : va_D A [(qm, .inr (1, [.int (m_th u), .int (m_st u), .int (m_md u), .ref pb, .int (nI (m_mn u)), .ref pr, .int (nI (m_rw u)), .ref pv, .int (nI (m_sz u)), .ref pw, .int (nI (m_wn u)), .ref ps, .int (nI (m_sn u)), .ref pc])), (pb, .inl (cI, 64, .inl (m_bi u))), (pr, .inl (cI, 259, .inl (m_ro u))), (pv, .inl (cI, 259, .inl (m_rc u))), (pw, .inl (cI, 259, .inl (m_wt u))), (ps, .inl (cI, 306, .inl (m_se u))), (pc, .inl (cI, 5, .inl (upd (m_cn u) 1 (((m_cn u) 1) + 1))))] := hD
  refine lv_iconst (v := 0) hx hb dX1_ends_10 (by decide) ?_
  refine lv_istore_n (lv' := [(1, .int 0), (0, .ref qm)]) hx hb dX1_ends_11 rfl hl (by decide) rfl (fun ls hl => ?_)
  refine lpX1_ends (l := l) dC dI qm pb pr pv pw ps pc cI  hx hb hml hown hts A hA hK  (m_rw u) (m_th u, m_st u, m_md u, m_mn u, m_rw u, m_sz u, m_wn u, m_sn u, m_bi u, m_ro u, m_rc u, m_wt u, m_se u, upd (m_cn u) 1 (((m_cn u) 1) + 1)) 0 H locs ls (Nat.zero_add _) hrw hP hD hS (lv_sub hl [1, 0] rfl) (fun H locs ls hP hD hS hl => ?_)
  obtain ⟨v_1, hv_1⟩ : ∃ z, z = m_enF (m_rw u) 0 (m_th u, m_st u, m_md u, m_mn u, m_rw u, m_sz u, m_wn u, m_sn u, m_bi u, m_ro u, m_rc u, m_wt u, m_se u, upd (m_cn u) 1 (((m_cn u) 1) + 1)) := ⟨_, rfl⟩
  rw [← hv_1] at hP hD
  have hP : va_P (dC, dI) vwCl [(qm, .inr (1, [.int (m_th v_1), .int (m_st v_1), .int (m_md v_1), .ref pb, .int (nI (m_mn v_1)), .ref pr, .int (nI (m_rw v_1)), .ref pv, .int (nI (m_sz v_1)), .ref pw, .int (nI (m_wn v_1)), .ref ps, .int (nI (m_sn v_1)), .ref pc])), (pb, .inl (cI, 64, .inl (m_bi v_1))), (pr, .inl (cI, 259, .inl (m_ro v_1))), (pv, .inl (cI, 259, .inl (m_rc v_1))), (pw, .inl (cI, 259, .inl (m_wt v_1))), (ps, .inl (cI, 306, .inl (m_se v_1))), (pc, .inl (cI, 5, .inl (m_cn v_1)))] H := hP
  have hD : va_D A [(qm, .inr (1, [.int (m_th v_1), .int (m_st v_1), .int (m_md v_1), .ref pb, .int (nI (m_mn v_1)), .ref pr, .int (nI (m_rw v_1)), .ref pv, .int (nI (m_sz v_1)), .ref pw, .int (nI (m_wn v_1)), .ref ps, .int (nI (m_sn v_1)), .ref pc])), (pb, .inl (cI, 64, .inl (m_bi v_1))), (pr, .inl (cI, 259, .inl (m_ro v_1))), (pv, .inl (cI, 259, .inl (m_rc v_1))), (pw, .inl (cI, 259, .inl (m_wt v_1))), (ps, .inl (cI, 306, .inl (m_se v_1))), (pc, .inl (cI, 5, .inl (m_cn v_1)))] := hD
  refine lv_aload_n hx hb dX1_ends_38 rfl (lv_at hl 0 rfl) ?_
  refine lv_aload_n hx hb dX1_ends_39 rfl (lv_at hl 0 rfl) ?_
  refine va_get (D := (dC, dI)) (ci := 1) (v := .int (nI (m_rw v_1))) (C := RX1) (T := TX1) (N := 14) hx hb hts hinT hown hK hP 0 rfl rfl 6 (by decide) (hts _ (List.mem_cons_of_mem _ fl_46)) (fun _ h9 => h9) rfl dX1_ends_40 ?_
  refine lv_if_le (tgt := 53) hx hb dX1_ends_43 (by decide) (fun c_2 => ?_) (fun c_2 => ?_)
  · refine lv_aload_n hx hb dX1_ends_53 rfl (lv_at hl 0 rfl) ?_
    refine va_get (D := (dC, dI)) (ci := 1) (v := .int (nI (m_sz v_1))) (C := RX1) (T := TX1) (N := 14) hx hb hts hinT hown hK hP 0 rfl rfl 8 (by decide) (hts _ (List.mem_cons_of_mem _ fl_49)) (fun _ h9 => h9) rfl dX1_ends_54 ?_
    refine va_put (D := (dC, dI)) (ci := 1) (v := .int (nI (m_sz v_1))) (ty := .int) (C := RX1) (T := TX1) (N := 14) hx hb hts hinT tyX1 tyX1_ok nmX1 hown hK hP hD hS 0 rfl rfl 8 (by decide) (hts _ (List.mem_cons_of_mem _ fl_49)) (fun _ h9 => h9) rfl (by decide +kernel) rfl rfl (Nat.le_of_ble_eq_true rfl) dX1_ends_57 (fun H locs hP hD hS => ?_)
    have hP : va_P (dC, dI) vwCl [(qm, .inr (1, [.int (m_th v_1), .int (m_st v_1), .int (m_md v_1), .ref pb, .int (nI (m_mn v_1)), .ref pr, .int (nI (m_rw v_1)), .ref pv, .int (nI (m_sz v_1)), .ref pw, .int (nI (m_wn v_1)), .ref ps, .int (nI (m_sn v_1)), .ref pc])), (pb, .inl (cI, 64, .inl (m_bi v_1))), (pr, .inl (cI, 259, .inl (m_ro v_1))), (pv, .inl (cI, 259, .inl (m_rc v_1))), (pw, .inl (cI, 259, .inl (m_wt v_1))), (ps, .inl (cI, 306, .inl (m_se v_1))), (pc, .inl (cI, 5, .inl (m_cn v_1)))] H := hP
    have hD : va_D A [(qm, .inr (1, [.int (m_th v_1), .int (m_st v_1), .int (m_md v_1), .ref pb, .int (nI (m_mn v_1)), .ref pr, .int (nI (m_rw v_1)), .ref pv, .int (nI (m_sz v_1)), .ref pw, .int (nI (m_wn v_1)), .ref ps, .int (nI (m_sn v_1)), .ref pc])), (pb, .inl (cI, 64, .inl (m_bi v_1))), (pr, .inl (cI, 259, .inl (m_ro v_1))), (pv, .inl (cI, 259, .inl (m_rc v_1))), (pw, .inl (cI, 259, .inl (m_wt v_1))), (ps, .inl (cI, 306, .inl (m_se v_1))), (pc, .inl (cI, 5, .inl (m_cn v_1)))] := hD
    refine lv_aload_n hx hb dX1_ends_60 rfl (lv_at hl 0 rfl) ?_
    refine lv_iconst (v := 0) hx hb dX1_ends_61 (by decide) ?_
    refine va_put (D := (dC, dI)) (ci := 1) (v := .int 0) (ty := .int) (C := RX1) (T := TX1) (N := 14) hx hb hts hinT tyX1 tyX1_ok nmX1 hown hK hP hD hS 0 rfl rfl 6 (by decide) (hts _ (List.mem_cons_of_mem _ fl_46)) (fun _ h9 => h9) rfl (by decide +kernel) rfl rfl (Nat.le_of_ble_eq_true rfl) dX1_ends_62 (fun H locs hP hD hS => ?_)
    have hP : va_P (dC, dI) vwCl [(qm, .inr (1, [.int (m_th v_1), .int (m_st v_1), .int (m_md v_1), .ref pb, .int (nI (m_mn v_1)), .ref pr, .int 0, .ref pv, .int (nI (m_sz v_1)), .ref pw, .int (nI (m_wn v_1)), .ref ps, .int (nI (m_sn v_1)), .ref pc])), (pb, .inl (cI, 64, .inl (m_bi v_1))), (pr, .inl (cI, 259, .inl (m_ro v_1))), (pv, .inl (cI, 259, .inl (m_rc v_1))), (pw, .inl (cI, 259, .inl (m_wt v_1))), (ps, .inl (cI, 306, .inl (m_se v_1))), (pc, .inl (cI, 5, .inl (m_cn v_1)))] H := hP
    have hD : va_D A [(qm, .inr (1, [.int (m_th v_1), .int (m_st v_1), .int (m_md v_1), .ref pb, .int (nI (m_mn v_1)), .ref pr, .int 0, .ref pv, .int (nI (m_sz v_1)), .ref pw, .int (nI (m_wn v_1)), .ref ps, .int (nI (m_sn v_1)), .ref pc])), (pb, .inl (cI, 64, .inl (m_bi v_1))), (pr, .inl (cI, 259, .inl (m_ro v_1))), (pv, .inl (cI, 259, .inl (m_rc v_1))), (pw, .inl (cI, 259, .inl (m_wt v_1))), (ps, .inl (cI, 306, .inl (m_se v_1))), (pc, .inl (cI, 5, .inl (m_cn v_1)))] := hD
    refine lv_aload_n hx hb dX1_ends_65 rfl (lv_at hl 0 rfl) ?_
    refine lv_iconst (v := 1) hx hb dX1_ends_66 (by decide) ?_
    have hPc : va_P (dC, dI) vwCl (m_W qm pb pr pv pw ps pc cI (m_th v_1, m_st v_1, m_md v_1, m_mn v_1, 0, m_sz v_1, m_wn v_1, m_sn v_1, m_bi v_1, m_ro v_1, m_rc v_1, m_wt v_1, m_se v_1, m_cn v_1)) H := hP
    have hDc : va_D A (m_W qm pb pr pv pw ps pc cI (m_th v_1, m_st v_1, m_md v_1, m_mn v_1, 0, m_sz v_1, m_wn v_1, m_sn v_1, m_bi v_1, m_ro v_1, m_rc v_1, m_wt v_1, m_se v_1, m_cn v_1)) := hD
    have hFc := va_free (wc := (m_W qm pb pr pv pw ps pc cI (m_th v_1, m_st v_1, m_md v_1, m_mn v_1, 0, m_sz v_1, m_wn v_1, m_sn v_1, m_bi v_1, m_ro v_1, m_rc v_1, m_wt v_1, m_se v_1, m_cn v_1))) hD hS hA [0, 1, 2, 3, 4, 5, 6] rfl
    refine va_callv (va_runV (As := [.int 1]) (rest := []) ⟨hx, hb, hml, hown, hts⟩ (kX1_begins l dC dI qm pb pr pv pw ps pc cI H.size (m_th v_1, m_st v_1, m_md v_1, m_mn v_1, 0, m_sz v_1, m_wn v_1, m_sn v_1, m_bi v_1, m_ro v_1, m_rc v_1, m_wt v_1, m_se v_1, m_cn v_1) 1 ) (cwV 1 hts gM_X1_begins rfl rfl rfl (by decide +kernel) ⟨Nat.le_of_ble_eq_true rfl, Nat.le_of_ble_eq_true rfl⟩) ⟨fun a U g mk q => by obtain ⟨q0, q1, qP, qK, qD⟩ := q; exact ⟨q0, q1, qP, va_K.moved (u := U) (U := U.calling g mk a) (Vm.Alike.refl U.vm) qK, qD⟩, va_recv hK hP (ci := 1) (q0 := 0) rfl rfl, fun U hU hW => ⟨rfl, by rw [hU], by rw [hU]; exact hPc, va_K.moved hW.alike hK, hDc.weaken (fun _ _ _ _ => trivial)⟩⟩ rfl rfl hl.1 rfl (lv_room (Nat.le_of_ble_eq_true rfl)) dX1_ends_67 ⟨Nat.le_of_ble_eq_true rfl, Nat.le_of_ble_eq_true rfl⟩) hS (fun q _ h => hFc q h) hFc (fun  u_3 t H1 locs ht hvm hu_3 hB hz1 hk1 hS => ?_)
    obtain ⟨hP1, -, hD1⟩ := hB
    rw [ht] at hP1
    have hP : va_P (dC, dI) vwCl [(qm, .inr (1, [.int (m_th u_3), .int (m_st u_3), .int (m_md u_3), .ref pb, .int (nI (m_mn u_3)), .ref pr, .int (nI (m_rw u_3)), .ref pv, .int (nI (m_sz u_3)), .ref pw, .int (nI (m_wn u_3)), .ref ps, .int (nI (m_sn u_3)), .ref pc])), (pb, .inl (cI, 64, .inl (m_bi u_3))), (pr, .inl (cI, 259, .inl (m_ro u_3))), (pv, .inl (cI, 259, .inl (m_rc u_3))), (pw, .inl (cI, 259, .inl (m_wt u_3))), (ps, .inl (cI, 306, .inl (m_se u_3))), (pc, .inl (cI, 5, .inl (m_cn u_3)))] H1 := hP1
    have hD : va_D A [(qm, .inr (1, [.int (m_th u_3), .int (m_st u_3), .int (m_md u_3), .ref pb, .int (nI (m_mn u_3)), .ref pr, .int (nI (m_rw u_3)), .ref pv, .int (nI (m_sz u_3)), .ref pw, .int (nI (m_wn u_3)), .ref ps, .int (nI (m_sn u_3)), .ref pc])), (pb, .inl (cI, 64, .inl (m_bi u_3))), (pr, .inl (cI, 259, .inl (m_ro u_3))), (pv, .inl (cI, 259, .inl (m_rc u_3))), (pw, .inl (cI, 259, .inl (m_wt u_3))), (ps, .inl (cI, 306, .inl (m_se u_3))), (pc, .inl (cI, 5, .inl (m_cn u_3)))] := hD1.weaken (fun k q _ h => hFc q.1 h)
    generalize H1 = H at hP hS ⊢
    have hP9 : va_P (dC, dI) vwCl (m_W qm pb pr pv pw ps pc cI u_3) H := hP
    have hD9 : va_D A (m_W qm pb pr pv pw ps pc cI u_3) := hD
    exact W.vret hx hb hr (fun t ht hW => ⟨⟨u_3, rfl, (by subst hu_3; subst hv_1; unfold m_ends; rw [if_pos c_2]), by rw [ht]; exact hP9, va_K.moved hW.alike hK, hD9⟩, hS.F ht⟩) hS.2.2 dX1_ends_70
  · refine lv_aload_n hx hb dX1_ends_46 rfl (lv_at hl 0 rfl) ?_
    refine va_get (D := (dC, dI)) (ci := 1) (v := .int (nI (m_rw v_1))) (C := RX1) (T := TX1) (N := 14) hx hb hts hinT hown hK hP 0 rfl rfl 6 (by decide) (hts _ (List.mem_cons_of_mem _ fl_46)) (fun _ h9 => h9) rfl dX1_ends_47 ?_
    refine lv_goto (tgt := 57) hx hb dX1_ends_50 (by decide) ?_
    refine va_put (D := (dC, dI)) (ci := 1) (v := .int (nI (m_rw v_1))) (ty := .int) (C := RX1) (T := TX1) (N := 14) hx hb hts hinT tyX1 tyX1_ok nmX1 hown hK hP hD hS 0 rfl rfl 8 (by decide) (hts _ (List.mem_cons_of_mem _ fl_49)) (fun _ h9 => h9) rfl (by decide +kernel) rfl rfl (Nat.le_of_ble_eq_true rfl) dX1_ends_57 (fun H locs hP hD hS => ?_)
    have hP : va_P (dC, dI) vwCl [(qm, .inr (1, [.int (m_th v_1), .int (m_st v_1), .int (m_md v_1), .ref pb, .int (nI (m_mn v_1)), .ref pr, .int (nI (m_rw v_1)), .ref pv, .int (nI (m_rw v_1)), .ref pw, .int (nI (m_wn v_1)), .ref ps, .int (nI (m_sn v_1)), .ref pc])), (pb, .inl (cI, 64, .inl (m_bi v_1))), (pr, .inl (cI, 259, .inl (m_ro v_1))), (pv, .inl (cI, 259, .inl (m_rc v_1))), (pw, .inl (cI, 259, .inl (m_wt v_1))), (ps, .inl (cI, 306, .inl (m_se v_1))), (pc, .inl (cI, 5, .inl (m_cn v_1)))] H := hP
    have hD : va_D A [(qm, .inr (1, [.int (m_th v_1), .int (m_st v_1), .int (m_md v_1), .ref pb, .int (nI (m_mn v_1)), .ref pr, .int (nI (m_rw v_1)), .ref pv, .int (nI (m_rw v_1)), .ref pw, .int (nI (m_wn v_1)), .ref ps, .int (nI (m_sn v_1)), .ref pc])), (pb, .inl (cI, 64, .inl (m_bi v_1))), (pr, .inl (cI, 259, .inl (m_ro v_1))), (pv, .inl (cI, 259, .inl (m_rc v_1))), (pw, .inl (cI, 259, .inl (m_wt v_1))), (ps, .inl (cI, 306, .inl (m_se v_1))), (pc, .inl (cI, 5, .inl (m_cn v_1)))] := hD
    refine lv_aload_n hx hb dX1_ends_60 rfl (lv_at hl 0 rfl) ?_
    refine lv_iconst (v := 0) hx hb dX1_ends_61 (by decide) ?_
    refine va_put (D := (dC, dI)) (ci := 1) (v := .int 0) (ty := .int) (C := RX1) (T := TX1) (N := 14) hx hb hts hinT tyX1 tyX1_ok nmX1 hown hK hP hD hS 0 rfl rfl 6 (by decide) (hts _ (List.mem_cons_of_mem _ fl_46)) (fun _ h9 => h9) rfl (by decide +kernel) rfl rfl (Nat.le_of_ble_eq_true rfl) dX1_ends_62 (fun H locs hP hD hS => ?_)
    have hP : va_P (dC, dI) vwCl [(qm, .inr (1, [.int (m_th v_1), .int (m_st v_1), .int (m_md v_1), .ref pb, .int (nI (m_mn v_1)), .ref pr, .int 0, .ref pv, .int (nI (m_rw v_1)), .ref pw, .int (nI (m_wn v_1)), .ref ps, .int (nI (m_sn v_1)), .ref pc])), (pb, .inl (cI, 64, .inl (m_bi v_1))), (pr, .inl (cI, 259, .inl (m_ro v_1))), (pv, .inl (cI, 259, .inl (m_rc v_1))), (pw, .inl (cI, 259, .inl (m_wt v_1))), (ps, .inl (cI, 306, .inl (m_se v_1))), (pc, .inl (cI, 5, .inl (m_cn v_1)))] H := hP
    have hD : va_D A [(qm, .inr (1, [.int (m_th v_1), .int (m_st v_1), .int (m_md v_1), .ref pb, .int (nI (m_mn v_1)), .ref pr, .int 0, .ref pv, .int (nI (m_rw v_1)), .ref pw, .int (nI (m_wn v_1)), .ref ps, .int (nI (m_sn v_1)), .ref pc])), (pb, .inl (cI, 64, .inl (m_bi v_1))), (pr, .inl (cI, 259, .inl (m_ro v_1))), (pv, .inl (cI, 259, .inl (m_rc v_1))), (pw, .inl (cI, 259, .inl (m_wt v_1))), (ps, .inl (cI, 306, .inl (m_se v_1))), (pc, .inl (cI, 5, .inl (m_cn v_1)))] := hD
    refine lv_aload_n hx hb dX1_ends_65 rfl (lv_at hl 0 rfl) ?_
    refine lv_iconst (v := 1) hx hb dX1_ends_66 (by decide) ?_
    have hPc : va_P (dC, dI) vwCl (m_W qm pb pr pv pw ps pc cI (m_th v_1, m_st v_1, m_md v_1, m_mn v_1, 0, m_rw v_1, m_wn v_1, m_sn v_1, m_bi v_1, m_ro v_1, m_rc v_1, m_wt v_1, m_se v_1, m_cn v_1)) H := hP
    have hDc : va_D A (m_W qm pb pr pv pw ps pc cI (m_th v_1, m_st v_1, m_md v_1, m_mn v_1, 0, m_rw v_1, m_wn v_1, m_sn v_1, m_bi v_1, m_ro v_1, m_rc v_1, m_wt v_1, m_se v_1, m_cn v_1)) := hD
    have hFc := va_free (wc := (m_W qm pb pr pv pw ps pc cI (m_th v_1, m_st v_1, m_md v_1, m_mn v_1, 0, m_rw v_1, m_wn v_1, m_sn v_1, m_bi v_1, m_ro v_1, m_rc v_1, m_wt v_1, m_se v_1, m_cn v_1))) hD hS hA [0, 1, 2, 3, 4, 5, 6] rfl
    refine va_callv (va_runV (As := [.int 1]) (rest := []) ⟨hx, hb, hml, hown, hts⟩ (kX1_begins l dC dI qm pb pr pv pw ps pc cI H.size (m_th v_1, m_st v_1, m_md v_1, m_mn v_1, 0, m_rw v_1, m_wn v_1, m_sn v_1, m_bi v_1, m_ro v_1, m_rc v_1, m_wt v_1, m_se v_1, m_cn v_1) 1 ) (cwV 1 hts gM_X1_begins rfl rfl rfl (by decide +kernel) ⟨Nat.le_of_ble_eq_true rfl, Nat.le_of_ble_eq_true rfl⟩) ⟨fun a U g mk q => by obtain ⟨q0, q1, qP, qK, qD⟩ := q; exact ⟨q0, q1, qP, va_K.moved (u := U) (U := U.calling g mk a) (Vm.Alike.refl U.vm) qK, qD⟩, va_recv hK hP (ci := 1) (q0 := 0) rfl rfl, fun U hU hW => ⟨rfl, by rw [hU], by rw [hU]; exact hPc, va_K.moved hW.alike hK, hDc.weaken (fun _ _ _ _ => trivial)⟩⟩ rfl rfl hl.1 rfl (lv_room (Nat.le_of_ble_eq_true rfl)) dX1_ends_67 ⟨Nat.le_of_ble_eq_true rfl, Nat.le_of_ble_eq_true rfl⟩) hS (fun q _ h => hFc q h) hFc (fun  u_4 t H1 locs ht hvm hu_4 hB hz1 hk1 hS => ?_)
    obtain ⟨hP1, -, hD1⟩ := hB
    rw [ht] at hP1
    have hP : va_P (dC, dI) vwCl [(qm, .inr (1, [.int (m_th u_4), .int (m_st u_4), .int (m_md u_4), .ref pb, .int (nI (m_mn u_4)), .ref pr, .int (nI (m_rw u_4)), .ref pv, .int (nI (m_sz u_4)), .ref pw, .int (nI (m_wn u_4)), .ref ps, .int (nI (m_sn u_4)), .ref pc])), (pb, .inl (cI, 64, .inl (m_bi u_4))), (pr, .inl (cI, 259, .inl (m_ro u_4))), (pv, .inl (cI, 259, .inl (m_rc u_4))), (pw, .inl (cI, 259, .inl (m_wt u_4))), (ps, .inl (cI, 306, .inl (m_se u_4))), (pc, .inl (cI, 5, .inl (m_cn u_4)))] H1 := hP1
    have hD : va_D A [(qm, .inr (1, [.int (m_th u_4), .int (m_st u_4), .int (m_md u_4), .ref pb, .int (nI (m_mn u_4)), .ref pr, .int (nI (m_rw u_4)), .ref pv, .int (nI (m_sz u_4)), .ref pw, .int (nI (m_wn u_4)), .ref ps, .int (nI (m_sn u_4)), .ref pc])), (pb, .inl (cI, 64, .inl (m_bi u_4))), (pr, .inl (cI, 259, .inl (m_ro u_4))), (pv, .inl (cI, 259, .inl (m_rc u_4))), (pw, .inl (cI, 259, .inl (m_wt u_4))), (ps, .inl (cI, 306, .inl (m_se u_4))), (pc, .inl (cI, 5, .inl (m_cn u_4)))] := hD1.weaken (fun k q _ h => hFc q.1 h)
    generalize H1 = H at hP hS ⊢
    have hP9 : va_P (dC, dI) vwCl (m_W qm pb pr pv pw ps pc cI u_4) H := hP
    have hD9 : va_D A (m_W qm pb pr pv pw ps pc cI u_4) := hD
    exact W.vret hx hb hr (fun t ht hW => ⟨⟨u_4, rfl, (by subst hu_4; subst hv_1; unfold m_ends; rw [if_neg c_2]), by rw [ht]; exact hP9, va_K.moved hW.alike hK, hD9⟩, hS.F ht⟩) hS.2.2 dX1_ends_70
end
section
abbrev rmX1_block : Room := { frames := 2, cells := 0, slots := 0, locals := 46 }
def m_biF (u : m_S) (w : Int32) (k : Nat) : Nat → Nat → Int32 → Int32
  | 0, _, b => b
  | n + 1, i, b => m_biF u w k n (i + 1) ((2 * b) + (((m_bi u) (8 * k + i)) ^^^ (if nI (8 * k + i) = w then 1 else 0)))
def m_blF (w : Int32) : Nat → Nat → m_S → m_S
  | 0, _, u => u
  | n + 1, k, u => m_blF w n (k + 1) (m_th u, m_st u, m_md u, m_mn u, m_rw u + 1, m_sz u, m_wn u, m_sn u, m_bi u, upd (m_ro u) (m_rw u) (m_biF u w k 8 0 0), m_rc u, m_wt u, m_se u, m_cn u)
theorem m_bl_rw (w : Int32) : ∀ (n k : Nat) (u : m_S), m_rw (m_blF w n k u) = m_rw u + n := by
  intro n
  induction n with
  | zero => intro k u; rfl
  | succ n ih => intro k u; rw [m_blF, ih]; show m_rw u + 1 + n = m_rw u + (n + 1); omega
set_option maxHeartbeats 4000000 in
set_option maxRecDepth 100000 in
theorem lpX1_blockI {p : Program} {l : Launch} {e : Env} {s : State} {m : MethodId} {args : Array Value} {below : List Frame} {meth : Method} {c : Code} {H : Heap} {locs : List Loc} {Q : State → Prop} (dC : Nat → ClassId) (dI : Nat → Nat → Nat) (qm pb pr pv pw ps pc : Nat) (cI : ClassId) (w : Int32) (k : Nat) (hk7 : k < 7) (hx : p.tables.exec = Jvm.exec) (hb : c.code = cX1_block) (hml : c.maxLocals = 5) (hown : s.vm.findClass RX1 = some m.cls) (hts : ∀ w ∈ vX1_block, w.before args s = true) (u : m_S) (hP : va_P (dC, dI) vwCl (m_W qm pb pr pv pw ps pc cI u) H) (hK : va_K (dC, dI) vwCl [(cI, .int)] s) : ∀ (n : Nat) (i : Nat) (b : Int32) (ls : Array Slot), i + n = 8 → lv_has ls 5 [(0, .ref qm), (1, .int w), (2, .int (nI k)), (3, .int b), (4, .int (nI (8 * k + i)))] → (∀ (ls : Array Slot), lv_has ls 5 [(0, .ref qm), (1, .int w), (2, .int (nI k)), (3, .int (m_biF u w k n i b))] → W p l e (headSpec vX1_block rmX1_block).room s m args below meth c H locs 0 0 Q (F0 m 75 ls [])) → W p l e (headSpec vX1_block rmX1_block).room s m args below meth c H locs 0 0 Q (F0 m 33 ls []) := by
  have hinT : ∀ w ∈ wsX10, w ∈ vX1_block := fun w h => List.mem_cons_of_mem _ (inM w h)
  have hP : va_P (dC, dI) vwCl [(qm, .inr (1, [.int (m_th u), .int (m_st u), .int (m_md u), .ref pb, .int (nI (m_mn u)), .ref pr, .int (nI (m_rw u)), .ref pv, .int (nI (m_sz u)), .ref pw, .int (nI (m_wn u)), .ref ps, .int (nI (m_sn u)), .ref pc])), (pb, .inl (cI, 64, .inl (m_bi u))), (pr, .inl (cI, 259, .inl (m_ro u))), (pv, .inl (cI, 259, .inl (m_rc u))), (pw, .inl (cI, 259, .inl (m_wt u))), (ps, .inl (cI, 306, .inl (m_se u))), (pc, .inl (cI, 5, .inl (m_cn u)))] H := hP
  intro n
  induction n with
  | zero =>
    intro i b ls hn hl kk
    have hi : i = 8 := by omega
    subst hi
    have hl : lv_has ls 5 [(0, .ref qm), (1, .int w), (2, .int (nI k)), (3, .int b), (4, .int (nI (8 * k + 8)))] := hl
    refine lv_iload hx hb dX1_block_33 (lv_at hl 4 rfl) ?_
    refine lv_bipush (v := 8) hx hb dX1_block_35 (by decide) ?_
    refine lv_iload_n hx hb dX1_block_37 rfl (lv_at hl 2 rfl) ?_
    refine lv_imul hx hb dX1_block_38 ?_
    refine W.eq (congrArg (fun z => F0 m 39 ls (.int z :: [.int (nI (8 * k + 8))])) (show 8 * (nI k) = nI (8 * k) from (pk_mul _ _))) ?_
    refine lv_bipush (v := 8) hx hb dX1_block_39 (by decide) ?_
    refine lv_iadd hx hb dX1_block_41 ?_
    refine W.eq (congrArg (fun z => F0 m 42 ls (.int z :: [.int (nI (8 * k + 8))])) (show (nI (8 * k)) + 8 = nI ((8 * k) + 8) from (nI_add _ _))) ?_
    refine lv_icmp_ge (tgt := 75) hx hb dX1_block_42 (by decide) (fun c_1 => ?_) (fun c_1 => absurd (nI_le (Nat.le_refl _) (by omega)) c_1)
    exact kk ls (lv_sub hl [0, 1, 2, 3] rfl)
  | succ n ih =>
    intro i b ls hn hl kk
    have hl : lv_has ls 5 [(0, .ref qm), (1, .int w), (2, .int (nI k)), (3, .int b), (4, .int (nI (8 * k + i)))] := hl
    refine lv_iload hx hb dX1_block_33 (lv_at hl 4 rfl) ?_
    refine lv_bipush (v := 8) hx hb dX1_block_35 (by decide) ?_
    refine lv_iload_n hx hb dX1_block_37 rfl (lv_at hl 2 rfl) ?_
    refine lv_imul hx hb dX1_block_38 ?_
    refine W.eq (congrArg (fun z => F0 m 39 ls (.int z :: [.int (nI (8 * k + i))])) (show 8 * (nI k) = nI (8 * k) from (pk_mul _ _))) ?_
    refine lv_bipush (v := 8) hx hb dX1_block_39 (by decide) ?_
    refine lv_iadd hx hb dX1_block_41 ?_
    refine W.eq (congrArg (fun z => F0 m 42 ls (.int z :: [.int (nI (8 * k + i))])) (show (nI (8 * k)) + 8 = nI ((8 * k) + 8) from (nI_add _ _))) ?_
    refine lv_icmp_ge (tgt := 75) hx hb dX1_block_42 (by decide) (fun c_1 => absurd c_1 (nI_ge (by omega) (by omega))) (fun c_1 => ?_)
    refine lv_iconst (v := 2) hx hb dX1_block_45 (by decide) ?_
    refine lv_iload_n hx hb dX1_block_46 rfl (lv_at hl 3 rfl) ?_
    refine lv_imul hx hb dX1_block_47 ?_
    refine lv_aload_n hx hb dX1_block_48 rfl (lv_at hl 0 rfl) ?_
    refine va_get (D := (dC, dI)) (ci := 1) (v := .ref pb) (C := RX1) (T := TX1) (N := 14) hx hb hts hinT hown hK hP 0 rfl rfl 3 (by decide) (hts _ (List.mem_cons_of_mem _ fl_7)) (fun _ h9 => h9) rfl dX1_block_49 ?_
    refine lv_iload hx hb dX1_block_52 (lv_at hl 4 rfl) ?_
    refine va_iald hx hb hK hP 1 0 rfl rfl (vp_in_nI (by omega) (by decide)) dX1_block_54 ?_
    refine W.eq (g2 := F0 m 55 ls [.int ((m_bi u) (8 * k + i)), .int (2 * b)]) (by rw [nI_clamp (by omega)]) ?_
    refine lv_iload hx hb dX1_block_55 (lv_at hl 4 rfl) ?_
    refine lv_iload_n hx hb dX1_block_57 rfl (lv_at hl 1 rfl) ?_
    refine lv_icmp_ne (tgt := 65) hx hb dX1_block_58 (by decide) (fun c_2 => ?_) (fun c_2 => ?_)
    · refine lv_iconst (v := 0) hx hb dX1_block_65 (by decide) ?_
      refine lv_ixor hx hb dX1_block_66 ?_
      refine lv_iadd hx hb dX1_block_67 ?_
      refine lv_istore_n (lv' := [(3, .int ((2 * b) + (((m_bi u) (8 * k + i)) ^^^ 0))), (0, .ref qm), (1, .int w), (2, .int (nI k)), (4, .int (nI (8 * k + i)))]) hx hb dX1_block_68 rfl hl (by decide) rfl (fun ls hl => ?_)
      refine lv_iinc (v := nI (8 * k + (i + 1))) (lv' := [(4, .int (nI (8 * k + (i + 1)))), (3, .int ((2 * b) + (((m_bi u) (8 * k + i)) ^^^ 0))), (0, .ref qm), (1, .int w), (2, .int (nI k))]) hx hb dX1_block_69 hl (k := 4) rfl (show nI (8 * k + i) + nI 1 = nI (8 * k + (i + 1)) from (by rw [nI_add]; rfl)) (by decide) rfl (fun ls hl => ?_)
      refine lv_goto (tgt := 33) hx hb dX1_block_72 (by decide) ?_
      have eF : m_biF u w k (n + 1) i b = m_biF u w k n (i + 1) ((2 * b) + (((m_bi u) (8 * k + i)) ^^^ 0)) := by rw [m_biF, if_neg c_2]
      exact ih (i + 1) ((2 * b) + (((m_bi u) (8 * k + i)) ^^^ 0)) ls (by omega) (lv_sub hl [2, 3, 4, 1, 0] rfl) (fun ls hl => kk ls (by rw [eF]; exact hl))
    · refine lv_iconst (v := 1) hx hb dX1_block_61 (by decide) ?_
      refine lv_goto (tgt := 66) hx hb dX1_block_62 (by decide) ?_
      refine lv_ixor hx hb dX1_block_66 ?_
      refine lv_iadd hx hb dX1_block_67 ?_
      refine lv_istore_n (lv' := [(3, .int ((2 * b) + (((m_bi u) (8 * k + i)) ^^^ 1))), (0, .ref qm), (1, .int w), (2, .int (nI k)), (4, .int (nI (8 * k + i)))]) hx hb dX1_block_68 rfl hl (by decide) rfl (fun ls hl => ?_)
      refine lv_iinc (v := nI (8 * k + (i + 1))) (lv' := [(4, .int (nI (8 * k + (i + 1)))), (3, .int ((2 * b) + (((m_bi u) (8 * k + i)) ^^^ 1))), (0, .ref qm), (1, .int w), (2, .int (nI k))]) hx hb dX1_block_69 hl (k := 4) rfl (show nI (8 * k + i) + nI 1 = nI (8 * k + (i + 1)) from (by rw [nI_add]; rfl)) (by decide) rfl (fun ls hl => ?_)
      refine lv_goto (tgt := 33) hx hb dX1_block_72 (by decide) ?_
      have eF : m_biF u w k (n + 1) i b = m_biF u w k n (i + 1) ((2 * b) + (((m_bi u) (8 * k + i)) ^^^ 1)) := by rw [m_biF, if_pos c_2]
      exact ih (i + 1) ((2 * b) + (((m_bi u) (8 * k + i)) ^^^ 1)) ls (by omega) (lv_sub hl [2, 3, 4, 1, 0] rfl) (fun ls hl => kk ls (by rw [eF]; exact hl))
set_option maxHeartbeats 4000000 in
set_option maxRecDepth 100000 in
theorem lpX1_blockO {p : Program} {l : Launch} {e : Env} {s : State} {m : MethodId} {args : Array Value} {below : List Frame} {meth : Method} {c : Code} {Q : State → Prop} (dC : Nat → ClassId) (dI : Nat → Nat → Nat) (qm pb pr pv pw ps pc : Nat) (cI : ClassId) (w : Int32) (hx : p.tables.exec = Jvm.exec) (hb : c.code = cX1_block) (hml : c.maxLocals = 5) (hown : s.vm.findClass RX1 = some m.cls) (hts : ∀ w ∈ vX1_block, w.before args s = true) (A : Nat → Prop) (hA : ∀ q : Nat, s.heap.size ≤ q → A q) (hK : va_K (dC, dI) vwCl [(cI, .int)] s) : ∀ (n : Nat) (u : m_S) (k : Nat) (H : Heap) (locs : List Loc) (ls : Array Slot), k + n = 7 → m_rw u + n ≤ 259 → va_P (dC, dI) vwCl (m_W qm pb pr pv pw ps pc cI u) H → va_D A (m_W qm pb pr pv pw ps pc cI u) → va_S A s.heap H locs → lv_has ls 5 [(0, .ref qm), (1, .int w), (2, .int (nI k))] → (∀ (H : Heap) (locs : List Loc) (ls : Array Slot), va_P (dC, dI) vwCl (m_W qm pb pr pv pw ps pc cI (m_blF w n k u)) H → va_D A (m_W qm pb pr pv pw ps pc cI (m_blF w n k u)) → va_S A s.heap H locs → lv_has ls 5 [(0, .ref qm), (1, .int w)] → W p l e (headSpec vX1_block rmX1_block).room s m args below meth c H locs 0 0 Q (F0 m 101 ls [])) → W p l e (headSpec vX1_block rmX1_block).room s m args below meth c H locs 0 0 Q (F0 m 19 ls []) := by
  have hinT : ∀ w ∈ wsX10, w ∈ vX1_block := fun w h => List.mem_cons_of_mem _ (inM w h)
  intro n
  induction n with
  | zero =>
    intro u k H locs ls hn hrw hP hD hS hl kk
    have hk : k = 7 := by omega
    subst hk
    have hP : va_P (dC, dI) vwCl [(qm, .inr (1, [.int (m_th u), .int (m_st u), .int (m_md u), .ref pb, .int (nI (m_mn u)), .ref pr, .int (nI (m_rw u)), .ref pv, .int (nI (m_sz u)), .ref pw, .int (nI (m_wn u)), .ref ps, .int (nI (m_sn u)), .ref pc])), (pb, .inl (cI, 64, .inl (m_bi u))), (pr, .inl (cI, 259, .inl (m_ro u))), (pv, .inl (cI, 259, .inl (m_rc u))), (pw, .inl (cI, 259, .inl (m_wt u))), (ps, .inl (cI, 306, .inl (m_se u))), (pc, .inl (cI, 5, .inl (m_cn u)))] H := hP
    have hD : va_D A [(qm, .inr (1, [.int (m_th u), .int (m_st u), .int (m_md u), .ref pb, .int (nI (m_mn u)), .ref pr, .int (nI (m_rw u)), .ref pv, .int (nI (m_sz u)), .ref pw, .int (nI (m_wn u)), .ref ps, .int (nI (m_sn u)), .ref pc])), (pb, .inl (cI, 64, .inl (m_bi u))), (pr, .inl (cI, 259, .inl (m_ro u))), (pv, .inl (cI, 259, .inl (m_rc u))), (pw, .inl (cI, 259, .inl (m_wt u))), (ps, .inl (cI, 306, .inl (m_se u))), (pc, .inl (cI, 5, .inl (m_cn u)))] := hD
    have hl : lv_has ls 5 [(0, .ref qm), (1, .int w), (2, .int (nI 7))] := hl
    refine lv_iload_n hx hb dX1_block_19 rfl (lv_at hl 2 rfl) ?_
    refine lv_bipush (v := 7) hx hb dX1_block_20 (by decide) ?_
    refine lv_icmp_ge (tgt := 101) hx hb dX1_block_22 (by decide) (fun c_1 => ?_) (fun c_1 => absurd (by decide) c_1)
    exact kk H locs ls hP hD hS (lv_sub hl [0, 1] rfl)
  | succ n ih =>
    intro u k H locs ls hn hrw hP hD hS hl kk
    have hP : va_P (dC, dI) vwCl [(qm, .inr (1, [.int (m_th u), .int (m_st u), .int (m_md u), .ref pb, .int (nI (m_mn u)), .ref pr, .int (nI (m_rw u)), .ref pv, .int (nI (m_sz u)), .ref pw, .int (nI (m_wn u)), .ref ps, .int (nI (m_sn u)), .ref pc])), (pb, .inl (cI, 64, .inl (m_bi u))), (pr, .inl (cI, 259, .inl (m_ro u))), (pv, .inl (cI, 259, .inl (m_rc u))), (pw, .inl (cI, 259, .inl (m_wt u))), (ps, .inl (cI, 306, .inl (m_se u))), (pc, .inl (cI, 5, .inl (m_cn u)))] H := hP
    have hD : va_D A [(qm, .inr (1, [.int (m_th u), .int (m_st u), .int (m_md u), .ref pb, .int (nI (m_mn u)), .ref pr, .int (nI (m_rw u)), .ref pv, .int (nI (m_sz u)), .ref pw, .int (nI (m_wn u)), .ref ps, .int (nI (m_sn u)), .ref pc])), (pb, .inl (cI, 64, .inl (m_bi u))), (pr, .inl (cI, 259, .inl (m_ro u))), (pv, .inl (cI, 259, .inl (m_rc u))), (pw, .inl (cI, 259, .inl (m_wt u))), (ps, .inl (cI, 306, .inl (m_se u))), (pc, .inl (cI, 5, .inl (m_cn u)))] := hD
    have hl : lv_has ls 5 [(0, .ref qm), (1, .int w), (2, .int (nI k))] := hl
    refine lv_iload_n hx hb dX1_block_19 rfl (lv_at hl 2 rfl) ?_
    refine lv_bipush (v := 7) hx hb dX1_block_20 (by decide) ?_
    refine lv_icmp_ge (tgt := 101) hx hb dX1_block_22 (by decide) (fun c_1 => absurd c_1 (show ¬ nI 7 ≤ nI k from nI_ge (by omega) (by decide))) (fun c_1 => ?_)
    refine lv_iconst (v := 0) hx hb dX1_block_25 (by decide) ?_
    refine lv_istore_n (lv' := [(3, .int 0), (0, .ref qm), (1, .int w), (2, .int (nI k))]) hx hb dX1_block_26 rfl hl (by decide) rfl (fun ls hl => ?_)
    refine lv_bipush (v := 8) hx hb dX1_block_27 (by decide) ?_
    refine lv_iload_n hx hb dX1_block_29 rfl (lv_at hl 3 rfl) ?_
    refine lv_imul hx hb dX1_block_30 ?_
    refine W.eq (congrArg (fun z => F0 m 31 ls (.int z :: [])) (show 8 * (nI k) = nI (8 * k) from (pk_mul _ _))) ?_
    refine lv_istore (lv' := [(4, .int (nI (8 * k))), (3, .int 0), (0, .ref qm), (1, .int w), (2, .int (nI k))]) hx hb dX1_block_31 hl (by decide) rfl (fun ls hl => ?_)
    refine lpX1_blockI (l := l) dC dI qm pb pr pv pw ps pc cI w k (by omega) hx hb hml hown hts u hP hK 8 0 0 ls rfl (lv_sub hl [2, 3, 4, 1, 0] rfl) (fun ls hl => ?_)
    refine lv_aload_n hx hb dX1_block_75 rfl (lv_at hl 0 rfl) ?_
    refine va_get (D := (dC, dI)) (ci := 1) (v := .ref pr) (C := RX1) (T := TX1) (N := 14) hx hb hts hinT hown hK hP 0 rfl rfl 5 (by decide) (hts _ (List.mem_cons_of_mem _ fl_13)) (fun _ h9 => h9) rfl dX1_block_76 ?_
    refine lv_aload_n hx hb dX1_block_79 rfl (lv_at hl 0 rfl) ?_
    refine va_get (D := (dC, dI)) (ci := 1) (v := .int (nI (m_rw u))) (C := RX1) (T := TX1) (N := 14) hx hb hts hinT hown hK hP 0 rfl rfl 6 (by decide) (hts _ (List.mem_cons_of_mem _ fl_46)) (fun _ h9 => h9) rfl dX1_block_80 ?_
    refine lv_iload_n hx hb dX1_block_83 rfl (lv_at hl 3 rfl) ?_
    refine va_iast hx hb hK hP hD hS 2 0 rfl rfl (vp_in_nI (by omega) (by decide)) dX1_block_84 (fun H locs hP hD hS => ?_)
    rw [show (nI (m_rw u) : Int32).toNatClampNeg = m_rw u from (nI_clamp (by omega))] at hP hD
    have hP : va_P (dC, dI) vwCl [(qm, .inr (1, [.int (m_th u), .int (m_st u), .int (m_md u), .ref pb, .int (nI (m_mn u)), .ref pr, .int (nI (m_rw u)), .ref pv, .int (nI (m_sz u)), .ref pw, .int (nI (m_wn u)), .ref ps, .int (nI (m_sn u)), .ref pc])), (pb, .inl (cI, 64, .inl (m_bi u))), (pr, .inl (cI, 259, .inl (upd (m_ro u) (m_rw u) (m_biF u w k 8 0 0)))), (pv, .inl (cI, 259, .inl (m_rc u))), (pw, .inl (cI, 259, .inl (m_wt u))), (ps, .inl (cI, 306, .inl (m_se u))), (pc, .inl (cI, 5, .inl (m_cn u)))] H := hP
    have hD : va_D A [(qm, .inr (1, [.int (m_th u), .int (m_st u), .int (m_md u), .ref pb, .int (nI (m_mn u)), .ref pr, .int (nI (m_rw u)), .ref pv, .int (nI (m_sz u)), .ref pw, .int (nI (m_wn u)), .ref ps, .int (nI (m_sn u)), .ref pc])), (pb, .inl (cI, 64, .inl (m_bi u))), (pr, .inl (cI, 259, .inl (upd (m_ro u) (m_rw u) (m_biF u w k 8 0 0)))), (pv, .inl (cI, 259, .inl (m_rc u))), (pw, .inl (cI, 259, .inl (m_wt u))), (ps, .inl (cI, 306, .inl (m_se u))), (pc, .inl (cI, 5, .inl (m_cn u)))] := hD
    refine lv_aload_n hx hb dX1_block_85 rfl (lv_at hl 0 rfl) ?_
    refine lv_dup hx hb dX1_block_86 rfl ?_
    refine va_get (D := (dC, dI)) (ci := 1) (v := .int (nI (m_rw u))) (C := RX1) (T := TX1) (N := 14) hx hb hts hinT hown hK hP 0 rfl rfl 6 (by decide) (hts _ (List.mem_cons_of_mem _ fl_46)) (fun _ h9 => h9) rfl dX1_block_87 ?_
    refine lv_iconst (v := 1) hx hb dX1_block_90 (by decide) ?_
    refine lv_iadd hx hb dX1_block_91 ?_
    refine W.eq (congrArg (fun z => F0 m 92 ls (.int z :: [.ref qm])) (show (nI (m_rw u)) + 1 = nI (m_rw u + 1) from (nI_add _ _))) ?_
    refine va_put (D := (dC, dI)) (ci := 1) (v := .int (nI (m_rw u + 1))) (ty := .int) (C := RX1) (T := TX1) (N := 14) hx hb hts hinT tyX1 tyX1_ok nmX1 hown hK hP hD hS 0 rfl rfl 6 (by decide) (hts _ (List.mem_cons_of_mem _ fl_46)) (fun _ h9 => h9) rfl (by decide +kernel) rfl rfl (Nat.le_of_ble_eq_true rfl) dX1_block_92 (fun H locs hP hD hS => ?_)
    have hP : va_P (dC, dI) vwCl [(qm, .inr (1, [.int (m_th u), .int (m_st u), .int (m_md u), .ref pb, .int (nI (m_mn u)), .ref pr, .int (nI (m_rw u + 1)), .ref pv, .int (nI (m_sz u)), .ref pw, .int (nI (m_wn u)), .ref ps, .int (nI (m_sn u)), .ref pc])), (pb, .inl (cI, 64, .inl (m_bi u))), (pr, .inl (cI, 259, .inl (upd (m_ro u) (m_rw u) (m_biF u w k 8 0 0)))), (pv, .inl (cI, 259, .inl (m_rc u))), (pw, .inl (cI, 259, .inl (m_wt u))), (ps, .inl (cI, 306, .inl (m_se u))), (pc, .inl (cI, 5, .inl (m_cn u)))] H := hP
    have hD : va_D A [(qm, .inr (1, [.int (m_th u), .int (m_st u), .int (m_md u), .ref pb, .int (nI (m_mn u)), .ref pr, .int (nI (m_rw u + 1)), .ref pv, .int (nI (m_sz u)), .ref pw, .int (nI (m_wn u)), .ref ps, .int (nI (m_sn u)), .ref pc])), (pb, .inl (cI, 64, .inl (m_bi u))), (pr, .inl (cI, 259, .inl (upd (m_ro u) (m_rw u) (m_biF u w k 8 0 0)))), (pv, .inl (cI, 259, .inl (m_rc u))), (pw, .inl (cI, 259, .inl (m_wt u))), (ps, .inl (cI, 306, .inl (m_se u))), (pc, .inl (cI, 5, .inl (m_cn u)))] := hD
    refine lv_iinc (v := nI (k + 1)) (lv' := [(2, .int (nI (k + 1))), (0, .ref qm), (1, .int w), (3, .int (m_biF u w k 8 0 0))]) hx hb dX1_block_95 hl (k := 2) rfl (show nI k + nI 1 = nI (k + 1) from nI_add _ _) (by decide) rfl (fun ls hl => ?_)
    refine lv_goto (tgt := 19) hx hb dX1_block_98 (by decide) ?_
    have eF : m_blF w (n + 1) k u = m_blF w n (k + 1) (m_th u, m_st u, m_md u, m_mn u, m_rw u + 1, m_sz u, m_wn u, m_sn u, m_bi u, upd (m_ro u) (m_rw u) (m_biF u w k 8 0 0), m_rc u, m_wt u, m_se u, m_cn u) := by rw [m_blF]
    exact ih (m_th u, m_st u, m_md u, m_mn u, m_rw u + 1, m_sz u, m_wn u, m_sn u, m_bi u, upd (m_ro u) (m_rw u) (m_biF u w k 8 0 0), m_rc u, m_wt u, m_se u, m_cn u) (k + 1) H locs ls (by omega) (show m_rw u + 1 + n ≤ 259 from by omega) hP hD hS (lv_sub hl [1, 2, 0] rfl) (fun H locs ls hP hD hS hl => kk H locs ls (by rw [eF]; exact hP) (by rw [eF]; exact hD) hS (by exact hl))
def m_block (u : m_S)  : m_S := if (m_wrong u) = (-2) then (m_ends u) else (if (m_wrong u) < 0 then (if (nI (m_rw (m_blF (m_wrong u) 7 0 u))) = 259 then (m_ends (m_th (m_blF (m_wrong u) 7 0 u), m_st (m_blF (m_wrong u) 7 0 u), m_md (m_blF (m_wrong u) 7 0 u), 0, m_rw (m_blF (m_wrong u) 7 0 u), m_sz (m_blF (m_wrong u) 7 0 u), m_wn (m_blF (m_wrong u) 7 0 u), m_sn (m_blF (m_wrong u) 7 0 u), m_bi (m_blF (m_wrong u) 7 0 u), m_ro (m_blF (m_wrong u) 7 0 u), m_rc (m_blF (m_wrong u) 7 0 u), m_wt (m_blF (m_wrong u) 7 0 u), m_se (m_blF (m_wrong u) 7 0 u), upd (upd (m_cn (m_blF (m_wrong u) 7 0 u)) 2 (((m_cn (m_blF (m_wrong u) 7 0 u)) 2) + 1)) 3 (((upd (m_cn (m_blF (m_wrong u) 7 0 u)) 2 (((m_cn (m_blF (m_wrong u) 7 0 u)) 2) + 1)) 3) + 0))) else (m_th (m_blF (m_wrong u) 7 0 u), m_st (m_blF (m_wrong u) 7 0 u), m_md (m_blF (m_wrong u) 7 0 u), 0, m_rw (m_blF (m_wrong u) 7 0 u), m_sz (m_blF (m_wrong u) 7 0 u), m_wn (m_blF (m_wrong u) 7 0 u), m_sn (m_blF (m_wrong u) 7 0 u), m_bi (m_blF (m_wrong u) 7 0 u), m_ro (m_blF (m_wrong u) 7 0 u), m_rc (m_blF (m_wrong u) 7 0 u), m_wt (m_blF (m_wrong u) 7 0 u), m_se (m_blF (m_wrong u) 7 0 u), upd (upd (m_cn (m_blF (m_wrong u) 7 0 u)) 2 (((m_cn (m_blF (m_wrong u) 7 0 u)) 2) + 1)) 3 (((upd (m_cn (m_blF (m_wrong u) 7 0 u)) 2 (((m_cn (m_blF (m_wrong u) 7 0 u)) 2) + 1)) 3) + 0))) else (if (nI (m_rw (m_blF (m_wrong u) 7 0 u))) = 259 then (m_ends (m_th (m_blF (m_wrong u) 7 0 u), m_st (m_blF (m_wrong u) 7 0 u), m_md (m_blF (m_wrong u) 7 0 u), 0, m_rw (m_blF (m_wrong u) 7 0 u), m_sz (m_blF (m_wrong u) 7 0 u), m_wn (m_blF (m_wrong u) 7 0 u), m_sn (m_blF (m_wrong u) 7 0 u), m_bi (m_blF (m_wrong u) 7 0 u), m_ro (m_blF (m_wrong u) 7 0 u), m_rc (m_blF (m_wrong u) 7 0 u), m_wt (m_blF (m_wrong u) 7 0 u), m_se (m_blF (m_wrong u) 7 0 u), upd (upd (m_cn (m_blF (m_wrong u) 7 0 u)) 2 (((m_cn (m_blF (m_wrong u) 7 0 u)) 2) + 1)) 3 (((upd (m_cn (m_blF (m_wrong u) 7 0 u)) 2 (((m_cn (m_blF (m_wrong u) 7 0 u)) 2) + 1)) 3) + 1))) else (m_th (m_blF (m_wrong u) 7 0 u), m_st (m_blF (m_wrong u) 7 0 u), m_md (m_blF (m_wrong u) 7 0 u), 0, m_rw (m_blF (m_wrong u) 7 0 u), m_sz (m_blF (m_wrong u) 7 0 u), m_wn (m_blF (m_wrong u) 7 0 u), m_sn (m_blF (m_wrong u) 7 0 u), m_bi (m_blF (m_wrong u) 7 0 u), m_ro (m_blF (m_wrong u) 7 0 u), m_rc (m_blF (m_wrong u) 7 0 u), m_wt (m_blF (m_wrong u) 7 0 u), m_se (m_blF (m_wrong u) 7 0 u), upd (upd (m_cn (m_blF (m_wrong u) 7 0 u)) 2 (((m_cn (m_blF (m_wrong u) 7 0 u)) 2) + 1)) 3 (((upd (m_cn (m_blF (m_wrong u) 7 0 u)) 2 (((m_cn (m_blF (m_wrong u) 7 0 u)) 2) + 1)) 3) + 1))))
def m_block_r (u : m_S)  : Int32 := if (m_wrong u) = (-2) then 1 else (if (m_wrong u) < 0 then (if (nI (m_rw (m_blF (m_wrong u) 7 0 u))) = 259 then 1 else 0) else (if (nI (m_rw (m_blF (m_wrong u) 7 0 u))) = 259 then 1 else 0))
set_option maxHeartbeats 4000000 in
set_option maxRecDepth 100000 in
theorem kX1_block (l : Launch) (dC : Nat → ClassId) (dI : Nat → Nat → Nat) (qm pb pr pv pw ps pc : Nat) (cI : ClassId) (sz : Nat) (u : m_S)  (hrw : m_rw u ≤ 252) : Met l yX1_block vX1_block rmX1_block (va_Pc [.ref qm] (fun U => U.heap.size = sz ∧ va_P (dC, dI) vwCl (m_W qm pb pr pv pw ps pc cI u) U.heap ∧ va_K (dC, dI) vwCl [(cI, .int)] U ∧ va_D (fun _ => True) (m_W qm pb pr pv pw ps pc cI u))) (va_Qi (fun r u2 => r = m_block_r u ∧ u2 = m_block u) (m_At dC dI (va_A (m_W qm pb pr pv pw ps pc cI u) sz) qm pb pr pv pw ps pc cI) (va_A (m_W qm pb pr pv pw ps pc cI u) sz)) 0 0 (va_A (m_W qm pb pr pv pw ps pc cI u) sz) := by
  refine Met.ofW (cc := cX1_block) (maxL := 5) (ret := some .int) (by decide) rfl ?_
  intro p e s m args below meth c s₁ B hml hv
  obtain ⟨rfl, hsz, hP, hK, hD0⟩ := hv
  have hx := B.exec
  have hb := B.bytes
  have hr := B.returns
  have hts := atoms_spec (ws := vX1_block) B.pre
  have hown : s.vm.findClass RX1 = some m.cls := findClass_of_methodNamed B.named
  have hlocks := B.notSynchronized
  have hinT : ∀ w ∈ wsX10, w ∈ vX1_block := fun w h => List.mem_cons_of_mem _ (inM w h)
  subst hsz
  have hD := hD0.self (sz := s.heap.size)
  generalize hAe : va_A (m_W qm pb pr pv pw ps pc cI u) s.heap.size = A at hD ⊢
  have hA : ∀ q : Nat, s.heap.size ≤ q → A q := fun q h => by rw [← hAe]; exact Or.inr h
  have hS : va_S A s.heap s.heap [] := va_S.rf
  have hD : va_D A [(qm, .inr (1, [.int (m_th u), .int (m_st u), .int (m_md u), .ref pb, .int (nI (m_mn u)), .ref pr, .int (nI (m_rw u)), .ref pv, .int (nI (m_sz u)), .ref pw, .int (nI (m_wn u)), .ref ps, .int (nI (m_sn u)), .ref pc])), (pb, .inl (cI, 64, .inl (m_bi u))), (pr, .inl (cI, 259, .inl (m_ro u))), (pv, .inl (cI, 259, .inl (m_rc u))), (pw, .inl (cI, 259, .inl (m_wt u))), (ps, .inl (cI, 306, .inl (m_se u))), (pc, .inl (cI, 5, .inl (m_cn u)))] := hD
  have hP : va_P (dC, dI) vwCl [(qm, .inr (1, [.int (m_th u), .int (m_st u), .int (m_md u), .ref pb, .int (nI (m_mn u)), .ref pr, .int (nI (m_rw u)), .ref pv, .int (nI (m_sz u)), .ref pw, .int (nI (m_wn u)), .ref ps, .int (nI (m_sn u)), .ref pc])), (pb, .inl (cI, 64, .inl (m_bi u))), (pr, .inl (cI, 259, .inl (m_ro u))), (pv, .inl (cI, 259, .inl (m_rc u))), (pw, .inl (cI, 259, .inl (m_wt u))), (ps, .inl (cI, 306, .inl (m_se u))), (pc, .inl (cI, 5, .inl (m_cn u)))] s.heap := hP
  have hl := lv_entry ([.ref qm]) (n := 5) (Nat.le_of_ble_eq_true rfl)
  rw [lg_entry_eq]
  generalize (lg_sl ([.ref qm]) ++ List.replicate (5 - (lg_sl ([.ref qm])).length) Slot.unset).toArray = ls at hl ⊢
  have hl : lv_has ls 5 [(0, .ref qm)] := hl
  refine lv_aload_n hx hb dX1_block_0 rfl (lv_at hl 0 rfl) ?_
  have hPc : va_P (dC, dI) vwCl (m_W qm pb pr pv pw ps pc cI u) s.heap := hP
  refine vp_callSi (va_runV (As := []) (rest := []) ⟨hx, hb, hml, hown, hts⟩ (kX1_wrong l dC dI qm pb pr pv pw ps pc cI u  ) (cwV 0 hts gM_X1_wrong rfl rfl rfl (by decide +kernel) ⟨Nat.le_of_ble_eq_true rfl, Nat.le_of_ble_eq_true rfl⟩) ⟨fun a U g mk q => by obtain ⟨q0, qP, qK⟩ := q; exact ⟨q0, qP, va_K.moved (u := U) (U := U.calling g mk a) (Vm.Alike.refl U.vm) qK⟩, va_recv hK hP (ci := 1) (q0 := 0) rfl rfl, fun U hU hW => ⟨rfl, by rw [hU]; exact hPc, va_K.moved hW.alike hK⟩⟩ rfl rfl hl.1 rfl (lv_room (Nat.le_of_ble_eq_true rfl)) dX1_block_1 ⟨Nat.le_of_ble_eq_true rfl, Nat.le_of_ble_eq_true rfl⟩).run (fun r_1 hr_1 => ?_)
  subst hr_1
  refine lv_istore_n (lv' := [(1, .int (m_wrong u)), (0, .ref qm)]) hx hb dX1_block_4 rfl hl (by decide) rfl (fun ls hl => ?_)
  refine lv_iload_n hx hb dX1_block_5 rfl (lv_at hl 0 rfl) ?_
  refine lv_bipush (v := (-2)) hx hb dX1_block_6 (by decide) ?_
  refine lv_icmp_ne (tgt := 17) hx hb dX1_block_8 (by decide) (fun c_2 => ?_) (fun c_2 => ?_)
  · refine lv_iconst (v := 0) hx hb dX1_block_17 (by decide) ?_
    refine lv_istore_n (lv' := [(2, .int 0), (1, .int (m_wrong u)), (0, .ref qm)]) hx hb dX1_block_18 rfl hl (by decide) rfl (fun ls hl => ?_)
    refine lpX1_blockO (l := l) dC dI qm pb pr pv pw ps pc cI (m_wrong u) hx hb hml hown hts A hA hK  7 u 0 s.heap [] ls rfl (show m_rw u + 7 ≤ 259 from by omega) hP hD hS (lv_sub hl [2, 1, 0] rfl) (fun H locs ls hP hD hS hl => ?_)
    obtain ⟨v_3, hv_3⟩ : ∃ z, z = m_blF (m_wrong u) 7 0 u := ⟨_, rfl⟩
    rw [← hv_3] at hP hD
    have hP : va_P (dC, dI) vwCl [(qm, .inr (1, [.int (m_th v_3), .int (m_st v_3), .int (m_md v_3), .ref pb, .int (nI (m_mn v_3)), .ref pr, .int (nI (m_rw v_3)), .ref pv, .int (nI (m_sz v_3)), .ref pw, .int (nI (m_wn v_3)), .ref ps, .int (nI (m_sn v_3)), .ref pc])), (pb, .inl (cI, 64, .inl (m_bi v_3))), (pr, .inl (cI, 259, .inl (m_ro v_3))), (pv, .inl (cI, 259, .inl (m_rc v_3))), (pw, .inl (cI, 259, .inl (m_wt v_3))), (ps, .inl (cI, 306, .inl (m_se v_3))), (pc, .inl (cI, 5, .inl (m_cn v_3)))] H := hP
    have hD : va_D A [(qm, .inr (1, [.int (m_th v_3), .int (m_st v_3), .int (m_md v_3), .ref pb, .int (nI (m_mn v_3)), .ref pr, .int (nI (m_rw v_3)), .ref pv, .int (nI (m_sz v_3)), .ref pw, .int (nI (m_wn v_3)), .ref ps, .int (nI (m_sn v_3)), .ref pc])), (pb, .inl (cI, 64, .inl (m_bi v_3))), (pr, .inl (cI, 259, .inl (m_ro v_3))), (pv, .inl (cI, 259, .inl (m_rc v_3))), (pw, .inl (cI, 259, .inl (m_wt v_3))), (ps, .inl (cI, 306, .inl (m_se v_3))), (pc, .inl (cI, 5, .inl (m_cn v_3)))] := hD
    refine lv_aload_n hx hb dX1_block_101 rfl (lv_at hl 0 rfl) ?_
    refine va_get (D := (dC, dI)) (ci := 1) (v := .ref pc) (C := RX1) (T := TX1) (N := 14) hx hb hts hinT hown hK hP 0 rfl rfl 13 (by decide) (hts _ (List.mem_cons_of_mem _ fl_25)) (fun _ h9 => h9) rfl dX1_block_102 ?_
    refine lv_iconst (v := 2) hx hb dX1_block_105 (by decide) ?_
    refine lv_dup2_11 hx hb dX1_block_106 rfl rfl ?_
    refine va_iald hx hb hK hP 6 0 rfl rfl (j_in (k := 2) rfl (by decide)) dX1_block_107 ?_
    refine W.eq (g2 := F0 m 108 ls [.int ((m_cn v_3) 2), .int 2, .ref pc]) rfl ?_
    refine lv_iconst (v := 1) hx hb dX1_block_108 (by decide) ?_
    refine lv_iadd hx hb dX1_block_109 ?_
    refine va_iast hx hb hK hP hD hS 6 0 rfl rfl (j_in (k := 2) rfl (by decide)) dX1_block_110 (fun H locs hP hD hS => ?_)
    rw [show (2 : Int32).toNatClampNeg = 2 from (by decide)] at hP hD
    have hP : va_P (dC, dI) vwCl [(qm, .inr (1, [.int (m_th v_3), .int (m_st v_3), .int (m_md v_3), .ref pb, .int (nI (m_mn v_3)), .ref pr, .int (nI (m_rw v_3)), .ref pv, .int (nI (m_sz v_3)), .ref pw, .int (nI (m_wn v_3)), .ref ps, .int (nI (m_sn v_3)), .ref pc])), (pb, .inl (cI, 64, .inl (m_bi v_3))), (pr, .inl (cI, 259, .inl (m_ro v_3))), (pv, .inl (cI, 259, .inl (m_rc v_3))), (pw, .inl (cI, 259, .inl (m_wt v_3))), (ps, .inl (cI, 306, .inl (m_se v_3))), (pc, .inl (cI, 5, .inl (upd (m_cn v_3) 2 (((m_cn v_3) 2) + 1))))] H := hP
    have hD : va_D A [(qm, .inr (1, [.int (m_th v_3), .int (m_st v_3), .int (m_md v_3), .ref pb, .int (nI (m_mn v_3)), .ref pr, .int (nI (m_rw v_3)), .ref pv, .int (nI (m_sz v_3)), .ref pw, .int (nI (m_wn v_3)), .ref ps, .int (nI (m_sn v_3)), .ref pc])), (pb, .inl (cI, 64, .inl (m_bi v_3))), (pr, .inl (cI, 259, .inl (m_ro v_3))), (pv, .inl (cI, 259, .inl (m_rc v_3))), (pw, .inl (cI, 259, .inl (m_wt v_3))), (ps, .inl (cI, 306, .inl (m_se v_3))), (pc, .inl (cI, 5, .inl (upd (m_cn v_3) 2 (((m_cn v_3) 2) + 1))))] := hD
    refine lv_aload_n hx hb dX1_block_111 rfl (lv_at hl 0 rfl) ?_
    refine va_get (D := (dC, dI)) (ci := 1) (v := .ref pc) (C := RX1) (T := TX1) (N := 14) hx hb hts hinT hown hK hP 0 rfl rfl 13 (by decide) (hts _ (List.mem_cons_of_mem _ fl_25)) (fun _ h9 => h9) rfl dX1_block_112 ?_
    refine lv_iconst (v := 3) hx hb dX1_block_115 (by decide) ?_
    refine lv_dup2_11 hx hb dX1_block_116 rfl rfl ?_
    refine va_iald hx hb hK hP 6 0 rfl rfl (j_in (k := 3) rfl (by decide)) dX1_block_117 ?_
    refine W.eq (g2 := F0 m 118 ls [.int ((upd (m_cn v_3) 2 (((m_cn v_3) 2) + 1)) 3), .int 3, .ref pc]) rfl ?_
    refine lv_iload_n hx hb dX1_block_118 rfl (lv_at hl 1 rfl) ?_
    refine lv_if_lt (tgt := 126) hx hb dX1_block_119 (by decide) (fun c_4 => ?_) (fun c_4 => ?_)
    · refine lv_iconst (v := 0) hx hb dX1_block_126 (by decide) ?_
      refine lv_iadd hx hb dX1_block_127 ?_
      refine va_iast hx hb hK hP hD hS 6 0 rfl rfl (j_in (k := 3) rfl (by decide)) dX1_block_128 (fun H locs hP hD hS => ?_)
      rw [show (3 : Int32).toNatClampNeg = 3 from (by decide)] at hP hD
      have hP : va_P (dC, dI) vwCl [(qm, .inr (1, [.int (m_th v_3), .int (m_st v_3), .int (m_md v_3), .ref pb, .int (nI (m_mn v_3)), .ref pr, .int (nI (m_rw v_3)), .ref pv, .int (nI (m_sz v_3)), .ref pw, .int (nI (m_wn v_3)), .ref ps, .int (nI (m_sn v_3)), .ref pc])), (pb, .inl (cI, 64, .inl (m_bi v_3))), (pr, .inl (cI, 259, .inl (m_ro v_3))), (pv, .inl (cI, 259, .inl (m_rc v_3))), (pw, .inl (cI, 259, .inl (m_wt v_3))), (ps, .inl (cI, 306, .inl (m_se v_3))), (pc, .inl (cI, 5, .inl (upd (upd (m_cn v_3) 2 (((m_cn v_3) 2) + 1)) 3 (((upd (m_cn v_3) 2 (((m_cn v_3) 2) + 1)) 3) + 0))))] H := hP
      have hD : va_D A [(qm, .inr (1, [.int (m_th v_3), .int (m_st v_3), .int (m_md v_3), .ref pb, .int (nI (m_mn v_3)), .ref pr, .int (nI (m_rw v_3)), .ref pv, .int (nI (m_sz v_3)), .ref pw, .int (nI (m_wn v_3)), .ref ps, .int (nI (m_sn v_3)), .ref pc])), (pb, .inl (cI, 64, .inl (m_bi v_3))), (pr, .inl (cI, 259, .inl (m_ro v_3))), (pv, .inl (cI, 259, .inl (m_rc v_3))), (pw, .inl (cI, 259, .inl (m_wt v_3))), (ps, .inl (cI, 306, .inl (m_se v_3))), (pc, .inl (cI, 5, .inl (upd (upd (m_cn v_3) 2 (((m_cn v_3) 2) + 1)) 3 (((upd (m_cn v_3) 2 (((m_cn v_3) 2) + 1)) 3) + 0))))] := hD
      refine lv_aload_n hx hb dX1_block_129 rfl (lv_at hl 0 rfl) ?_
      refine lv_iconst (v := 0) hx hb dX1_block_130 (by decide) ?_
      refine va_put (D := (dC, dI)) (ci := 1) (v := .int 0) (ty := .int) (C := RX1) (T := TX1) (N := 14) hx hb hts hinT tyX1 tyX1_ok nmX1 hown hK hP hD hS 0 rfl rfl 4 (by decide) (hts _ (List.mem_cons_of_mem _ fl_43)) (fun _ h9 => h9) rfl (by decide +kernel) rfl rfl (Nat.le_of_ble_eq_true rfl) dX1_block_131 (fun H locs hP hD hS => ?_)
      have hP : va_P (dC, dI) vwCl [(qm, .inr (1, [.int (m_th v_3), .int (m_st v_3), .int (m_md v_3), .ref pb, .int 0, .ref pr, .int (nI (m_rw v_3)), .ref pv, .int (nI (m_sz v_3)), .ref pw, .int (nI (m_wn v_3)), .ref ps, .int (nI (m_sn v_3)), .ref pc])), (pb, .inl (cI, 64, .inl (m_bi v_3))), (pr, .inl (cI, 259, .inl (m_ro v_3))), (pv, .inl (cI, 259, .inl (m_rc v_3))), (pw, .inl (cI, 259, .inl (m_wt v_3))), (ps, .inl (cI, 306, .inl (m_se v_3))), (pc, .inl (cI, 5, .inl (upd (upd (m_cn v_3) 2 (((m_cn v_3) 2) + 1)) 3 (((upd (m_cn v_3) 2 (((m_cn v_3) 2) + 1)) 3) + 0))))] H := hP
      have hD : va_D A [(qm, .inr (1, [.int (m_th v_3), .int (m_st v_3), .int (m_md v_3), .ref pb, .int 0, .ref pr, .int (nI (m_rw v_3)), .ref pv, .int (nI (m_sz v_3)), .ref pw, .int (nI (m_wn v_3)), .ref ps, .int (nI (m_sn v_3)), .ref pc])), (pb, .inl (cI, 64, .inl (m_bi v_3))), (pr, .inl (cI, 259, .inl (m_ro v_3))), (pv, .inl (cI, 259, .inl (m_rc v_3))), (pw, .inl (cI, 259, .inl (m_wt v_3))), (ps, .inl (cI, 306, .inl (m_se v_3))), (pc, .inl (cI, 5, .inl (upd (upd (m_cn v_3) 2 (((m_cn v_3) 2) + 1)) 3 (((upd (m_cn v_3) 2 (((m_cn v_3) 2) + 1)) 3) + 0))))] := hD
      refine lv_aload_n hx hb dX1_block_134 rfl (lv_at hl 0 rfl) ?_
      refine va_get (D := (dC, dI)) (ci := 1) (v := .int (nI (m_rw v_3))) (C := RX1) (T := TX1) (N := 14) hx hb hts hinT hown hK hP 0 rfl rfl 6 (by decide) (hts _ (List.mem_cons_of_mem _ fl_46)) (fun _ h9 => h9) rfl dX1_block_135 ?_
      refine lv_sipush (v := 259) hx hb dX1_block_138 (by decide) ?_
      refine lv_icmp_ne (tgt := 150) hx hb dX1_block_141 (by decide) (fun c_5 => ?_) (fun c_5 => ?_)
      · refine lv_iconst (v := 0) hx hb dX1_block_150 (by decide) ?_
        have hP9 : va_P (dC, dI) vwCl (m_W qm pb pr pv pw ps pc cI (m_th v_3, m_st v_3, m_md v_3, 0, m_rw v_3, m_sz v_3, m_wn v_3, m_sn v_3, m_bi v_3, m_ro v_3, m_rc v_3, m_wt v_3, m_se v_3, upd (upd (m_cn v_3) 2 (((m_cn v_3) 2) + 1)) 3 (((upd (m_cn v_3) 2 (((m_cn v_3) 2) + 1)) 3) + 0))) H := hP
        have hD9 : va_D A (m_W qm pb pr pv pw ps pc cI (m_th v_3, m_st v_3, m_md v_3, 0, m_rw v_3, m_sz v_3, m_wn v_3, m_sn v_3, m_bi v_3, m_ro v_3, m_rc v_3, m_wt v_3, m_se v_3, upd (upd (m_cn v_3) 2 (((m_cn v_3) 2) + 1)) 3 (((upd (m_cn v_3) 2 (((m_cn v_3) 2) + 1)) 3) + 0))) := hD
        exact W.iret (v := 0) hx hb hr (fun t ht hW => ⟨⟨_, (m_th v_3, m_st v_3, m_md v_3, 0, m_rw v_3, m_sz v_3, m_wn v_3, m_sn v_3, m_bi v_3, m_ro v_3, m_rc v_3, m_wt v_3, m_se v_3, upd (upd (m_cn v_3) 2 (((m_cn v_3) 2) + 1)) 3 (((upd (m_cn v_3) 2 (((m_cn v_3) 2) + 1)) 3) + 0)), rfl, ⟨(by subst hv_3; unfold m_block_r; rw [if_neg c_2, if_pos c_4, if_neg c_5]), (by subst hv_3; unfold m_block; rw [if_neg c_2, if_pos c_4, if_neg c_5])⟩, by rw [ht]; exact hP9, va_K.moved hW.alike hK, hD9⟩, hS.F ht⟩) hS.2.2 dX1_block_151
      · refine lv_aload_n hx hb dX1_block_144 rfl (lv_at hl 0 rfl) ?_
        have hPc : va_P (dC, dI) vwCl (m_W qm pb pr pv pw ps pc cI (m_th v_3, m_st v_3, m_md v_3, 0, m_rw v_3, m_sz v_3, m_wn v_3, m_sn v_3, m_bi v_3, m_ro v_3, m_rc v_3, m_wt v_3, m_se v_3, upd (upd (m_cn v_3) 2 (((m_cn v_3) 2) + 1)) 3 (((upd (m_cn v_3) 2 (((m_cn v_3) 2) + 1)) 3) + 0))) H := hP
        have hDc : va_D A (m_W qm pb pr pv pw ps pc cI (m_th v_3, m_st v_3, m_md v_3, 0, m_rw v_3, m_sz v_3, m_wn v_3, m_sn v_3, m_bi v_3, m_ro v_3, m_rc v_3, m_wt v_3, m_se v_3, upd (upd (m_cn v_3) 2 (((m_cn v_3) 2) + 1)) 3 (((upd (m_cn v_3) 2 (((m_cn v_3) 2) + 1)) 3) + 0))) := hD
        have hFc := va_free (wc := (m_W qm pb pr pv pw ps pc cI (m_th v_3, m_st v_3, m_md v_3, 0, m_rw v_3, m_sz v_3, m_wn v_3, m_sn v_3, m_bi v_3, m_ro v_3, m_rc v_3, m_wt v_3, m_se v_3, upd (upd (m_cn v_3) 2 (((m_cn v_3) 2) + 1)) 3 (((upd (m_cn v_3) 2 (((m_cn v_3) 2) + 1)) 3) + 0)))) hD hS hA [0, 1, 2, 3, 4, 5, 6] rfl
        refine va_callv (va_runV (As := []) (rest := []) ⟨hx, hb, hml, hown, hts⟩ (kX1_ends l dC dI qm pb pr pv pw ps pc cI H.size (m_th v_3, m_st v_3, m_md v_3, 0, m_rw v_3, m_sz v_3, m_wn v_3, m_sn v_3, m_bi v_3, m_ro v_3, m_rc v_3, m_wt v_3, m_se v_3, upd (upd (m_cn v_3) 2 (((m_cn v_3) 2) + 1)) 3 (((upd (m_cn v_3) 2 (((m_cn v_3) 2) + 1)) 3) + 0))  (show m_rw v_3 ≤ 259 from by rw [hv_3, m_bl_rw]; omega)) (cwV 0 hts gM_X1_ends rfl rfl rfl (by decide +kernel) ⟨Nat.le_of_ble_eq_true rfl, Nat.le_of_ble_eq_true rfl⟩) ⟨fun a U g mk q => by obtain ⟨q0, q1, qP, qK, qD⟩ := q; exact ⟨q0, q1, qP, va_K.moved (u := U) (U := U.calling g mk a) (Vm.Alike.refl U.vm) qK, qD⟩, va_recv hK hP (ci := 1) (q0 := 0) rfl rfl, fun U hU hW => ⟨rfl, by rw [hU], by rw [hU]; exact hPc, va_K.moved hW.alike hK, hDc.weaken (fun _ _ _ _ => trivial)⟩⟩ rfl rfl hl.1 rfl (lv_room (Nat.le_of_ble_eq_true rfl)) dX1_block_145 ⟨Nat.le_of_ble_eq_true rfl, Nat.le_of_ble_eq_true rfl⟩) hS (fun q _ h => hFc q h) hFc (fun  u_6 t H1 locs ht hvm hu_6 hB hz1 hk1 hS => ?_)
        obtain ⟨hP1, -, hD1⟩ := hB
        rw [ht] at hP1
        have hP : va_P (dC, dI) vwCl [(qm, .inr (1, [.int (m_th u_6), .int (m_st u_6), .int (m_md u_6), .ref pb, .int (nI (m_mn u_6)), .ref pr, .int (nI (m_rw u_6)), .ref pv, .int (nI (m_sz u_6)), .ref pw, .int (nI (m_wn u_6)), .ref ps, .int (nI (m_sn u_6)), .ref pc])), (pb, .inl (cI, 64, .inl (m_bi u_6))), (pr, .inl (cI, 259, .inl (m_ro u_6))), (pv, .inl (cI, 259, .inl (m_rc u_6))), (pw, .inl (cI, 259, .inl (m_wt u_6))), (ps, .inl (cI, 306, .inl (m_se u_6))), (pc, .inl (cI, 5, .inl (m_cn u_6)))] H1 := hP1
        have hD : va_D A [(qm, .inr (1, [.int (m_th u_6), .int (m_st u_6), .int (m_md u_6), .ref pb, .int (nI (m_mn u_6)), .ref pr, .int (nI (m_rw u_6)), .ref pv, .int (nI (m_sz u_6)), .ref pw, .int (nI (m_wn u_6)), .ref ps, .int (nI (m_sn u_6)), .ref pc])), (pb, .inl (cI, 64, .inl (m_bi u_6))), (pr, .inl (cI, 259, .inl (m_ro u_6))), (pv, .inl (cI, 259, .inl (m_rc u_6))), (pw, .inl (cI, 259, .inl (m_wt u_6))), (ps, .inl (cI, 306, .inl (m_se u_6))), (pc, .inl (cI, 5, .inl (m_cn u_6)))] := hD1.weaken (fun k q _ h => hFc q.1 h)
        generalize H1 = H at hP hS ⊢
        refine lv_iconst (v := 1) hx hb dX1_block_148 (by decide) ?_
        have hP9 : va_P (dC, dI) vwCl (m_W qm pb pr pv pw ps pc cI u_6) H := hP
        have hD9 : va_D A (m_W qm pb pr pv pw ps pc cI u_6) := hD
        exact W.iret (v := 1) hx hb hr (fun t ht hW => ⟨⟨_, u_6, rfl, ⟨(by subst hu_6; subst hv_3; unfold m_block_r; rw [if_neg c_2, if_pos c_4, if_pos c_5]), (by subst hu_6; subst hv_3; unfold m_block; rw [if_neg c_2, if_pos c_4, if_pos c_5])⟩, by rw [ht]; exact hP9, va_K.moved hW.alike hK, hD9⟩, hS.F ht⟩) hS.2.2 dX1_block_149
    · refine lv_iconst (v := 1) hx hb dX1_block_122 (by decide) ?_
      refine lv_goto (tgt := 127) hx hb dX1_block_123 (by decide) ?_
      refine lv_iadd hx hb dX1_block_127 ?_
      refine va_iast hx hb hK hP hD hS 6 0 rfl rfl (j_in (k := 3) rfl (by decide)) dX1_block_128 (fun H locs hP hD hS => ?_)
      rw [show (3 : Int32).toNatClampNeg = 3 from (by decide)] at hP hD
      have hP : va_P (dC, dI) vwCl [(qm, .inr (1, [.int (m_th v_3), .int (m_st v_3), .int (m_md v_3), .ref pb, .int (nI (m_mn v_3)), .ref pr, .int (nI (m_rw v_3)), .ref pv, .int (nI (m_sz v_3)), .ref pw, .int (nI (m_wn v_3)), .ref ps, .int (nI (m_sn v_3)), .ref pc])), (pb, .inl (cI, 64, .inl (m_bi v_3))), (pr, .inl (cI, 259, .inl (m_ro v_3))), (pv, .inl (cI, 259, .inl (m_rc v_3))), (pw, .inl (cI, 259, .inl (m_wt v_3))), (ps, .inl (cI, 306, .inl (m_se v_3))), (pc, .inl (cI, 5, .inl (upd (upd (m_cn v_3) 2 (((m_cn v_3) 2) + 1)) 3 (((upd (m_cn v_3) 2 (((m_cn v_3) 2) + 1)) 3) + 1))))] H := hP
      have hD : va_D A [(qm, .inr (1, [.int (m_th v_3), .int (m_st v_3), .int (m_md v_3), .ref pb, .int (nI (m_mn v_3)), .ref pr, .int (nI (m_rw v_3)), .ref pv, .int (nI (m_sz v_3)), .ref pw, .int (nI (m_wn v_3)), .ref ps, .int (nI (m_sn v_3)), .ref pc])), (pb, .inl (cI, 64, .inl (m_bi v_3))), (pr, .inl (cI, 259, .inl (m_ro v_3))), (pv, .inl (cI, 259, .inl (m_rc v_3))), (pw, .inl (cI, 259, .inl (m_wt v_3))), (ps, .inl (cI, 306, .inl (m_se v_3))), (pc, .inl (cI, 5, .inl (upd (upd (m_cn v_3) 2 (((m_cn v_3) 2) + 1)) 3 (((upd (m_cn v_3) 2 (((m_cn v_3) 2) + 1)) 3) + 1))))] := hD
      refine lv_aload_n hx hb dX1_block_129 rfl (lv_at hl 0 rfl) ?_
      refine lv_iconst (v := 0) hx hb dX1_block_130 (by decide) ?_
      refine va_put (D := (dC, dI)) (ci := 1) (v := .int 0) (ty := .int) (C := RX1) (T := TX1) (N := 14) hx hb hts hinT tyX1 tyX1_ok nmX1 hown hK hP hD hS 0 rfl rfl 4 (by decide) (hts _ (List.mem_cons_of_mem _ fl_43)) (fun _ h9 => h9) rfl (by decide +kernel) rfl rfl (Nat.le_of_ble_eq_true rfl) dX1_block_131 (fun H locs hP hD hS => ?_)
      have hP : va_P (dC, dI) vwCl [(qm, .inr (1, [.int (m_th v_3), .int (m_st v_3), .int (m_md v_3), .ref pb, .int 0, .ref pr, .int (nI (m_rw v_3)), .ref pv, .int (nI (m_sz v_3)), .ref pw, .int (nI (m_wn v_3)), .ref ps, .int (nI (m_sn v_3)), .ref pc])), (pb, .inl (cI, 64, .inl (m_bi v_3))), (pr, .inl (cI, 259, .inl (m_ro v_3))), (pv, .inl (cI, 259, .inl (m_rc v_3))), (pw, .inl (cI, 259, .inl (m_wt v_3))), (ps, .inl (cI, 306, .inl (m_se v_3))), (pc, .inl (cI, 5, .inl (upd (upd (m_cn v_3) 2 (((m_cn v_3) 2) + 1)) 3 (((upd (m_cn v_3) 2 (((m_cn v_3) 2) + 1)) 3) + 1))))] H := hP
      have hD : va_D A [(qm, .inr (1, [.int (m_th v_3), .int (m_st v_3), .int (m_md v_3), .ref pb, .int 0, .ref pr, .int (nI (m_rw v_3)), .ref pv, .int (nI (m_sz v_3)), .ref pw, .int (nI (m_wn v_3)), .ref ps, .int (nI (m_sn v_3)), .ref pc])), (pb, .inl (cI, 64, .inl (m_bi v_3))), (pr, .inl (cI, 259, .inl (m_ro v_3))), (pv, .inl (cI, 259, .inl (m_rc v_3))), (pw, .inl (cI, 259, .inl (m_wt v_3))), (ps, .inl (cI, 306, .inl (m_se v_3))), (pc, .inl (cI, 5, .inl (upd (upd (m_cn v_3) 2 (((m_cn v_3) 2) + 1)) 3 (((upd (m_cn v_3) 2 (((m_cn v_3) 2) + 1)) 3) + 1))))] := hD
      refine lv_aload_n hx hb dX1_block_134 rfl (lv_at hl 0 rfl) ?_
      refine va_get (D := (dC, dI)) (ci := 1) (v := .int (nI (m_rw v_3))) (C := RX1) (T := TX1) (N := 14) hx hb hts hinT hown hK hP 0 rfl rfl 6 (by decide) (hts _ (List.mem_cons_of_mem _ fl_46)) (fun _ h9 => h9) rfl dX1_block_135 ?_
      refine lv_sipush (v := 259) hx hb dX1_block_138 (by decide) ?_
      refine lv_icmp_ne (tgt := 150) hx hb dX1_block_141 (by decide) (fun c_7 => ?_) (fun c_7 => ?_)
      · refine lv_iconst (v := 0) hx hb dX1_block_150 (by decide) ?_
        have hP9 : va_P (dC, dI) vwCl (m_W qm pb pr pv pw ps pc cI (m_th v_3, m_st v_3, m_md v_3, 0, m_rw v_3, m_sz v_3, m_wn v_3, m_sn v_3, m_bi v_3, m_ro v_3, m_rc v_3, m_wt v_3, m_se v_3, upd (upd (m_cn v_3) 2 (((m_cn v_3) 2) + 1)) 3 (((upd (m_cn v_3) 2 (((m_cn v_3) 2) + 1)) 3) + 1))) H := hP
        have hD9 : va_D A (m_W qm pb pr pv pw ps pc cI (m_th v_3, m_st v_3, m_md v_3, 0, m_rw v_3, m_sz v_3, m_wn v_3, m_sn v_3, m_bi v_3, m_ro v_3, m_rc v_3, m_wt v_3, m_se v_3, upd (upd (m_cn v_3) 2 (((m_cn v_3) 2) + 1)) 3 (((upd (m_cn v_3) 2 (((m_cn v_3) 2) + 1)) 3) + 1))) := hD
        exact W.iret (v := 0) hx hb hr (fun t ht hW => ⟨⟨_, (m_th v_3, m_st v_3, m_md v_3, 0, m_rw v_3, m_sz v_3, m_wn v_3, m_sn v_3, m_bi v_3, m_ro v_3, m_rc v_3, m_wt v_3, m_se v_3, upd (upd (m_cn v_3) 2 (((m_cn v_3) 2) + 1)) 3 (((upd (m_cn v_3) 2 (((m_cn v_3) 2) + 1)) 3) + 1)), rfl, ⟨(by subst hv_3; unfold m_block_r; rw [if_neg c_2, if_neg c_4, if_neg c_7]), (by subst hv_3; unfold m_block; rw [if_neg c_2, if_neg c_4, if_neg c_7])⟩, by rw [ht]; exact hP9, va_K.moved hW.alike hK, hD9⟩, hS.F ht⟩) hS.2.2 dX1_block_151
      · refine lv_aload_n hx hb dX1_block_144 rfl (lv_at hl 0 rfl) ?_
        have hPc : va_P (dC, dI) vwCl (m_W qm pb pr pv pw ps pc cI (m_th v_3, m_st v_3, m_md v_3, 0, m_rw v_3, m_sz v_3, m_wn v_3, m_sn v_3, m_bi v_3, m_ro v_3, m_rc v_3, m_wt v_3, m_se v_3, upd (upd (m_cn v_3) 2 (((m_cn v_3) 2) + 1)) 3 (((upd (m_cn v_3) 2 (((m_cn v_3) 2) + 1)) 3) + 1))) H := hP
        have hDc : va_D A (m_W qm pb pr pv pw ps pc cI (m_th v_3, m_st v_3, m_md v_3, 0, m_rw v_3, m_sz v_3, m_wn v_3, m_sn v_3, m_bi v_3, m_ro v_3, m_rc v_3, m_wt v_3, m_se v_3, upd (upd (m_cn v_3) 2 (((m_cn v_3) 2) + 1)) 3 (((upd (m_cn v_3) 2 (((m_cn v_3) 2) + 1)) 3) + 1))) := hD
        have hFc := va_free (wc := (m_W qm pb pr pv pw ps pc cI (m_th v_3, m_st v_3, m_md v_3, 0, m_rw v_3, m_sz v_3, m_wn v_3, m_sn v_3, m_bi v_3, m_ro v_3, m_rc v_3, m_wt v_3, m_se v_3, upd (upd (m_cn v_3) 2 (((m_cn v_3) 2) + 1)) 3 (((upd (m_cn v_3) 2 (((m_cn v_3) 2) + 1)) 3) + 1)))) hD hS hA [0, 1, 2, 3, 4, 5, 6] rfl
        refine va_callv (va_runV (As := []) (rest := []) ⟨hx, hb, hml, hown, hts⟩ (kX1_ends l dC dI qm pb pr pv pw ps pc cI H.size (m_th v_3, m_st v_3, m_md v_3, 0, m_rw v_3, m_sz v_3, m_wn v_3, m_sn v_3, m_bi v_3, m_ro v_3, m_rc v_3, m_wt v_3, m_se v_3, upd (upd (m_cn v_3) 2 (((m_cn v_3) 2) + 1)) 3 (((upd (m_cn v_3) 2 (((m_cn v_3) 2) + 1)) 3) + 1))  (show m_rw v_3 ≤ 259 from by rw [hv_3, m_bl_rw]; omega)) (cwV 0 hts gM_X1_ends rfl rfl rfl (by decide +kernel) ⟨Nat.le_of_ble_eq_true rfl, Nat.le_of_ble_eq_true rfl⟩) ⟨fun a U g mk q => by obtain ⟨q0, q1, qP, qK, qD⟩ := q; exact ⟨q0, q1, qP, va_K.moved (u := U) (U := U.calling g mk a) (Vm.Alike.refl U.vm) qK, qD⟩, va_recv hK hP (ci := 1) (q0 := 0) rfl rfl, fun U hU hW => ⟨rfl, by rw [hU], by rw [hU]; exact hPc, va_K.moved hW.alike hK, hDc.weaken (fun _ _ _ _ => trivial)⟩⟩ rfl rfl hl.1 rfl (lv_room (Nat.le_of_ble_eq_true rfl)) dX1_block_145 ⟨Nat.le_of_ble_eq_true rfl, Nat.le_of_ble_eq_true rfl⟩) hS (fun q _ h => hFc q h) hFc (fun  u_8 t H1 locs ht hvm hu_8 hB hz1 hk1 hS => ?_)
        obtain ⟨hP1, -, hD1⟩ := hB
        rw [ht] at hP1
        have hP : va_P (dC, dI) vwCl [(qm, .inr (1, [.int (m_th u_8), .int (m_st u_8), .int (m_md u_8), .ref pb, .int (nI (m_mn u_8)), .ref pr, .int (nI (m_rw u_8)), .ref pv, .int (nI (m_sz u_8)), .ref pw, .int (nI (m_wn u_8)), .ref ps, .int (nI (m_sn u_8)), .ref pc])), (pb, .inl (cI, 64, .inl (m_bi u_8))), (pr, .inl (cI, 259, .inl (m_ro u_8))), (pv, .inl (cI, 259, .inl (m_rc u_8))), (pw, .inl (cI, 259, .inl (m_wt u_8))), (ps, .inl (cI, 306, .inl (m_se u_8))), (pc, .inl (cI, 5, .inl (m_cn u_8)))] H1 := hP1
        have hD : va_D A [(qm, .inr (1, [.int (m_th u_8), .int (m_st u_8), .int (m_md u_8), .ref pb, .int (nI (m_mn u_8)), .ref pr, .int (nI (m_rw u_8)), .ref pv, .int (nI (m_sz u_8)), .ref pw, .int (nI (m_wn u_8)), .ref ps, .int (nI (m_sn u_8)), .ref pc])), (pb, .inl (cI, 64, .inl (m_bi u_8))), (pr, .inl (cI, 259, .inl (m_ro u_8))), (pv, .inl (cI, 259, .inl (m_rc u_8))), (pw, .inl (cI, 259, .inl (m_wt u_8))), (ps, .inl (cI, 306, .inl (m_se u_8))), (pc, .inl (cI, 5, .inl (m_cn u_8)))] := hD1.weaken (fun k q _ h => hFc q.1 h)
        generalize H1 = H at hP hS ⊢
        refine lv_iconst (v := 1) hx hb dX1_block_148 (by decide) ?_
        have hP9 : va_P (dC, dI) vwCl (m_W qm pb pr pv pw ps pc cI u_8) H := hP
        have hD9 : va_D A (m_W qm pb pr pv pw ps pc cI u_8) := hD
        exact W.iret (v := 1) hx hb hr (fun t ht hW => ⟨⟨_, u_8, rfl, ⟨(by subst hu_8; subst hv_3; unfold m_block_r; rw [if_neg c_2, if_neg c_4, if_pos c_7]), (by subst hu_8; subst hv_3; unfold m_block; rw [if_neg c_2, if_neg c_4, if_pos c_7])⟩, by rw [ht]; exact hP9, va_K.moved hW.alike hK, hD9⟩, hS.F ht⟩) hS.2.2 dX1_block_149
  · refine lv_aload_n hx hb dX1_block_11 rfl (lv_at hl 1 rfl) ?_
    have hPc : va_P (dC, dI) vwCl (m_W qm pb pr pv pw ps pc cI u) s.heap := hP
    have hDc : va_D A (m_W qm pb pr pv pw ps pc cI u) := hD
    have hFc := va_free (wc := (m_W qm pb pr pv pw ps pc cI u)) hD hS hA [0, 1, 2, 3, 4, 5, 6] rfl
    refine va_callv (va_runV (As := []) (rest := []) ⟨hx, hb, hml, hown, hts⟩ (kX1_ends l dC dI qm pb pr pv pw ps pc cI s.heap.size u  (show m_rw u ≤ 259 from by omega)) (cwV 0 hts gM_X1_ends rfl rfl rfl (by decide +kernel) ⟨Nat.le_of_ble_eq_true rfl, Nat.le_of_ble_eq_true rfl⟩) ⟨fun a U g mk q => by obtain ⟨q0, q1, qP, qK, qD⟩ := q; exact ⟨q0, q1, qP, va_K.moved (u := U) (U := U.calling g mk a) (Vm.Alike.refl U.vm) qK, qD⟩, va_recv hK hP (ci := 1) (q0 := 0) rfl rfl, fun U hU hW => ⟨rfl, by rw [hU], by rw [hU]; exact hPc, va_K.moved hW.alike hK, hDc.weaken (fun _ _ _ _ => trivial)⟩⟩ rfl rfl hl.1 rfl (lv_room (Nat.le_of_ble_eq_true rfl)) dX1_block_12 ⟨Nat.le_of_ble_eq_true rfl, Nat.le_of_ble_eq_true rfl⟩) hS (fun q _ h => hFc q h) hFc (fun  u_9 t H1 locs ht hvm hu_9 hB hz1 hk1 hS => ?_)
    obtain ⟨hP1, -, hD1⟩ := hB
    rw [ht] at hP1
    have hP : va_P (dC, dI) vwCl [(qm, .inr (1, [.int (m_th u_9), .int (m_st u_9), .int (m_md u_9), .ref pb, .int (nI (m_mn u_9)), .ref pr, .int (nI (m_rw u_9)), .ref pv, .int (nI (m_sz u_9)), .ref pw, .int (nI (m_wn u_9)), .ref ps, .int (nI (m_sn u_9)), .ref pc])), (pb, .inl (cI, 64, .inl (m_bi u_9))), (pr, .inl (cI, 259, .inl (m_ro u_9))), (pv, .inl (cI, 259, .inl (m_rc u_9))), (pw, .inl (cI, 259, .inl (m_wt u_9))), (ps, .inl (cI, 306, .inl (m_se u_9))), (pc, .inl (cI, 5, .inl (m_cn u_9)))] H1 := hP1
    have hD : va_D A [(qm, .inr (1, [.int (m_th u_9), .int (m_st u_9), .int (m_md u_9), .ref pb, .int (nI (m_mn u_9)), .ref pr, .int (nI (m_rw u_9)), .ref pv, .int (nI (m_sz u_9)), .ref pw, .int (nI (m_wn u_9)), .ref ps, .int (nI (m_sn u_9)), .ref pc])), (pb, .inl (cI, 64, .inl (m_bi u_9))), (pr, .inl (cI, 259, .inl (m_ro u_9))), (pv, .inl (cI, 259, .inl (m_rc u_9))), (pw, .inl (cI, 259, .inl (m_wt u_9))), (ps, .inl (cI, 306, .inl (m_se u_9))), (pc, .inl (cI, 5, .inl (m_cn u_9)))] := hD1.weaken (fun k q _ h => hFc q.1 h)
    generalize H1 = H at hP hS ⊢
    refine lv_iconst (v := 1) hx hb dX1_block_15 (by decide) ?_
    have hP9 : va_P (dC, dI) vwCl (m_W qm pb pr pv pw ps pc cI u_9) H := hP
    have hD9 : va_D A (m_W qm pb pr pv pw ps pc cI u_9) := hD
    exact W.iret (v := 1) hx hb hr (fun t ht hW => ⟨⟨_, u_9, rfl, ⟨(by subst hu_9; unfold m_block_r; rw [if_pos c_2]), (by subst hu_9; unfold m_block; rw [if_pos c_2])⟩, by rw [ht]; exact hP9, va_K.moved hW.alike hK, hD9⟩, hS.F ht⟩) hS.2.2 dX1_block_16
end
section
abbrev rmX1_look : Room := { frames := 1, cells := 0, slots := 0, locals := 21 }
def m_lkF (u : m_S) : Nat → Nat → Int32 → Int32
  | 0, _, d => d
  | n + 1, k, d => m_lkF u n (k + 1) (d + (if (m_bi u) k = ((60304 >>> ((15 - (nI k)) &&& 31)) &&& 1) then 0 else 1))
set_option maxHeartbeats 4000000 in
set_option maxRecDepth 100000 in
theorem lpX1_look {p : Program} {l : Launch} {e : Env} {s : State} {m : MethodId} {args : Array Value} {below : List Frame} {meth : Method} {c : Code} {H : Heap} {locs : List Loc} {Q : State → Prop} (dC : Nat → ClassId) (dI : Nat → Nat → Nat) (qm pb pr pv pw ps pc : Nat) (cI : ClassId) (hx : p.tables.exec = Jvm.exec) (hb : c.code = cX1_look) (hml : c.maxLocals = 3) (hown : s.vm.findClass RX1 = some m.cls) (hts : ∀ w ∈ vX1_look, w.before args s = true) (u : m_S) (hP : va_P (dC, dI) vwCl (m_W qm pb pr pv pw ps pc cI u) H) (hK : va_K (dC, dI) vwCl [(cI, .int)] s) : ∀ (n : Nat) (k : Nat) (d : Int32) (ls : Array Slot), k + n = 16 → lv_has ls 3 [(0, .ref qm), (1, .int d), (2, .int (nI k))] → (∀ (ls : Array Slot), lv_has ls 3 [(0, .ref qm), (1, .int (m_lkF u n k d))] → W p l e (headSpec vX1_look rmX1_look).room s m args below meth c H locs 0 0 Q (F0 m 42 ls [])) → W p l e (headSpec vX1_look rmX1_look).room s m args below meth c H locs 0 0 Q (F0 m 4 ls []) := by
  have hinT : ∀ w ∈ wsX10, w ∈ vX1_look := fun w h => List.mem_cons_of_mem _ (inM w h)
  have hP : va_P (dC, dI) vwCl [(qm, .inr (1, [.int (m_th u), .int (m_st u), .int (m_md u), .ref pb, .int (nI (m_mn u)), .ref pr, .int (nI (m_rw u)), .ref pv, .int (nI (m_sz u)), .ref pw, .int (nI (m_wn u)), .ref ps, .int (nI (m_sn u)), .ref pc])), (pb, .inl (cI, 64, .inl (m_bi u))), (pr, .inl (cI, 259, .inl (m_ro u))), (pv, .inl (cI, 259, .inl (m_rc u))), (pw, .inl (cI, 259, .inl (m_wt u))), (ps, .inl (cI, 306, .inl (m_se u))), (pc, .inl (cI, 5, .inl (m_cn u)))] H := hP
  intro n
  induction n with
  | zero =>
    intro k d ls hn hl kk
    have hk : k = 16 := by omega
    subst hk
    have hl : lv_has ls 3 [(0, .ref qm), (1, .int d), (2, .int (nI 16))] := hl
    refine lv_iload_n hx hb dX1_look_4 rfl (lv_at hl 2 rfl) ?_
    refine lv_bipush (v := 16) hx hb dX1_look_5 (by decide) ?_
    refine lv_icmp_ge (tgt := 42) hx hb dX1_look_7 (by decide) (fun c_1 => ?_) (fun c_1 => absurd (by decide) c_1)
    exact kk ls (lv_sub hl [0, 1] rfl)
  | succ n ih =>
    intro k d ls hn hl kk
    have hl : lv_has ls 3 [(0, .ref qm), (1, .int d), (2, .int (nI k))] := hl
    refine lv_iload_n hx hb dX1_look_4 rfl (lv_at hl 2 rfl) ?_
    refine lv_bipush (v := 16) hx hb dX1_look_5 (by decide) ?_
    refine lv_icmp_ge (tgt := 42) hx hb dX1_look_7 (by decide) (fun c_1 => absurd c_1 (show ¬ nI 16 ≤ nI k from nI_ge (by omega) (by decide))) (fun c_1 => ?_)
    refine lv_iload_n hx hb dX1_look_10 rfl (lv_at hl 1 rfl) ?_
    refine lv_aload_n hx hb dX1_look_11 rfl (lv_at hl 0 rfl) ?_
    refine va_get (D := (dC, dI)) (ci := 1) (v := .ref pb) (C := RX1) (T := TX1) (N := 14) hx hb hts hinT hown hK hP 0 rfl rfl 3 (by decide) (hts _ (List.mem_cons_of_mem _ fl_7)) (fun _ h9 => h9) rfl dX1_look_12 ?_
    refine lv_iload_n hx hb dX1_look_15 rfl (lv_at hl 2 rfl) ?_
    refine va_iald hx hb hK hP 1 0 rfl rfl (vp_in_nI (by omega) (by decide)) dX1_look_16 ?_
    refine W.eq (g2 := F0 m 17 ls [.int ((m_bi u) k), .int d]) (by rw [nI_clamp (by omega)]) ?_
    refine lv_ldc hx hb hown (hts (.constant RX1 63 60304) (by decide +kernel)) dX1_look_17 ?_
    refine lv_bipush (v := 15) hx hb dX1_look_19 (by decide) ?_
    refine lv_iload_n hx hb dX1_look_21 rfl (lv_at hl 2 rfl) ?_
    refine lv_isub hx hb dX1_look_22 ?_
    refine lv_ishr hx hb dX1_look_23 ?_
    refine lv_iconst (v := 1) hx hb dX1_look_24 (by decide) ?_
    refine lv_iand hx hb dX1_look_25 ?_
    refine lv_icmp_eq (tgt := 33) hx hb dX1_look_26 (by decide) (fun c_2 => ?_) (fun c_2 => ?_)
    · refine lv_iconst (v := 0) hx hb dX1_look_33 (by decide) ?_
      refine lv_iadd hx hb dX1_look_34 ?_
      refine lv_istore_n (lv' := [(1, .int (d + 0)), (0, .ref qm), (2, .int (nI k))]) hx hb dX1_look_35 rfl hl (by decide) rfl (fun ls hl => ?_)
      refine lv_iinc (v := nI (k + 1)) (lv' := [(2, .int (nI (k + 1))), (1, .int (d + 0)), (0, .ref qm)]) hx hb dX1_look_36 hl (k := 2) rfl (show nI k + nI 1 = nI (k + 1) from nI_add _ _) (by decide) rfl (fun ls hl => ?_)
      refine lv_goto (tgt := 4) hx hb dX1_look_39 (by decide) ?_
      have eF : m_lkF u (n + 1) k d = m_lkF u n (k + 1) (d + 0) := by rw [m_lkF, if_pos c_2]
      exact ih (k + 1) (d + 0) ls (by omega) (lv_sub hl [2, 1, 0] rfl) (fun ls hl => kk ls (by rw [eF]; exact hl))
    · refine lv_iconst (v := 1) hx hb dX1_look_29 (by decide) ?_
      refine lv_goto (tgt := 34) hx hb dX1_look_30 (by decide) ?_
      refine lv_iadd hx hb dX1_look_34 ?_
      refine lv_istore_n (lv' := [(1, .int (d + 1)), (0, .ref qm), (2, .int (nI k))]) hx hb dX1_look_35 rfl hl (by decide) rfl (fun ls hl => ?_)
      refine lv_iinc (v := nI (k + 1)) (lv' := [(2, .int (nI (k + 1))), (1, .int (d + 1)), (0, .ref qm)]) hx hb dX1_look_36 hl (k := 2) rfl (show nI k + nI 1 = nI (k + 1) from nI_add _ _) (by decide) rfl (fun ls hl => ?_)
      refine lv_goto (tgt := 4) hx hb dX1_look_39 (by decide) ?_
      have eF : m_lkF u (n + 1) k d = m_lkF u n (k + 1) (d + 1) := by rw [m_lkF, if_neg c_2]
      exact ih (k + 1) (d + 1) ls (by omega) (lv_sub hl [2, 1, 0] rfl) (fun ls hl => kk ls (by rw [eF]; exact hl))
def m_look (u : m_S)  : m_S := if (m_lkF u 16 0 0) = 0 then (m_begins (m_th u, m_st u, m_md u, m_mn u, 0, m_sz u, m_wn u, m_sn u, m_bi u, m_ro u, m_rc u, m_wt u, m_se u, upd (upd (m_cn u) 0 (((m_cn u) 0) + 1)) 4 (((upd (m_cn u) 0 (((m_cn u) 0) + 1)) 4) + (m_lkF u 16 0 0))) 2) else (if (m_lkF u 16 0 0) = 1 then (if (m_md u) = 0 then u else (m_begins (m_th u, m_st u, m_md u, m_mn u, 0, m_sz u, m_wn u, m_sn u, m_bi u, m_ro u, m_rc u, m_wt u, m_se u, upd (upd (m_cn u) 0 (((m_cn u) 0) + 1)) 4 (((upd (m_cn u) 0 (((m_cn u) 0) + 1)) 4) + (m_lkF u 16 0 0))) 2)) else u)
set_option maxHeartbeats 4000000 in
set_option maxRecDepth 100000 in
theorem kX1_look (l : Launch) (dC : Nat → ClassId) (dI : Nat → Nat → Nat) (qm pb pr pv pw ps pc : Nat) (cI : ClassId) (sz : Nat) (u : m_S)  : Met l yX1_look vX1_look rmX1_look (va_Pc [.ref qm] (fun U => U.heap.size = sz ∧ va_P (dC, dI) vwCl (m_W qm pb pr pv pw ps pc cI u) U.heap ∧ va_K (dC, dI) vwCl [(cI, .int)] U ∧ va_D (fun _ => True) (m_W qm pb pr pv pw ps pc cI u))) (va_Qv (fun u2 => u2 = m_look u) (m_At dC dI (va_A (m_W qm pb pr pv pw ps pc cI u) sz) qm pb pr pv pw ps pc cI) (va_A (m_W qm pb pr pv pw ps pc cI u) sz)) 0 0 (va_A (m_W qm pb pr pv pw ps pc cI u) sz) := by
  refine Met.ofW (cc := cX1_look) (maxL := 3) (ret := none) (by decide) rfl ?_
  intro p e s m args below meth c s₁ B hml hv
  obtain ⟨rfl, hsz, hP, hK, hD0⟩ := hv
  have hx := B.exec
  have hb := B.bytes
  have hr := B.returns
  have hts := atoms_spec (ws := vX1_look) B.pre
  have hown : s.vm.findClass RX1 = some m.cls := findClass_of_methodNamed B.named
  have hlocks := B.notSynchronized
  have hinT : ∀ w ∈ wsX10, w ∈ vX1_look := fun w h => List.mem_cons_of_mem _ (inM w h)
  subst hsz
  have hD := hD0.self (sz := s.heap.size)
  generalize hAe : va_A (m_W qm pb pr pv pw ps pc cI u) s.heap.size = A at hD ⊢
  have hA : ∀ q : Nat, s.heap.size ≤ q → A q := fun q h => by rw [← hAe]; exact Or.inr h
  have hS : va_S A s.heap s.heap [] := va_S.rf
  have hD : va_D A [(qm, .inr (1, [.int (m_th u), .int (m_st u), .int (m_md u), .ref pb, .int (nI (m_mn u)), .ref pr, .int (nI (m_rw u)), .ref pv, .int (nI (m_sz u)), .ref pw, .int (nI (m_wn u)), .ref ps, .int (nI (m_sn u)), .ref pc])), (pb, .inl (cI, 64, .inl (m_bi u))), (pr, .inl (cI, 259, .inl (m_ro u))), (pv, .inl (cI, 259, .inl (m_rc u))), (pw, .inl (cI, 259, .inl (m_wt u))), (ps, .inl (cI, 306, .inl (m_se u))), (pc, .inl (cI, 5, .inl (m_cn u)))] := hD
  have hP : va_P (dC, dI) vwCl [(qm, .inr (1, [.int (m_th u), .int (m_st u), .int (m_md u), .ref pb, .int (nI (m_mn u)), .ref pr, .int (nI (m_rw u)), .ref pv, .int (nI (m_sz u)), .ref pw, .int (nI (m_wn u)), .ref ps, .int (nI (m_sn u)), .ref pc])), (pb, .inl (cI, 64, .inl (m_bi u))), (pr, .inl (cI, 259, .inl (m_ro u))), (pv, .inl (cI, 259, .inl (m_rc u))), (pw, .inl (cI, 259, .inl (m_wt u))), (ps, .inl (cI, 306, .inl (m_se u))), (pc, .inl (cI, 5, .inl (m_cn u)))] s.heap := hP
  have hl := lv_entry ([.ref qm]) (n := 3) (Nat.le_of_ble_eq_true rfl)
  rw [lg_entry_eq]
  generalize (lg_sl ([.ref qm]) ++ List.replicate (3 - (lg_sl ([.ref qm])).length) Slot.unset).toArray = ls at hl ⊢
  have hl : lv_has ls 3 [(0, .ref qm)] := hl
  refine lv_iconst (v := 0) hx hb dX1_look_0 (by decide) ?_
  refine lv_istore_n (lv' := [(1, .int 0), (0, .ref qm)]) hx hb dX1_look_1 rfl hl (by decide) rfl (fun ls hl => ?_)
  refine lv_iconst (v := 0) hx hb dX1_look_2 (by decide) ?_
  refine lv_istore_n (lv' := [(2, .int 0), (1, .int 0), (0, .ref qm)]) hx hb dX1_look_3 rfl hl (by decide) rfl (fun ls hl => ?_)
  refine lpX1_look (l := l) dC dI qm pb pr pv pw ps pc cI  hx hb hml hown hts u hP hK 16 0 0 ls rfl (lv_sub hl [2, 1, 0] rfl) (fun ls hl => ?_)
  refine lv_iload_n hx hb dX1_look_42 rfl (lv_at hl 1 rfl) ?_
  refine lv_if_eq (tgt := 58) hx hb dX1_look_43 (by decide) (fun c_1 => ?_) (fun c_1 => ?_)
  · refine lv_aload_n hx hb dX1_look_58 rfl (lv_at hl 0 rfl) ?_
    refine va_get (D := (dC, dI)) (ci := 1) (v := .ref pc) (C := RX1) (T := TX1) (N := 14) hx hb hts hinT hown hK hP 0 rfl rfl 13 (by decide) (hts _ (List.mem_cons_of_mem _ fl_25)) (fun _ h9 => h9) rfl dX1_look_59 ?_
    refine lv_iconst (v := 0) hx hb dX1_look_62 (by decide) ?_
    refine lv_dup2_11 hx hb dX1_look_63 rfl rfl ?_
    refine va_iald hx hb hK hP 6 0 rfl rfl (j_in (k := 0) rfl (by decide)) dX1_look_64 ?_
    refine W.eq (g2 := F0 m 65 ls [.int ((m_cn u) 0), .int 0, .ref pc]) rfl ?_
    refine lv_iconst (v := 1) hx hb dX1_look_65 (by decide) ?_
    refine lv_iadd hx hb dX1_look_66 ?_
    refine va_iast hx hb hK hP hD hS 6 0 rfl rfl (j_in (k := 0) rfl (by decide)) dX1_look_67 (fun H locs hP hD hS => ?_)
    rw [show (0 : Int32).toNatClampNeg = 0 from (by decide)] at hP hD
    have hP : va_P (dC, dI) vwCl [(qm, .inr (1, [.int (m_th u), .int (m_st u), .int (m_md u), .ref pb, .int (nI (m_mn u)), .ref pr, .int (nI (m_rw u)), .ref pv, .int (nI (m_sz u)), .ref pw, .int (nI (m_wn u)), .ref ps, .int (nI (m_sn u)), .ref pc])), (pb, .inl (cI, 64, .inl (m_bi u))), (pr, .inl (cI, 259, .inl (m_ro u))), (pv, .inl (cI, 259, .inl (m_rc u))), (pw, .inl (cI, 259, .inl (m_wt u))), (ps, .inl (cI, 306, .inl (m_se u))), (pc, .inl (cI, 5, .inl (upd (m_cn u) 0 (((m_cn u) 0) + 1))))] H := hP
    have hD : va_D A [(qm, .inr (1, [.int (m_th u), .int (m_st u), .int (m_md u), .ref pb, .int (nI (m_mn u)), .ref pr, .int (nI (m_rw u)), .ref pv, .int (nI (m_sz u)), .ref pw, .int (nI (m_wn u)), .ref ps, .int (nI (m_sn u)), .ref pc])), (pb, .inl (cI, 64, .inl (m_bi u))), (pr, .inl (cI, 259, .inl (m_ro u))), (pv, .inl (cI, 259, .inl (m_rc u))), (pw, .inl (cI, 259, .inl (m_wt u))), (ps, .inl (cI, 306, .inl (m_se u))), (pc, .inl (cI, 5, .inl (upd (m_cn u) 0 (((m_cn u) 0) + 1))))] := hD
    refine lv_aload_n hx hb dX1_look_68 rfl (lv_at hl 0 rfl) ?_
    refine va_get (D := (dC, dI)) (ci := 1) (v := .ref pc) (C := RX1) (T := TX1) (N := 14) hx hb hts hinT hown hK hP 0 rfl rfl 13 (by decide) (hts _ (List.mem_cons_of_mem _ fl_25)) (fun _ h9 => h9) rfl dX1_look_69 ?_
    refine lv_iconst (v := 4) hx hb dX1_look_72 (by decide) ?_
    refine lv_dup2_11 hx hb dX1_look_73 rfl rfl ?_
    refine va_iald hx hb hK hP 6 0 rfl rfl (j_in (k := 4) rfl (by decide)) dX1_look_74 ?_
    refine W.eq (g2 := F0 m 75 ls [.int ((upd (m_cn u) 0 (((m_cn u) 0) + 1)) 4), .int 4, .ref pc]) rfl ?_
    refine lv_iload_n hx hb dX1_look_75 rfl (lv_at hl 1 rfl) ?_
    refine lv_iadd hx hb dX1_look_76 ?_
    refine va_iast hx hb hK hP hD hS 6 0 rfl rfl (j_in (k := 4) rfl (by decide)) dX1_look_77 (fun H locs hP hD hS => ?_)
    rw [show (4 : Int32).toNatClampNeg = 4 from (by decide)] at hP hD
    have hP : va_P (dC, dI) vwCl [(qm, .inr (1, [.int (m_th u), .int (m_st u), .int (m_md u), .ref pb, .int (nI (m_mn u)), .ref pr, .int (nI (m_rw u)), .ref pv, .int (nI (m_sz u)), .ref pw, .int (nI (m_wn u)), .ref ps, .int (nI (m_sn u)), .ref pc])), (pb, .inl (cI, 64, .inl (m_bi u))), (pr, .inl (cI, 259, .inl (m_ro u))), (pv, .inl (cI, 259, .inl (m_rc u))), (pw, .inl (cI, 259, .inl (m_wt u))), (ps, .inl (cI, 306, .inl (m_se u))), (pc, .inl (cI, 5, .inl (upd (upd (m_cn u) 0 (((m_cn u) 0) + 1)) 4 (((upd (m_cn u) 0 (((m_cn u) 0) + 1)) 4) + (m_lkF u 16 0 0)))))] H := hP
    have hD : va_D A [(qm, .inr (1, [.int (m_th u), .int (m_st u), .int (m_md u), .ref pb, .int (nI (m_mn u)), .ref pr, .int (nI (m_rw u)), .ref pv, .int (nI (m_sz u)), .ref pw, .int (nI (m_wn u)), .ref ps, .int (nI (m_sn u)), .ref pc])), (pb, .inl (cI, 64, .inl (m_bi u))), (pr, .inl (cI, 259, .inl (m_ro u))), (pv, .inl (cI, 259, .inl (m_rc u))), (pw, .inl (cI, 259, .inl (m_wt u))), (ps, .inl (cI, 306, .inl (m_se u))), (pc, .inl (cI, 5, .inl (upd (upd (m_cn u) 0 (((m_cn u) 0) + 1)) 4 (((upd (m_cn u) 0 (((m_cn u) 0) + 1)) 4) + (m_lkF u 16 0 0)))))] := hD
    refine lv_aload_n hx hb dX1_look_78 rfl (lv_at hl 0 rfl) ?_
    refine lv_iconst (v := 0) hx hb dX1_look_79 (by decide) ?_
    refine va_put (D := (dC, dI)) (ci := 1) (v := .int 0) (ty := .int) (C := RX1) (T := TX1) (N := 14) hx hb hts hinT tyX1 tyX1_ok nmX1 hown hK hP hD hS 0 rfl rfl 6 (by decide) (hts _ (List.mem_cons_of_mem _ fl_46)) (fun _ h9 => h9) rfl (by decide +kernel) rfl rfl (Nat.le_of_ble_eq_true rfl) dX1_look_80 (fun H locs hP hD hS => ?_)
    have hP : va_P (dC, dI) vwCl [(qm, .inr (1, [.int (m_th u), .int (m_st u), .int (m_md u), .ref pb, .int (nI (m_mn u)), .ref pr, .int 0, .ref pv, .int (nI (m_sz u)), .ref pw, .int (nI (m_wn u)), .ref ps, .int (nI (m_sn u)), .ref pc])), (pb, .inl (cI, 64, .inl (m_bi u))), (pr, .inl (cI, 259, .inl (m_ro u))), (pv, .inl (cI, 259, .inl (m_rc u))), (pw, .inl (cI, 259, .inl (m_wt u))), (ps, .inl (cI, 306, .inl (m_se u))), (pc, .inl (cI, 5, .inl (upd (upd (m_cn u) 0 (((m_cn u) 0) + 1)) 4 (((upd (m_cn u) 0 (((m_cn u) 0) + 1)) 4) + (m_lkF u 16 0 0)))))] H := hP
    have hD : va_D A [(qm, .inr (1, [.int (m_th u), .int (m_st u), .int (m_md u), .ref pb, .int (nI (m_mn u)), .ref pr, .int 0, .ref pv, .int (nI (m_sz u)), .ref pw, .int (nI (m_wn u)), .ref ps, .int (nI (m_sn u)), .ref pc])), (pb, .inl (cI, 64, .inl (m_bi u))), (pr, .inl (cI, 259, .inl (m_ro u))), (pv, .inl (cI, 259, .inl (m_rc u))), (pw, .inl (cI, 259, .inl (m_wt u))), (ps, .inl (cI, 306, .inl (m_se u))), (pc, .inl (cI, 5, .inl (upd (upd (m_cn u) 0 (((m_cn u) 0) + 1)) 4 (((upd (m_cn u) 0 (((m_cn u) 0) + 1)) 4) + (m_lkF u 16 0 0)))))] := hD
    refine lv_aload_n hx hb dX1_look_83 rfl (lv_at hl 0 rfl) ?_
    refine lv_iconst (v := 2) hx hb dX1_look_84 (by decide) ?_
    have hPc : va_P (dC, dI) vwCl (m_W qm pb pr pv pw ps pc cI (m_th u, m_st u, m_md u, m_mn u, 0, m_sz u, m_wn u, m_sn u, m_bi u, m_ro u, m_rc u, m_wt u, m_se u, upd (upd (m_cn u) 0 (((m_cn u) 0) + 1)) 4 (((upd (m_cn u) 0 (((m_cn u) 0) + 1)) 4) + (m_lkF u 16 0 0)))) H := hP
    have hDc : va_D A (m_W qm pb pr pv pw ps pc cI (m_th u, m_st u, m_md u, m_mn u, 0, m_sz u, m_wn u, m_sn u, m_bi u, m_ro u, m_rc u, m_wt u, m_se u, upd (upd (m_cn u) 0 (((m_cn u) 0) + 1)) 4 (((upd (m_cn u) 0 (((m_cn u) 0) + 1)) 4) + (m_lkF u 16 0 0)))) := hD
    have hFc := va_free (wc := (m_W qm pb pr pv pw ps pc cI (m_th u, m_st u, m_md u, m_mn u, 0, m_sz u, m_wn u, m_sn u, m_bi u, m_ro u, m_rc u, m_wt u, m_se u, upd (upd (m_cn u) 0 (((m_cn u) 0) + 1)) 4 (((upd (m_cn u) 0 (((m_cn u) 0) + 1)) 4) + (m_lkF u 16 0 0))))) hD hS hA [0, 1, 2, 3, 4, 5, 6] rfl
    refine va_callv (va_runV (As := [.int 2]) (rest := []) ⟨hx, hb, hml, hown, hts⟩ (kX1_begins l dC dI qm pb pr pv pw ps pc cI H.size (m_th u, m_st u, m_md u, m_mn u, 0, m_sz u, m_wn u, m_sn u, m_bi u, m_ro u, m_rc u, m_wt u, m_se u, upd (upd (m_cn u) 0 (((m_cn u) 0) + 1)) 4 (((upd (m_cn u) 0 (((m_cn u) 0) + 1)) 4) + (m_lkF u 16 0 0))) 2 ) (cwV 1 hts gM_X1_begins rfl rfl rfl (by decide +kernel) ⟨Nat.le_of_ble_eq_true rfl, Nat.le_of_ble_eq_true rfl⟩) ⟨fun a U g mk q => by obtain ⟨q0, q1, qP, qK, qD⟩ := q; exact ⟨q0, q1, qP, va_K.moved (u := U) (U := U.calling g mk a) (Vm.Alike.refl U.vm) qK, qD⟩, va_recv hK hP (ci := 1) (q0 := 0) rfl rfl, fun U hU hW => ⟨rfl, by rw [hU], by rw [hU]; exact hPc, va_K.moved hW.alike hK, hDc.weaken (fun _ _ _ _ => trivial)⟩⟩ rfl rfl hl.1 rfl (lv_room (Nat.le_of_ble_eq_true rfl)) dX1_look_85 ⟨Nat.le_of_ble_eq_true rfl, Nat.le_of_ble_eq_true rfl⟩) hS (fun q _ h => hFc q h) hFc (fun  u_2 t H1 locs ht hvm hu_2 hB hz1 hk1 hS => ?_)
    obtain ⟨hP1, -, hD1⟩ := hB
    rw [ht] at hP1
    have hP : va_P (dC, dI) vwCl [(qm, .inr (1, [.int (m_th u_2), .int (m_st u_2), .int (m_md u_2), .ref pb, .int (nI (m_mn u_2)), .ref pr, .int (nI (m_rw u_2)), .ref pv, .int (nI (m_sz u_2)), .ref pw, .int (nI (m_wn u_2)), .ref ps, .int (nI (m_sn u_2)), .ref pc])), (pb, .inl (cI, 64, .inl (m_bi u_2))), (pr, .inl (cI, 259, .inl (m_ro u_2))), (pv, .inl (cI, 259, .inl (m_rc u_2))), (pw, .inl (cI, 259, .inl (m_wt u_2))), (ps, .inl (cI, 306, .inl (m_se u_2))), (pc, .inl (cI, 5, .inl (m_cn u_2)))] H1 := hP1
    have hD : va_D A [(qm, .inr (1, [.int (m_th u_2), .int (m_st u_2), .int (m_md u_2), .ref pb, .int (nI (m_mn u_2)), .ref pr, .int (nI (m_rw u_2)), .ref pv, .int (nI (m_sz u_2)), .ref pw, .int (nI (m_wn u_2)), .ref ps, .int (nI (m_sn u_2)), .ref pc])), (pb, .inl (cI, 64, .inl (m_bi u_2))), (pr, .inl (cI, 259, .inl (m_ro u_2))), (pv, .inl (cI, 259, .inl (m_rc u_2))), (pw, .inl (cI, 259, .inl (m_wt u_2))), (ps, .inl (cI, 306, .inl (m_se u_2))), (pc, .inl (cI, 5, .inl (m_cn u_2)))] := hD1.weaken (fun k q _ h => hFc q.1 h)
    generalize H1 = H at hP hS ⊢
    have hP9 : va_P (dC, dI) vwCl (m_W qm pb pr pv pw ps pc cI u_2) H := hP
    have hD9 : va_D A (m_W qm pb pr pv pw ps pc cI u_2) := hD
    exact W.vret hx hb hr (fun t ht hW => ⟨⟨u_2, rfl, (by subst hu_2; unfold m_look; rw [if_pos c_1]), by rw [ht]; exact hP9, va_K.moved hW.alike hK, hD9⟩, hS.F ht⟩) hS.2.2 dX1_look_88
  · refine lv_iload_n hx hb dX1_look_46 rfl (lv_at hl 1 rfl) ?_
    refine lv_iconst (v := 1) hx hb dX1_look_47 (by decide) ?_
    refine lv_icmp_ne (tgt := 88) hx hb dX1_look_48 (by decide) (fun c_3 => ?_) (fun c_3 => ?_)
    · have hP9 : va_P (dC, dI) vwCl (m_W qm pb pr pv pw ps pc cI u) s.heap := hP
      have hD9 : va_D A (m_W qm pb pr pv pw ps pc cI u) := hD
      exact W.vret hx hb hr (fun t ht hW => ⟨⟨u, rfl, (by unfold m_look; rw [if_neg c_1, if_neg c_3]), by rw [ht]; exact hP9, va_K.moved hW.alike hK, hD9⟩, hS.F ht⟩) hS.2.2 dX1_look_88
    · refine lv_aload_n hx hb dX1_look_51 rfl (lv_at hl 0 rfl) ?_
      refine va_get (D := (dC, dI)) (ci := 1) (v := .int (m_md u)) (C := RX1) (T := TX1) (N := 14) hx hb hts hinT hown hK hP 0 rfl rfl 2 (by decide) (hts _ (List.mem_cons_of_mem _ fl_36)) (fun _ h9 => h9) rfl dX1_look_52 ?_
      refine lv_if_eq (tgt := 88) hx hb dX1_look_55 (by decide) (fun c_4 => ?_) (fun c_4 => ?_)
      · have hP9 : va_P (dC, dI) vwCl (m_W qm pb pr pv pw ps pc cI u) s.heap := hP
        have hD9 : va_D A (m_W qm pb pr pv pw ps pc cI u) := hD
        exact W.vret hx hb hr (fun t ht hW => ⟨⟨u, rfl, (by unfold m_look; rw [if_neg c_1, if_pos c_3, if_pos c_4]), by rw [ht]; exact hP9, va_K.moved hW.alike hK, hD9⟩, hS.F ht⟩) hS.2.2 dX1_look_88
      · refine lv_aload_n hx hb dX1_look_58 rfl (lv_at hl 0 rfl) ?_
        refine va_get (D := (dC, dI)) (ci := 1) (v := .ref pc) (C := RX1) (T := TX1) (N := 14) hx hb hts hinT hown hK hP 0 rfl rfl 13 (by decide) (hts _ (List.mem_cons_of_mem _ fl_25)) (fun _ h9 => h9) rfl dX1_look_59 ?_
        refine lv_iconst (v := 0) hx hb dX1_look_62 (by decide) ?_
        refine lv_dup2_11 hx hb dX1_look_63 rfl rfl ?_
        refine va_iald hx hb hK hP 6 0 rfl rfl (j_in (k := 0) rfl (by decide)) dX1_look_64 ?_
        refine W.eq (g2 := F0 m 65 ls [.int ((m_cn u) 0), .int 0, .ref pc]) rfl ?_
        refine lv_iconst (v := 1) hx hb dX1_look_65 (by decide) ?_
        refine lv_iadd hx hb dX1_look_66 ?_
        refine va_iast hx hb hK hP hD hS 6 0 rfl rfl (j_in (k := 0) rfl (by decide)) dX1_look_67 (fun H locs hP hD hS => ?_)
        rw [show (0 : Int32).toNatClampNeg = 0 from (by decide)] at hP hD
        have hP : va_P (dC, dI) vwCl [(qm, .inr (1, [.int (m_th u), .int (m_st u), .int (m_md u), .ref pb, .int (nI (m_mn u)), .ref pr, .int (nI (m_rw u)), .ref pv, .int (nI (m_sz u)), .ref pw, .int (nI (m_wn u)), .ref ps, .int (nI (m_sn u)), .ref pc])), (pb, .inl (cI, 64, .inl (m_bi u))), (pr, .inl (cI, 259, .inl (m_ro u))), (pv, .inl (cI, 259, .inl (m_rc u))), (pw, .inl (cI, 259, .inl (m_wt u))), (ps, .inl (cI, 306, .inl (m_se u))), (pc, .inl (cI, 5, .inl (upd (m_cn u) 0 (((m_cn u) 0) + 1))))] H := hP
        have hD : va_D A [(qm, .inr (1, [.int (m_th u), .int (m_st u), .int (m_md u), .ref pb, .int (nI (m_mn u)), .ref pr, .int (nI (m_rw u)), .ref pv, .int (nI (m_sz u)), .ref pw, .int (nI (m_wn u)), .ref ps, .int (nI (m_sn u)), .ref pc])), (pb, .inl (cI, 64, .inl (m_bi u))), (pr, .inl (cI, 259, .inl (m_ro u))), (pv, .inl (cI, 259, .inl (m_rc u))), (pw, .inl (cI, 259, .inl (m_wt u))), (ps, .inl (cI, 306, .inl (m_se u))), (pc, .inl (cI, 5, .inl (upd (m_cn u) 0 (((m_cn u) 0) + 1))))] := hD
        refine lv_aload_n hx hb dX1_look_68 rfl (lv_at hl 0 rfl) ?_
        refine va_get (D := (dC, dI)) (ci := 1) (v := .ref pc) (C := RX1) (T := TX1) (N := 14) hx hb hts hinT hown hK hP 0 rfl rfl 13 (by decide) (hts _ (List.mem_cons_of_mem _ fl_25)) (fun _ h9 => h9) rfl dX1_look_69 ?_
        refine lv_iconst (v := 4) hx hb dX1_look_72 (by decide) ?_
        refine lv_dup2_11 hx hb dX1_look_73 rfl rfl ?_
        refine va_iald hx hb hK hP 6 0 rfl rfl (j_in (k := 4) rfl (by decide)) dX1_look_74 ?_
        refine W.eq (g2 := F0 m 75 ls [.int ((upd (m_cn u) 0 (((m_cn u) 0) + 1)) 4), .int 4, .ref pc]) rfl ?_
        refine lv_iload_n hx hb dX1_look_75 rfl (lv_at hl 1 rfl) ?_
        refine lv_iadd hx hb dX1_look_76 ?_
        refine va_iast hx hb hK hP hD hS 6 0 rfl rfl (j_in (k := 4) rfl (by decide)) dX1_look_77 (fun H locs hP hD hS => ?_)
        rw [show (4 : Int32).toNatClampNeg = 4 from (by decide)] at hP hD
        have hP : va_P (dC, dI) vwCl [(qm, .inr (1, [.int (m_th u), .int (m_st u), .int (m_md u), .ref pb, .int (nI (m_mn u)), .ref pr, .int (nI (m_rw u)), .ref pv, .int (nI (m_sz u)), .ref pw, .int (nI (m_wn u)), .ref ps, .int (nI (m_sn u)), .ref pc])), (pb, .inl (cI, 64, .inl (m_bi u))), (pr, .inl (cI, 259, .inl (m_ro u))), (pv, .inl (cI, 259, .inl (m_rc u))), (pw, .inl (cI, 259, .inl (m_wt u))), (ps, .inl (cI, 306, .inl (m_se u))), (pc, .inl (cI, 5, .inl (upd (upd (m_cn u) 0 (((m_cn u) 0) + 1)) 4 (((upd (m_cn u) 0 (((m_cn u) 0) + 1)) 4) + (m_lkF u 16 0 0)))))] H := hP
        have hD : va_D A [(qm, .inr (1, [.int (m_th u), .int (m_st u), .int (m_md u), .ref pb, .int (nI (m_mn u)), .ref pr, .int (nI (m_rw u)), .ref pv, .int (nI (m_sz u)), .ref pw, .int (nI (m_wn u)), .ref ps, .int (nI (m_sn u)), .ref pc])), (pb, .inl (cI, 64, .inl (m_bi u))), (pr, .inl (cI, 259, .inl (m_ro u))), (pv, .inl (cI, 259, .inl (m_rc u))), (pw, .inl (cI, 259, .inl (m_wt u))), (ps, .inl (cI, 306, .inl (m_se u))), (pc, .inl (cI, 5, .inl (upd (upd (m_cn u) 0 (((m_cn u) 0) + 1)) 4 (((upd (m_cn u) 0 (((m_cn u) 0) + 1)) 4) + (m_lkF u 16 0 0)))))] := hD
        refine lv_aload_n hx hb dX1_look_78 rfl (lv_at hl 0 rfl) ?_
        refine lv_iconst (v := 0) hx hb dX1_look_79 (by decide) ?_
        refine va_put (D := (dC, dI)) (ci := 1) (v := .int 0) (ty := .int) (C := RX1) (T := TX1) (N := 14) hx hb hts hinT tyX1 tyX1_ok nmX1 hown hK hP hD hS 0 rfl rfl 6 (by decide) (hts _ (List.mem_cons_of_mem _ fl_46)) (fun _ h9 => h9) rfl (by decide +kernel) rfl rfl (Nat.le_of_ble_eq_true rfl) dX1_look_80 (fun H locs hP hD hS => ?_)
        have hP : va_P (dC, dI) vwCl [(qm, .inr (1, [.int (m_th u), .int (m_st u), .int (m_md u), .ref pb, .int (nI (m_mn u)), .ref pr, .int 0, .ref pv, .int (nI (m_sz u)), .ref pw, .int (nI (m_wn u)), .ref ps, .int (nI (m_sn u)), .ref pc])), (pb, .inl (cI, 64, .inl (m_bi u))), (pr, .inl (cI, 259, .inl (m_ro u))), (pv, .inl (cI, 259, .inl (m_rc u))), (pw, .inl (cI, 259, .inl (m_wt u))), (ps, .inl (cI, 306, .inl (m_se u))), (pc, .inl (cI, 5, .inl (upd (upd (m_cn u) 0 (((m_cn u) 0) + 1)) 4 (((upd (m_cn u) 0 (((m_cn u) 0) + 1)) 4) + (m_lkF u 16 0 0)))))] H := hP
        have hD : va_D A [(qm, .inr (1, [.int (m_th u), .int (m_st u), .int (m_md u), .ref pb, .int (nI (m_mn u)), .ref pr, .int 0, .ref pv, .int (nI (m_sz u)), .ref pw, .int (nI (m_wn u)), .ref ps, .int (nI (m_sn u)), .ref pc])), (pb, .inl (cI, 64, .inl (m_bi u))), (pr, .inl (cI, 259, .inl (m_ro u))), (pv, .inl (cI, 259, .inl (m_rc u))), (pw, .inl (cI, 259, .inl (m_wt u))), (ps, .inl (cI, 306, .inl (m_se u))), (pc, .inl (cI, 5, .inl (upd (upd (m_cn u) 0 (((m_cn u) 0) + 1)) 4 (((upd (m_cn u) 0 (((m_cn u) 0) + 1)) 4) + (m_lkF u 16 0 0)))))] := hD
        refine lv_aload_n hx hb dX1_look_83 rfl (lv_at hl 0 rfl) ?_
        refine lv_iconst (v := 2) hx hb dX1_look_84 (by decide) ?_
        have hPc : va_P (dC, dI) vwCl (m_W qm pb pr pv pw ps pc cI (m_th u, m_st u, m_md u, m_mn u, 0, m_sz u, m_wn u, m_sn u, m_bi u, m_ro u, m_rc u, m_wt u, m_se u, upd (upd (m_cn u) 0 (((m_cn u) 0) + 1)) 4 (((upd (m_cn u) 0 (((m_cn u) 0) + 1)) 4) + (m_lkF u 16 0 0)))) H := hP
        have hDc : va_D A (m_W qm pb pr pv pw ps pc cI (m_th u, m_st u, m_md u, m_mn u, 0, m_sz u, m_wn u, m_sn u, m_bi u, m_ro u, m_rc u, m_wt u, m_se u, upd (upd (m_cn u) 0 (((m_cn u) 0) + 1)) 4 (((upd (m_cn u) 0 (((m_cn u) 0) + 1)) 4) + (m_lkF u 16 0 0)))) := hD
        have hFc := va_free (wc := (m_W qm pb pr pv pw ps pc cI (m_th u, m_st u, m_md u, m_mn u, 0, m_sz u, m_wn u, m_sn u, m_bi u, m_ro u, m_rc u, m_wt u, m_se u, upd (upd (m_cn u) 0 (((m_cn u) 0) + 1)) 4 (((upd (m_cn u) 0 (((m_cn u) 0) + 1)) 4) + (m_lkF u 16 0 0))))) hD hS hA [0, 1, 2, 3, 4, 5, 6] rfl
        refine va_callv (va_runV (As := [.int 2]) (rest := []) ⟨hx, hb, hml, hown, hts⟩ (kX1_begins l dC dI qm pb pr pv pw ps pc cI H.size (m_th u, m_st u, m_md u, m_mn u, 0, m_sz u, m_wn u, m_sn u, m_bi u, m_ro u, m_rc u, m_wt u, m_se u, upd (upd (m_cn u) 0 (((m_cn u) 0) + 1)) 4 (((upd (m_cn u) 0 (((m_cn u) 0) + 1)) 4) + (m_lkF u 16 0 0))) 2 ) (cwV 1 hts gM_X1_begins rfl rfl rfl (by decide +kernel) ⟨Nat.le_of_ble_eq_true rfl, Nat.le_of_ble_eq_true rfl⟩) ⟨fun a U g mk q => by obtain ⟨q0, q1, qP, qK, qD⟩ := q; exact ⟨q0, q1, qP, va_K.moved (u := U) (U := U.calling g mk a) (Vm.Alike.refl U.vm) qK, qD⟩, va_recv hK hP (ci := 1) (q0 := 0) rfl rfl, fun U hU hW => ⟨rfl, by rw [hU], by rw [hU]; exact hPc, va_K.moved hW.alike hK, hDc.weaken (fun _ _ _ _ => trivial)⟩⟩ rfl rfl hl.1 rfl (lv_room (Nat.le_of_ble_eq_true rfl)) dX1_look_85 ⟨Nat.le_of_ble_eq_true rfl, Nat.le_of_ble_eq_true rfl⟩) hS (fun q _ h => hFc q h) hFc (fun  u_5 t H1 locs ht hvm hu_5 hB hz1 hk1 hS => ?_)
        obtain ⟨hP1, -, hD1⟩ := hB
        rw [ht] at hP1
        have hP : va_P (dC, dI) vwCl [(qm, .inr (1, [.int (m_th u_5), .int (m_st u_5), .int (m_md u_5), .ref pb, .int (nI (m_mn u_5)), .ref pr, .int (nI (m_rw u_5)), .ref pv, .int (nI (m_sz u_5)), .ref pw, .int (nI (m_wn u_5)), .ref ps, .int (nI (m_sn u_5)), .ref pc])), (pb, .inl (cI, 64, .inl (m_bi u_5))), (pr, .inl (cI, 259, .inl (m_ro u_5))), (pv, .inl (cI, 259, .inl (m_rc u_5))), (pw, .inl (cI, 259, .inl (m_wt u_5))), (ps, .inl (cI, 306, .inl (m_se u_5))), (pc, .inl (cI, 5, .inl (m_cn u_5)))] H1 := hP1
        have hD : va_D A [(qm, .inr (1, [.int (m_th u_5), .int (m_st u_5), .int (m_md u_5), .ref pb, .int (nI (m_mn u_5)), .ref pr, .int (nI (m_rw u_5)), .ref pv, .int (nI (m_sz u_5)), .ref pw, .int (nI (m_wn u_5)), .ref ps, .int (nI (m_sn u_5)), .ref pc])), (pb, .inl (cI, 64, .inl (m_bi u_5))), (pr, .inl (cI, 259, .inl (m_ro u_5))), (pv, .inl (cI, 259, .inl (m_rc u_5))), (pw, .inl (cI, 259, .inl (m_wt u_5))), (ps, .inl (cI, 306, .inl (m_se u_5))), (pc, .inl (cI, 5, .inl (m_cn u_5)))] := hD1.weaken (fun k q _ h => hFc q.1 h)
        generalize H1 = H at hP hS ⊢
        have hP9 : va_P (dC, dI) vwCl (m_W qm pb pr pv pw ps pc cI u_5) H := hP
        have hD9 : va_D A (m_W qm pb pr pv pw ps pc cI u_5) := hD
        exact W.vret hx hb hr (fun t ht hW => ⟨⟨u_5, rfl, (by subst hu_5; unfold m_look; rw [if_neg c_1, if_pos c_3, if_neg c_4]), by rw [ht]; exact hP9, va_K.moved hW.alike hK, hD9⟩, hS.F ht⟩) hS.2.2 dX1_look_88

abbrev rmX1_bit : Room := { frames := 3, cells := 0, slots := 0, locals := 70 }
def m_shF : Nat → Nat → m_S → m_S
  | 0, _, u => u
  | n + 1, k, u => m_shF n (k + 1) (m_th u, m_st u, m_md u, m_mn u, m_rw u, m_sz u, m_wn u, m_sn u, upd (m_bi u) k ((m_bi u) (k + 1)), m_ro u, m_rc u, m_wt u, m_se u, m_cn u)
set_option maxHeartbeats 4000000 in
set_option maxRecDepth 100000 in
theorem lpX1_bit {p : Program} {l : Launch} {e : Env} {s : State} {m : MethodId} {args : Array Value} {below : List Frame} {meth : Method} {c : Code} {Q : State → Prop} (dC : Nat → ClassId) (dI : Nat → Nat → Nat) (qm pb pr pv pw ps pc : Nat) (cI : ClassId) (a0 : Int32) (hx : p.tables.exec = Jvm.exec) (hb : c.code = cX1_bit) (hml : c.maxLocals = 3) (hown : s.vm.findClass RX1 = some m.cls) (hts : ∀ w ∈ vX1_bit, w.before args s = true) (A : Nat → Prop) (hA : ∀ q : Nat, s.heap.size ≤ q → A q) (hK : va_K (dC, dI) vwCl [(cI, .int)] s) : ∀ (n : Nat) (u : m_S) (k : Nat) (H : Heap) (locs : List Loc) (ls : Array Slot), k + n = 15 → va_P (dC, dI) vwCl (m_W qm pb pr pv pw ps pc cI u) H → va_D A (m_W qm pb pr pv pw ps pc cI u) → va_S A s.heap H locs → lv_has ls 3 [(0, .ref qm), (1, .int a0), (2, .int (nI k))] → (∀ (H : Heap) (locs : List Loc) (ls : Array Slot), va_P (dC, dI) vwCl (m_W qm pb pr pv pw ps pc cI (m_shF n k u)) H → va_D A (m_W qm pb pr pv pw ps pc cI (m_shF n k u)) → va_S A s.heap H locs → lv_has ls 3 [(0, .ref qm), (1, .int a0)] → W p l e (headSpec vX1_bit rmX1_bit).room s m args below meth c H locs 0 0 Q (F0 m 83 ls [])) → W p l e (headSpec vX1_bit rmX1_bit).room s m args below meth c H locs 0 0 Q (F0 m 57 ls []) := by
  have hinT : ∀ w ∈ wsX10, w ∈ vX1_bit := fun w h => List.mem_cons_of_mem _ (inM w h)
  intro n
  induction n with
  | zero =>
    intro u k H locs ls hn hP hD hS hl kk
    have hk : k = 15 := by omega
    subst hk
    have hP : va_P (dC, dI) vwCl [(qm, .inr (1, [.int (m_th u), .int (m_st u), .int (m_md u), .ref pb, .int (nI (m_mn u)), .ref pr, .int (nI (m_rw u)), .ref pv, .int (nI (m_sz u)), .ref pw, .int (nI (m_wn u)), .ref ps, .int (nI (m_sn u)), .ref pc])), (pb, .inl (cI, 64, .inl (m_bi u))), (pr, .inl (cI, 259, .inl (m_ro u))), (pv, .inl (cI, 259, .inl (m_rc u))), (pw, .inl (cI, 259, .inl (m_wt u))), (ps, .inl (cI, 306, .inl (m_se u))), (pc, .inl (cI, 5, .inl (m_cn u)))] H := hP
    have hD : va_D A [(qm, .inr (1, [.int (m_th u), .int (m_st u), .int (m_md u), .ref pb, .int (nI (m_mn u)), .ref pr, .int (nI (m_rw u)), .ref pv, .int (nI (m_sz u)), .ref pw, .int (nI (m_wn u)), .ref ps, .int (nI (m_sn u)), .ref pc])), (pb, .inl (cI, 64, .inl (m_bi u))), (pr, .inl (cI, 259, .inl (m_ro u))), (pv, .inl (cI, 259, .inl (m_rc u))), (pw, .inl (cI, 259, .inl (m_wt u))), (ps, .inl (cI, 306, .inl (m_se u))), (pc, .inl (cI, 5, .inl (m_cn u)))] := hD
    have hl : lv_has ls 3 [(0, .ref qm), (1, .int a0), (2, .int (nI 15))] := hl
    refine lv_iload_n hx hb dX1_bit_57 rfl (lv_at hl 2 rfl) ?_
    refine lv_bipush (v := 15) hx hb dX1_bit_58 (by decide) ?_
    refine lv_icmp_ge (tgt := 83) hx hb dX1_bit_60 (by decide) (fun c_1 => ?_) (fun c_1 => absurd (by decide) c_1)
    exact kk H locs ls hP hD hS (lv_sub hl [0, 1] rfl)
  | succ n ih =>
    intro u k H locs ls hn hP hD hS hl kk
    have hP : va_P (dC, dI) vwCl [(qm, .inr (1, [.int (m_th u), .int (m_st u), .int (m_md u), .ref pb, .int (nI (m_mn u)), .ref pr, .int (nI (m_rw u)), .ref pv, .int (nI (m_sz u)), .ref pw, .int (nI (m_wn u)), .ref ps, .int (nI (m_sn u)), .ref pc])), (pb, .inl (cI, 64, .inl (m_bi u))), (pr, .inl (cI, 259, .inl (m_ro u))), (pv, .inl (cI, 259, .inl (m_rc u))), (pw, .inl (cI, 259, .inl (m_wt u))), (ps, .inl (cI, 306, .inl (m_se u))), (pc, .inl (cI, 5, .inl (m_cn u)))] H := hP
    have hD : va_D A [(qm, .inr (1, [.int (m_th u), .int (m_st u), .int (m_md u), .ref pb, .int (nI (m_mn u)), .ref pr, .int (nI (m_rw u)), .ref pv, .int (nI (m_sz u)), .ref pw, .int (nI (m_wn u)), .ref ps, .int (nI (m_sn u)), .ref pc])), (pb, .inl (cI, 64, .inl (m_bi u))), (pr, .inl (cI, 259, .inl (m_ro u))), (pv, .inl (cI, 259, .inl (m_rc u))), (pw, .inl (cI, 259, .inl (m_wt u))), (ps, .inl (cI, 306, .inl (m_se u))), (pc, .inl (cI, 5, .inl (m_cn u)))] := hD
    have hl : lv_has ls 3 [(0, .ref qm), (1, .int a0), (2, .int (nI k))] := hl
    refine lv_iload_n hx hb dX1_bit_57 rfl (lv_at hl 2 rfl) ?_
    refine lv_bipush (v := 15) hx hb dX1_bit_58 (by decide) ?_
    refine lv_icmp_ge (tgt := 83) hx hb dX1_bit_60 (by decide) (fun c_1 => absurd c_1 (show ¬ nI 15 ≤ nI k from nI_ge (by omega) (by decide))) (fun c_1 => ?_)
    refine lv_aload_n hx hb dX1_bit_63 rfl (lv_at hl 0 rfl) ?_
    refine va_get (D := (dC, dI)) (ci := 1) (v := .ref pb) (C := RX1) (T := TX1) (N := 14) hx hb hts hinT hown hK hP 0 rfl rfl 3 (by decide) (hts _ (List.mem_cons_of_mem _ fl_7)) (fun _ h9 => h9) rfl dX1_bit_64 ?_
    refine lv_iload_n hx hb dX1_bit_67 rfl (lv_at hl 2 rfl) ?_
    refine lv_aload_n hx hb dX1_bit_68 rfl (lv_at hl 0 rfl) ?_
    refine va_get (D := (dC, dI)) (ci := 1) (v := .ref pb) (C := RX1) (T := TX1) (N := 14) hx hb hts hinT hown hK hP 0 rfl rfl 3 (by decide) (hts _ (List.mem_cons_of_mem _ fl_7)) (fun _ h9 => h9) rfl dX1_bit_69 ?_
    refine lv_iload_n hx hb dX1_bit_72 rfl (lv_at hl 2 rfl) ?_
    refine lv_iconst (v := 1) hx hb dX1_bit_73 (by decide) ?_
    refine lv_iadd hx hb dX1_bit_74 ?_
    refine W.eq (congrArg (fun z => F0 m 75 ls (.int z :: [.ref pb, .int (nI k), .ref pb])) (show (nI k) + 1 = nI (k + 1) from (nI_add _ _))) ?_
    refine va_iald hx hb hK hP 1 0 rfl rfl (vp_in_nI (by omega) (by decide)) dX1_bit_75 ?_
    refine W.eq (g2 := F0 m 76 ls [.int ((m_bi u) (k + 1)), .int (nI k), .ref pb]) (by rw [nI_clamp (by omega)]) ?_
    refine va_iast hx hb hK hP hD hS 1 0 rfl rfl (vp_in_nI (by omega) (by decide)) dX1_bit_76 (fun H locs hP hD hS => ?_)
    rw [show (nI k : Int32).toNatClampNeg = k from (nI_clamp (by omega))] at hP hD
    have hP : va_P (dC, dI) vwCl [(qm, .inr (1, [.int (m_th u), .int (m_st u), .int (m_md u), .ref pb, .int (nI (m_mn u)), .ref pr, .int (nI (m_rw u)), .ref pv, .int (nI (m_sz u)), .ref pw, .int (nI (m_wn u)), .ref ps, .int (nI (m_sn u)), .ref pc])), (pb, .inl (cI, 64, .inl (upd (m_bi u) k ((m_bi u) (k + 1))))), (pr, .inl (cI, 259, .inl (m_ro u))), (pv, .inl (cI, 259, .inl (m_rc u))), (pw, .inl (cI, 259, .inl (m_wt u))), (ps, .inl (cI, 306, .inl (m_se u))), (pc, .inl (cI, 5, .inl (m_cn u)))] H := hP
    have hD : va_D A [(qm, .inr (1, [.int (m_th u), .int (m_st u), .int (m_md u), .ref pb, .int (nI (m_mn u)), .ref pr, .int (nI (m_rw u)), .ref pv, .int (nI (m_sz u)), .ref pw, .int (nI (m_wn u)), .ref ps, .int (nI (m_sn u)), .ref pc])), (pb, .inl (cI, 64, .inl (upd (m_bi u) k ((m_bi u) (k + 1))))), (pr, .inl (cI, 259, .inl (m_ro u))), (pv, .inl (cI, 259, .inl (m_rc u))), (pw, .inl (cI, 259, .inl (m_wt u))), (ps, .inl (cI, 306, .inl (m_se u))), (pc, .inl (cI, 5, .inl (m_cn u)))] := hD
    refine lv_iinc (v := nI (k + 1)) (lv' := [(2, .int (nI (k + 1))), (0, .ref qm), (1, .int a0)]) hx hb dX1_bit_77 hl (k := 2) rfl (show nI k + nI 1 = nI (k + 1) from nI_add _ _) (by decide) rfl (fun ls hl => ?_)
    refine lv_goto (tgt := 57) hx hb dX1_bit_80 (by decide) ?_
    have eF : m_shF (n + 1) k u = m_shF n (k + 1) (m_th u, m_st u, m_md u, m_mn u, m_rw u, m_sz u, m_wn u, m_sn u, upd (m_bi u) k ((m_bi u) (k + 1)), m_ro u, m_rc u, m_wt u, m_se u, m_cn u) := by rw [m_shF]
    exact ih (m_th u, m_st u, m_md u, m_mn u, m_rw u, m_sz u, m_wn u, m_sn u, upd (m_bi u) k ((m_bi u) (k + 1)), m_ro u, m_rc u, m_wt u, m_se u, m_cn u) (k + 1) H locs ls (by omega) hP hD hS (lv_sub hl [1, 2, 0] rfl) (fun H locs ls hP hD hS hl => kk H locs ls (by rw [eF]; exact hP) (by rw [eF]; exact hD) hS (by exact hl))
def m_bit (u : m_S) (a0 : Int32) : m_S := if (m_st u) = 2 then (if (nI (m_mn u + 1)) = 64 then (m_block (m_th u, m_st u, m_md u, m_mn u + 1, m_rw u, m_sz u, m_wn u, m_sn u, upd (m_bi u) (m_mn u) a0, m_ro u, m_rc u, m_wt u, m_se u, m_cn u)) else (m_th u, m_st u, m_md u, m_mn u + 1, m_rw u, m_sz u, m_wn u, m_sn u, upd (m_bi u) (m_mn u) a0, m_ro u, m_rc u, m_wt u, m_se u, m_cn u)) else (if (nI (m_mn u)) = 16 then (m_look (m_th (m_shF 15 0 u), m_st (m_shF 15 0 u), m_md (m_shF 15 0 u), 16, m_rw (m_shF 15 0 u), m_sz (m_shF 15 0 u), m_wn (m_shF 15 0 u), m_sn (m_shF 15 0 u), upd (m_bi (m_shF 15 0 u)) 15 a0, m_ro (m_shF 15 0 u), m_rc (m_shF 15 0 u), m_wt (m_shF 15 0 u), m_se (m_shF 15 0 u), m_cn (m_shF 15 0 u))) else (if (nI (m_mn u + 1)) = 16 then (m_look (m_th u, m_st u, m_md u, m_mn u + 1, m_rw u, m_sz u, m_wn u, m_sn u, upd (m_bi u) (m_mn u) a0, m_ro u, m_rc u, m_wt u, m_se u, m_cn u)) else (m_th u, m_st u, m_md u, m_mn u + 1, m_rw u, m_sz u, m_wn u, m_sn u, upd (m_bi u) (m_mn u) a0, m_ro u, m_rc u, m_wt u, m_se u, m_cn u)))
def m_bit_r (u : m_S) (a0 : Int32) : Int32 := if (m_st u) = 2 then (if (nI (m_mn u + 1)) = 64 then (m_block_r (m_th u, m_st u, m_md u, m_mn u + 1, m_rw u, m_sz u, m_wn u, m_sn u, upd (m_bi u) (m_mn u) a0, m_ro u, m_rc u, m_wt u, m_se u, m_cn u)) else 0) else (if (nI (m_mn u)) = 16 then 0 else (if (nI (m_mn u + 1)) = 16 then 0 else 0))
set_option maxHeartbeats 4000000 in
set_option maxRecDepth 100000 in
theorem kX1_bit (l : Launch) (dC : Nat → ClassId) (dI : Nat → Nat → Nat) (qm pb pr pv pw ps pc : Nat) (cI : ClassId) (sz : Nat) (u : m_S) (a0 : Int32) (h64 : m_mn u < 64) (h16 : ¬ m_st u = 2 → m_mn u ≤ 16) (hrw : m_rw u ≤ 252) : Met l yX1_bit vX1_bit rmX1_bit (va_Pc [.ref qm, .int a0] (fun U => U.heap.size = sz ∧ va_P (dC, dI) vwCl (m_W qm pb pr pv pw ps pc cI u) U.heap ∧ va_K (dC, dI) vwCl [(cI, .int)] U ∧ va_D (fun _ => True) (m_W qm pb pr pv pw ps pc cI u))) (va_Qi (fun r u2 => r = m_bit_r u a0 ∧ u2 = m_bit u a0) (m_At dC dI (va_A (m_W qm pb pr pv pw ps pc cI u) sz) qm pb pr pv pw ps pc cI) (va_A (m_W qm pb pr pv pw ps pc cI u) sz)) 0 0 (va_A (m_W qm pb pr pv pw ps pc cI u) sz) := by
  refine Met.ofW (cc := cX1_bit) (maxL := 3) (ret := some .int) (by decide) rfl ?_
  intro p e s m args below meth c s₁ B hml hv
  obtain ⟨rfl, hsz, hP, hK, hD0⟩ := hv
  have hx := B.exec
  have hb := B.bytes
  have hr := B.returns
  have hts := atoms_spec (ws := vX1_bit) B.pre
  have hown : s.vm.findClass RX1 = some m.cls := findClass_of_methodNamed B.named
  have hlocks := B.notSynchronized
  have hinT : ∀ w ∈ wsX10, w ∈ vX1_bit := fun w h => List.mem_cons_of_mem _ (inM w h)
  subst hsz
  have hD := hD0.self (sz := s.heap.size)
  generalize hAe : va_A (m_W qm pb pr pv pw ps pc cI u) s.heap.size = A at hD ⊢
  have hA : ∀ q : Nat, s.heap.size ≤ q → A q := fun q h => by rw [← hAe]; exact Or.inr h
  have hS : va_S A s.heap s.heap [] := va_S.rf
  have hD : va_D A [(qm, .inr (1, [.int (m_th u), .int (m_st u), .int (m_md u), .ref pb, .int (nI (m_mn u)), .ref pr, .int (nI (m_rw u)), .ref pv, .int (nI (m_sz u)), .ref pw, .int (nI (m_wn u)), .ref ps, .int (nI (m_sn u)), .ref pc])), (pb, .inl (cI, 64, .inl (m_bi u))), (pr, .inl (cI, 259, .inl (m_ro u))), (pv, .inl (cI, 259, .inl (m_rc u))), (pw, .inl (cI, 259, .inl (m_wt u))), (ps, .inl (cI, 306, .inl (m_se u))), (pc, .inl (cI, 5, .inl (m_cn u)))] := hD
  have hP : va_P (dC, dI) vwCl [(qm, .inr (1, [.int (m_th u), .int (m_st u), .int (m_md u), .ref pb, .int (nI (m_mn u)), .ref pr, .int (nI (m_rw u)), .ref pv, .int (nI (m_sz u)), .ref pw, .int (nI (m_wn u)), .ref ps, .int (nI (m_sn u)), .ref pc])), (pb, .inl (cI, 64, .inl (m_bi u))), (pr, .inl (cI, 259, .inl (m_ro u))), (pv, .inl (cI, 259, .inl (m_rc u))), (pw, .inl (cI, 259, .inl (m_wt u))), (ps, .inl (cI, 306, .inl (m_se u))), (pc, .inl (cI, 5, .inl (m_cn u)))] s.heap := hP
  have hl := lv_entry ([.ref qm, .int a0]) (n := 3) (Nat.le_of_ble_eq_true rfl)
  rw [lg_entry_eq]
  generalize (lg_sl ([.ref qm, .int a0]) ++ List.replicate (3 - (lg_sl ([.ref qm, .int a0])).length) Slot.unset).toArray = ls at hl ⊢
  have hl : lv_has ls 3 [(0, .ref qm), (1, .int a0)] := hl
  refine lv_aload_n hx hb dX1_bit_0 rfl (lv_at hl 0 rfl) ?_
  refine va_get (D := (dC, dI)) (ci := 1) (v := .int (m_st u)) (C := RX1) (T := TX1) (N := 14) hx hb hts hinT hown hK hP 0 rfl rfl 1 (by decide) (hts _ (List.mem_cons_of_mem _ fl_40)) (fun _ h9 => h9) rfl dX1_bit_1 ?_
  refine lv_iconst (v := 2) hx hb dX1_bit_4 (by decide) ?_
  refine lv_icmp_ne (tgt := 46) hx hb dX1_bit_5 (by decide) (fun c_1 => ?_) (fun c_1 => ?_)
  · refine lv_aload_n hx hb dX1_bit_46 rfl (lv_at hl 0 rfl) ?_
    refine va_get (D := (dC, dI)) (ci := 1) (v := .int (nI (m_mn u))) (C := RX1) (T := TX1) (N := 14) hx hb hts hinT hown hK hP 0 rfl rfl 4 (by decide) (hts _ (List.mem_cons_of_mem _ fl_43)) (fun _ h9 => h9) rfl dX1_bit_47 ?_
    refine lv_bipush (v := 16) hx hb dX1_bit_50 (by decide) ?_
    refine lv_icmp_ne (tgt := 89) hx hb dX1_bit_52 (by decide) (fun c_2 => ?_) (fun c_2 => ?_)
    · have hlt : m_mn u < 16 := by have := h16 c_1; have h5 : m_mn u ≠ 16 := fun e => c_2 (by rw [e]; rfl); omega
      refine lv_aload_n hx hb dX1_bit_89 rfl (lv_at hl 0 rfl) ?_
      refine va_get (D := (dC, dI)) (ci := 1) (v := .ref pb) (C := RX1) (T := TX1) (N := 14) hx hb hts hinT hown hK hP 0 rfl rfl 3 (by decide) (hts _ (List.mem_cons_of_mem _ fl_7)) (fun _ h9 => h9) rfl dX1_bit_90 ?_
      refine lv_aload_n hx hb dX1_bit_93 rfl (lv_at hl 0 rfl) ?_
      refine va_get (D := (dC, dI)) (ci := 1) (v := .int (nI (m_mn u))) (C := RX1) (T := TX1) (N := 14) hx hb hts hinT hown hK hP 0 rfl rfl 4 (by decide) (hts _ (List.mem_cons_of_mem _ fl_43)) (fun _ h9 => h9) rfl dX1_bit_94 ?_
      refine lv_iload_n hx hb dX1_bit_97 rfl (lv_at hl 1 rfl) ?_
      refine va_iast hx hb hK hP hD hS 1 0 rfl rfl (vp_in_nI (by omega) (by decide)) dX1_bit_98 (fun H locs hP hD hS => ?_)
      rw [show (nI (m_mn u) : Int32).toNatClampNeg = m_mn u from (nI_clamp (by omega))] at hP hD
      have hP : va_P (dC, dI) vwCl [(qm, .inr (1, [.int (m_th u), .int (m_st u), .int (m_md u), .ref pb, .int (nI (m_mn u)), .ref pr, .int (nI (m_rw u)), .ref pv, .int (nI (m_sz u)), .ref pw, .int (nI (m_wn u)), .ref ps, .int (nI (m_sn u)), .ref pc])), (pb, .inl (cI, 64, .inl (upd (m_bi u) (m_mn u) a0))), (pr, .inl (cI, 259, .inl (m_ro u))), (pv, .inl (cI, 259, .inl (m_rc u))), (pw, .inl (cI, 259, .inl (m_wt u))), (ps, .inl (cI, 306, .inl (m_se u))), (pc, .inl (cI, 5, .inl (m_cn u)))] H := hP
      have hD : va_D A [(qm, .inr (1, [.int (m_th u), .int (m_st u), .int (m_md u), .ref pb, .int (nI (m_mn u)), .ref pr, .int (nI (m_rw u)), .ref pv, .int (nI (m_sz u)), .ref pw, .int (nI (m_wn u)), .ref ps, .int (nI (m_sn u)), .ref pc])), (pb, .inl (cI, 64, .inl (upd (m_bi u) (m_mn u) a0))), (pr, .inl (cI, 259, .inl (m_ro u))), (pv, .inl (cI, 259, .inl (m_rc u))), (pw, .inl (cI, 259, .inl (m_wt u))), (ps, .inl (cI, 306, .inl (m_se u))), (pc, .inl (cI, 5, .inl (m_cn u)))] := hD
      refine lv_aload_n hx hb dX1_bit_99 rfl (lv_at hl 0 rfl) ?_
      refine lv_dup hx hb dX1_bit_100 rfl ?_
      refine va_get (D := (dC, dI)) (ci := 1) (v := .int (nI (m_mn u))) (C := RX1) (T := TX1) (N := 14) hx hb hts hinT hown hK hP 0 rfl rfl 4 (by decide) (hts _ (List.mem_cons_of_mem _ fl_43)) (fun _ h9 => h9) rfl dX1_bit_101 ?_
      refine lv_iconst (v := 1) hx hb dX1_bit_104 (by decide) ?_
      refine lv_iadd hx hb dX1_bit_105 ?_
      refine W.eq (congrArg (fun z => F0 m 106 ls (.int z :: [.ref qm])) (show (nI (m_mn u)) + 1 = nI (m_mn u + 1) from (nI_add _ _))) ?_
      refine va_put (D := (dC, dI)) (ci := 1) (v := .int (nI (m_mn u + 1))) (ty := .int) (C := RX1) (T := TX1) (N := 14) hx hb hts hinT tyX1 tyX1_ok nmX1 hown hK hP hD hS 0 rfl rfl 4 (by decide) (hts _ (List.mem_cons_of_mem _ fl_43)) (fun _ h9 => h9) rfl (by decide +kernel) rfl rfl (Nat.le_of_ble_eq_true rfl) dX1_bit_106 (fun H locs hP hD hS => ?_)
      have hP : va_P (dC, dI) vwCl [(qm, .inr (1, [.int (m_th u), .int (m_st u), .int (m_md u), .ref pb, .int (nI (m_mn u + 1)), .ref pr, .int (nI (m_rw u)), .ref pv, .int (nI (m_sz u)), .ref pw, .int (nI (m_wn u)), .ref ps, .int (nI (m_sn u)), .ref pc])), (pb, .inl (cI, 64, .inl (upd (m_bi u) (m_mn u) a0))), (pr, .inl (cI, 259, .inl (m_ro u))), (pv, .inl (cI, 259, .inl (m_rc u))), (pw, .inl (cI, 259, .inl (m_wt u))), (ps, .inl (cI, 306, .inl (m_se u))), (pc, .inl (cI, 5, .inl (m_cn u)))] H := hP
      have hD : va_D A [(qm, .inr (1, [.int (m_th u), .int (m_st u), .int (m_md u), .ref pb, .int (nI (m_mn u + 1)), .ref pr, .int (nI (m_rw u)), .ref pv, .int (nI (m_sz u)), .ref pw, .int (nI (m_wn u)), .ref ps, .int (nI (m_sn u)), .ref pc])), (pb, .inl (cI, 64, .inl (upd (m_bi u) (m_mn u) a0))), (pr, .inl (cI, 259, .inl (m_ro u))), (pv, .inl (cI, 259, .inl (m_rc u))), (pw, .inl (cI, 259, .inl (m_wt u))), (ps, .inl (cI, 306, .inl (m_se u))), (pc, .inl (cI, 5, .inl (m_cn u)))] := hD
      refine lv_aload_n hx hb dX1_bit_109 rfl (lv_at hl 0 rfl) ?_
      refine va_get (D := (dC, dI)) (ci := 1) (v := .int (nI (m_mn u + 1))) (C := RX1) (T := TX1) (N := 14) hx hb hts hinT hown hK hP 0 rfl rfl 4 (by decide) (hts _ (List.mem_cons_of_mem _ fl_43)) (fun _ h9 => h9) rfl dX1_bit_110 ?_
      refine lv_bipush (v := 16) hx hb dX1_bit_113 (by decide) ?_
      refine lv_icmp_ne (tgt := 122) hx hb dX1_bit_115 (by decide) (fun c_3 => ?_) (fun c_3 => ?_)
      · refine lv_iconst (v := 0) hx hb dX1_bit_122 (by decide) ?_
        have hP9 : va_P (dC, dI) vwCl (m_W qm pb pr pv pw ps pc cI (m_th u, m_st u, m_md u, m_mn u + 1, m_rw u, m_sz u, m_wn u, m_sn u, upd (m_bi u) (m_mn u) a0, m_ro u, m_rc u, m_wt u, m_se u, m_cn u)) H := hP
        have hD9 : va_D A (m_W qm pb pr pv pw ps pc cI (m_th u, m_st u, m_md u, m_mn u + 1, m_rw u, m_sz u, m_wn u, m_sn u, upd (m_bi u) (m_mn u) a0, m_ro u, m_rc u, m_wt u, m_se u, m_cn u)) := hD
        exact W.iret (v := 0) hx hb hr (fun t ht hW => ⟨⟨_, (m_th u, m_st u, m_md u, m_mn u + 1, m_rw u, m_sz u, m_wn u, m_sn u, upd (m_bi u) (m_mn u) a0, m_ro u, m_rc u, m_wt u, m_se u, m_cn u), rfl, ⟨(by unfold m_bit_r; rw [if_neg c_1, if_neg c_2, if_neg c_3]), (by unfold m_bit; rw [if_neg c_1, if_neg c_2, if_neg c_3])⟩, by rw [ht]; exact hP9, va_K.moved hW.alike hK, hD9⟩, hS.F ht⟩) hS.2.2 dX1_bit_123
      · refine lv_aload_n hx hb dX1_bit_118 rfl (lv_at hl 0 rfl) ?_
        have hPc : va_P (dC, dI) vwCl (m_W qm pb pr pv pw ps pc cI (m_th u, m_st u, m_md u, m_mn u + 1, m_rw u, m_sz u, m_wn u, m_sn u, upd (m_bi u) (m_mn u) a0, m_ro u, m_rc u, m_wt u, m_se u, m_cn u)) H := hP
        have hDc : va_D A (m_W qm pb pr pv pw ps pc cI (m_th u, m_st u, m_md u, m_mn u + 1, m_rw u, m_sz u, m_wn u, m_sn u, upd (m_bi u) (m_mn u) a0, m_ro u, m_rc u, m_wt u, m_se u, m_cn u)) := hD
        have hFc := va_free (wc := (m_W qm pb pr pv pw ps pc cI (m_th u, m_st u, m_md u, m_mn u + 1, m_rw u, m_sz u, m_wn u, m_sn u, upd (m_bi u) (m_mn u) a0, m_ro u, m_rc u, m_wt u, m_se u, m_cn u))) hD hS hA [0, 1, 2, 3, 4, 5, 6] rfl
        refine va_callv (va_runV (As := []) (rest := []) ⟨hx, hb, hml, hown, hts⟩ (kX1_look l dC dI qm pb pr pv pw ps pc cI H.size (m_th u, m_st u, m_md u, m_mn u + 1, m_rw u, m_sz u, m_wn u, m_sn u, upd (m_bi u) (m_mn u) a0, m_ro u, m_rc u, m_wt u, m_se u, m_cn u)  ) (cwV 0 hts gM_X1_look rfl rfl rfl (by decide +kernel) ⟨Nat.le_of_ble_eq_true rfl, Nat.le_of_ble_eq_true rfl⟩) ⟨fun a U g mk q => by obtain ⟨q0, q1, qP, qK, qD⟩ := q; exact ⟨q0, q1, qP, va_K.moved (u := U) (U := U.calling g mk a) (Vm.Alike.refl U.vm) qK, qD⟩, va_recv hK hP (ci := 1) (q0 := 0) rfl rfl, fun U hU hW => ⟨rfl, by rw [hU], by rw [hU]; exact hPc, va_K.moved hW.alike hK, hDc.weaken (fun _ _ _ _ => trivial)⟩⟩ rfl rfl hl.1 rfl (lv_room (Nat.le_of_ble_eq_true rfl)) dX1_bit_119 ⟨Nat.le_of_ble_eq_true rfl, Nat.le_of_ble_eq_true rfl⟩) hS (fun q _ h => hFc q h) hFc (fun  u_4 t H1 locs ht hvm hu_4 hB hz1 hk1 hS => ?_)
        obtain ⟨hP1, -, hD1⟩ := hB
        rw [ht] at hP1
        have hP : va_P (dC, dI) vwCl [(qm, .inr (1, [.int (m_th u_4), .int (m_st u_4), .int (m_md u_4), .ref pb, .int (nI (m_mn u_4)), .ref pr, .int (nI (m_rw u_4)), .ref pv, .int (nI (m_sz u_4)), .ref pw, .int (nI (m_wn u_4)), .ref ps, .int (nI (m_sn u_4)), .ref pc])), (pb, .inl (cI, 64, .inl (m_bi u_4))), (pr, .inl (cI, 259, .inl (m_ro u_4))), (pv, .inl (cI, 259, .inl (m_rc u_4))), (pw, .inl (cI, 259, .inl (m_wt u_4))), (ps, .inl (cI, 306, .inl (m_se u_4))), (pc, .inl (cI, 5, .inl (m_cn u_4)))] H1 := hP1
        have hD : va_D A [(qm, .inr (1, [.int (m_th u_4), .int (m_st u_4), .int (m_md u_4), .ref pb, .int (nI (m_mn u_4)), .ref pr, .int (nI (m_rw u_4)), .ref pv, .int (nI (m_sz u_4)), .ref pw, .int (nI (m_wn u_4)), .ref ps, .int (nI (m_sn u_4)), .ref pc])), (pb, .inl (cI, 64, .inl (m_bi u_4))), (pr, .inl (cI, 259, .inl (m_ro u_4))), (pv, .inl (cI, 259, .inl (m_rc u_4))), (pw, .inl (cI, 259, .inl (m_wt u_4))), (ps, .inl (cI, 306, .inl (m_se u_4))), (pc, .inl (cI, 5, .inl (m_cn u_4)))] := hD1.weaken (fun k q _ h => hFc q.1 h)
        generalize H1 = H at hP hS ⊢
        refine lv_iconst (v := 0) hx hb dX1_bit_122 (by decide) ?_
        have hP9 : va_P (dC, dI) vwCl (m_W qm pb pr pv pw ps pc cI u_4) H := hP
        have hD9 : va_D A (m_W qm pb pr pv pw ps pc cI u_4) := hD
        exact W.iret (v := 0) hx hb hr (fun t ht hW => ⟨⟨_, u_4, rfl, ⟨(by subst hu_4; unfold m_bit_r; rw [if_neg c_1, if_neg c_2, if_pos c_3]), (by subst hu_4; unfold m_bit; rw [if_neg c_1, if_neg c_2, if_pos c_3])⟩, by rw [ht]; exact hP9, va_K.moved hW.alike hK, hD9⟩, hS.F ht⟩) hS.2.2 dX1_bit_123
    · refine lv_iconst (v := 0) hx hb dX1_bit_55 (by decide) ?_
      refine lv_istore_n (lv' := [(2, .int 0), (0, .ref qm), (1, .int a0)]) hx hb dX1_bit_56 rfl hl (by decide) rfl (fun ls hl => ?_)
      refine lpX1_bit (l := l) dC dI qm pb pr pv pw ps pc cI a0 hx hb hml hown hts A hA hK  15 u 0 s.heap [] ls rfl hP hD hS (lv_sub hl [1, 2, 0] rfl) (fun H locs ls hP hD hS hl => ?_)
      obtain ⟨v_5, hv_5⟩ : ∃ z, z = m_shF 15 0 u := ⟨_, rfl⟩
      rw [← hv_5] at hP hD
      have hP : va_P (dC, dI) vwCl [(qm, .inr (1, [.int (m_th v_5), .int (m_st v_5), .int (m_md v_5), .ref pb, .int (nI (m_mn v_5)), .ref pr, .int (nI (m_rw v_5)), .ref pv, .int (nI (m_sz v_5)), .ref pw, .int (nI (m_wn v_5)), .ref ps, .int (nI (m_sn v_5)), .ref pc])), (pb, .inl (cI, 64, .inl (m_bi v_5))), (pr, .inl (cI, 259, .inl (m_ro v_5))), (pv, .inl (cI, 259, .inl (m_rc v_5))), (pw, .inl (cI, 259, .inl (m_wt v_5))), (ps, .inl (cI, 306, .inl (m_se v_5))), (pc, .inl (cI, 5, .inl (m_cn v_5)))] H := hP
      have hD : va_D A [(qm, .inr (1, [.int (m_th v_5), .int (m_st v_5), .int (m_md v_5), .ref pb, .int (nI (m_mn v_5)), .ref pr, .int (nI (m_rw v_5)), .ref pv, .int (nI (m_sz v_5)), .ref pw, .int (nI (m_wn v_5)), .ref ps, .int (nI (m_sn v_5)), .ref pc])), (pb, .inl (cI, 64, .inl (m_bi v_5))), (pr, .inl (cI, 259, .inl (m_ro v_5))), (pv, .inl (cI, 259, .inl (m_rc v_5))), (pw, .inl (cI, 259, .inl (m_wt v_5))), (ps, .inl (cI, 306, .inl (m_se v_5))), (pc, .inl (cI, 5, .inl (m_cn v_5)))] := hD
      refine lv_aload_n hx hb dX1_bit_83 rfl (lv_at hl 0 rfl) ?_
      refine lv_bipush (v := 15) hx hb dX1_bit_84 (by decide) ?_
      refine va_put (D := (dC, dI)) (ci := 1) (v := .int 15) (ty := .int) (C := RX1) (T := TX1) (N := 14) hx hb hts hinT tyX1 tyX1_ok nmX1 hown hK hP hD hS 0 rfl rfl 4 (by decide) (hts _ (List.mem_cons_of_mem _ fl_43)) (fun _ h9 => h9) rfl (by decide +kernel) rfl rfl (Nat.le_of_ble_eq_true rfl) dX1_bit_86 (fun H locs hP hD hS => ?_)
      have hP : va_P (dC, dI) vwCl [(qm, .inr (1, [.int (m_th v_5), .int (m_st v_5), .int (m_md v_5), .ref pb, .int 15, .ref pr, .int (nI (m_rw v_5)), .ref pv, .int (nI (m_sz v_5)), .ref pw, .int (nI (m_wn v_5)), .ref ps, .int (nI (m_sn v_5)), .ref pc])), (pb, .inl (cI, 64, .inl (m_bi v_5))), (pr, .inl (cI, 259, .inl (m_ro v_5))), (pv, .inl (cI, 259, .inl (m_rc v_5))), (pw, .inl (cI, 259, .inl (m_wt v_5))), (ps, .inl (cI, 306, .inl (m_se v_5))), (pc, .inl (cI, 5, .inl (m_cn v_5)))] H := hP
      have hD : va_D A [(qm, .inr (1, [.int (m_th v_5), .int (m_st v_5), .int (m_md v_5), .ref pb, .int 15, .ref pr, .int (nI (m_rw v_5)), .ref pv, .int (nI (m_sz v_5)), .ref pw, .int (nI (m_wn v_5)), .ref ps, .int (nI (m_sn v_5)), .ref pc])), (pb, .inl (cI, 64, .inl (m_bi v_5))), (pr, .inl (cI, 259, .inl (m_ro v_5))), (pv, .inl (cI, 259, .inl (m_rc v_5))), (pw, .inl (cI, 259, .inl (m_wt v_5))), (ps, .inl (cI, 306, .inl (m_se v_5))), (pc, .inl (cI, 5, .inl (m_cn v_5)))] := hD
      refine lv_aload_n hx hb dX1_bit_89 rfl (lv_at hl 0 rfl) ?_
      refine va_get (D := (dC, dI)) (ci := 1) (v := .ref pb) (C := RX1) (T := TX1) (N := 14) hx hb hts hinT hown hK hP 0 rfl rfl 3 (by decide) (hts _ (List.mem_cons_of_mem _ fl_7)) (fun _ h9 => h9) rfl dX1_bit_90 ?_
      refine lv_aload_n hx hb dX1_bit_93 rfl (lv_at hl 0 rfl) ?_
      refine va_get (D := (dC, dI)) (ci := 1) (v := .int 15) (C := RX1) (T := TX1) (N := 14) hx hb hts hinT hown hK hP 0 rfl rfl 4 (by decide) (hts _ (List.mem_cons_of_mem _ fl_43)) (fun _ h9 => h9) rfl dX1_bit_94 ?_
      refine lv_iload_n hx hb dX1_bit_97 rfl (lv_at hl 1 rfl) ?_
      refine va_iast hx hb hK hP hD hS 1 0 rfl rfl (j_in (k := 15) rfl (by decide)) dX1_bit_98 (fun H locs hP hD hS => ?_)
      rw [show (15 : Int32).toNatClampNeg = 15 from (by decide)] at hP hD
      have hP : va_P (dC, dI) vwCl [(qm, .inr (1, [.int (m_th v_5), .int (m_st v_5), .int (m_md v_5), .ref pb, .int 15, .ref pr, .int (nI (m_rw v_5)), .ref pv, .int (nI (m_sz v_5)), .ref pw, .int (nI (m_wn v_5)), .ref ps, .int (nI (m_sn v_5)), .ref pc])), (pb, .inl (cI, 64, .inl (upd (m_bi v_5) 15 a0))), (pr, .inl (cI, 259, .inl (m_ro v_5))), (pv, .inl (cI, 259, .inl (m_rc v_5))), (pw, .inl (cI, 259, .inl (m_wt v_5))), (ps, .inl (cI, 306, .inl (m_se v_5))), (pc, .inl (cI, 5, .inl (m_cn v_5)))] H := hP
      have hD : va_D A [(qm, .inr (1, [.int (m_th v_5), .int (m_st v_5), .int (m_md v_5), .ref pb, .int 15, .ref pr, .int (nI (m_rw v_5)), .ref pv, .int (nI (m_sz v_5)), .ref pw, .int (nI (m_wn v_5)), .ref ps, .int (nI (m_sn v_5)), .ref pc])), (pb, .inl (cI, 64, .inl (upd (m_bi v_5) 15 a0))), (pr, .inl (cI, 259, .inl (m_ro v_5))), (pv, .inl (cI, 259, .inl (m_rc v_5))), (pw, .inl (cI, 259, .inl (m_wt v_5))), (ps, .inl (cI, 306, .inl (m_se v_5))), (pc, .inl (cI, 5, .inl (m_cn v_5)))] := hD
      refine lv_aload_n hx hb dX1_bit_99 rfl (lv_at hl 0 rfl) ?_
      refine lv_dup hx hb dX1_bit_100 rfl ?_
      refine va_get (D := (dC, dI)) (ci := 1) (v := .int 15) (C := RX1) (T := TX1) (N := 14) hx hb hts hinT hown hK hP 0 rfl rfl 4 (by decide) (hts _ (List.mem_cons_of_mem _ fl_43)) (fun _ h9 => h9) rfl dX1_bit_101 ?_
      refine lv_iconst (v := 1) hx hb dX1_bit_104 (by decide) ?_
      refine lv_iadd hx hb dX1_bit_105 ?_
      refine W.eq (congrArg (fun z => F0 m 106 ls (.int z :: [.ref qm])) (show 15 + 1 = 16 from (by decide))) ?_
      refine va_put (D := (dC, dI)) (ci := 1) (v := .int 16) (ty := .int) (C := RX1) (T := TX1) (N := 14) hx hb hts hinT tyX1 tyX1_ok nmX1 hown hK hP hD hS 0 rfl rfl 4 (by decide) (hts _ (List.mem_cons_of_mem _ fl_43)) (fun _ h9 => h9) rfl (by decide +kernel) rfl rfl (Nat.le_of_ble_eq_true rfl) dX1_bit_106 (fun H locs hP hD hS => ?_)
      have hP : va_P (dC, dI) vwCl [(qm, .inr (1, [.int (m_th v_5), .int (m_st v_5), .int (m_md v_5), .ref pb, .int 16, .ref pr, .int (nI (m_rw v_5)), .ref pv, .int (nI (m_sz v_5)), .ref pw, .int (nI (m_wn v_5)), .ref ps, .int (nI (m_sn v_5)), .ref pc])), (pb, .inl (cI, 64, .inl (upd (m_bi v_5) 15 a0))), (pr, .inl (cI, 259, .inl (m_ro v_5))), (pv, .inl (cI, 259, .inl (m_rc v_5))), (pw, .inl (cI, 259, .inl (m_wt v_5))), (ps, .inl (cI, 306, .inl (m_se v_5))), (pc, .inl (cI, 5, .inl (m_cn v_5)))] H := hP
      have hD : va_D A [(qm, .inr (1, [.int (m_th v_5), .int (m_st v_5), .int (m_md v_5), .ref pb, .int 16, .ref pr, .int (nI (m_rw v_5)), .ref pv, .int (nI (m_sz v_5)), .ref pw, .int (nI (m_wn v_5)), .ref ps, .int (nI (m_sn v_5)), .ref pc])), (pb, .inl (cI, 64, .inl (upd (m_bi v_5) 15 a0))), (pr, .inl (cI, 259, .inl (m_ro v_5))), (pv, .inl (cI, 259, .inl (m_rc v_5))), (pw, .inl (cI, 259, .inl (m_wt v_5))), (ps, .inl (cI, 306, .inl (m_se v_5))), (pc, .inl (cI, 5, .inl (m_cn v_5)))] := hD
      refine lv_aload_n hx hb dX1_bit_109 rfl (lv_at hl 0 rfl) ?_
      refine va_get (D := (dC, dI)) (ci := 1) (v := .int 16) (C := RX1) (T := TX1) (N := 14) hx hb hts hinT hown hK hP 0 rfl rfl 4 (by decide) (hts _ (List.mem_cons_of_mem _ fl_43)) (fun _ h9 => h9) rfl dX1_bit_110 ?_
      refine lv_bipush (v := 16) hx hb dX1_bit_113 (by decide) ?_
      refine lv_icmp_ne (tgt := 122) hx hb dX1_bit_115 (by decide) (fun c_6 => absurd (by decide) c_6) (fun c_6 => ?_)
      refine lv_aload_n hx hb dX1_bit_118 rfl (lv_at hl 0 rfl) ?_
      have hPc : va_P (dC, dI) vwCl (m_W qm pb pr pv pw ps pc cI (m_th v_5, m_st v_5, m_md v_5, 16, m_rw v_5, m_sz v_5, m_wn v_5, m_sn v_5, upd (m_bi v_5) 15 a0, m_ro v_5, m_rc v_5, m_wt v_5, m_se v_5, m_cn v_5)) H := hP
      have hDc : va_D A (m_W qm pb pr pv pw ps pc cI (m_th v_5, m_st v_5, m_md v_5, 16, m_rw v_5, m_sz v_5, m_wn v_5, m_sn v_5, upd (m_bi v_5) 15 a0, m_ro v_5, m_rc v_5, m_wt v_5, m_se v_5, m_cn v_5)) := hD
      have hFc := va_free (wc := (m_W qm pb pr pv pw ps pc cI (m_th v_5, m_st v_5, m_md v_5, 16, m_rw v_5, m_sz v_5, m_wn v_5, m_sn v_5, upd (m_bi v_5) 15 a0, m_ro v_5, m_rc v_5, m_wt v_5, m_se v_5, m_cn v_5))) hD hS hA [0, 1, 2, 3, 4, 5, 6] rfl
      refine va_callv (va_runV (As := []) (rest := []) ⟨hx, hb, hml, hown, hts⟩ (kX1_look l dC dI qm pb pr pv pw ps pc cI H.size (m_th v_5, m_st v_5, m_md v_5, 16, m_rw v_5, m_sz v_5, m_wn v_5, m_sn v_5, upd (m_bi v_5) 15 a0, m_ro v_5, m_rc v_5, m_wt v_5, m_se v_5, m_cn v_5)  ) (cwV 0 hts gM_X1_look rfl rfl rfl (by decide +kernel) ⟨Nat.le_of_ble_eq_true rfl, Nat.le_of_ble_eq_true rfl⟩) ⟨fun a U g mk q => by obtain ⟨q0, q1, qP, qK, qD⟩ := q; exact ⟨q0, q1, qP, va_K.moved (u := U) (U := U.calling g mk a) (Vm.Alike.refl U.vm) qK, qD⟩, va_recv hK hP (ci := 1) (q0 := 0) rfl rfl, fun U hU hW => ⟨rfl, by rw [hU], by rw [hU]; exact hPc, va_K.moved hW.alike hK, hDc.weaken (fun _ _ _ _ => trivial)⟩⟩ rfl rfl hl.1 rfl (lv_room (Nat.le_of_ble_eq_true rfl)) dX1_bit_119 ⟨Nat.le_of_ble_eq_true rfl, Nat.le_of_ble_eq_true rfl⟩) hS (fun q _ h => hFc q h) hFc (fun  u_7 t H1 locs ht hvm hu_7 hB hz1 hk1 hS => ?_)
      obtain ⟨hP1, -, hD1⟩ := hB
      rw [ht] at hP1
      have hP : va_P (dC, dI) vwCl [(qm, .inr (1, [.int (m_th u_7), .int (m_st u_7), .int (m_md u_7), .ref pb, .int (nI (m_mn u_7)), .ref pr, .int (nI (m_rw u_7)), .ref pv, .int (nI (m_sz u_7)), .ref pw, .int (nI (m_wn u_7)), .ref ps, .int (nI (m_sn u_7)), .ref pc])), (pb, .inl (cI, 64, .inl (m_bi u_7))), (pr, .inl (cI, 259, .inl (m_ro u_7))), (pv, .inl (cI, 259, .inl (m_rc u_7))), (pw, .inl (cI, 259, .inl (m_wt u_7))), (ps, .inl (cI, 306, .inl (m_se u_7))), (pc, .inl (cI, 5, .inl (m_cn u_7)))] H1 := hP1
      have hD : va_D A [(qm, .inr (1, [.int (m_th u_7), .int (m_st u_7), .int (m_md u_7), .ref pb, .int (nI (m_mn u_7)), .ref pr, .int (nI (m_rw u_7)), .ref pv, .int (nI (m_sz u_7)), .ref pw, .int (nI (m_wn u_7)), .ref ps, .int (nI (m_sn u_7)), .ref pc])), (pb, .inl (cI, 64, .inl (m_bi u_7))), (pr, .inl (cI, 259, .inl (m_ro u_7))), (pv, .inl (cI, 259, .inl (m_rc u_7))), (pw, .inl (cI, 259, .inl (m_wt u_7))), (ps, .inl (cI, 306, .inl (m_se u_7))), (pc, .inl (cI, 5, .inl (m_cn u_7)))] := hD1.weaken (fun k q _ h => hFc q.1 h)
      generalize H1 = H at hP hS ⊢
      refine lv_iconst (v := 0) hx hb dX1_bit_122 (by decide) ?_
      have hP9 : va_P (dC, dI) vwCl (m_W qm pb pr pv pw ps pc cI u_7) H := hP
      have hD9 : va_D A (m_W qm pb pr pv pw ps pc cI u_7) := hD
      exact W.iret (v := 0) hx hb hr (fun t ht hW => ⟨⟨_, u_7, rfl, ⟨(by subst hu_7; subst hv_5; unfold m_bit_r; rw [if_neg c_1, if_pos c_2]), (by subst hu_7; subst hv_5; unfold m_bit; rw [if_neg c_1, if_pos c_2])⟩, by rw [ht]; exact hP9, va_K.moved hW.alike hK, hD9⟩, hS.F ht⟩) hS.2.2 dX1_bit_123
  · refine lv_aload_n hx hb dX1_bit_8 rfl (lv_at hl 0 rfl) ?_
    refine va_get (D := (dC, dI)) (ci := 1) (v := .ref pb) (C := RX1) (T := TX1) (N := 14) hx hb hts hinT hown hK hP 0 rfl rfl 3 (by decide) (hts _ (List.mem_cons_of_mem _ fl_7)) (fun _ h9 => h9) rfl dX1_bit_9 ?_
    refine lv_aload_n hx hb dX1_bit_12 rfl (lv_at hl 0 rfl) ?_
    refine va_get (D := (dC, dI)) (ci := 1) (v := .int (nI (m_mn u))) (C := RX1) (T := TX1) (N := 14) hx hb hts hinT hown hK hP 0 rfl rfl 4 (by decide) (hts _ (List.mem_cons_of_mem _ fl_43)) (fun _ h9 => h9) rfl dX1_bit_13 ?_
    refine lv_iload_n hx hb dX1_bit_16 rfl (lv_at hl 1 rfl) ?_
    refine va_iast hx hb hK hP hD hS 1 0 rfl rfl (vp_in_nI (by omega) (by decide)) dX1_bit_17 (fun H locs hP hD hS => ?_)
    rw [show (nI (m_mn u) : Int32).toNatClampNeg = m_mn u from (nI_clamp (by omega))] at hP hD
    have hP : va_P (dC, dI) vwCl [(qm, .inr (1, [.int (m_th u), .int (m_st u), .int (m_md u), .ref pb, .int (nI (m_mn u)), .ref pr, .int (nI (m_rw u)), .ref pv, .int (nI (m_sz u)), .ref pw, .int (nI (m_wn u)), .ref ps, .int (nI (m_sn u)), .ref pc])), (pb, .inl (cI, 64, .inl (upd (m_bi u) (m_mn u) a0))), (pr, .inl (cI, 259, .inl (m_ro u))), (pv, .inl (cI, 259, .inl (m_rc u))), (pw, .inl (cI, 259, .inl (m_wt u))), (ps, .inl (cI, 306, .inl (m_se u))), (pc, .inl (cI, 5, .inl (m_cn u)))] H := hP
    have hD : va_D A [(qm, .inr (1, [.int (m_th u), .int (m_st u), .int (m_md u), .ref pb, .int (nI (m_mn u)), .ref pr, .int (nI (m_rw u)), .ref pv, .int (nI (m_sz u)), .ref pw, .int (nI (m_wn u)), .ref ps, .int (nI (m_sn u)), .ref pc])), (pb, .inl (cI, 64, .inl (upd (m_bi u) (m_mn u) a0))), (pr, .inl (cI, 259, .inl (m_ro u))), (pv, .inl (cI, 259, .inl (m_rc u))), (pw, .inl (cI, 259, .inl (m_wt u))), (ps, .inl (cI, 306, .inl (m_se u))), (pc, .inl (cI, 5, .inl (m_cn u)))] := hD
    refine lv_aload_n hx hb dX1_bit_18 rfl (lv_at hl 0 rfl) ?_
    refine lv_dup hx hb dX1_bit_19 rfl ?_
    refine va_get (D := (dC, dI)) (ci := 1) (v := .int (nI (m_mn u))) (C := RX1) (T := TX1) (N := 14) hx hb hts hinT hown hK hP 0 rfl rfl 4 (by decide) (hts _ (List.mem_cons_of_mem _ fl_43)) (fun _ h9 => h9) rfl dX1_bit_20 ?_
    refine lv_iconst (v := 1) hx hb dX1_bit_23 (by decide) ?_
    refine lv_iadd hx hb dX1_bit_24 ?_
    refine W.eq (congrArg (fun z => F0 m 25 ls (.int z :: [.ref qm])) (show (nI (m_mn u)) + 1 = nI (m_mn u + 1) from (nI_add _ _))) ?_
    refine va_put (D := (dC, dI)) (ci := 1) (v := .int (nI (m_mn u + 1))) (ty := .int) (C := RX1) (T := TX1) (N := 14) hx hb hts hinT tyX1 tyX1_ok nmX1 hown hK hP hD hS 0 rfl rfl 4 (by decide) (hts _ (List.mem_cons_of_mem _ fl_43)) (fun _ h9 => h9) rfl (by decide +kernel) rfl rfl (Nat.le_of_ble_eq_true rfl) dX1_bit_25 (fun H locs hP hD hS => ?_)
    have hP : va_P (dC, dI) vwCl [(qm, .inr (1, [.int (m_th u), .int (m_st u), .int (m_md u), .ref pb, .int (nI (m_mn u + 1)), .ref pr, .int (nI (m_rw u)), .ref pv, .int (nI (m_sz u)), .ref pw, .int (nI (m_wn u)), .ref ps, .int (nI (m_sn u)), .ref pc])), (pb, .inl (cI, 64, .inl (upd (m_bi u) (m_mn u) a0))), (pr, .inl (cI, 259, .inl (m_ro u))), (pv, .inl (cI, 259, .inl (m_rc u))), (pw, .inl (cI, 259, .inl (m_wt u))), (ps, .inl (cI, 306, .inl (m_se u))), (pc, .inl (cI, 5, .inl (m_cn u)))] H := hP
    have hD : va_D A [(qm, .inr (1, [.int (m_th u), .int (m_st u), .int (m_md u), .ref pb, .int (nI (m_mn u + 1)), .ref pr, .int (nI (m_rw u)), .ref pv, .int (nI (m_sz u)), .ref pw, .int (nI (m_wn u)), .ref ps, .int (nI (m_sn u)), .ref pc])), (pb, .inl (cI, 64, .inl (upd (m_bi u) (m_mn u) a0))), (pr, .inl (cI, 259, .inl (m_ro u))), (pv, .inl (cI, 259, .inl (m_rc u))), (pw, .inl (cI, 259, .inl (m_wt u))), (ps, .inl (cI, 306, .inl (m_se u))), (pc, .inl (cI, 5, .inl (m_cn u)))] := hD
    refine lv_aload_n hx hb dX1_bit_28 rfl (lv_at hl 0 rfl) ?_
    refine va_get (D := (dC, dI)) (ci := 1) (v := .int (nI (m_mn u + 1))) (C := RX1) (T := TX1) (N := 14) hx hb hts hinT hown hK hP 0 rfl rfl 4 (by decide) (hts _ (List.mem_cons_of_mem _ fl_43)) (fun _ h9 => h9) rfl dX1_bit_29 ?_
    refine lv_bipush (v := 64) hx hb dX1_bit_32 (by decide) ?_
    refine lv_icmp_ne (tgt := 44) hx hb dX1_bit_34 (by decide) (fun c_8 => ?_) (fun c_8 => ?_)
    · refine lv_iconst (v := 0) hx hb dX1_bit_44 (by decide) ?_
      have hP9 : va_P (dC, dI) vwCl (m_W qm pb pr pv pw ps pc cI (m_th u, m_st u, m_md u, m_mn u + 1, m_rw u, m_sz u, m_wn u, m_sn u, upd (m_bi u) (m_mn u) a0, m_ro u, m_rc u, m_wt u, m_se u, m_cn u)) H := hP
      have hD9 : va_D A (m_W qm pb pr pv pw ps pc cI (m_th u, m_st u, m_md u, m_mn u + 1, m_rw u, m_sz u, m_wn u, m_sn u, upd (m_bi u) (m_mn u) a0, m_ro u, m_rc u, m_wt u, m_se u, m_cn u)) := hD
      exact W.iret (v := 0) hx hb hr (fun t ht hW => ⟨⟨_, (m_th u, m_st u, m_md u, m_mn u + 1, m_rw u, m_sz u, m_wn u, m_sn u, upd (m_bi u) (m_mn u) a0, m_ro u, m_rc u, m_wt u, m_se u, m_cn u), rfl, ⟨(by unfold m_bit_r; rw [if_pos c_1, if_neg c_8]), (by unfold m_bit; rw [if_pos c_1, if_neg c_8])⟩, by rw [ht]; exact hP9, va_K.moved hW.alike hK, hD9⟩, hS.F ht⟩) hS.2.2 dX1_bit_45
    · refine lv_aload_n hx hb dX1_bit_37 rfl (lv_at hl 0 rfl) ?_
      have hPc : va_P (dC, dI) vwCl (m_W qm pb pr pv pw ps pc cI (m_th u, m_st u, m_md u, m_mn u + 1, m_rw u, m_sz u, m_wn u, m_sn u, upd (m_bi u) (m_mn u) a0, m_ro u, m_rc u, m_wt u, m_se u, m_cn u)) H := hP
      have hDc : va_D A (m_W qm pb pr pv pw ps pc cI (m_th u, m_st u, m_md u, m_mn u + 1, m_rw u, m_sz u, m_wn u, m_sn u, upd (m_bi u) (m_mn u) a0, m_ro u, m_rc u, m_wt u, m_se u, m_cn u)) := hD
      have hFc := va_free (wc := (m_W qm pb pr pv pw ps pc cI (m_th u, m_st u, m_md u, m_mn u + 1, m_rw u, m_sz u, m_wn u, m_sn u, upd (m_bi u) (m_mn u) a0, m_ro u, m_rc u, m_wt u, m_se u, m_cn u))) hD hS hA [0, 1, 2, 3, 4, 5, 6] rfl
      refine va_calli (va_runV (As := []) (rest := []) ⟨hx, hb, hml, hown, hts⟩ (kX1_block l dC dI qm pb pr pv pw ps pc cI H.size (m_th u, m_st u, m_md u, m_mn u + 1, m_rw u, m_sz u, m_wn u, m_sn u, upd (m_bi u) (m_mn u) a0, m_ro u, m_rc u, m_wt u, m_se u, m_cn u)  hrw) (cwV 0 hts gM_X1_block rfl rfl rfl (by decide +kernel) ⟨Nat.le_of_ble_eq_true rfl, Nat.le_of_ble_eq_true rfl⟩) ⟨fun a U g mk q => by obtain ⟨q0, q1, qP, qK, qD⟩ := q; exact ⟨q0, q1, qP, va_K.moved (u := U) (U := U.calling g mk a) (Vm.Alike.refl U.vm) qK, qD⟩, va_recv hK hP (ci := 1) (q0 := 0) rfl rfl, fun U hU hW => ⟨rfl, by rw [hU], by rw [hU]; exact hPc, va_K.moved hW.alike hK, hDc.weaken (fun _ _ _ _ => trivial)⟩⟩ rfl rfl hl.1 rfl (lv_room (Nat.le_of_ble_eq_true rfl)) dX1_bit_38 ⟨Nat.le_of_ble_eq_true rfl, Nat.le_of_ble_eq_true rfl⟩) hS (fun q _ h => hFc q h) hFc (fun r_10 u_9 t H1 locs ht hvm hu_9 hB hz1 hk1 hS => ?_)
      obtain ⟨hP1, -, hD1⟩ := hB
      rw [ht] at hP1
      obtain ⟨hr_10, hu_9⟩ := hu_9
      subst hr_10
      have hP : va_P (dC, dI) vwCl [(qm, .inr (1, [.int (m_th u_9), .int (m_st u_9), .int (m_md u_9), .ref pb, .int (nI (m_mn u_9)), .ref pr, .int (nI (m_rw u_9)), .ref pv, .int (nI (m_sz u_9)), .ref pw, .int (nI (m_wn u_9)), .ref ps, .int (nI (m_sn u_9)), .ref pc])), (pb, .inl (cI, 64, .inl (m_bi u_9))), (pr, .inl (cI, 259, .inl (m_ro u_9))), (pv, .inl (cI, 259, .inl (m_rc u_9))), (pw, .inl (cI, 259, .inl (m_wt u_9))), (ps, .inl (cI, 306, .inl (m_se u_9))), (pc, .inl (cI, 5, .inl (m_cn u_9)))] H1 := hP1
      have hD : va_D A [(qm, .inr (1, [.int (m_th u_9), .int (m_st u_9), .int (m_md u_9), .ref pb, .int (nI (m_mn u_9)), .ref pr, .int (nI (m_rw u_9)), .ref pv, .int (nI (m_sz u_9)), .ref pw, .int (nI (m_wn u_9)), .ref ps, .int (nI (m_sn u_9)), .ref pc])), (pb, .inl (cI, 64, .inl (m_bi u_9))), (pr, .inl (cI, 259, .inl (m_ro u_9))), (pv, .inl (cI, 259, .inl (m_rc u_9))), (pw, .inl (cI, 259, .inl (m_wt u_9))), (ps, .inl (cI, 306, .inl (m_se u_9))), (pc, .inl (cI, 5, .inl (m_cn u_9)))] := hD1.weaken (fun k q _ h => hFc q.1 h)
      generalize H1 = H at hP hS ⊢
      refine lv_goto (tgt := 45) hx hb dX1_bit_41 (by decide) ?_
      have hP9 : va_P (dC, dI) vwCl (m_W qm pb pr pv pw ps pc cI u_9) H := hP
      have hD9 : va_D A (m_W qm pb pr pv pw ps pc cI u_9) := hD
      exact W.iret (v := m_block_r (m_th u, m_st u, m_md u, m_mn u + 1, m_rw u, m_sz u, m_wn u, m_sn u, upd (m_bi u) (m_mn u) a0, m_ro u, m_rc u, m_wt u, m_se u, m_cn u) ) hx hb hr (fun t ht hW => ⟨⟨_, u_9, rfl, ⟨(by subst hu_9; unfold m_bit_r; rw [if_pos c_1, if_pos c_8]), (by subst hu_9; unfold m_bit; rw [if_pos c_1, if_pos c_8])⟩, by rw [ht]; exact hP9, va_K.moved hW.alike hK, hD9⟩, hS.F ht⟩) hS.2.2 dX1_bit_45
end
section
theorem m_en_eq : ∀ (n k : Nat) (u : m_S), m_st (m_enF n k u) = m_st u ∧ m_mn (m_enF n k u) = m_mn u ∧ m_rw (m_enF n k u) = m_rw u := by
  intro n
  induction n with
  | zero => intro k u; exact ⟨rfl, rfl, rfl⟩
  | succ n ih => intro k u; rw [m_enF]; exact ih _ _
theorem m_bl_st (w : Int32) : ∀ (n k : Nat) (u : m_S), m_st (m_blF w n k u) = m_st u := by
  intro n
  induction n with
  | zero => intro k u; rfl
  | succ n ih => intro k u; rw [m_blF, ih]
theorem m_sh_f : ∀ (n k : Nat) (u : m_S), m_st (m_shF n k u) = m_st u ∧ m_rw (m_shF n k u) = m_rw u := by
  intro n
  induction n with
  | zero => intro k u; exact ⟨rfl, rfl⟩
  | succ n ih => intro k u; rw [m_shF]; exact ih _ _
theorem m_ends_f (u : m_S) : m_st (m_ends u) = 1 ∧ m_mn (m_ends u) = 0 ∧ m_rw (m_ends u) = 0 := by
  unfold m_ends
  split
  · exact ⟨rfl, rfl, rfl⟩
  · exact ⟨rfl, rfl, rfl⟩
theorem m_block_f (u : m_S) : (m_st (m_block u) = 1 ∧ m_mn (m_block u) = 0 ∧ m_rw (m_block u) = 0) ∨ (m_st (m_block u) = m_st u ∧ m_mn (m_block u) = 0 ∧ m_rw (m_block u) = m_rw u + 7 ∧ ¬ nI (m_rw u + 7) = 259) := by
  unfold m_block
  split
  · exact Or.inl (m_ends_f _)
  · split
    · split
      · exact Or.inl (m_ends_f _)
      · rename_i h
        rw [m_bl_rw] at h
        exact Or.inr ⟨m_bl_st _ _ _ _, rfl, m_bl_rw _ _ _ _, h⟩
    · split
      · exact Or.inl (m_ends_f _)
      · rename_i h
        rw [m_bl_rw] at h
        exact Or.inr ⟨m_bl_st _ _ _ _, rfl, m_bl_rw _ _ _ _, h⟩
theorem m_look_f (u : m_S) : m_look u = u ∨ (m_st (m_look u) = 2 ∧ m_mn (m_look u) = 0 ∧ m_rw (m_look u) = 0) := by
  unfold m_look
  split
  · exact Or.inr ⟨rfl, rfl, rfl⟩
  · split
    · split
      · exact Or.inl rfl
      · exact Or.inr ⟨rfl, rfl, rfl⟩
    · exact Or.inl rfl
def m_I (u : m_S) : Prop := m_mn u < 64 ∧ (¬ m_st u = 2 → m_mn u ≤ 16) ∧ ∃ k, k ≤ 36 ∧ m_rw u = 7 * k
theorem m_I_rw {u : m_S} (h : m_I u) : m_rw u ≤ 252 := by
  obtain ⟨-, -, k, h1, h2⟩ := h
  omega
theorem m_I_look {u : m_S} (h : m_I u) : m_I (m_look u) := by
  rcases m_look_f u with e | ⟨e1, e2, e3⟩
  · rw [e]; exact h
  · exact ⟨by omega, fun _ => by omega, 0, by decide, e3⟩
theorem m_bit_I {u : m_S} (h : m_I u) (b : Int32) : m_I (m_bit u b) := by
  obtain ⟨h1, h2, k, h3, h4⟩ := h
  unfold m_bit
  split
  · rename_i hs
    split
    · rcases m_block_f (m_th u, m_st u, m_md u, m_mn u + 1, m_rw u, m_sz u, m_wn u, m_sn u, upd (m_bi u) (m_mn u) b, m_ro u, m_rc u, m_wt u, m_se u, m_cn u) with ⟨e1, e2, e3⟩ | ⟨e1, e2, e3, e4⟩
      · exact ⟨by omega, fun _ => by omega, 0, by decide, e3⟩
      · have e3 : m_rw (m_block (m_th u, m_st u, m_md u, m_mn u + 1, m_rw u, m_sz u, m_wn u, m_sn u, upd (m_bi u) (m_mn u) b, m_ro u, m_rc u, m_wt u, m_se u, m_cn u)) = m_rw u + 7 := e3
        have e4 : ¬ nI (m_rw u + 7) = 259 := e4
        have e5 : m_rw u + 7 ≠ 259 := fun e => e4 (by rw [e]; rfl)
        exact ⟨by omega, fun _ => by omega, k + 1, by omega, by omega⟩
    · rename_i hn
      have e5 : m_mn u + 1 ≠ 64 := fun e => hn (by rw [e]; rfl)
      exact ⟨show m_mn u + 1 < 64 by omega, fun q => absurd hs q, k, h3, h4⟩
  · rename_i hs
    have h5 := h2 hs
    split
    · refine m_I_look ⟨show 16 < 64 by decide, fun _ => Nat.le_refl 16, k, h3, ?_⟩
      exact (m_sh_f _ _ _).2.trans h4
    · rename_i hn
      have e5 : m_mn u ≠ 16 := fun e => hn (by rw [e]; rfl)
      split
      · exact m_I_look ⟨show m_mn u + 1 < 64 by omega, fun _ => show m_mn u + 1 ≤ 16 by omega, k, h3, h4⟩
      · exact ⟨show m_mn u + 1 < 64 by omega, fun _ => show m_mn u + 1 ≤ 16 by omega, k, h3, h4⟩
end
section
abbrev rmX1_take : Room := { frames := 4, cells := 0, slots := 0, locals := 92 }
abbrev m_tb (w : Int64) (n : Nat) : Int32 := (j_lshr w (nI n)).toInt32 &&& 1
def m_tkF (w : Int64) : Nat → m_S → m_S
  | 0, u => u
  | n + 1, u => m_tkF w n (m_bit u (m_tb w n))
def m_tkE (w : Int64) : Nat → m_S → Int32 → Int32
  | 0, _, z => z
  | n + 1, u, z => m_tkE w n (m_bit u (m_tb w n)) (z + m_bit_r u (m_tb w n))
set_option maxHeartbeats 4000000 in
set_option maxRecDepth 100000 in
theorem lpX1_take {p : Program} {l : Launch} {e : Env} {s : State} {m : MethodId} {args : Array Value} {below : List Frame} {meth : Method} {c : Code} {Q : State → Prop} (dC : Nat → ClassId) (dI : Nat → Nat → Nat) (qm pb pr pv pw ps pc : Nat) (cI : ClassId) (w : Int64) (hx : p.tables.exec = Jvm.exec) (hb : c.code = cX1_take) (hml : c.maxLocals = 6) (hown : s.vm.findClass RX1 = some m.cls) (hts : ∀ w ∈ vX1_take, w.before args s = true) (A : Nat → Prop) (hA : ∀ q : Nat, s.heap.size ≤ q → A q) (hK : va_K (dC, dI) vwCl [(cI, .int)] s) : ∀ (n : Nat) (u : m_S) (x : Int32) (z : Int32) (H : Heap) (locs : List Loc) (ls : Array Slot), x = nI n + (-1) → n ≤ 64 → m_I u → va_P (dC, dI) vwCl (m_W qm pb pr pv pw ps pc cI u) H → va_D A (m_W qm pb pr pv pw ps pc cI u) → va_S A s.heap H locs → lv_has ls 6 [(0, .ref qm), (2, .long w), (4, .int z), (5, .int x)] → (∀ (H : Heap) (locs : List Loc) (ls : Array Slot), va_P (dC, dI) vwCl (m_W qm pb pr pv pw ps pc cI (m_tkF w n u)) H → va_D A (m_W qm pb pr pv pw ps pc cI (m_tkF w n u)) → va_S A s.heap H locs → lv_has ls 6 [(0, .ref qm), (4, .int (m_tkE w n u z))] → W p l e (headSpec vX1_take rmX1_take).room s m args below meth c H locs 0 0 Q (F0 m 60 ls [])) → W p l e (headSpec vX1_take rmX1_take).room s m args below meth c H locs 0 0 Q (F0 m 33 ls []) := by
  have hinT : ∀ w ∈ wsX10, w ∈ vX1_take := fun w h => List.mem_cons_of_mem _ (inM w h)
  intro n
  induction n with
  | zero =>
    intro u x z H locs ls ex hn hI hP hD hS hl kk
    have ex : x = (-1) := by rw [ex]; decide
    subst ex
    have hP : va_P (dC, dI) vwCl [(qm, .inr (1, [.int (m_th u), .int (m_st u), .int (m_md u), .ref pb, .int (nI (m_mn u)), .ref pr, .int (nI (m_rw u)), .ref pv, .int (nI (m_sz u)), .ref pw, .int (nI (m_wn u)), .ref ps, .int (nI (m_sn u)), .ref pc])), (pb, .inl (cI, 64, .inl (m_bi u))), (pr, .inl (cI, 259, .inl (m_ro u))), (pv, .inl (cI, 259, .inl (m_rc u))), (pw, .inl (cI, 259, .inl (m_wt u))), (ps, .inl (cI, 306, .inl (m_se u))), (pc, .inl (cI, 5, .inl (m_cn u)))] H := hP
    have hD : va_D A [(qm, .inr (1, [.int (m_th u), .int (m_st u), .int (m_md u), .ref pb, .int (nI (m_mn u)), .ref pr, .int (nI (m_rw u)), .ref pv, .int (nI (m_sz u)), .ref pw, .int (nI (m_wn u)), .ref ps, .int (nI (m_sn u)), .ref pc])), (pb, .inl (cI, 64, .inl (m_bi u))), (pr, .inl (cI, 259, .inl (m_ro u))), (pv, .inl (cI, 259, .inl (m_rc u))), (pw, .inl (cI, 259, .inl (m_wt u))), (ps, .inl (cI, 306, .inl (m_se u))), (pc, .inl (cI, 5, .inl (m_cn u)))] := hD
    have hl : lv_has ls 6 [(0, .ref qm), (2, .long w), (4, .int z), (5, .int (-1))] := hl
    refine lv_iload hx hb dX1_take_33 (lv_at hl 3 rfl) ?_
    refine lv_if_lt (tgt := 60) hx hb dX1_take_35 (by decide) (fun c_1 => ?_) (fun c_1 => absurd (by decide) c_1)
    exact kk H locs ls hP hD hS (lv_sub hl [0, 2] rfl)
  | succ n ih =>
    intro u x z H locs ls ex hn hI hP hD hS hl kk
    have ex : x = nI n := by rw [ex]; exact pk_m1 n
    subst ex
    have hP : va_P (dC, dI) vwCl [(qm, .inr (1, [.int (m_th u), .int (m_st u), .int (m_md u), .ref pb, .int (nI (m_mn u)), .ref pr, .int (nI (m_rw u)), .ref pv, .int (nI (m_sz u)), .ref pw, .int (nI (m_wn u)), .ref ps, .int (nI (m_sn u)), .ref pc])), (pb, .inl (cI, 64, .inl (m_bi u))), (pr, .inl (cI, 259, .inl (m_ro u))), (pv, .inl (cI, 259, .inl (m_rc u))), (pw, .inl (cI, 259, .inl (m_wt u))), (ps, .inl (cI, 306, .inl (m_se u))), (pc, .inl (cI, 5, .inl (m_cn u)))] H := hP
    have hD : va_D A [(qm, .inr (1, [.int (m_th u), .int (m_st u), .int (m_md u), .ref pb, .int (nI (m_mn u)), .ref pr, .int (nI (m_rw u)), .ref pv, .int (nI (m_sz u)), .ref pw, .int (nI (m_wn u)), .ref ps, .int (nI (m_sn u)), .ref pc])), (pb, .inl (cI, 64, .inl (m_bi u))), (pr, .inl (cI, 259, .inl (m_ro u))), (pv, .inl (cI, 259, .inl (m_rc u))), (pw, .inl (cI, 259, .inl (m_wt u))), (ps, .inl (cI, 306, .inl (m_se u))), (pc, .inl (cI, 5, .inl (m_cn u)))] := hD
    have hl : lv_has ls 6 [(0, .ref qm), (2, .long w), (4, .int z), (5, .int (nI n))] := hl
    refine lv_iload hx hb dX1_take_33 (lv_at hl 3 rfl) ?_
    refine lv_if_lt (tgt := 60) hx hb dX1_take_35 (by decide) (fun c_1 => absurd c_1 (nI_pos (by omega))) (fun c_1 => ?_)
    refine lv_iload hx hb dX1_take_38 (lv_at hl 2 rfl) ?_
    refine lv_aload_n hx hb dX1_take_40 rfl (lv_at hl 0 rfl) ?_
    refine lv_lload_n hx hb dX1_take_41 rfl (lv_at hl 1 rfl) ?_
    refine lv_iload hx hb dX1_take_42 (lv_at hl 3 rfl) ?_
    refine lv_lshr (v := j_lshr w (nI n)) hx hb dX1_take_44 rfl ?_
    refine lv_l2i (v := (j_lshr w (nI n)).toInt32) hx hb dX1_take_45 rfl ?_
    refine lv_iconst (v := 1) hx hb dX1_take_46 (by decide) ?_
    refine lv_iand hx hb dX1_take_47 ?_
    have hPc : va_P (dC, dI) vwCl (m_W qm pb pr pv pw ps pc cI u) H := hP
    have hDc : va_D A (m_W qm pb pr pv pw ps pc cI u) := hD
    have hFc := va_free (wc := (m_W qm pb pr pv pw ps pc cI u)) hD hS hA [0, 1, 2, 3, 4, 5, 6] rfl
    refine va_calli (va_runV (As := [.int (((j_lshr w (nI n)).toInt32) &&& 1)]) (rest := [.int z]) ⟨hx, hb, hml, hown, hts⟩ (kX1_bit l dC dI qm pb pr pv pw ps pc cI H.size u (((j_lshr w (nI n)).toInt32) &&& 1) hI.1 hI.2.1 (m_I_rw hI)) (cwV 1 hts gM_X1_bit rfl rfl rfl (by decide +kernel) ⟨Nat.le_of_ble_eq_true rfl, Nat.le_of_ble_eq_true rfl⟩) ⟨fun a U g mk q => by obtain ⟨q0, q1, qP, qK, qD⟩ := q; exact ⟨q0, q1, qP, va_K.moved (u := U) (U := U.calling g mk a) (Vm.Alike.refl U.vm) qK, qD⟩, va_recv hK hP (ci := 1) (q0 := 0) rfl rfl, fun U hU hW => ⟨rfl, by rw [hU], by rw [hU]; exact hPc, va_K.moved hW.alike hK, hDc.weaken (fun _ _ _ _ => trivial)⟩⟩ rfl rfl hl.1 rfl (lv_room (Nat.le_of_ble_eq_true rfl)) dX1_take_48 ⟨Nat.le_of_ble_eq_true rfl, Nat.le_of_ble_eq_true rfl⟩) hS (fun q _ h => hFc q h) hFc (fun r_3 u_2 t H1 locs ht hvm hu_2 hB hz1 hk1 hS => ?_)
    obtain ⟨hP1, -, hD1⟩ := hB
    rw [ht] at hP1
    obtain ⟨hr_3, hu_2⟩ := hu_2
    subst hr_3
    have hP : va_P (dC, dI) vwCl [(qm, .inr (1, [.int (m_th u_2), .int (m_st u_2), .int (m_md u_2), .ref pb, .int (nI (m_mn u_2)), .ref pr, .int (nI (m_rw u_2)), .ref pv, .int (nI (m_sz u_2)), .ref pw, .int (nI (m_wn u_2)), .ref ps, .int (nI (m_sn u_2)), .ref pc])), (pb, .inl (cI, 64, .inl (m_bi u_2))), (pr, .inl (cI, 259, .inl (m_ro u_2))), (pv, .inl (cI, 259, .inl (m_rc u_2))), (pw, .inl (cI, 259, .inl (m_wt u_2))), (ps, .inl (cI, 306, .inl (m_se u_2))), (pc, .inl (cI, 5, .inl (m_cn u_2)))] H1 := hP1
    have hD : va_D A [(qm, .inr (1, [.int (m_th u_2), .int (m_st u_2), .int (m_md u_2), .ref pb, .int (nI (m_mn u_2)), .ref pr, .int (nI (m_rw u_2)), .ref pv, .int (nI (m_sz u_2)), .ref pw, .int (nI (m_wn u_2)), .ref ps, .int (nI (m_sn u_2)), .ref pc])), (pb, .inl (cI, 64, .inl (m_bi u_2))), (pr, .inl (cI, 259, .inl (m_ro u_2))), (pv, .inl (cI, 259, .inl (m_rc u_2))), (pw, .inl (cI, 259, .inl (m_wt u_2))), (ps, .inl (cI, 306, .inl (m_se u_2))), (pc, .inl (cI, 5, .inl (m_cn u_2)))] := hD1.weaken (fun k q _ h => hFc q.1 h)
    generalize H1 = H at hP hS ⊢
    refine lv_iadd hx hb dX1_take_51 ?_
    refine lv_istore (lv' := [(4, .int (z + (m_bit_r u (((j_lshr w (nI n)).toInt32) &&& 1)))), (0, .ref qm), (2, .long w), (5, .int (nI n))]) hx hb dX1_take_52 hl (by decide) rfl (fun ls hl => ?_)
    refine lv_iinc (v := (nI n) + (-1)) (lv' := [(5, .int ((nI n) + (-1))), (4, .int (z + (m_bit_r u (((j_lshr w (nI n)).toInt32) &&& 1)))), (0, .ref qm), (2, .long w)]) hx hb dX1_take_54 hl (k := 3) rfl (by rw [show Int32.ofInt (-1) = (-1 : Int32) from by decide]) (by decide) rfl (fun ls hl => ?_)
    refine lv_goto (tgt := 33) hx hb dX1_take_57 (by decide) ?_
    subst hu_2
    have eF : m_tkF w (n + 1) u = m_tkF w n (m_bit u (((j_lshr w (nI n)).toInt32) &&& 1)) := by rw [m_tkF]
    have eG : m_tkE w (n + 1) u z = m_tkE w n (m_bit u (m_tb w n)) (z + m_bit_r u (m_tb w n)) := by rw [m_tkE]
    exact ih (m_bit u (((j_lshr w (nI n)).toInt32) &&& 1)) ((nI n) + (-1)) (z + (m_bit_r u (((j_lshr w (nI n)).toInt32) &&& 1))) H locs ls rfl (by omega) (m_bit_I hI _) hP hD hS (lv_sub hl [2, 3, 1, 0] rfl) (fun H locs ls hP hD hS hl => kk H locs ls (by rw [eF]; exact hP) (by rw [eF]; exact hD) hS (by rw [eG]; exact hl))
def m_take (u : m_S) (a0 : Int32) (a1 : Int64) : m_S := if (m_st u) = 0 then (0, m_st u, m_md u, m_mn u, m_rw u, m_sz u, m_wn u, m_sn u, m_bi u, m_ro u, m_rc u, m_wt u, m_se u, m_cn u) else (if a0 < 1 then (0, m_st u, m_md u, m_mn u, m_rw u, m_sz u, m_wn u, m_sn u, m_bi u, m_ro u, m_rc u, m_wt u, m_se u, m_cn u) else (if a0 ≤ 64 then (m_tkF a1 a0.toNatClampNeg (0, m_st u, m_md u, m_mn u, m_rw u, m_sz u, m_wn u, m_sn u, m_bi u, m_ro u, m_rc u, m_wt u, m_se u, m_cn u)) else (0, m_st u, m_md u, m_mn u, m_rw u, m_sz u, m_wn u, m_sn u, m_bi u, m_ro u, m_rc u, m_wt u, m_se u, m_cn u)))
def m_take_r (u : m_S) (a0 : Int32) (a1 : Int64) : Int32 := if (m_st u) = 0 then (-1) else (if a0 < 1 then (-1) else (if a0 ≤ 64 then (m_tkE a1 a0.toNatClampNeg (0, m_st u, m_md u, m_mn u, m_rw u, m_sz u, m_wn u, m_sn u, m_bi u, m_ro u, m_rc u, m_wt u, m_se u, m_cn u) 0) else (-1)))
set_option maxHeartbeats 4000000 in
set_option maxRecDepth 100000 in
theorem kX1_take (l : Launch) (dC : Nat → ClassId) (dI : Nat → Nat → Nat) (qm pb pr pv pw ps pc : Nat) (cI : ClassId) (sz : Nat) (u : m_S) (a0 : Int32) (a1 : Int64) (hI : m_I u) : Met l yX1_take vX1_take rmX1_take (va_Pc [.ref qm, .int a0, .long a1] (fun U => U.heap.size = sz ∧ va_P (dC, dI) vwCl (m_W qm pb pr pv pw ps pc cI u) U.heap ∧ va_K (dC, dI) vwCl [(cI, .int)] U ∧ va_D (fun _ => True) (m_W qm pb pr pv pw ps pc cI u))) (va_Qi (fun r u2 => r = m_take_r u a0 a1 ∧ u2 = m_take u a0 a1) (m_At dC dI (va_A (m_W qm pb pr pv pw ps pc cI u) sz) qm pb pr pv pw ps pc cI) (va_A (m_W qm pb pr pv pw ps pc cI u) sz)) 0 0 (va_A (m_W qm pb pr pv pw ps pc cI u) sz) := by
  refine Met.ofW (cc := cX1_take) (maxL := 6) (ret := some .int) (by decide) rfl ?_
  intro p e s m args below meth c s₁ B hml hv
  obtain ⟨rfl, hsz, hP, hK, hD0⟩ := hv
  have hx := B.exec
  have hb := B.bytes
  have hr := B.returns
  have hts := atoms_spec (ws := vX1_take) B.pre
  have hown : s.vm.findClass RX1 = some m.cls := findClass_of_methodNamed B.named
  have hlocks := B.notSynchronized
  have hinT : ∀ w ∈ wsX10, w ∈ vX1_take := fun w h => List.mem_cons_of_mem _ (inM w h)
  subst hsz
  have hD := hD0.self (sz := s.heap.size)
  generalize hAe : va_A (m_W qm pb pr pv pw ps pc cI u) s.heap.size = A at hD ⊢
  have hA : ∀ q : Nat, s.heap.size ≤ q → A q := fun q h => by rw [← hAe]; exact Or.inr h
  have hS : va_S A s.heap s.heap [] := va_S.rf
  have hD : va_D A [(qm, .inr (1, [.int (m_th u), .int (m_st u), .int (m_md u), .ref pb, .int (nI (m_mn u)), .ref pr, .int (nI (m_rw u)), .ref pv, .int (nI (m_sz u)), .ref pw, .int (nI (m_wn u)), .ref ps, .int (nI (m_sn u)), .ref pc])), (pb, .inl (cI, 64, .inl (m_bi u))), (pr, .inl (cI, 259, .inl (m_ro u))), (pv, .inl (cI, 259, .inl (m_rc u))), (pw, .inl (cI, 259, .inl (m_wt u))), (ps, .inl (cI, 306, .inl (m_se u))), (pc, .inl (cI, 5, .inl (m_cn u)))] := hD
  have hP : va_P (dC, dI) vwCl [(qm, .inr (1, [.int (m_th u), .int (m_st u), .int (m_md u), .ref pb, .int (nI (m_mn u)), .ref pr, .int (nI (m_rw u)), .ref pv, .int (nI (m_sz u)), .ref pw, .int (nI (m_wn u)), .ref ps, .int (nI (m_sn u)), .ref pc])), (pb, .inl (cI, 64, .inl (m_bi u))), (pr, .inl (cI, 259, .inl (m_ro u))), (pv, .inl (cI, 259, .inl (m_rc u))), (pw, .inl (cI, 259, .inl (m_wt u))), (ps, .inl (cI, 306, .inl (m_se u))), (pc, .inl (cI, 5, .inl (m_cn u)))] s.heap := hP
  have hl := lv_entry ([.ref qm, .int a0, .long a1]) (n := 6) (Nat.le_of_ble_eq_true rfl)
  rw [lg_entry_eq]
  generalize (lg_sl ([.ref qm, .int a0, .long a1]) ++ List.replicate (6 - (lg_sl ([.ref qm, .int a0, .long a1])).length) Slot.unset).toArray = ls at hl ⊢
  have hl : lv_has ls 6 [(0, .ref qm), (1, .int a0), (2, .long a1)] := hl
  refine lv_aload_n hx hb dX1_take_0 rfl (lv_at hl 0 rfl) ?_
  refine lv_iconst (v := 0) hx hb dX1_take_1 (by decide) ?_
  refine va_put (D := (dC, dI)) (ci := 1) (v := .int 0) (ty := .int) (C := RX1) (T := TX1) (N := 14) hx hb hts hinT tyX1 tyX1_ok nmX1 hown hK hP hD hS 0 rfl rfl 0 (by decide) (hts _ (List.mem_cons_of_mem _ fl_28)) (fun _ h9 => h9) rfl (by decide +kernel) rfl rfl (Nat.le_of_ble_eq_true rfl) dX1_take_2 (fun H locs hP hD hS => ?_)
  have hP : va_P (dC, dI) vwCl [(qm, .inr (1, [.int 0, .int (m_st u), .int (m_md u), .ref pb, .int (nI (m_mn u)), .ref pr, .int (nI (m_rw u)), .ref pv, .int (nI (m_sz u)), .ref pw, .int (nI (m_wn u)), .ref ps, .int (nI (m_sn u)), .ref pc])), (pb, .inl (cI, 64, .inl (m_bi u))), (pr, .inl (cI, 259, .inl (m_ro u))), (pv, .inl (cI, 259, .inl (m_rc u))), (pw, .inl (cI, 259, .inl (m_wt u))), (ps, .inl (cI, 306, .inl (m_se u))), (pc, .inl (cI, 5, .inl (m_cn u)))] H := hP
  have hD : va_D A [(qm, .inr (1, [.int 0, .int (m_st u), .int (m_md u), .ref pb, .int (nI (m_mn u)), .ref pr, .int (nI (m_rw u)), .ref pv, .int (nI (m_sz u)), .ref pw, .int (nI (m_wn u)), .ref ps, .int (nI (m_sn u)), .ref pc])), (pb, .inl (cI, 64, .inl (m_bi u))), (pr, .inl (cI, 259, .inl (m_ro u))), (pv, .inl (cI, 259, .inl (m_rc u))), (pw, .inl (cI, 259, .inl (m_wt u))), (ps, .inl (cI, 306, .inl (m_se u))), (pc, .inl (cI, 5, .inl (m_cn u)))] := hD
  refine lv_aload_n hx hb dX1_take_5 rfl (lv_at hl 0 rfl) ?_
  refine va_get (D := (dC, dI)) (ci := 1) (v := .int (m_st u)) (C := RX1) (T := TX1) (N := 14) hx hb hts hinT hown hK hP 0 rfl rfl 1 (by decide) (hts _ (List.mem_cons_of_mem _ fl_40)) (fun _ h9 => h9) rfl dX1_take_6 ?_
  refine lv_if_eq (tgt := 23) hx hb dX1_take_9 (by decide) (fun c_1 => ?_) (fun c_1 => ?_)
  · refine lv_iconst (v := (-1)) hx hb dX1_take_23 (by decide) ?_
    have hP9 : va_P (dC, dI) vwCl (m_W qm pb pr pv pw ps pc cI (0, m_st u, m_md u, m_mn u, m_rw u, m_sz u, m_wn u, m_sn u, m_bi u, m_ro u, m_rc u, m_wt u, m_se u, m_cn u)) H := hP
    have hD9 : va_D A (m_W qm pb pr pv pw ps pc cI (0, m_st u, m_md u, m_mn u, m_rw u, m_sz u, m_wn u, m_sn u, m_bi u, m_ro u, m_rc u, m_wt u, m_se u, m_cn u)) := hD
    exact W.iret (v := (-1)) hx hb hr (fun t ht hW => ⟨⟨_, (0, m_st u, m_md u, m_mn u, m_rw u, m_sz u, m_wn u, m_sn u, m_bi u, m_ro u, m_rc u, m_wt u, m_se u, m_cn u), rfl, ⟨(by unfold m_take_r; rw [if_pos c_1]), (by unfold m_take; rw [if_pos c_1])⟩, by rw [ht]; exact hP9, va_K.moved hW.alike hK, hD9⟩, hS.F ht⟩) hS.2.2 dX1_take_24
  · refine lv_iload_n hx hb dX1_take_12 rfl (lv_at hl 1 rfl) ?_
    refine lv_iconst (v := 1) hx hb dX1_take_13 (by decide) ?_
    refine lv_icmp_lt (tgt := 23) hx hb dX1_take_14 (by decide) (fun c_2 => ?_) (fun c_2 => ?_)
    · refine lv_iconst (v := (-1)) hx hb dX1_take_23 (by decide) ?_
      have hP9 : va_P (dC, dI) vwCl (m_W qm pb pr pv pw ps pc cI (0, m_st u, m_md u, m_mn u, m_rw u, m_sz u, m_wn u, m_sn u, m_bi u, m_ro u, m_rc u, m_wt u, m_se u, m_cn u)) H := hP
      have hD9 : va_D A (m_W qm pb pr pv pw ps pc cI (0, m_st u, m_md u, m_mn u, m_rw u, m_sz u, m_wn u, m_sn u, m_bi u, m_ro u, m_rc u, m_wt u, m_se u, m_cn u)) := hD
      exact W.iret (v := (-1)) hx hb hr (fun t ht hW => ⟨⟨_, (0, m_st u, m_md u, m_mn u, m_rw u, m_sz u, m_wn u, m_sn u, m_bi u, m_ro u, m_rc u, m_wt u, m_se u, m_cn u), rfl, ⟨(by unfold m_take_r; rw [if_neg c_1, if_pos c_2]), (by unfold m_take; rw [if_neg c_1, if_pos c_2])⟩, by rw [ht]; exact hP9, va_K.moved hW.alike hK, hD9⟩, hS.F ht⟩) hS.2.2 dX1_take_24
    · refine lv_iload_n hx hb dX1_take_17 rfl (lv_at hl 1 rfl) ?_
      refine lv_bipush (v := 64) hx hb dX1_take_18 (by decide) ?_
      refine lv_icmp_le (tgt := 25) hx hb dX1_take_20 (by decide) (fun c_3 => ?_) (fun c_3 => ?_)
      · refine lv_iconst (v := 0) hx hb dX1_take_25 (by decide) ?_
        refine lv_istore (lv' := [(4, .int 0), (0, .ref qm), (1, .int a0), (2, .long a1)]) hx hb dX1_take_26 hl (by decide) rfl (fun ls hl => ?_)
        refine lv_iload_n hx hb dX1_take_28 rfl (lv_at hl 2 rfl) ?_
        refine lv_iconst (v := 1) hx hb dX1_take_29 (by decide) ?_
        refine lv_isub hx hb dX1_take_30 ?_
        refine lv_istore (lv' := [(5, .int (a0 - 1)), (4, .int 0), (0, .ref qm), (1, .int a0), (2, .long a1)]) hx hb dX1_take_31 hl (by decide) rfl (fun ls hl => ?_)
        obtain ⟨ea, ha⟩ := j_take c_2 c_3
        refine lpX1_take (l := l) dC dI qm pb pr pv pw ps pc cI a1 hx hb hml hown hts A hA hK  a0.toNatClampNeg (0, m_st u, m_md u, m_mn u, m_rw u, m_sz u, m_wn u, m_sn u, m_bi u, m_ro u, m_rc u, m_wt u, m_se u, m_cn u) (a0 - 1) 0 H locs ls (by rw [← ea]; exact j_sub1 _) ha hI hP hD hS (lv_sub hl [2, 4, 1, 0] rfl) (fun H locs ls hP hD hS hl => ?_)
        obtain ⟨v_4, hv_4⟩ : ∃ z, z = m_tkF a1 a0.toNatClampNeg (0, m_st u, m_md u, m_mn u, m_rw u, m_sz u, m_wn u, m_sn u, m_bi u, m_ro u, m_rc u, m_wt u, m_se u, m_cn u) := ⟨_, rfl⟩
        rw [← hv_4] at hP hD
        have hP : va_P (dC, dI) vwCl [(qm, .inr (1, [.int (m_th v_4), .int (m_st v_4), .int (m_md v_4), .ref pb, .int (nI (m_mn v_4)), .ref pr, .int (nI (m_rw v_4)), .ref pv, .int (nI (m_sz v_4)), .ref pw, .int (nI (m_wn v_4)), .ref ps, .int (nI (m_sn v_4)), .ref pc])), (pb, .inl (cI, 64, .inl (m_bi v_4))), (pr, .inl (cI, 259, .inl (m_ro v_4))), (pv, .inl (cI, 259, .inl (m_rc v_4))), (pw, .inl (cI, 259, .inl (m_wt v_4))), (ps, .inl (cI, 306, .inl (m_se v_4))), (pc, .inl (cI, 5, .inl (m_cn v_4)))] H := hP
        have hD : va_D A [(qm, .inr (1, [.int (m_th v_4), .int (m_st v_4), .int (m_md v_4), .ref pb, .int (nI (m_mn v_4)), .ref pr, .int (nI (m_rw v_4)), .ref pv, .int (nI (m_sz v_4)), .ref pw, .int (nI (m_wn v_4)), .ref ps, .int (nI (m_sn v_4)), .ref pc])), (pb, .inl (cI, 64, .inl (m_bi v_4))), (pr, .inl (cI, 259, .inl (m_ro v_4))), (pv, .inl (cI, 259, .inl (m_rc v_4))), (pw, .inl (cI, 259, .inl (m_wt v_4))), (ps, .inl (cI, 306, .inl (m_se v_4))), (pc, .inl (cI, 5, .inl (m_cn v_4)))] := hD
        refine lv_iload hx hb dX1_take_60 (lv_at hl 1 rfl) ?_
        have hP9 : va_P (dC, dI) vwCl (m_W qm pb pr pv pw ps pc cI v_4) H := hP
        have hD9 : va_D A (m_W qm pb pr pv pw ps pc cI v_4) := hD
        exact W.iret (v := m_tkE a1 a0.toNatClampNeg (0, m_st u, m_md u, m_mn u, m_rw u, m_sz u, m_wn u, m_sn u, m_bi u, m_ro u, m_rc u, m_wt u, m_se u, m_cn u) 0) hx hb hr (fun t ht hW => ⟨⟨_, v_4, rfl, ⟨(by subst hv_4; unfold m_take_r; rw [if_neg c_1, if_neg c_2, if_pos c_3]), (by subst hv_4; unfold m_take; rw [if_neg c_1, if_neg c_2, if_pos c_3])⟩, by rw [ht]; exact hP9, va_K.moved hW.alike hK, hD9⟩, hS.F ht⟩) hS.2.2 dX1_take_62
      · refine lv_iconst (v := (-1)) hx hb dX1_take_23 (by decide) ?_
        have hP9 : va_P (dC, dI) vwCl (m_W qm pb pr pv pw ps pc cI (0, m_st u, m_md u, m_mn u, m_rw u, m_sz u, m_wn u, m_sn u, m_bi u, m_ro u, m_rc u, m_wt u, m_se u, m_cn u)) H := hP
        have hD9 : va_D A (m_W qm pb pr pv pw ps pc cI (0, m_st u, m_md u, m_mn u, m_rw u, m_sz u, m_wn u, m_sn u, m_bi u, m_ro u, m_rc u, m_wt u, m_se u, m_cn u)) := hD
        exact W.iret (v := (-1)) hx hb hr (fun t ht hW => ⟨⟨_, (0, m_st u, m_md u, m_mn u, m_rw u, m_sz u, m_wn u, m_sn u, m_bi u, m_ro u, m_rc u, m_wt u, m_se u, m_cn u), rfl, ⟨(by unfold m_take_r; rw [if_neg c_1, if_neg c_2, if_neg c_3]), (by unfold m_take; rw [if_neg c_1, if_neg c_2, if_neg c_3])⟩, by rw [ht]; exact hP9, va_K.moved hW.alike hK, hD9⟩, hS.F ht⟩) hS.2.2 dX1_take_24
end
section
abbrev rmX1_turn : Room := { frames := 1, cells := 0, slots := 0, locals := 21 }
def m_turn (u : m_S) (b : Bool) : m_S := if (m_st u) = 0 then (if (j_b b) = 0 then (0, m_st u, m_md u, m_mn u, m_rw u, m_sz u, m_wn u, m_sn u, m_bi u, m_ro u, m_rc u, m_wt u, m_se u, m_cn u) else (m_begins (0, m_st u, m_md u, m_mn u, 0, m_sz u, m_wn u, m_sn u, m_bi u, m_ro u, m_rc u, m_wt u, m_se u, m_cn u) 1)) else (if (j_b b) = 1 then (0, m_st u, m_md u, m_mn u, m_rw u, m_sz u, m_wn u, m_sn u, m_bi u, m_ro u, m_rc u, m_wt u, m_se u, m_cn u) else (if (j_b b) = 0 then (m_begins (0, m_st u, m_md u, m_mn u, 0, m_sz u, m_wn u, m_sn u, m_bi u, m_ro u, m_rc u, m_wt u, m_se u, m_cn u) 0) else (m_begins (0, m_st u, m_md u, m_mn u, 0, m_sz u, m_wn u, m_sn u, m_bi u, m_ro u, m_rc u, m_wt u, m_se u, m_cn u) 1)))
def m_turn_r (u : m_S) (b : Bool) : Int32 := if (m_st u) = 0 then (if (j_b b) = 0 then 0 else 1) else (if (j_b b) = 1 then 0 else (if (j_b b) = 0 then 1 else 1))
set_option maxHeartbeats 4000000 in
set_option maxRecDepth 100000 in
theorem kX1_turn (l : Launch) (dC : Nat → ClassId) (dI : Nat → Nat → Nat) (qm pb pr pv pw ps pc : Nat) (cI : ClassId) (sz : Nat) (u : m_S) (b : Bool) : Met l yX1_turn vX1_turn rmX1_turn (va_Pc [.ref qm, .int (j_b b)] (fun U => U.heap.size = sz ∧ va_P (dC, dI) vwCl (m_W qm pb pr pv pw ps pc cI u) U.heap ∧ va_K (dC, dI) vwCl [(cI, .int)] U ∧ va_D (fun _ => True) (m_W qm pb pr pv pw ps pc cI u))) (va_Qi (fun r u2 => r = m_turn_r u b ∧ u2 = m_turn u b) (m_At dC dI (va_A (m_W qm pb pr pv pw ps pc cI u) sz) qm pb pr pv pw ps pc cI) (va_A (m_W qm pb pr pv pw ps pc cI u) sz)) 0 0 (va_A (m_W qm pb pr pv pw ps pc cI u) sz) := by
  refine Met.ofW (cc := cX1_turn) (maxL := 2) (ret := some .boolean) (by decide) rfl ?_
  intro p e s m args below meth c s₁ B hml hv
  obtain ⟨rfl, hsz, hP, hK, hD0⟩ := hv
  have hx := B.exec
  have hb := B.bytes
  have hr := B.returns
  have hts := atoms_spec (ws := vX1_turn) B.pre
  have hown : s.vm.findClass RX1 = some m.cls := findClass_of_methodNamed B.named
  have hlocks := B.notSynchronized
  have hinT : ∀ w ∈ wsX10, w ∈ vX1_turn := fun w h => List.mem_cons_of_mem _ (inM w h)
  subst hsz
  have hD := hD0.self (sz := s.heap.size)
  generalize hAe : va_A (m_W qm pb pr pv pw ps pc cI u) s.heap.size = A at hD ⊢
  have hA : ∀ q : Nat, s.heap.size ≤ q → A q := fun q h => by rw [← hAe]; exact Or.inr h
  have hS : va_S A s.heap s.heap [] := va_S.rf
  have hD : va_D A [(qm, .inr (1, [.int (m_th u), .int (m_st u), .int (m_md u), .ref pb, .int (nI (m_mn u)), .ref pr, .int (nI (m_rw u)), .ref pv, .int (nI (m_sz u)), .ref pw, .int (nI (m_wn u)), .ref ps, .int (nI (m_sn u)), .ref pc])), (pb, .inl (cI, 64, .inl (m_bi u))), (pr, .inl (cI, 259, .inl (m_ro u))), (pv, .inl (cI, 259, .inl (m_rc u))), (pw, .inl (cI, 259, .inl (m_wt u))), (ps, .inl (cI, 306, .inl (m_se u))), (pc, .inl (cI, 5, .inl (m_cn u)))] := hD
  have hP : va_P (dC, dI) vwCl [(qm, .inr (1, [.int (m_th u), .int (m_st u), .int (m_md u), .ref pb, .int (nI (m_mn u)), .ref pr, .int (nI (m_rw u)), .ref pv, .int (nI (m_sz u)), .ref pw, .int (nI (m_wn u)), .ref ps, .int (nI (m_sn u)), .ref pc])), (pb, .inl (cI, 64, .inl (m_bi u))), (pr, .inl (cI, 259, .inl (m_ro u))), (pv, .inl (cI, 259, .inl (m_rc u))), (pw, .inl (cI, 259, .inl (m_wt u))), (ps, .inl (cI, 306, .inl (m_se u))), (pc, .inl (cI, 5, .inl (m_cn u)))] s.heap := hP
  have hl := lv_entry ([.ref qm, .int (j_b b)]) (n := 2) (Nat.le_of_ble_eq_true rfl)
  rw [lg_entry_eq]
  generalize (lg_sl ([.ref qm, .int (j_b b)]) ++ List.replicate (2 - (lg_sl ([.ref qm, .int (j_b b)])).length) Slot.unset).toArray = ls at hl ⊢
  have hl : lv_has ls 2 [(0, .ref qm), (1, .int (j_b b))] := hl
  refine lv_aload_n hx hb dX1_turn_0 rfl (lv_at hl 0 rfl) ?_
  refine lv_iconst (v := 0) hx hb dX1_turn_1 (by decide) ?_
  refine va_put (D := (dC, dI)) (ci := 1) (v := .int 0) (ty := .int) (C := RX1) (T := TX1) (N := 14) hx hb hts hinT tyX1 tyX1_ok nmX1 hown hK hP hD hS 0 rfl rfl 0 (by decide) (hts _ (List.mem_cons_of_mem _ fl_28)) (fun _ h9 => h9) rfl (by decide +kernel) rfl rfl (Nat.le_of_ble_eq_true rfl) dX1_turn_2 (fun H locs hP hD hS => ?_)
  have hP : va_P (dC, dI) vwCl [(qm, .inr (1, [.int 0, .int (m_st u), .int (m_md u), .ref pb, .int (nI (m_mn u)), .ref pr, .int (nI (m_rw u)), .ref pv, .int (nI (m_sz u)), .ref pw, .int (nI (m_wn u)), .ref ps, .int (nI (m_sn u)), .ref pc])), (pb, .inl (cI, 64, .inl (m_bi u))), (pr, .inl (cI, 259, .inl (m_ro u))), (pv, .inl (cI, 259, .inl (m_rc u))), (pw, .inl (cI, 259, .inl (m_wt u))), (ps, .inl (cI, 306, .inl (m_se u))), (pc, .inl (cI, 5, .inl (m_cn u)))] H := hP
  have hD : va_D A [(qm, .inr (1, [.int 0, .int (m_st u), .int (m_md u), .ref pb, .int (nI (m_mn u)), .ref pr, .int (nI (m_rw u)), .ref pv, .int (nI (m_sz u)), .ref pw, .int (nI (m_wn u)), .ref ps, .int (nI (m_sn u)), .ref pc])), (pb, .inl (cI, 64, .inl (m_bi u))), (pr, .inl (cI, 259, .inl (m_ro u))), (pv, .inl (cI, 259, .inl (m_rc u))), (pw, .inl (cI, 259, .inl (m_wt u))), (ps, .inl (cI, 306, .inl (m_se u))), (pc, .inl (cI, 5, .inl (m_cn u)))] := hD
  refine lv_iload_n hx hb dX1_turn_5 rfl (lv_at hl 1 rfl) ?_
  refine lv_aload_n hx hb dX1_turn_6 rfl (lv_at hl 0 rfl) ?_
  refine va_get (D := (dC, dI)) (ci := 1) (v := .int (m_st u)) (C := RX1) (T := TX1) (N := 14) hx hb hts hinT hown hK hP 0 rfl rfl 1 (by decide) (hts _ (List.mem_cons_of_mem _ fl_40)) (fun _ h9 => h9) rfl dX1_turn_7 ?_
  refine lv_if_eq (tgt := 17) hx hb dX1_turn_10 (by decide) (fun c_1 => ?_) (fun c_1 => ?_)
  · refine lv_iconst (v := 0) hx hb dX1_turn_17 (by decide) ?_
    refine lv_icmp_ne (tgt := 23) hx hb dX1_turn_18 (by decide) (fun c_2 => ?_) (fun c_2 => ?_)
    · refine lv_aload_n hx hb dX1_turn_23 rfl (lv_at hl 0 rfl) ?_
      refine lv_iconst (v := 0) hx hb dX1_turn_24 (by decide) ?_
      refine va_put (D := (dC, dI)) (ci := 1) (v := .int 0) (ty := .int) (C := RX1) (T := TX1) (N := 14) hx hb hts hinT tyX1 tyX1_ok nmX1 hown hK hP hD hS 0 rfl rfl 6 (by decide) (hts _ (List.mem_cons_of_mem _ fl_46)) (fun _ h9 => h9) rfl (by decide +kernel) rfl rfl (Nat.le_of_ble_eq_true rfl) dX1_turn_25 (fun H locs hP hD hS => ?_)
      have hP : va_P (dC, dI) vwCl [(qm, .inr (1, [.int 0, .int (m_st u), .int (m_md u), .ref pb, .int (nI (m_mn u)), .ref pr, .int 0, .ref pv, .int (nI (m_sz u)), .ref pw, .int (nI (m_wn u)), .ref ps, .int (nI (m_sn u)), .ref pc])), (pb, .inl (cI, 64, .inl (m_bi u))), (pr, .inl (cI, 259, .inl (m_ro u))), (pv, .inl (cI, 259, .inl (m_rc u))), (pw, .inl (cI, 259, .inl (m_wt u))), (ps, .inl (cI, 306, .inl (m_se u))), (pc, .inl (cI, 5, .inl (m_cn u)))] H := hP
      have hD : va_D A [(qm, .inr (1, [.int 0, .int (m_st u), .int (m_md u), .ref pb, .int (nI (m_mn u)), .ref pr, .int 0, .ref pv, .int (nI (m_sz u)), .ref pw, .int (nI (m_wn u)), .ref ps, .int (nI (m_sn u)), .ref pc])), (pb, .inl (cI, 64, .inl (m_bi u))), (pr, .inl (cI, 259, .inl (m_ro u))), (pv, .inl (cI, 259, .inl (m_rc u))), (pw, .inl (cI, 259, .inl (m_wt u))), (ps, .inl (cI, 306, .inl (m_se u))), (pc, .inl (cI, 5, .inl (m_cn u)))] := hD
      refine lv_aload_n hx hb dX1_turn_28 rfl (lv_at hl 0 rfl) ?_
      refine lv_iload_n hx hb dX1_turn_29 rfl (lv_at hl 1 rfl) ?_
      refine lv_if_eq (tgt := 37) hx hb dX1_turn_30 (by decide) (fun c_3 => absurd c_3 (c_2)) (fun c_3 => ?_)
      refine lv_iconst (v := 1) hx hb dX1_turn_33 (by decide) ?_
      refine lv_goto (tgt := 38) hx hb dX1_turn_34 (by decide) ?_
      have hPc : va_P (dC, dI) vwCl (m_W qm pb pr pv pw ps pc cI (0, m_st u, m_md u, m_mn u, 0, m_sz u, m_wn u, m_sn u, m_bi u, m_ro u, m_rc u, m_wt u, m_se u, m_cn u)) H := hP
      have hDc : va_D A (m_W qm pb pr pv pw ps pc cI (0, m_st u, m_md u, m_mn u, 0, m_sz u, m_wn u, m_sn u, m_bi u, m_ro u, m_rc u, m_wt u, m_se u, m_cn u)) := hD
      have hFc := va_free (wc := (m_W qm pb pr pv pw ps pc cI (0, m_st u, m_md u, m_mn u, 0, m_sz u, m_wn u, m_sn u, m_bi u, m_ro u, m_rc u, m_wt u, m_se u, m_cn u))) hD hS hA [0, 1, 2, 3, 4, 5, 6] rfl
      refine va_callv (va_runV (As := [.int 1]) (rest := []) ⟨hx, hb, hml, hown, hts⟩ (kX1_begins l dC dI qm pb pr pv pw ps pc cI H.size (0, m_st u, m_md u, m_mn u, 0, m_sz u, m_wn u, m_sn u, m_bi u, m_ro u, m_rc u, m_wt u, m_se u, m_cn u) 1 ) (cwV 1 hts gM_X1_begins rfl rfl rfl (by decide +kernel) ⟨Nat.le_of_ble_eq_true rfl, Nat.le_of_ble_eq_true rfl⟩) ⟨fun a U g mk q => by obtain ⟨q0, q1, qP, qK, qD⟩ := q; exact ⟨q0, q1, qP, va_K.moved (u := U) (U := U.calling g mk a) (Vm.Alike.refl U.vm) qK, qD⟩, va_recv hK hP (ci := 1) (q0 := 0) rfl rfl, fun U hU hW => ⟨rfl, by rw [hU], by rw [hU]; exact hPc, va_K.moved hW.alike hK, hDc.weaken (fun _ _ _ _ => trivial)⟩⟩ rfl rfl hl.1 rfl (lv_room (Nat.le_of_ble_eq_true rfl)) dX1_turn_38 ⟨Nat.le_of_ble_eq_true rfl, Nat.le_of_ble_eq_true rfl⟩) hS (fun q _ h => hFc q h) hFc (fun  u_4 t H1 locs ht hvm hu_4 hB hz1 hk1 hS => ?_)
      obtain ⟨hP1, -, hD1⟩ := hB
      rw [ht] at hP1
      have hP : va_P (dC, dI) vwCl [(qm, .inr (1, [.int (m_th u_4), .int (m_st u_4), .int (m_md u_4), .ref pb, .int (nI (m_mn u_4)), .ref pr, .int (nI (m_rw u_4)), .ref pv, .int (nI (m_sz u_4)), .ref pw, .int (nI (m_wn u_4)), .ref ps, .int (nI (m_sn u_4)), .ref pc])), (pb, .inl (cI, 64, .inl (m_bi u_4))), (pr, .inl (cI, 259, .inl (m_ro u_4))), (pv, .inl (cI, 259, .inl (m_rc u_4))), (pw, .inl (cI, 259, .inl (m_wt u_4))), (ps, .inl (cI, 306, .inl (m_se u_4))), (pc, .inl (cI, 5, .inl (m_cn u_4)))] H1 := hP1
      have hD : va_D A [(qm, .inr (1, [.int (m_th u_4), .int (m_st u_4), .int (m_md u_4), .ref pb, .int (nI (m_mn u_4)), .ref pr, .int (nI (m_rw u_4)), .ref pv, .int (nI (m_sz u_4)), .ref pw, .int (nI (m_wn u_4)), .ref ps, .int (nI (m_sn u_4)), .ref pc])), (pb, .inl (cI, 64, .inl (m_bi u_4))), (pr, .inl (cI, 259, .inl (m_ro u_4))), (pv, .inl (cI, 259, .inl (m_rc u_4))), (pw, .inl (cI, 259, .inl (m_wt u_4))), (ps, .inl (cI, 306, .inl (m_se u_4))), (pc, .inl (cI, 5, .inl (m_cn u_4)))] := hD1.weaken (fun k q _ h => hFc q.1 h)
      generalize H1 = H at hP hS ⊢
      refine lv_iconst (v := 1) hx hb dX1_turn_41 (by decide) ?_
      have hP9 : va_P (dC, dI) vwCl (m_W qm pb pr pv pw ps pc cI u_4) H := hP
      have hD9 : va_D A (m_W qm pb pr pv pw ps pc cI u_4) := hD
      exact W.zret (v := 1) hx hb hr (by first | rfl | decide) (fun t ht hW => ⟨⟨_, u_4, rfl, ⟨(by subst hu_4; unfold m_turn_r; rw [if_pos c_1, if_neg c_2]), (by subst hu_4; unfold m_turn; rw [if_pos c_1, if_neg c_2])⟩, by rw [ht]; exact hP9, va_K.moved hW.alike hK, hD9⟩, hS.F ht⟩) hS.2.2 dX1_turn_42
    · refine lv_iconst (v := 0) hx hb dX1_turn_21 (by decide) ?_
      have hP9 : va_P (dC, dI) vwCl (m_W qm pb pr pv pw ps pc cI (0, m_st u, m_md u, m_mn u, m_rw u, m_sz u, m_wn u, m_sn u, m_bi u, m_ro u, m_rc u, m_wt u, m_se u, m_cn u)) H := hP
      have hD9 : va_D A (m_W qm pb pr pv pw ps pc cI (0, m_st u, m_md u, m_mn u, m_rw u, m_sz u, m_wn u, m_sn u, m_bi u, m_ro u, m_rc u, m_wt u, m_se u, m_cn u)) := hD
      exact W.zret (v := 0) hx hb hr (by first | rfl | decide) (fun t ht hW => ⟨⟨_, (0, m_st u, m_md u, m_mn u, m_rw u, m_sz u, m_wn u, m_sn u, m_bi u, m_ro u, m_rc u, m_wt u, m_se u, m_cn u), rfl, ⟨(by unfold m_turn_r; rw [if_pos c_1, if_pos c_2]), (by unfold m_turn; rw [if_pos c_1, if_pos c_2])⟩, by rw [ht]; exact hP9, va_K.moved hW.alike hK, hD9⟩, hS.F ht⟩) hS.2.2 dX1_turn_22
  · refine lv_iconst (v := 1) hx hb dX1_turn_13 (by decide) ?_
    refine lv_goto (tgt := 18) hx hb dX1_turn_14 (by decide) ?_
    refine lv_icmp_ne (tgt := 23) hx hb dX1_turn_18 (by decide) (fun c_5 => ?_) (fun c_5 => ?_)
    · refine lv_aload_n hx hb dX1_turn_23 rfl (lv_at hl 0 rfl) ?_
      refine lv_iconst (v := 0) hx hb dX1_turn_24 (by decide) ?_
      refine va_put (D := (dC, dI)) (ci := 1) (v := .int 0) (ty := .int) (C := RX1) (T := TX1) (N := 14) hx hb hts hinT tyX1 tyX1_ok nmX1 hown hK hP hD hS 0 rfl rfl 6 (by decide) (hts _ (List.mem_cons_of_mem _ fl_46)) (fun _ h9 => h9) rfl (by decide +kernel) rfl rfl (Nat.le_of_ble_eq_true rfl) dX1_turn_25 (fun H locs hP hD hS => ?_)
      have hP : va_P (dC, dI) vwCl [(qm, .inr (1, [.int 0, .int (m_st u), .int (m_md u), .ref pb, .int (nI (m_mn u)), .ref pr, .int 0, .ref pv, .int (nI (m_sz u)), .ref pw, .int (nI (m_wn u)), .ref ps, .int (nI (m_sn u)), .ref pc])), (pb, .inl (cI, 64, .inl (m_bi u))), (pr, .inl (cI, 259, .inl (m_ro u))), (pv, .inl (cI, 259, .inl (m_rc u))), (pw, .inl (cI, 259, .inl (m_wt u))), (ps, .inl (cI, 306, .inl (m_se u))), (pc, .inl (cI, 5, .inl (m_cn u)))] H := hP
      have hD : va_D A [(qm, .inr (1, [.int 0, .int (m_st u), .int (m_md u), .ref pb, .int (nI (m_mn u)), .ref pr, .int 0, .ref pv, .int (nI (m_sz u)), .ref pw, .int (nI (m_wn u)), .ref ps, .int (nI (m_sn u)), .ref pc])), (pb, .inl (cI, 64, .inl (m_bi u))), (pr, .inl (cI, 259, .inl (m_ro u))), (pv, .inl (cI, 259, .inl (m_rc u))), (pw, .inl (cI, 259, .inl (m_wt u))), (ps, .inl (cI, 306, .inl (m_se u))), (pc, .inl (cI, 5, .inl (m_cn u)))] := hD
      refine lv_aload_n hx hb dX1_turn_28 rfl (lv_at hl 0 rfl) ?_
      refine lv_iload_n hx hb dX1_turn_29 rfl (lv_at hl 1 rfl) ?_
      refine lv_if_eq (tgt := 37) hx hb dX1_turn_30 (by decide) (fun c_6 => ?_) (fun c_6 => ?_)
      · refine lv_iconst (v := 0) hx hb dX1_turn_37 (by decide) ?_
        have hPc : va_P (dC, dI) vwCl (m_W qm pb pr pv pw ps pc cI (0, m_st u, m_md u, m_mn u, 0, m_sz u, m_wn u, m_sn u, m_bi u, m_ro u, m_rc u, m_wt u, m_se u, m_cn u)) H := hP
        have hDc : va_D A (m_W qm pb pr pv pw ps pc cI (0, m_st u, m_md u, m_mn u, 0, m_sz u, m_wn u, m_sn u, m_bi u, m_ro u, m_rc u, m_wt u, m_se u, m_cn u)) := hD
        have hFc := va_free (wc := (m_W qm pb pr pv pw ps pc cI (0, m_st u, m_md u, m_mn u, 0, m_sz u, m_wn u, m_sn u, m_bi u, m_ro u, m_rc u, m_wt u, m_se u, m_cn u))) hD hS hA [0, 1, 2, 3, 4, 5, 6] rfl
        refine va_callv (va_runV (As := [.int 0]) (rest := []) ⟨hx, hb, hml, hown, hts⟩ (kX1_begins l dC dI qm pb pr pv pw ps pc cI H.size (0, m_st u, m_md u, m_mn u, 0, m_sz u, m_wn u, m_sn u, m_bi u, m_ro u, m_rc u, m_wt u, m_se u, m_cn u) 0 ) (cwV 1 hts gM_X1_begins rfl rfl rfl (by decide +kernel) ⟨Nat.le_of_ble_eq_true rfl, Nat.le_of_ble_eq_true rfl⟩) ⟨fun a U g mk q => by obtain ⟨q0, q1, qP, qK, qD⟩ := q; exact ⟨q0, q1, qP, va_K.moved (u := U) (U := U.calling g mk a) (Vm.Alike.refl U.vm) qK, qD⟩, va_recv hK hP (ci := 1) (q0 := 0) rfl rfl, fun U hU hW => ⟨rfl, by rw [hU], by rw [hU]; exact hPc, va_K.moved hW.alike hK, hDc.weaken (fun _ _ _ _ => trivial)⟩⟩ rfl rfl hl.1 rfl (lv_room (Nat.le_of_ble_eq_true rfl)) dX1_turn_38 ⟨Nat.le_of_ble_eq_true rfl, Nat.le_of_ble_eq_true rfl⟩) hS (fun q _ h => hFc q h) hFc (fun  u_7 t H1 locs ht hvm hu_7 hB hz1 hk1 hS => ?_)
        obtain ⟨hP1, -, hD1⟩ := hB
        rw [ht] at hP1
        have hP : va_P (dC, dI) vwCl [(qm, .inr (1, [.int (m_th u_7), .int (m_st u_7), .int (m_md u_7), .ref pb, .int (nI (m_mn u_7)), .ref pr, .int (nI (m_rw u_7)), .ref pv, .int (nI (m_sz u_7)), .ref pw, .int (nI (m_wn u_7)), .ref ps, .int (nI (m_sn u_7)), .ref pc])), (pb, .inl (cI, 64, .inl (m_bi u_7))), (pr, .inl (cI, 259, .inl (m_ro u_7))), (pv, .inl (cI, 259, .inl (m_rc u_7))), (pw, .inl (cI, 259, .inl (m_wt u_7))), (ps, .inl (cI, 306, .inl (m_se u_7))), (pc, .inl (cI, 5, .inl (m_cn u_7)))] H1 := hP1
        have hD : va_D A [(qm, .inr (1, [.int (m_th u_7), .int (m_st u_7), .int (m_md u_7), .ref pb, .int (nI (m_mn u_7)), .ref pr, .int (nI (m_rw u_7)), .ref pv, .int (nI (m_sz u_7)), .ref pw, .int (nI (m_wn u_7)), .ref ps, .int (nI (m_sn u_7)), .ref pc])), (pb, .inl (cI, 64, .inl (m_bi u_7))), (pr, .inl (cI, 259, .inl (m_ro u_7))), (pv, .inl (cI, 259, .inl (m_rc u_7))), (pw, .inl (cI, 259, .inl (m_wt u_7))), (ps, .inl (cI, 306, .inl (m_se u_7))), (pc, .inl (cI, 5, .inl (m_cn u_7)))] := hD1.weaken (fun k q _ h => hFc q.1 h)
        generalize H1 = H at hP hS ⊢
        refine lv_iconst (v := 1) hx hb dX1_turn_41 (by decide) ?_
        have hP9 : va_P (dC, dI) vwCl (m_W qm pb pr pv pw ps pc cI u_7) H := hP
        have hD9 : va_D A (m_W qm pb pr pv pw ps pc cI u_7) := hD
        exact W.zret (v := 1) hx hb hr (by first | rfl | decide) (fun t ht hW => ⟨⟨_, u_7, rfl, ⟨(by subst hu_7; unfold m_turn_r; rw [if_neg c_1, if_neg c_5, if_pos c_6]), (by subst hu_7; unfold m_turn; rw [if_neg c_1, if_neg c_5, if_pos c_6])⟩, by rw [ht]; exact hP9, va_K.moved hW.alike hK, hD9⟩, hS.F ht⟩) hS.2.2 dX1_turn_42
      · refine lv_iconst (v := 1) hx hb dX1_turn_33 (by decide) ?_
        refine lv_goto (tgt := 38) hx hb dX1_turn_34 (by decide) ?_
        have hPc : va_P (dC, dI) vwCl (m_W qm pb pr pv pw ps pc cI (0, m_st u, m_md u, m_mn u, 0, m_sz u, m_wn u, m_sn u, m_bi u, m_ro u, m_rc u, m_wt u, m_se u, m_cn u)) H := hP
        have hDc : va_D A (m_W qm pb pr pv pw ps pc cI (0, m_st u, m_md u, m_mn u, 0, m_sz u, m_wn u, m_sn u, m_bi u, m_ro u, m_rc u, m_wt u, m_se u, m_cn u)) := hD
        have hFc := va_free (wc := (m_W qm pb pr pv pw ps pc cI (0, m_st u, m_md u, m_mn u, 0, m_sz u, m_wn u, m_sn u, m_bi u, m_ro u, m_rc u, m_wt u, m_se u, m_cn u))) hD hS hA [0, 1, 2, 3, 4, 5, 6] rfl
        refine va_callv (va_runV (As := [.int 1]) (rest := []) ⟨hx, hb, hml, hown, hts⟩ (kX1_begins l dC dI qm pb pr pv pw ps pc cI H.size (0, m_st u, m_md u, m_mn u, 0, m_sz u, m_wn u, m_sn u, m_bi u, m_ro u, m_rc u, m_wt u, m_se u, m_cn u) 1 ) (cwV 1 hts gM_X1_begins rfl rfl rfl (by decide +kernel) ⟨Nat.le_of_ble_eq_true rfl, Nat.le_of_ble_eq_true rfl⟩) ⟨fun a U g mk q => by obtain ⟨q0, q1, qP, qK, qD⟩ := q; exact ⟨q0, q1, qP, va_K.moved (u := U) (U := U.calling g mk a) (Vm.Alike.refl U.vm) qK, qD⟩, va_recv hK hP (ci := 1) (q0 := 0) rfl rfl, fun U hU hW => ⟨rfl, by rw [hU], by rw [hU]; exact hPc, va_K.moved hW.alike hK, hDc.weaken (fun _ _ _ _ => trivial)⟩⟩ rfl rfl hl.1 rfl (lv_room (Nat.le_of_ble_eq_true rfl)) dX1_turn_38 ⟨Nat.le_of_ble_eq_true rfl, Nat.le_of_ble_eq_true rfl⟩) hS (fun q _ h => hFc q h) hFc (fun  u_8 t H1 locs ht hvm hu_8 hB hz1 hk1 hS => ?_)
        obtain ⟨hP1, -, hD1⟩ := hB
        rw [ht] at hP1
        have hP : va_P (dC, dI) vwCl [(qm, .inr (1, [.int (m_th u_8), .int (m_st u_8), .int (m_md u_8), .ref pb, .int (nI (m_mn u_8)), .ref pr, .int (nI (m_rw u_8)), .ref pv, .int (nI (m_sz u_8)), .ref pw, .int (nI (m_wn u_8)), .ref ps, .int (nI (m_sn u_8)), .ref pc])), (pb, .inl (cI, 64, .inl (m_bi u_8))), (pr, .inl (cI, 259, .inl (m_ro u_8))), (pv, .inl (cI, 259, .inl (m_rc u_8))), (pw, .inl (cI, 259, .inl (m_wt u_8))), (ps, .inl (cI, 306, .inl (m_se u_8))), (pc, .inl (cI, 5, .inl (m_cn u_8)))] H1 := hP1
        have hD : va_D A [(qm, .inr (1, [.int (m_th u_8), .int (m_st u_8), .int (m_md u_8), .ref pb, .int (nI (m_mn u_8)), .ref pr, .int (nI (m_rw u_8)), .ref pv, .int (nI (m_sz u_8)), .ref pw, .int (nI (m_wn u_8)), .ref ps, .int (nI (m_sn u_8)), .ref pc])), (pb, .inl (cI, 64, .inl (m_bi u_8))), (pr, .inl (cI, 259, .inl (m_ro u_8))), (pv, .inl (cI, 259, .inl (m_rc u_8))), (pw, .inl (cI, 259, .inl (m_wt u_8))), (ps, .inl (cI, 306, .inl (m_se u_8))), (pc, .inl (cI, 5, .inl (m_cn u_8)))] := hD1.weaken (fun k q _ h => hFc q.1 h)
        generalize H1 = H at hP hS ⊢
        refine lv_iconst (v := 1) hx hb dX1_turn_41 (by decide) ?_
        have hP9 : va_P (dC, dI) vwCl (m_W qm pb pr pv pw ps pc cI u_8) H := hP
        have hD9 : va_D A (m_W qm pb pr pv pw ps pc cI u_8) := hD
        exact W.zret (v := 1) hx hb hr (by first | rfl | decide) (fun t ht hW => ⟨⟨_, u_8, rfl, ⟨(by subst hu_8; unfold m_turn_r; rw [if_neg c_1, if_neg c_5, if_neg c_6]), (by subst hu_8; unfold m_turn; rw [if_neg c_1, if_neg c_5, if_neg c_6])⟩, by rw [ht]; exact hP9, va_K.moved hW.alike hK, hD9⟩, hS.F ht⟩) hS.2.2 dX1_turn_42
    · refine lv_iconst (v := 0) hx hb dX1_turn_21 (by decide) ?_
      have hP9 : va_P (dC, dI) vwCl (m_W qm pb pr pv pw ps pc cI (0, m_st u, m_md u, m_mn u, m_rw u, m_sz u, m_wn u, m_sn u, m_bi u, m_ro u, m_rc u, m_wt u, m_se u, m_cn u)) H := hP
      have hD9 : va_D A (m_W qm pb pr pv pw ps pc cI (0, m_st u, m_md u, m_mn u, m_rw u, m_sz u, m_wn u, m_sn u, m_bi u, m_ro u, m_rc u, m_wt u, m_se u, m_cn u)) := hD
      exact W.zret (v := 0) hx hb hr (by first | rfl | decide) (fun t ht hW => ⟨⟨_, (0, m_st u, m_md u, m_mn u, m_rw u, m_sz u, m_wn u, m_sn u, m_bi u, m_ro u, m_rc u, m_wt u, m_se u, m_cn u), rfl, ⟨(by unfold m_turn_r; rw [if_neg c_1, if_pos c_5]), (by unfold m_turn; rw [if_neg c_1, if_pos c_5])⟩, by rw [ht]; exact hP9, va_K.moved hW.alike hK, hD9⟩, hS.F ht⟩) hS.2.2 dX1_turn_22

abbrev rmX1_mending : Room := { frames := 0, cells := 0, slots := 0, locals := 0 }
def m_mending (u : m_S) (b : Bool) : m_S := (0, m_st u, j_b b, m_mn u, m_rw u, m_sz u, m_wn u, m_sn u, m_bi u, m_ro u, m_rc u, m_wt u, m_se u, m_cn u)
set_option maxHeartbeats 4000000 in
set_option maxRecDepth 100000 in
theorem kX1_mending (l : Launch) (dC : Nat → ClassId) (dI : Nat → Nat → Nat) (qm pb pr pv pw ps pc : Nat) (cI : ClassId) (sz : Nat) (u : m_S) (b : Bool) : Met l yX1_mending vX1_mending rmX1_mending (va_Pc [.ref qm, .int (j_b b)] (fun U => U.heap.size = sz ∧ va_P (dC, dI) vwCl (m_W qm pb pr pv pw ps pc cI u) U.heap ∧ va_K (dC, dI) vwCl [(cI, .int)] U ∧ va_D (fun _ => True) (m_W qm pb pr pv pw ps pc cI u))) (va_Qv (fun u2 => u2 = m_mending u b) (m_At dC dI (va_A (m_W qm pb pr pv pw ps pc cI u) sz) qm pb pr pv pw ps pc cI) (va_A (m_W qm pb pr pv pw ps pc cI u) sz)) 0 0 (va_A (m_W qm pb pr pv pw ps pc cI u) sz) := by
  refine Met.ofW (cc := cX1_mending) (maxL := 2) (ret := none) (by decide) rfl ?_
  intro p e s m args below meth c s₁ B hml hv
  obtain ⟨rfl, hsz, hP, hK, hD0⟩ := hv
  have hx := B.exec
  have hb := B.bytes
  have hr := B.returns
  have hts := atoms_spec (ws := vX1_mending) B.pre
  have hown : s.vm.findClass RX1 = some m.cls := findClass_of_methodNamed B.named
  have hlocks := B.notSynchronized
  have hinT : ∀ w ∈ wsX10, w ∈ vX1_mending := fun w h => List.mem_cons_of_mem _ (inM w h)
  subst hsz
  have hD := hD0.self (sz := s.heap.size)
  generalize hAe : va_A (m_W qm pb pr pv pw ps pc cI u) s.heap.size = A at hD ⊢
  have hA : ∀ q : Nat, s.heap.size ≤ q → A q := fun q h => by rw [← hAe]; exact Or.inr h
  have hS : va_S A s.heap s.heap [] := va_S.rf
  have hD : va_D A [(qm, .inr (1, [.int (m_th u), .int (m_st u), .int (m_md u), .ref pb, .int (nI (m_mn u)), .ref pr, .int (nI (m_rw u)), .ref pv, .int (nI (m_sz u)), .ref pw, .int (nI (m_wn u)), .ref ps, .int (nI (m_sn u)), .ref pc])), (pb, .inl (cI, 64, .inl (m_bi u))), (pr, .inl (cI, 259, .inl (m_ro u))), (pv, .inl (cI, 259, .inl (m_rc u))), (pw, .inl (cI, 259, .inl (m_wt u))), (ps, .inl (cI, 306, .inl (m_se u))), (pc, .inl (cI, 5, .inl (m_cn u)))] := hD
  have hP : va_P (dC, dI) vwCl [(qm, .inr (1, [.int (m_th u), .int (m_st u), .int (m_md u), .ref pb, .int (nI (m_mn u)), .ref pr, .int (nI (m_rw u)), .ref pv, .int (nI (m_sz u)), .ref pw, .int (nI (m_wn u)), .ref ps, .int (nI (m_sn u)), .ref pc])), (pb, .inl (cI, 64, .inl (m_bi u))), (pr, .inl (cI, 259, .inl (m_ro u))), (pv, .inl (cI, 259, .inl (m_rc u))), (pw, .inl (cI, 259, .inl (m_wt u))), (ps, .inl (cI, 306, .inl (m_se u))), (pc, .inl (cI, 5, .inl (m_cn u)))] s.heap := hP
  have hl := lv_entry ([.ref qm, .int (j_b b)]) (n := 2) (Nat.le_of_ble_eq_true rfl)
  rw [lg_entry_eq]
  generalize (lg_sl ([.ref qm, .int (j_b b)]) ++ List.replicate (2 - (lg_sl ([.ref qm, .int (j_b b)])).length) Slot.unset).toArray = ls at hl ⊢
  have hl : lv_has ls 2 [(0, .ref qm), (1, .int (j_b b))] := hl
  refine lv_aload_n hx hb dX1_mending_0 rfl (lv_at hl 0 rfl) ?_
  refine lv_iconst (v := 0) hx hb dX1_mending_1 (by decide) ?_
  refine va_put (D := (dC, dI)) (ci := 1) (v := .int 0) (ty := .int) (C := RX1) (T := TX1) (N := 14) hx hb hts hinT tyX1 tyX1_ok nmX1 hown hK hP hD hS 0 rfl rfl 0 (by decide) (hts _ (List.mem_cons_of_mem _ fl_28)) (fun _ h9 => h9) rfl (by decide +kernel) rfl rfl (Nat.le_of_ble_eq_true rfl) dX1_mending_2 (fun H locs hP hD hS => ?_)
  have hP : va_P (dC, dI) vwCl [(qm, .inr (1, [.int 0, .int (m_st u), .int (m_md u), .ref pb, .int (nI (m_mn u)), .ref pr, .int (nI (m_rw u)), .ref pv, .int (nI (m_sz u)), .ref pw, .int (nI (m_wn u)), .ref ps, .int (nI (m_sn u)), .ref pc])), (pb, .inl (cI, 64, .inl (m_bi u))), (pr, .inl (cI, 259, .inl (m_ro u))), (pv, .inl (cI, 259, .inl (m_rc u))), (pw, .inl (cI, 259, .inl (m_wt u))), (ps, .inl (cI, 306, .inl (m_se u))), (pc, .inl (cI, 5, .inl (m_cn u)))] H := hP
  have hD : va_D A [(qm, .inr (1, [.int 0, .int (m_st u), .int (m_md u), .ref pb, .int (nI (m_mn u)), .ref pr, .int (nI (m_rw u)), .ref pv, .int (nI (m_sz u)), .ref pw, .int (nI (m_wn u)), .ref ps, .int (nI (m_sn u)), .ref pc])), (pb, .inl (cI, 64, .inl (m_bi u))), (pr, .inl (cI, 259, .inl (m_ro u))), (pv, .inl (cI, 259, .inl (m_rc u))), (pw, .inl (cI, 259, .inl (m_wt u))), (ps, .inl (cI, 306, .inl (m_se u))), (pc, .inl (cI, 5, .inl (m_cn u)))] := hD
  refine lv_aload_n hx hb dX1_mending_5 rfl (lv_at hl 0 rfl) ?_
  refine lv_iload_n hx hb dX1_mending_6 rfl (lv_at hl 1 rfl) ?_
  refine va_put (D := (dC, dI)) (ci := 1) (v := .int (j_b b)) (ty := .boolean) (C := RX1) (T := TX1) (N := 14) hx hb hts hinT tyX1 tyX1_ok nmX1 hown hK hP hD hS 0 rfl rfl 2 (by decide) (hts _ (List.mem_cons_of_mem _ fl_36)) (fun _ h9 => h9) rfl (by decide +kernel) (by cases b <;> rfl) (by cases b <;> rfl) (Nat.le_of_ble_eq_true rfl) dX1_mending_7 (fun H locs hP hD hS => ?_)
  have hP : va_P (dC, dI) vwCl [(qm, .inr (1, [.int 0, .int (m_st u), .int (j_b b), .ref pb, .int (nI (m_mn u)), .ref pr, .int (nI (m_rw u)), .ref pv, .int (nI (m_sz u)), .ref pw, .int (nI (m_wn u)), .ref ps, .int (nI (m_sn u)), .ref pc])), (pb, .inl (cI, 64, .inl (m_bi u))), (pr, .inl (cI, 259, .inl (m_ro u))), (pv, .inl (cI, 259, .inl (m_rc u))), (pw, .inl (cI, 259, .inl (m_wt u))), (ps, .inl (cI, 306, .inl (m_se u))), (pc, .inl (cI, 5, .inl (m_cn u)))] H := hP
  have hD : va_D A [(qm, .inr (1, [.int 0, .int (m_st u), .int (j_b b), .ref pb, .int (nI (m_mn u)), .ref pr, .int (nI (m_rw u)), .ref pv, .int (nI (m_sz u)), .ref pw, .int (nI (m_wn u)), .ref ps, .int (nI (m_sn u)), .ref pc])), (pb, .inl (cI, 64, .inl (m_bi u))), (pr, .inl (cI, 259, .inl (m_ro u))), (pv, .inl (cI, 259, .inl (m_rc u))), (pw, .inl (cI, 259, .inl (m_wt u))), (ps, .inl (cI, 306, .inl (m_se u))), (pc, .inl (cI, 5, .inl (m_cn u)))] := hD
  have hP9 : va_P (dC, dI) vwCl (m_W qm pb pr pv pw ps pc cI (0, m_st u, j_b b, m_mn u, m_rw u, m_sz u, m_wn u, m_sn u, m_bi u, m_ro u, m_rc u, m_wt u, m_se u, m_cn u)) H := hP
  have hD9 : va_D A (m_W qm pb pr pv pw ps pc cI (0, m_st u, j_b b, m_mn u, m_rw u, m_sz u, m_wn u, m_sn u, m_bi u, m_ro u, m_rc u, m_wt u, m_se u, m_cn u)) := hD
  exact W.vret hx hb hr (fun t ht hW => ⟨⟨(0, m_st u, j_b b, m_mn u, m_rw u, m_sz u, m_wn u, m_sn u, m_bi u, m_ro u, m_rc u, m_wt u, m_se u, m_cn u), rfl, (rfl), by rw [ht]; exact hP9, va_K.moved hW.alike hK, hD9⟩, hS.F ht⟩) hS.2.2 dX1_mending_10

abbrev rmX1_state : Room := { frames := 0, cells := 0, slots := 0, locals := 0 }
def m_state (u : m_S)  : m_S := (0, m_st u, m_md u, m_mn u, m_rw u, m_sz u, m_wn u, m_sn u, m_bi u, m_ro u, m_rc u, m_wt u, m_se u, m_cn u)
def m_state_r (u : m_S)  : Int32 := m_st u
set_option maxHeartbeats 4000000 in
set_option maxRecDepth 100000 in
theorem kX1_state (l : Launch) (dC : Nat → ClassId) (dI : Nat → Nat → Nat) (qm pb pr pv pw ps pc : Nat) (cI : ClassId) (sz : Nat) (u : m_S)  : Met l yX1_state vX1_state rmX1_state (va_Pc [.ref qm] (fun U => U.heap.size = sz ∧ va_P (dC, dI) vwCl (m_W qm pb pr pv pw ps pc cI u) U.heap ∧ va_K (dC, dI) vwCl [(cI, .int)] U ∧ va_D (fun _ => True) (m_W qm pb pr pv pw ps pc cI u))) (va_Qi (fun r u2 => r = m_state_r u ∧ u2 = m_state u) (m_At dC dI (va_A (m_W qm pb pr pv pw ps pc cI u) sz) qm pb pr pv pw ps pc cI) (va_A (m_W qm pb pr pv pw ps pc cI u) sz)) 0 0 (va_A (m_W qm pb pr pv pw ps pc cI u) sz) := by
  refine Met.ofW (cc := cX1_state) (maxL := 1) (ret := some .int) (by decide) rfl ?_
  intro p e s m args below meth c s₁ B hml hv
  obtain ⟨rfl, hsz, hP, hK, hD0⟩ := hv
  have hx := B.exec
  have hb := B.bytes
  have hr := B.returns
  have hts := atoms_spec (ws := vX1_state) B.pre
  have hown : s.vm.findClass RX1 = some m.cls := findClass_of_methodNamed B.named
  have hlocks := B.notSynchronized
  have hinT : ∀ w ∈ wsX10, w ∈ vX1_state := fun w h => List.mem_cons_of_mem _ (inM w h)
  subst hsz
  have hD := hD0.self (sz := s.heap.size)
  generalize hAe : va_A (m_W qm pb pr pv pw ps pc cI u) s.heap.size = A at hD ⊢
  have hA : ∀ q : Nat, s.heap.size ≤ q → A q := fun q h => by rw [← hAe]; exact Or.inr h
  have hS : va_S A s.heap s.heap [] := va_S.rf
  have hD : va_D A [(qm, .inr (1, [.int (m_th u), .int (m_st u), .int (m_md u), .ref pb, .int (nI (m_mn u)), .ref pr, .int (nI (m_rw u)), .ref pv, .int (nI (m_sz u)), .ref pw, .int (nI (m_wn u)), .ref ps, .int (nI (m_sn u)), .ref pc])), (pb, .inl (cI, 64, .inl (m_bi u))), (pr, .inl (cI, 259, .inl (m_ro u))), (pv, .inl (cI, 259, .inl (m_rc u))), (pw, .inl (cI, 259, .inl (m_wt u))), (ps, .inl (cI, 306, .inl (m_se u))), (pc, .inl (cI, 5, .inl (m_cn u)))] := hD
  have hP : va_P (dC, dI) vwCl [(qm, .inr (1, [.int (m_th u), .int (m_st u), .int (m_md u), .ref pb, .int (nI (m_mn u)), .ref pr, .int (nI (m_rw u)), .ref pv, .int (nI (m_sz u)), .ref pw, .int (nI (m_wn u)), .ref ps, .int (nI (m_sn u)), .ref pc])), (pb, .inl (cI, 64, .inl (m_bi u))), (pr, .inl (cI, 259, .inl (m_ro u))), (pv, .inl (cI, 259, .inl (m_rc u))), (pw, .inl (cI, 259, .inl (m_wt u))), (ps, .inl (cI, 306, .inl (m_se u))), (pc, .inl (cI, 5, .inl (m_cn u)))] s.heap := hP
  have hl := lv_entry ([.ref qm]) (n := 1) (Nat.le_of_ble_eq_true rfl)
  rw [lg_entry_eq]
  generalize (lg_sl ([.ref qm]) ++ List.replicate (1 - (lg_sl ([.ref qm])).length) Slot.unset).toArray = ls at hl ⊢
  have hl : lv_has ls 1 [(0, .ref qm)] := hl
  refine lv_aload_n hx hb dX1_state_0 rfl (lv_at hl 0 rfl) ?_
  refine lv_iconst (v := 0) hx hb dX1_state_1 (by decide) ?_
  refine va_put (D := (dC, dI)) (ci := 1) (v := .int 0) (ty := .int) (C := RX1) (T := TX1) (N := 14) hx hb hts hinT tyX1 tyX1_ok nmX1 hown hK hP hD hS 0 rfl rfl 0 (by decide) (hts _ (List.mem_cons_of_mem _ fl_28)) (fun _ h9 => h9) rfl (by decide +kernel) rfl rfl (Nat.le_of_ble_eq_true rfl) dX1_state_2 (fun H locs hP hD hS => ?_)
  have hP : va_P (dC, dI) vwCl [(qm, .inr (1, [.int 0, .int (m_st u), .int (m_md u), .ref pb, .int (nI (m_mn u)), .ref pr, .int (nI (m_rw u)), .ref pv, .int (nI (m_sz u)), .ref pw, .int (nI (m_wn u)), .ref ps, .int (nI (m_sn u)), .ref pc])), (pb, .inl (cI, 64, .inl (m_bi u))), (pr, .inl (cI, 259, .inl (m_ro u))), (pv, .inl (cI, 259, .inl (m_rc u))), (pw, .inl (cI, 259, .inl (m_wt u))), (ps, .inl (cI, 306, .inl (m_se u))), (pc, .inl (cI, 5, .inl (m_cn u)))] H := hP
  have hD : va_D A [(qm, .inr (1, [.int 0, .int (m_st u), .int (m_md u), .ref pb, .int (nI (m_mn u)), .ref pr, .int (nI (m_rw u)), .ref pv, .int (nI (m_sz u)), .ref pw, .int (nI (m_wn u)), .ref ps, .int (nI (m_sn u)), .ref pc])), (pb, .inl (cI, 64, .inl (m_bi u))), (pr, .inl (cI, 259, .inl (m_ro u))), (pv, .inl (cI, 259, .inl (m_rc u))), (pw, .inl (cI, 259, .inl (m_wt u))), (ps, .inl (cI, 306, .inl (m_se u))), (pc, .inl (cI, 5, .inl (m_cn u)))] := hD
  refine lv_aload_n hx hb dX1_state_5 rfl (lv_at hl 0 rfl) ?_
  refine va_get (D := (dC, dI)) (ci := 1) (v := .int (m_st u)) (C := RX1) (T := TX1) (N := 14) hx hb hts hinT hown hK hP 0 rfl rfl 1 (by decide) (hts _ (List.mem_cons_of_mem _ fl_40)) (fun _ h9 => h9) rfl dX1_state_6 ?_
  have hP9 : va_P (dC, dI) vwCl (m_W qm pb pr pv pw ps pc cI (0, m_st u, m_md u, m_mn u, m_rw u, m_sz u, m_wn u, m_sn u, m_bi u, m_ro u, m_rc u, m_wt u, m_se u, m_cn u)) H := hP
  have hD9 : va_D A (m_W qm pb pr pv pw ps pc cI (0, m_st u, m_md u, m_mn u, m_rw u, m_sz u, m_wn u, m_sn u, m_bi u, m_ro u, m_rc u, m_wt u, m_se u, m_cn u)) := hD
  exact W.iret (v := m_st u) hx hb hr (fun t ht hW => ⟨⟨_, (0, m_st u, m_md u, m_mn u, m_rw u, m_sz u, m_wn u, m_sn u, m_bi u, m_ro u, m_rc u, m_wt u, m_se u, m_cn u), rfl, ⟨(rfl), (rfl)⟩, by rw [ht]; exact hP9, va_K.moved hW.alike hK, hD9⟩, hS.F ht⟩) hS.2.2 dX1_state_9

abbrev rmX1_count : Room := { frames := 0, cells := 0, slots := 0, locals := 0 }
def m_count (u : m_S) (a0 : Int32) : m_S := if a0 < 0 then (0, m_st u, m_md u, m_mn u, m_rw u, m_sz u, m_wn u, m_sn u, m_bi u, m_ro u, m_rc u, m_wt u, m_se u, m_cn u) else (if a0 ≤ 4 then (0, m_st u, m_md u, m_mn u, m_rw u, m_sz u, m_wn u, m_sn u, m_bi u, m_ro u, m_rc u, m_wt u, m_se u, m_cn u) else (0, m_st u, m_md u, m_mn u, m_rw u, m_sz u, m_wn u, m_sn u, m_bi u, m_ro u, m_rc u, m_wt u, m_se u, m_cn u))
def m_count_r (u : m_S) (a0 : Int32) : Int32 := if a0 < 0 then (-1) else (if a0 ≤ 4 then ((m_cn u) a0.toNatClampNeg) else (-1))
set_option maxHeartbeats 4000000 in
set_option maxRecDepth 100000 in
theorem kX1_count (l : Launch) (dC : Nat → ClassId) (dI : Nat → Nat → Nat) (qm pb pr pv pw ps pc : Nat) (cI : ClassId) (sz : Nat) (u : m_S) (a0 : Int32) : Met l yX1_count vX1_count rmX1_count (va_Pc [.ref qm, .int a0] (fun U => U.heap.size = sz ∧ va_P (dC, dI) vwCl (m_W qm pb pr pv pw ps pc cI u) U.heap ∧ va_K (dC, dI) vwCl [(cI, .int)] U ∧ va_D (fun _ => True) (m_W qm pb pr pv pw ps pc cI u))) (va_Qi (fun r u2 => r = m_count_r u a0 ∧ u2 = m_count u a0) (m_At dC dI (va_A (m_W qm pb pr pv pw ps pc cI u) sz) qm pb pr pv pw ps pc cI) (va_A (m_W qm pb pr pv pw ps pc cI u) sz)) 0 0 (va_A (m_W qm pb pr pv pw ps pc cI u) sz) := by
  refine Met.ofW (cc := cX1_count) (maxL := 2) (ret := some .int) (by decide) rfl ?_
  intro p e s m args below meth c s₁ B hml hv
  obtain ⟨rfl, hsz, hP, hK, hD0⟩ := hv
  have hx := B.exec
  have hb := B.bytes
  have hr := B.returns
  have hts := atoms_spec (ws := vX1_count) B.pre
  have hown : s.vm.findClass RX1 = some m.cls := findClass_of_methodNamed B.named
  have hlocks := B.notSynchronized
  have hinT : ∀ w ∈ wsX10, w ∈ vX1_count := fun w h => List.mem_cons_of_mem _ (inM w h)
  subst hsz
  have hD := hD0.self (sz := s.heap.size)
  generalize hAe : va_A (m_W qm pb pr pv pw ps pc cI u) s.heap.size = A at hD ⊢
  have hA : ∀ q : Nat, s.heap.size ≤ q → A q := fun q h => by rw [← hAe]; exact Or.inr h
  have hS : va_S A s.heap s.heap [] := va_S.rf
  have hD : va_D A [(qm, .inr (1, [.int (m_th u), .int (m_st u), .int (m_md u), .ref pb, .int (nI (m_mn u)), .ref pr, .int (nI (m_rw u)), .ref pv, .int (nI (m_sz u)), .ref pw, .int (nI (m_wn u)), .ref ps, .int (nI (m_sn u)), .ref pc])), (pb, .inl (cI, 64, .inl (m_bi u))), (pr, .inl (cI, 259, .inl (m_ro u))), (pv, .inl (cI, 259, .inl (m_rc u))), (pw, .inl (cI, 259, .inl (m_wt u))), (ps, .inl (cI, 306, .inl (m_se u))), (pc, .inl (cI, 5, .inl (m_cn u)))] := hD
  have hP : va_P (dC, dI) vwCl [(qm, .inr (1, [.int (m_th u), .int (m_st u), .int (m_md u), .ref pb, .int (nI (m_mn u)), .ref pr, .int (nI (m_rw u)), .ref pv, .int (nI (m_sz u)), .ref pw, .int (nI (m_wn u)), .ref ps, .int (nI (m_sn u)), .ref pc])), (pb, .inl (cI, 64, .inl (m_bi u))), (pr, .inl (cI, 259, .inl (m_ro u))), (pv, .inl (cI, 259, .inl (m_rc u))), (pw, .inl (cI, 259, .inl (m_wt u))), (ps, .inl (cI, 306, .inl (m_se u))), (pc, .inl (cI, 5, .inl (m_cn u)))] s.heap := hP
  have hl := lv_entry ([.ref qm, .int a0]) (n := 2) (Nat.le_of_ble_eq_true rfl)
  rw [lg_entry_eq]
  generalize (lg_sl ([.ref qm, .int a0]) ++ List.replicate (2 - (lg_sl ([.ref qm, .int a0])).length) Slot.unset).toArray = ls at hl ⊢
  have hl : lv_has ls 2 [(0, .ref qm), (1, .int a0)] := hl
  refine lv_aload_n hx hb dX1_count_0 rfl (lv_at hl 0 rfl) ?_
  refine lv_iconst (v := 0) hx hb dX1_count_1 (by decide) ?_
  refine va_put (D := (dC, dI)) (ci := 1) (v := .int 0) (ty := .int) (C := RX1) (T := TX1) (N := 14) hx hb hts hinT tyX1 tyX1_ok nmX1 hown hK hP hD hS 0 rfl rfl 0 (by decide) (hts _ (List.mem_cons_of_mem _ fl_28)) (fun _ h9 => h9) rfl (by decide +kernel) rfl rfl (Nat.le_of_ble_eq_true rfl) dX1_count_2 (fun H locs hP hD hS => ?_)
  have hP : va_P (dC, dI) vwCl [(qm, .inr (1, [.int 0, .int (m_st u), .int (m_md u), .ref pb, .int (nI (m_mn u)), .ref pr, .int (nI (m_rw u)), .ref pv, .int (nI (m_sz u)), .ref pw, .int (nI (m_wn u)), .ref ps, .int (nI (m_sn u)), .ref pc])), (pb, .inl (cI, 64, .inl (m_bi u))), (pr, .inl (cI, 259, .inl (m_ro u))), (pv, .inl (cI, 259, .inl (m_rc u))), (pw, .inl (cI, 259, .inl (m_wt u))), (ps, .inl (cI, 306, .inl (m_se u))), (pc, .inl (cI, 5, .inl (m_cn u)))] H := hP
  have hD : va_D A [(qm, .inr (1, [.int 0, .int (m_st u), .int (m_md u), .ref pb, .int (nI (m_mn u)), .ref pr, .int (nI (m_rw u)), .ref pv, .int (nI (m_sz u)), .ref pw, .int (nI (m_wn u)), .ref ps, .int (nI (m_sn u)), .ref pc])), (pb, .inl (cI, 64, .inl (m_bi u))), (pr, .inl (cI, 259, .inl (m_ro u))), (pv, .inl (cI, 259, .inl (m_rc u))), (pw, .inl (cI, 259, .inl (m_wt u))), (ps, .inl (cI, 306, .inl (m_se u))), (pc, .inl (cI, 5, .inl (m_cn u)))] := hD
  refine lv_iload_n hx hb dX1_count_5 rfl (lv_at hl 1 rfl) ?_
  refine lv_if_lt (tgt := 14) hx hb dX1_count_6 (by decide) (fun c_1 => ?_) (fun c_1 => ?_)
  · refine lv_iconst (v := (-1)) hx hb dX1_count_14 (by decide) ?_
    refine lv_goto (tgt := 24) hx hb dX1_count_15 (by decide) ?_
    have hP9 : va_P (dC, dI) vwCl (m_W qm pb pr pv pw ps pc cI (0, m_st u, m_md u, m_mn u, m_rw u, m_sz u, m_wn u, m_sn u, m_bi u, m_ro u, m_rc u, m_wt u, m_se u, m_cn u)) H := hP
    have hD9 : va_D A (m_W qm pb pr pv pw ps pc cI (0, m_st u, m_md u, m_mn u, m_rw u, m_sz u, m_wn u, m_sn u, m_bi u, m_ro u, m_rc u, m_wt u, m_se u, m_cn u)) := hD
    exact W.iret (v := (-1)) hx hb hr (fun t ht hW => ⟨⟨_, (0, m_st u, m_md u, m_mn u, m_rw u, m_sz u, m_wn u, m_sn u, m_bi u, m_ro u, m_rc u, m_wt u, m_se u, m_cn u), rfl, ⟨(by unfold m_count_r; rw [if_pos c_1]), (by unfold m_count; rw [if_pos c_1])⟩, by rw [ht]; exact hP9, va_K.moved hW.alike hK, hD9⟩, hS.F ht⟩) hS.2.2 dX1_count_24
  · refine lv_iload_n hx hb dX1_count_9 rfl (lv_at hl 1 rfl) ?_
    refine lv_iconst (v := 4) hx hb dX1_count_10 (by decide) ?_
    refine lv_icmp_le (tgt := 18) hx hb dX1_count_11 (by decide) (fun c_2 => ?_) (fun c_2 => ?_)
    · refine lv_aload_n hx hb dX1_count_18 rfl (lv_at hl 0 rfl) ?_
      refine va_get (D := (dC, dI)) (ci := 1) (v := .ref pc) (C := RX1) (T := TX1) (N := 14) hx hb hts hinT hown hK hP 0 rfl rfl 13 (by decide) (hts _ (List.mem_cons_of_mem _ fl_25)) (fun _ h9 => h9) rfl dX1_count_19 ?_
      refine lv_iload_n hx hb dX1_count_22 rfl (lv_at hl 1 rfl) ?_
      refine va_iald hx hb hK hP 6 0 rfl rfl (j_in4 (by decide) c_1 c_2) dX1_count_23 ?_
      have hP9 : va_P (dC, dI) vwCl (m_W qm pb pr pv pw ps pc cI (0, m_st u, m_md u, m_mn u, m_rw u, m_sz u, m_wn u, m_sn u, m_bi u, m_ro u, m_rc u, m_wt u, m_se u, m_cn u)) H := hP
      have hD9 : va_D A (m_W qm pb pr pv pw ps pc cI (0, m_st u, m_md u, m_mn u, m_rw u, m_sz u, m_wn u, m_sn u, m_bi u, m_ro u, m_rc u, m_wt u, m_se u, m_cn u)) := hD
      exact W.iret (v := (m_cn u) a0.toNatClampNeg) hx hb hr (fun t ht hW => ⟨⟨_, (0, m_st u, m_md u, m_mn u, m_rw u, m_sz u, m_wn u, m_sn u, m_bi u, m_ro u, m_rc u, m_wt u, m_se u, m_cn u), rfl, ⟨(by unfold m_count_r; rw [if_neg c_1, if_pos c_2]), (by unfold m_count; rw [if_neg c_1, if_pos c_2])⟩, by rw [ht]; exact hP9, va_K.moved hW.alike hK, hD9⟩, hS.F ht⟩) hS.2.2 dX1_count_24
    · refine lv_iconst (v := (-1)) hx hb dX1_count_14 (by decide) ?_
      refine lv_goto (tgt := 24) hx hb dX1_count_15 (by decide) ?_
      have hP9 : va_P (dC, dI) vwCl (m_W qm pb pr pv pw ps pc cI (0, m_st u, m_md u, m_mn u, m_rw u, m_sz u, m_wn u, m_sn u, m_bi u, m_ro u, m_rc u, m_wt u, m_se u, m_cn u)) H := hP
      have hD9 : va_D A (m_W qm pb pr pv pw ps pc cI (0, m_st u, m_md u, m_mn u, m_rw u, m_sz u, m_wn u, m_sn u, m_bi u, m_ro u, m_rc u, m_wt u, m_se u, m_cn u)) := hD
      exact W.iret (v := (-1)) hx hb hr (fun t ht hW => ⟨⟨_, (0, m_st u, m_md u, m_mn u, m_rw u, m_sz u, m_wn u, m_sn u, m_bi u, m_ro u, m_rc u, m_wt u, m_se u, m_cn u), rfl, ⟨(by unfold m_count_r; rw [if_neg c_1, if_neg c_2]), (by unfold m_count; rw [if_neg c_1, if_neg c_2])⟩, by rw [ht]; exact hP9, va_K.moved hW.alike hK, hD9⟩, hS.F ht⟩) hS.2.2 dX1_count_24

abbrev rmX1_size : Room := { frames := 0, cells := 0, slots := 0, locals := 0 }
def m_size (u : m_S)  : m_S := (0, m_st u, m_md u, m_mn u, m_rw u, m_sz u, m_wn u, m_sn u, m_bi u, m_ro u, m_rc u, m_wt u, m_se u, m_cn u)
def m_size_r (u : m_S)  : Int32 := nI (m_sz u)
set_option maxHeartbeats 4000000 in
set_option maxRecDepth 100000 in
theorem kX1_size (l : Launch) (dC : Nat → ClassId) (dI : Nat → Nat → Nat) (qm pb pr pv pw ps pc : Nat) (cI : ClassId) (sz : Nat) (u : m_S)  : Met l yX1_size vX1_size rmX1_size (va_Pc [.ref qm] (fun U => U.heap.size = sz ∧ va_P (dC, dI) vwCl (m_W qm pb pr pv pw ps pc cI u) U.heap ∧ va_K (dC, dI) vwCl [(cI, .int)] U ∧ va_D (fun _ => True) (m_W qm pb pr pv pw ps pc cI u))) (va_Qi (fun r u2 => r = m_size_r u ∧ u2 = m_size u) (m_At dC dI (va_A (m_W qm pb pr pv pw ps pc cI u) sz) qm pb pr pv pw ps pc cI) (va_A (m_W qm pb pr pv pw ps pc cI u) sz)) 0 0 (va_A (m_W qm pb pr pv pw ps pc cI u) sz) := by
  refine Met.ofW (cc := cX1_size) (maxL := 1) (ret := some .int) (by decide) rfl ?_
  intro p e s m args below meth c s₁ B hml hv
  obtain ⟨rfl, hsz, hP, hK, hD0⟩ := hv
  have hx := B.exec
  have hb := B.bytes
  have hr := B.returns
  have hts := atoms_spec (ws := vX1_size) B.pre
  have hown : s.vm.findClass RX1 = some m.cls := findClass_of_methodNamed B.named
  have hlocks := B.notSynchronized
  have hinT : ∀ w ∈ wsX10, w ∈ vX1_size := fun w h => List.mem_cons_of_mem _ (inM w h)
  subst hsz
  have hD := hD0.self (sz := s.heap.size)
  generalize hAe : va_A (m_W qm pb pr pv pw ps pc cI u) s.heap.size = A at hD ⊢
  have hA : ∀ q : Nat, s.heap.size ≤ q → A q := fun q h => by rw [← hAe]; exact Or.inr h
  have hS : va_S A s.heap s.heap [] := va_S.rf
  have hD : va_D A [(qm, .inr (1, [.int (m_th u), .int (m_st u), .int (m_md u), .ref pb, .int (nI (m_mn u)), .ref pr, .int (nI (m_rw u)), .ref pv, .int (nI (m_sz u)), .ref pw, .int (nI (m_wn u)), .ref ps, .int (nI (m_sn u)), .ref pc])), (pb, .inl (cI, 64, .inl (m_bi u))), (pr, .inl (cI, 259, .inl (m_ro u))), (pv, .inl (cI, 259, .inl (m_rc u))), (pw, .inl (cI, 259, .inl (m_wt u))), (ps, .inl (cI, 306, .inl (m_se u))), (pc, .inl (cI, 5, .inl (m_cn u)))] := hD
  have hP : va_P (dC, dI) vwCl [(qm, .inr (1, [.int (m_th u), .int (m_st u), .int (m_md u), .ref pb, .int (nI (m_mn u)), .ref pr, .int (nI (m_rw u)), .ref pv, .int (nI (m_sz u)), .ref pw, .int (nI (m_wn u)), .ref ps, .int (nI (m_sn u)), .ref pc])), (pb, .inl (cI, 64, .inl (m_bi u))), (pr, .inl (cI, 259, .inl (m_ro u))), (pv, .inl (cI, 259, .inl (m_rc u))), (pw, .inl (cI, 259, .inl (m_wt u))), (ps, .inl (cI, 306, .inl (m_se u))), (pc, .inl (cI, 5, .inl (m_cn u)))] s.heap := hP
  have hl := lv_entry ([.ref qm]) (n := 1) (Nat.le_of_ble_eq_true rfl)
  rw [lg_entry_eq]
  generalize (lg_sl ([.ref qm]) ++ List.replicate (1 - (lg_sl ([.ref qm])).length) Slot.unset).toArray = ls at hl ⊢
  have hl : lv_has ls 1 [(0, .ref qm)] := hl
  refine lv_aload_n hx hb dX1_size_0 rfl (lv_at hl 0 rfl) ?_
  refine lv_iconst (v := 0) hx hb dX1_size_1 (by decide) ?_
  refine va_put (D := (dC, dI)) (ci := 1) (v := .int 0) (ty := .int) (C := RX1) (T := TX1) (N := 14) hx hb hts hinT tyX1 tyX1_ok nmX1 hown hK hP hD hS 0 rfl rfl 0 (by decide) (hts _ (List.mem_cons_of_mem _ fl_28)) (fun _ h9 => h9) rfl (by decide +kernel) rfl rfl (Nat.le_of_ble_eq_true rfl) dX1_size_2 (fun H locs hP hD hS => ?_)
  have hP : va_P (dC, dI) vwCl [(qm, .inr (1, [.int 0, .int (m_st u), .int (m_md u), .ref pb, .int (nI (m_mn u)), .ref pr, .int (nI (m_rw u)), .ref pv, .int (nI (m_sz u)), .ref pw, .int (nI (m_wn u)), .ref ps, .int (nI (m_sn u)), .ref pc])), (pb, .inl (cI, 64, .inl (m_bi u))), (pr, .inl (cI, 259, .inl (m_ro u))), (pv, .inl (cI, 259, .inl (m_rc u))), (pw, .inl (cI, 259, .inl (m_wt u))), (ps, .inl (cI, 306, .inl (m_se u))), (pc, .inl (cI, 5, .inl (m_cn u)))] H := hP
  have hD : va_D A [(qm, .inr (1, [.int 0, .int (m_st u), .int (m_md u), .ref pb, .int (nI (m_mn u)), .ref pr, .int (nI (m_rw u)), .ref pv, .int (nI (m_sz u)), .ref pw, .int (nI (m_wn u)), .ref ps, .int (nI (m_sn u)), .ref pc])), (pb, .inl (cI, 64, .inl (m_bi u))), (pr, .inl (cI, 259, .inl (m_ro u))), (pv, .inl (cI, 259, .inl (m_rc u))), (pw, .inl (cI, 259, .inl (m_wt u))), (ps, .inl (cI, 306, .inl (m_se u))), (pc, .inl (cI, 5, .inl (m_cn u)))] := hD
  refine lv_aload_n hx hb dX1_size_5 rfl (lv_at hl 0 rfl) ?_
  refine va_get (D := (dC, dI)) (ci := 1) (v := .int (nI (m_sz u))) (C := RX1) (T := TX1) (N := 14) hx hb hts hinT hown hK hP 0 rfl rfl 8 (by decide) (hts _ (List.mem_cons_of_mem _ fl_49)) (fun _ h9 => h9) rfl dX1_size_6 ?_
  have hP9 : va_P (dC, dI) vwCl (m_W qm pb pr pv pw ps pc cI (0, m_st u, m_md u, m_mn u, m_rw u, m_sz u, m_wn u, m_sn u, m_bi u, m_ro u, m_rc u, m_wt u, m_se u, m_cn u)) H := hP
  have hD9 : va_D A (m_W qm pb pr pv pw ps pc cI (0, m_st u, m_md u, m_mn u, m_rw u, m_sz u, m_wn u, m_sn u, m_bi u, m_ro u, m_rc u, m_wt u, m_se u, m_cn u)) := hD
  exact W.iret (v := nI (m_sz u)) hx hb hr (fun t ht hW => ⟨⟨_, (0, m_st u, m_md u, m_mn u, m_rw u, m_sz u, m_wn u, m_sn u, m_bi u, m_ro u, m_rc u, m_wt u, m_se u, m_cn u), rfl, ⟨(rfl), (rfl)⟩, by rw [ht]; exact hP9, va_K.moved hW.alike hK, hD9⟩, hS.F ht⟩) hS.2.2 dX1_size_9

abbrev rmX1_byteAt : Room := { frames := 0, cells := 0, slots := 0, locals := 0 }
def m_byteAt (u : m_S) (a0 : Int32) : m_S := if a0 < 0 then (0, m_st u, m_md u, m_mn u, m_rw u, m_sz u, m_wn u, m_sn u, m_bi u, m_ro u, m_rc u, m_wt u, m_se u, m_cn u) else (if a0 < (nI (m_sz u)) then (0, m_st u, m_md u, m_mn u, m_rw u, m_sz u, m_wn u, m_sn u, m_bi u, m_ro u, m_rc u, m_wt u, m_se u, m_cn u) else (0, m_st u, m_md u, m_mn u, m_rw u, m_sz u, m_wn u, m_sn u, m_bi u, m_ro u, m_rc u, m_wt u, m_se u, m_cn u))
def m_byteAt_r (u : m_S) (a0 : Int32) : Int32 := if a0 < 0 then (-1) else (if a0 < (nI (m_sz u)) then ((m_rc u) a0.toNatClampNeg) else (-1))
set_option maxHeartbeats 4000000 in
set_option maxRecDepth 100000 in
theorem kX1_byteAt (l : Launch) (dC : Nat → ClassId) (dI : Nat → Nat → Nat) (qm pb pr pv pw ps pc : Nat) (cI : ClassId) (sz : Nat) (u : m_S) (a0 : Int32) (hsz : m_sz u ≤ 259) : Met l yX1_byteAt vX1_byteAt rmX1_byteAt (va_Pc [.ref qm, .int a0] (fun U => U.heap.size = sz ∧ va_P (dC, dI) vwCl (m_W qm pb pr pv pw ps pc cI u) U.heap ∧ va_K (dC, dI) vwCl [(cI, .int)] U ∧ va_D (fun _ => True) (m_W qm pb pr pv pw ps pc cI u))) (va_Qi (fun r u2 => r = m_byteAt_r u a0 ∧ u2 = m_byteAt u a0) (m_At dC dI (va_A (m_W qm pb pr pv pw ps pc cI u) sz) qm pb pr pv pw ps pc cI) (va_A (m_W qm pb pr pv pw ps pc cI u) sz)) 0 0 (va_A (m_W qm pb pr pv pw ps pc cI u) sz) := by
  refine Met.ofW (cc := cX1_byteAt) (maxL := 2) (ret := some .int) (by decide) rfl ?_
  intro p e s m args below meth c s₁ B hml hv
  obtain ⟨rfl, hsz, hP, hK, hD0⟩ := hv
  have hx := B.exec
  have hb := B.bytes
  have hr := B.returns
  have hts := atoms_spec (ws := vX1_byteAt) B.pre
  have hown : s.vm.findClass RX1 = some m.cls := findClass_of_methodNamed B.named
  have hlocks := B.notSynchronized
  have hinT : ∀ w ∈ wsX10, w ∈ vX1_byteAt := fun w h => List.mem_cons_of_mem _ (inM w h)
  subst hsz
  have hD := hD0.self (sz := s.heap.size)
  generalize hAe : va_A (m_W qm pb pr pv pw ps pc cI u) s.heap.size = A at hD ⊢
  have hA : ∀ q : Nat, s.heap.size ≤ q → A q := fun q h => by rw [← hAe]; exact Or.inr h
  have hS : va_S A s.heap s.heap [] := va_S.rf
  have hD : va_D A [(qm, .inr (1, [.int (m_th u), .int (m_st u), .int (m_md u), .ref pb, .int (nI (m_mn u)), .ref pr, .int (nI (m_rw u)), .ref pv, .int (nI (m_sz u)), .ref pw, .int (nI (m_wn u)), .ref ps, .int (nI (m_sn u)), .ref pc])), (pb, .inl (cI, 64, .inl (m_bi u))), (pr, .inl (cI, 259, .inl (m_ro u))), (pv, .inl (cI, 259, .inl (m_rc u))), (pw, .inl (cI, 259, .inl (m_wt u))), (ps, .inl (cI, 306, .inl (m_se u))), (pc, .inl (cI, 5, .inl (m_cn u)))] := hD
  have hP : va_P (dC, dI) vwCl [(qm, .inr (1, [.int (m_th u), .int (m_st u), .int (m_md u), .ref pb, .int (nI (m_mn u)), .ref pr, .int (nI (m_rw u)), .ref pv, .int (nI (m_sz u)), .ref pw, .int (nI (m_wn u)), .ref ps, .int (nI (m_sn u)), .ref pc])), (pb, .inl (cI, 64, .inl (m_bi u))), (pr, .inl (cI, 259, .inl (m_ro u))), (pv, .inl (cI, 259, .inl (m_rc u))), (pw, .inl (cI, 259, .inl (m_wt u))), (ps, .inl (cI, 306, .inl (m_se u))), (pc, .inl (cI, 5, .inl (m_cn u)))] s.heap := hP
  have hl := lv_entry ([.ref qm, .int a0]) (n := 2) (Nat.le_of_ble_eq_true rfl)
  rw [lg_entry_eq]
  generalize (lg_sl ([.ref qm, .int a0]) ++ List.replicate (2 - (lg_sl ([.ref qm, .int a0])).length) Slot.unset).toArray = ls at hl ⊢
  have hl : lv_has ls 2 [(0, .ref qm), (1, .int a0)] := hl
  refine lv_aload_n hx hb dX1_byteAt_0 rfl (lv_at hl 0 rfl) ?_
  refine lv_iconst (v := 0) hx hb dX1_byteAt_1 (by decide) ?_
  refine va_put (D := (dC, dI)) (ci := 1) (v := .int 0) (ty := .int) (C := RX1) (T := TX1) (N := 14) hx hb hts hinT tyX1 tyX1_ok nmX1 hown hK hP hD hS 0 rfl rfl 0 (by decide) (hts _ (List.mem_cons_of_mem _ fl_28)) (fun _ h9 => h9) rfl (by decide +kernel) rfl rfl (Nat.le_of_ble_eq_true rfl) dX1_byteAt_2 (fun H locs hP hD hS => ?_)
  have hP : va_P (dC, dI) vwCl [(qm, .inr (1, [.int 0, .int (m_st u), .int (m_md u), .ref pb, .int (nI (m_mn u)), .ref pr, .int (nI (m_rw u)), .ref pv, .int (nI (m_sz u)), .ref pw, .int (nI (m_wn u)), .ref ps, .int (nI (m_sn u)), .ref pc])), (pb, .inl (cI, 64, .inl (m_bi u))), (pr, .inl (cI, 259, .inl (m_ro u))), (pv, .inl (cI, 259, .inl (m_rc u))), (pw, .inl (cI, 259, .inl (m_wt u))), (ps, .inl (cI, 306, .inl (m_se u))), (pc, .inl (cI, 5, .inl (m_cn u)))] H := hP
  have hD : va_D A [(qm, .inr (1, [.int 0, .int (m_st u), .int (m_md u), .ref pb, .int (nI (m_mn u)), .ref pr, .int (nI (m_rw u)), .ref pv, .int (nI (m_sz u)), .ref pw, .int (nI (m_wn u)), .ref ps, .int (nI (m_sn u)), .ref pc])), (pb, .inl (cI, 64, .inl (m_bi u))), (pr, .inl (cI, 259, .inl (m_ro u))), (pv, .inl (cI, 259, .inl (m_rc u))), (pw, .inl (cI, 259, .inl (m_wt u))), (ps, .inl (cI, 306, .inl (m_se u))), (pc, .inl (cI, 5, .inl (m_cn u)))] := hD
  refine lv_iload_n hx hb dX1_byteAt_5 rfl (lv_at hl 1 rfl) ?_
  refine lv_if_lt (tgt := 17) hx hb dX1_byteAt_6 (by decide) (fun c_1 => ?_) (fun c_1 => ?_)
  · refine lv_iconst (v := (-1)) hx hb dX1_byteAt_17 (by decide) ?_
    refine lv_goto (tgt := 27) hx hb dX1_byteAt_18 (by decide) ?_
    have hP9 : va_P (dC, dI) vwCl (m_W qm pb pr pv pw ps pc cI (0, m_st u, m_md u, m_mn u, m_rw u, m_sz u, m_wn u, m_sn u, m_bi u, m_ro u, m_rc u, m_wt u, m_se u, m_cn u)) H := hP
    have hD9 : va_D A (m_W qm pb pr pv pw ps pc cI (0, m_st u, m_md u, m_mn u, m_rw u, m_sz u, m_wn u, m_sn u, m_bi u, m_ro u, m_rc u, m_wt u, m_se u, m_cn u)) := hD
    exact W.iret (v := (-1)) hx hb hr (fun t ht hW => ⟨⟨_, (0, m_st u, m_md u, m_mn u, m_rw u, m_sz u, m_wn u, m_sn u, m_bi u, m_ro u, m_rc u, m_wt u, m_se u, m_cn u), rfl, ⟨(by unfold m_byteAt_r; rw [if_pos c_1]), (by unfold m_byteAt; rw [if_pos c_1])⟩, by rw [ht]; exact hP9, va_K.moved hW.alike hK, hD9⟩, hS.F ht⟩) hS.2.2 dX1_byteAt_27
  · refine lv_iload_n hx hb dX1_byteAt_9 rfl (lv_at hl 1 rfl) ?_
    refine lv_aload_n hx hb dX1_byteAt_10 rfl (lv_at hl 0 rfl) ?_
    refine va_get (D := (dC, dI)) (ci := 1) (v := .int (nI (m_sz u))) (C := RX1) (T := TX1) (N := 14) hx hb hts hinT hown hK hP 0 rfl rfl 8 (by decide) (hts _ (List.mem_cons_of_mem _ fl_49)) (fun _ h9 => h9) rfl dX1_byteAt_11 ?_
    refine lv_icmp_lt (tgt := 21) hx hb dX1_byteAt_14 (by decide) (fun c_2 => ?_) (fun c_2 => ?_)
    · refine lv_aload_n hx hb dX1_byteAt_21 rfl (lv_at hl 0 rfl) ?_
      refine va_get (D := (dC, dI)) (ci := 1) (v := .ref pv) (C := RX1) (T := TX1) (N := 14) hx hb hts hinT hown hK hP 0 rfl rfl 7 (by decide) (hts _ (List.mem_cons_of_mem _ fl_16)) (fun _ h9 => h9) rfl dX1_byteAt_22 ?_
      refine lv_iload_n hx hb dX1_byteAt_25 rfl (lv_at hl 1 rfl) ?_
      refine va_iald hx hb hK hP 3 0 rfl rfl (j_in5 ⟨hsz, by decide⟩ c_1 c_2) dX1_byteAt_26 ?_
      have hP9 : va_P (dC, dI) vwCl (m_W qm pb pr pv pw ps pc cI (0, m_st u, m_md u, m_mn u, m_rw u, m_sz u, m_wn u, m_sn u, m_bi u, m_ro u, m_rc u, m_wt u, m_se u, m_cn u)) H := hP
      have hD9 : va_D A (m_W qm pb pr pv pw ps pc cI (0, m_st u, m_md u, m_mn u, m_rw u, m_sz u, m_wn u, m_sn u, m_bi u, m_ro u, m_rc u, m_wt u, m_se u, m_cn u)) := hD
      exact W.iret (v := (m_rc u) a0.toNatClampNeg) hx hb hr (fun t ht hW => ⟨⟨_, (0, m_st u, m_md u, m_mn u, m_rw u, m_sz u, m_wn u, m_sn u, m_bi u, m_ro u, m_rc u, m_wt u, m_se u, m_cn u), rfl, ⟨(by unfold m_byteAt_r; rw [if_neg c_1, if_pos c_2]), (by unfold m_byteAt; rw [if_neg c_1, if_pos c_2])⟩, by rw [ht]; exact hP9, va_K.moved hW.alike hK, hD9⟩, hS.F ht⟩) hS.2.2 dX1_byteAt_27
    · refine lv_iconst (v := (-1)) hx hb dX1_byteAt_17 (by decide) ?_
      refine lv_goto (tgt := 27) hx hb dX1_byteAt_18 (by decide) ?_
      have hP9 : va_P (dC, dI) vwCl (m_W qm pb pr pv pw ps pc cI (0, m_st u, m_md u, m_mn u, m_rw u, m_sz u, m_wn u, m_sn u, m_bi u, m_ro u, m_rc u, m_wt u, m_se u, m_cn u)) H := hP
      have hD9 : va_D A (m_W qm pb pr pv pw ps pc cI (0, m_st u, m_md u, m_mn u, m_rw u, m_sz u, m_wn u, m_sn u, m_bi u, m_ro u, m_rc u, m_wt u, m_se u, m_cn u)) := hD
      exact W.iret (v := (-1)) hx hb hr (fun t ht hW => ⟨⟨_, (0, m_st u, m_md u, m_mn u, m_rw u, m_sz u, m_wn u, m_sn u, m_bi u, m_ro u, m_rc u, m_wt u, m_se u, m_cn u), rfl, ⟨(by unfold m_byteAt_r; rw [if_neg c_1, if_neg c_2]), (by unfold m_byteAt; rw [if_neg c_1, if_neg c_2])⟩, by rw [ht]; exact hP9, va_K.moved hW.alike hK, hD9⟩, hS.F ht⟩) hS.2.2 dX1_byteAt_27

abbrev rmX1_sent : Room := { frames := 0, cells := 0, slots := 0, locals := 0 }
def m_sent (u : m_S) (a0 : Int32) : m_S := if a0 < 0 then (0, m_st u, m_md u, m_mn u, m_rw u, m_sz u, m_wn u, m_sn u, m_bi u, m_ro u, m_rc u, m_wt u, m_se u, m_cn u) else (if a0 < (nI (m_sn u)) then (0, m_st u, m_md u, m_mn u, m_rw u, m_sz u, m_wn u, m_sn u, m_bi u, m_ro u, m_rc u, m_wt u, m_se u, m_cn u) else (0, m_st u, m_md u, m_mn u, m_rw u, m_sz u, m_wn u, m_sn u, m_bi u, m_ro u, m_rc u, m_wt u, m_se u, m_cn u))
def m_sent_r (u : m_S) (a0 : Int32) : Int32 := if a0 < 0 then (-1) else (if a0 < (nI (m_sn u)) then ((m_se u) a0.toNatClampNeg) else (-1))
set_option maxHeartbeats 4000000 in
set_option maxRecDepth 100000 in
theorem kX1_sent (l : Launch) (dC : Nat → ClassId) (dI : Nat → Nat → Nat) (qm pb pr pv pw ps pc : Nat) (cI : ClassId) (sz : Nat) (u : m_S) (a0 : Int32) (hsz : m_sn u ≤ 306) : Met l yX1_sent vX1_sent rmX1_sent (va_Pc [.ref qm, .int a0] (fun U => U.heap.size = sz ∧ va_P (dC, dI) vwCl (m_W qm pb pr pv pw ps pc cI u) U.heap ∧ va_K (dC, dI) vwCl [(cI, .int)] U ∧ va_D (fun _ => True) (m_W qm pb pr pv pw ps pc cI u))) (va_Qi (fun r u2 => r = m_sent_r u a0 ∧ u2 = m_sent u a0) (m_At dC dI (va_A (m_W qm pb pr pv pw ps pc cI u) sz) qm pb pr pv pw ps pc cI) (va_A (m_W qm pb pr pv pw ps pc cI u) sz)) 0 0 (va_A (m_W qm pb pr pv pw ps pc cI u) sz) := by
  refine Met.ofW (cc := cX1_sent) (maxL := 2) (ret := some .int) (by decide) rfl ?_
  intro p e s m args below meth c s₁ B hml hv
  obtain ⟨rfl, hsz, hP, hK, hD0⟩ := hv
  have hx := B.exec
  have hb := B.bytes
  have hr := B.returns
  have hts := atoms_spec (ws := vX1_sent) B.pre
  have hown : s.vm.findClass RX1 = some m.cls := findClass_of_methodNamed B.named
  have hlocks := B.notSynchronized
  have hinT : ∀ w ∈ wsX10, w ∈ vX1_sent := fun w h => List.mem_cons_of_mem _ (inM w h)
  subst hsz
  have hD := hD0.self (sz := s.heap.size)
  generalize hAe : va_A (m_W qm pb pr pv pw ps pc cI u) s.heap.size = A at hD ⊢
  have hA : ∀ q : Nat, s.heap.size ≤ q → A q := fun q h => by rw [← hAe]; exact Or.inr h
  have hS : va_S A s.heap s.heap [] := va_S.rf
  have hD : va_D A [(qm, .inr (1, [.int (m_th u), .int (m_st u), .int (m_md u), .ref pb, .int (nI (m_mn u)), .ref pr, .int (nI (m_rw u)), .ref pv, .int (nI (m_sz u)), .ref pw, .int (nI (m_wn u)), .ref ps, .int (nI (m_sn u)), .ref pc])), (pb, .inl (cI, 64, .inl (m_bi u))), (pr, .inl (cI, 259, .inl (m_ro u))), (pv, .inl (cI, 259, .inl (m_rc u))), (pw, .inl (cI, 259, .inl (m_wt u))), (ps, .inl (cI, 306, .inl (m_se u))), (pc, .inl (cI, 5, .inl (m_cn u)))] := hD
  have hP : va_P (dC, dI) vwCl [(qm, .inr (1, [.int (m_th u), .int (m_st u), .int (m_md u), .ref pb, .int (nI (m_mn u)), .ref pr, .int (nI (m_rw u)), .ref pv, .int (nI (m_sz u)), .ref pw, .int (nI (m_wn u)), .ref ps, .int (nI (m_sn u)), .ref pc])), (pb, .inl (cI, 64, .inl (m_bi u))), (pr, .inl (cI, 259, .inl (m_ro u))), (pv, .inl (cI, 259, .inl (m_rc u))), (pw, .inl (cI, 259, .inl (m_wt u))), (ps, .inl (cI, 306, .inl (m_se u))), (pc, .inl (cI, 5, .inl (m_cn u)))] s.heap := hP
  have hl := lv_entry ([.ref qm, .int a0]) (n := 2) (Nat.le_of_ble_eq_true rfl)
  rw [lg_entry_eq]
  generalize (lg_sl ([.ref qm, .int a0]) ++ List.replicate (2 - (lg_sl ([.ref qm, .int a0])).length) Slot.unset).toArray = ls at hl ⊢
  have hl : lv_has ls 2 [(0, .ref qm), (1, .int a0)] := hl
  refine lv_aload_n hx hb dX1_sent_0 rfl (lv_at hl 0 rfl) ?_
  refine lv_iconst (v := 0) hx hb dX1_sent_1 (by decide) ?_
  refine va_put (D := (dC, dI)) (ci := 1) (v := .int 0) (ty := .int) (C := RX1) (T := TX1) (N := 14) hx hb hts hinT tyX1 tyX1_ok nmX1 hown hK hP hD hS 0 rfl rfl 0 (by decide) (hts _ (List.mem_cons_of_mem _ fl_28)) (fun _ h9 => h9) rfl (by decide +kernel) rfl rfl (Nat.le_of_ble_eq_true rfl) dX1_sent_2 (fun H locs hP hD hS => ?_)
  have hP : va_P (dC, dI) vwCl [(qm, .inr (1, [.int 0, .int (m_st u), .int (m_md u), .ref pb, .int (nI (m_mn u)), .ref pr, .int (nI (m_rw u)), .ref pv, .int (nI (m_sz u)), .ref pw, .int (nI (m_wn u)), .ref ps, .int (nI (m_sn u)), .ref pc])), (pb, .inl (cI, 64, .inl (m_bi u))), (pr, .inl (cI, 259, .inl (m_ro u))), (pv, .inl (cI, 259, .inl (m_rc u))), (pw, .inl (cI, 259, .inl (m_wt u))), (ps, .inl (cI, 306, .inl (m_se u))), (pc, .inl (cI, 5, .inl (m_cn u)))] H := hP
  have hD : va_D A [(qm, .inr (1, [.int 0, .int (m_st u), .int (m_md u), .ref pb, .int (nI (m_mn u)), .ref pr, .int (nI (m_rw u)), .ref pv, .int (nI (m_sz u)), .ref pw, .int (nI (m_wn u)), .ref ps, .int (nI (m_sn u)), .ref pc])), (pb, .inl (cI, 64, .inl (m_bi u))), (pr, .inl (cI, 259, .inl (m_ro u))), (pv, .inl (cI, 259, .inl (m_rc u))), (pw, .inl (cI, 259, .inl (m_wt u))), (ps, .inl (cI, 306, .inl (m_se u))), (pc, .inl (cI, 5, .inl (m_cn u)))] := hD
  refine lv_iload_n hx hb dX1_sent_5 rfl (lv_at hl 1 rfl) ?_
  refine lv_if_lt (tgt := 17) hx hb dX1_sent_6 (by decide) (fun c_1 => ?_) (fun c_1 => ?_)
  · refine lv_iconst (v := (-1)) hx hb dX1_sent_17 (by decide) ?_
    refine lv_goto (tgt := 27) hx hb dX1_sent_18 (by decide) ?_
    have hP9 : va_P (dC, dI) vwCl (m_W qm pb pr pv pw ps pc cI (0, m_st u, m_md u, m_mn u, m_rw u, m_sz u, m_wn u, m_sn u, m_bi u, m_ro u, m_rc u, m_wt u, m_se u, m_cn u)) H := hP
    have hD9 : va_D A (m_W qm pb pr pv pw ps pc cI (0, m_st u, m_md u, m_mn u, m_rw u, m_sz u, m_wn u, m_sn u, m_bi u, m_ro u, m_rc u, m_wt u, m_se u, m_cn u)) := hD
    exact W.iret (v := (-1)) hx hb hr (fun t ht hW => ⟨⟨_, (0, m_st u, m_md u, m_mn u, m_rw u, m_sz u, m_wn u, m_sn u, m_bi u, m_ro u, m_rc u, m_wt u, m_se u, m_cn u), rfl, ⟨(by unfold m_sent_r; rw [if_pos c_1]), (by unfold m_sent; rw [if_pos c_1])⟩, by rw [ht]; exact hP9, va_K.moved hW.alike hK, hD9⟩, hS.F ht⟩) hS.2.2 dX1_sent_27
  · refine lv_iload_n hx hb dX1_sent_9 rfl (lv_at hl 1 rfl) ?_
    refine lv_aload_n hx hb dX1_sent_10 rfl (lv_at hl 0 rfl) ?_
    refine va_get (D := (dC, dI)) (ci := 1) (v := .int (nI (m_sn u))) (C := RX1) (T := TX1) (N := 14) hx hb hts hinT hown hK hP 0 rfl rfl 12 (by decide) (hts _ (List.mem_cons_of_mem _ fl_77)) (fun _ h9 => h9) rfl dX1_sent_11 ?_
    refine lv_icmp_lt (tgt := 21) hx hb dX1_sent_14 (by decide) (fun c_2 => ?_) (fun c_2 => ?_)
    · refine lv_aload_n hx hb dX1_sent_21 rfl (lv_at hl 0 rfl) ?_
      refine va_get (D := (dC, dI)) (ci := 1) (v := .ref ps) (C := RX1) (T := TX1) (N := 14) hx hb hts hinT hown hK hP 0 rfl rfl 11 (by decide) (hts _ (List.mem_cons_of_mem _ fl_22)) (fun _ h9 => h9) rfl dX1_sent_22 ?_
      refine lv_iload_n hx hb dX1_sent_25 rfl (lv_at hl 1 rfl) ?_
      refine va_iald hx hb hK hP 5 0 rfl rfl (j_in5 ⟨hsz, by decide⟩ c_1 c_2) dX1_sent_26 ?_
      have hP9 : va_P (dC, dI) vwCl (m_W qm pb pr pv pw ps pc cI (0, m_st u, m_md u, m_mn u, m_rw u, m_sz u, m_wn u, m_sn u, m_bi u, m_ro u, m_rc u, m_wt u, m_se u, m_cn u)) H := hP
      have hD9 : va_D A (m_W qm pb pr pv pw ps pc cI (0, m_st u, m_md u, m_mn u, m_rw u, m_sz u, m_wn u, m_sn u, m_bi u, m_ro u, m_rc u, m_wt u, m_se u, m_cn u)) := hD
      exact W.iret (v := (m_se u) a0.toNatClampNeg) hx hb hr (fun t ht hW => ⟨⟨_, (0, m_st u, m_md u, m_mn u, m_rw u, m_sz u, m_wn u, m_sn u, m_bi u, m_ro u, m_rc u, m_wt u, m_se u, m_cn u), rfl, ⟨(by unfold m_sent_r; rw [if_neg c_1, if_pos c_2]), (by unfold m_sent; rw [if_neg c_1, if_pos c_2])⟩, by rw [ht]; exact hP9, va_K.moved hW.alike hK, hD9⟩, hS.F ht⟩) hS.2.2 dX1_sent_27
    · refine lv_iconst (v := (-1)) hx hb dX1_sent_17 (by decide) ?_
      refine lv_goto (tgt := 27) hx hb dX1_sent_18 (by decide) ?_
      have hP9 : va_P (dC, dI) vwCl (m_W qm pb pr pv pw ps pc cI (0, m_st u, m_md u, m_mn u, m_rw u, m_sz u, m_wn u, m_sn u, m_bi u, m_ro u, m_rc u, m_wt u, m_se u, m_cn u)) H := hP
      have hD9 : va_D A (m_W qm pb pr pv pw ps pc cI (0, m_st u, m_md u, m_mn u, m_rw u, m_sz u, m_wn u, m_sn u, m_bi u, m_ro u, m_rc u, m_wt u, m_se u, m_cn u)) := hD
      exact W.iret (v := (-1)) hx hb hr (fun t ht hW => ⟨⟨_, (0, m_st u, m_md u, m_mn u, m_rw u, m_sz u, m_wn u, m_sn u, m_bi u, m_ro u, m_rc u, m_wt u, m_se u, m_cn u), rfl, ⟨(by unfold m_sent_r; rw [if_neg c_1, if_neg c_2]), (by unfold m_sent; rw [if_neg c_1, if_neg c_2])⟩, by rw [ht]; exact hP9, va_K.moved hW.alike hK, hD9⟩, hS.F ht⟩) hS.2.2 dX1_sent_27

abbrev rmX1_put : Room := { frames := 0, cells := 0, slots := 0, locals := 0 }
def m_put (u : m_S) (a0 : Int32) : m_S := if (nI (m_wn u)) = 259 then (0, m_st u, m_md u, m_mn u, m_rw u, m_sz u, m_wn u, m_sn u, m_bi u, m_ro u, m_rc u, m_wt u, m_se u, m_cn u) else (0, m_st u, m_md u, m_mn u, m_rw u, m_sz u, m_wn u + 1, m_sn u, m_bi u, m_ro u, m_rc u, upd (m_wt u) (m_wn u) (a0 &&& 255), m_se u, m_cn u)
def m_put_r (u : m_S) (a0 : Int32) : Int32 := if (nI (m_wn u)) = 259 then (-1) else (nI (m_wn u + 1))
set_option maxHeartbeats 4000000 in
set_option maxRecDepth 100000 in
theorem kX1_put (l : Launch) (dC : Nat → ClassId) (dI : Nat → Nat → Nat) (qm pb pr pv pw ps pc : Nat) (cI : ClassId) (sz : Nat) (u : m_S) (a0 : Int32) (hwn : m_wn u ≤ 259) : Met l yX1_put vX1_put rmX1_put (va_Pc [.ref qm, .int a0] (fun U => U.heap.size = sz ∧ va_P (dC, dI) vwCl (m_W qm pb pr pv pw ps pc cI u) U.heap ∧ va_K (dC, dI) vwCl [(cI, .int)] U ∧ va_D (fun _ => True) (m_W qm pb pr pv pw ps pc cI u))) (va_Qi (fun r u2 => r = m_put_r u a0 ∧ u2 = m_put u a0) (m_At dC dI (va_A (m_W qm pb pr pv pw ps pc cI u) sz) qm pb pr pv pw ps pc cI) (va_A (m_W qm pb pr pv pw ps pc cI u) sz)) 0 0 (va_A (m_W qm pb pr pv pw ps pc cI u) sz) := by
  refine Met.ofW (cc := cX1_put) (maxL := 2) (ret := some .int) (by decide) rfl ?_
  intro p e s m args below meth c s₁ B hml hv
  obtain ⟨rfl, hsz, hP, hK, hD0⟩ := hv
  have hx := B.exec
  have hb := B.bytes
  have hr := B.returns
  have hts := atoms_spec (ws := vX1_put) B.pre
  have hown : s.vm.findClass RX1 = some m.cls := findClass_of_methodNamed B.named
  have hlocks := B.notSynchronized
  have hinT : ∀ w ∈ wsX10, w ∈ vX1_put := fun w h => List.mem_cons_of_mem _ (inM w h)
  subst hsz
  have hD := hD0.self (sz := s.heap.size)
  generalize hAe : va_A (m_W qm pb pr pv pw ps pc cI u) s.heap.size = A at hD ⊢
  have hA : ∀ q : Nat, s.heap.size ≤ q → A q := fun q h => by rw [← hAe]; exact Or.inr h
  have hS : va_S A s.heap s.heap [] := va_S.rf
  have hD : va_D A [(qm, .inr (1, [.int (m_th u), .int (m_st u), .int (m_md u), .ref pb, .int (nI (m_mn u)), .ref pr, .int (nI (m_rw u)), .ref pv, .int (nI (m_sz u)), .ref pw, .int (nI (m_wn u)), .ref ps, .int (nI (m_sn u)), .ref pc])), (pb, .inl (cI, 64, .inl (m_bi u))), (pr, .inl (cI, 259, .inl (m_ro u))), (pv, .inl (cI, 259, .inl (m_rc u))), (pw, .inl (cI, 259, .inl (m_wt u))), (ps, .inl (cI, 306, .inl (m_se u))), (pc, .inl (cI, 5, .inl (m_cn u)))] := hD
  have hP : va_P (dC, dI) vwCl [(qm, .inr (1, [.int (m_th u), .int (m_st u), .int (m_md u), .ref pb, .int (nI (m_mn u)), .ref pr, .int (nI (m_rw u)), .ref pv, .int (nI (m_sz u)), .ref pw, .int (nI (m_wn u)), .ref ps, .int (nI (m_sn u)), .ref pc])), (pb, .inl (cI, 64, .inl (m_bi u))), (pr, .inl (cI, 259, .inl (m_ro u))), (pv, .inl (cI, 259, .inl (m_rc u))), (pw, .inl (cI, 259, .inl (m_wt u))), (ps, .inl (cI, 306, .inl (m_se u))), (pc, .inl (cI, 5, .inl (m_cn u)))] s.heap := hP
  have hl := lv_entry ([.ref qm, .int a0]) (n := 2) (Nat.le_of_ble_eq_true rfl)
  rw [lg_entry_eq]
  generalize (lg_sl ([.ref qm, .int a0]) ++ List.replicate (2 - (lg_sl ([.ref qm, .int a0])).length) Slot.unset).toArray = ls at hl ⊢
  have hl : lv_has ls 2 [(0, .ref qm), (1, .int a0)] := hl
  refine lv_aload_n hx hb dX1_put_0 rfl (lv_at hl 0 rfl) ?_
  refine lv_iconst (v := 0) hx hb dX1_put_1 (by decide) ?_
  refine va_put (D := (dC, dI)) (ci := 1) (v := .int 0) (ty := .int) (C := RX1) (T := TX1) (N := 14) hx hb hts hinT tyX1 tyX1_ok nmX1 hown hK hP hD hS 0 rfl rfl 0 (by decide) (hts _ (List.mem_cons_of_mem _ fl_28)) (fun _ h9 => h9) rfl (by decide +kernel) rfl rfl (Nat.le_of_ble_eq_true rfl) dX1_put_2 (fun H locs hP hD hS => ?_)
  have hP : va_P (dC, dI) vwCl [(qm, .inr (1, [.int 0, .int (m_st u), .int (m_md u), .ref pb, .int (nI (m_mn u)), .ref pr, .int (nI (m_rw u)), .ref pv, .int (nI (m_sz u)), .ref pw, .int (nI (m_wn u)), .ref ps, .int (nI (m_sn u)), .ref pc])), (pb, .inl (cI, 64, .inl (m_bi u))), (pr, .inl (cI, 259, .inl (m_ro u))), (pv, .inl (cI, 259, .inl (m_rc u))), (pw, .inl (cI, 259, .inl (m_wt u))), (ps, .inl (cI, 306, .inl (m_se u))), (pc, .inl (cI, 5, .inl (m_cn u)))] H := hP
  have hD : va_D A [(qm, .inr (1, [.int 0, .int (m_st u), .int (m_md u), .ref pb, .int (nI (m_mn u)), .ref pr, .int (nI (m_rw u)), .ref pv, .int (nI (m_sz u)), .ref pw, .int (nI (m_wn u)), .ref ps, .int (nI (m_sn u)), .ref pc])), (pb, .inl (cI, 64, .inl (m_bi u))), (pr, .inl (cI, 259, .inl (m_ro u))), (pv, .inl (cI, 259, .inl (m_rc u))), (pw, .inl (cI, 259, .inl (m_wt u))), (ps, .inl (cI, 306, .inl (m_se u))), (pc, .inl (cI, 5, .inl (m_cn u)))] := hD
  refine lv_aload_n hx hb dX1_put_5 rfl (lv_at hl 0 rfl) ?_
  refine va_get (D := (dC, dI)) (ci := 1) (v := .int (nI (m_wn u))) (C := RX1) (T := TX1) (N := 14) hx hb hts hinT hown hK hP 0 rfl rfl 10 (by decide) (hts _ (List.mem_cons_of_mem _ fl_74)) (fun _ h9 => h9) rfl dX1_put_6 ?_
  refine lv_sipush (v := 259) hx hb dX1_put_9 (by decide) ?_
  refine lv_icmp_ne (tgt := 17) hx hb dX1_put_12 (by decide) (fun c_1 => ?_) (fun c_1 => ?_)
  · have hlt : m_wn u < 259 := by have h5 : m_wn u ≠ 259 := fun e => c_1 (by rw [e]; rfl); omega
    refine lv_aload_n hx hb dX1_put_17 rfl (lv_at hl 0 rfl) ?_
    refine va_get (D := (dC, dI)) (ci := 1) (v := .ref pw) (C := RX1) (T := TX1) (N := 14) hx hb hts hinT hown hK hP 0 rfl rfl 9 (by decide) (hts _ (List.mem_cons_of_mem _ fl_19)) (fun _ h9 => h9) rfl dX1_put_18 ?_
    refine lv_aload_n hx hb dX1_put_21 rfl (lv_at hl 0 rfl) ?_
    refine va_get (D := (dC, dI)) (ci := 1) (v := .int (nI (m_wn u))) (C := RX1) (T := TX1) (N := 14) hx hb hts hinT hown hK hP 0 rfl rfl 10 (by decide) (hts _ (List.mem_cons_of_mem _ fl_74)) (fun _ h9 => h9) rfl dX1_put_22 ?_
    refine lv_iload_n hx hb dX1_put_25 rfl (lv_at hl 1 rfl) ?_
    refine lv_sipush (v := 255) hx hb dX1_put_26 (by decide) ?_
    refine lv_iand hx hb dX1_put_29 ?_
    refine va_iast hx hb hK hP hD hS 4 0 rfl rfl (vp_in_nI (by omega) (by decide)) dX1_put_30 (fun H locs hP hD hS => ?_)
    rw [show (nI (m_wn u) : Int32).toNatClampNeg = m_wn u from (nI_clamp (by omega))] at hP hD
    have hP : va_P (dC, dI) vwCl [(qm, .inr (1, [.int 0, .int (m_st u), .int (m_md u), .ref pb, .int (nI (m_mn u)), .ref pr, .int (nI (m_rw u)), .ref pv, .int (nI (m_sz u)), .ref pw, .int (nI (m_wn u)), .ref ps, .int (nI (m_sn u)), .ref pc])), (pb, .inl (cI, 64, .inl (m_bi u))), (pr, .inl (cI, 259, .inl (m_ro u))), (pv, .inl (cI, 259, .inl (m_rc u))), (pw, .inl (cI, 259, .inl (upd (m_wt u) (m_wn u) (a0 &&& 255)))), (ps, .inl (cI, 306, .inl (m_se u))), (pc, .inl (cI, 5, .inl (m_cn u)))] H := hP
    have hD : va_D A [(qm, .inr (1, [.int 0, .int (m_st u), .int (m_md u), .ref pb, .int (nI (m_mn u)), .ref pr, .int (nI (m_rw u)), .ref pv, .int (nI (m_sz u)), .ref pw, .int (nI (m_wn u)), .ref ps, .int (nI (m_sn u)), .ref pc])), (pb, .inl (cI, 64, .inl (m_bi u))), (pr, .inl (cI, 259, .inl (m_ro u))), (pv, .inl (cI, 259, .inl (m_rc u))), (pw, .inl (cI, 259, .inl (upd (m_wt u) (m_wn u) (a0 &&& 255)))), (ps, .inl (cI, 306, .inl (m_se u))), (pc, .inl (cI, 5, .inl (m_cn u)))] := hD
    refine lv_aload_n hx hb dX1_put_31 rfl (lv_at hl 0 rfl) ?_
    refine lv_dup hx hb dX1_put_32 rfl ?_
    refine va_get (D := (dC, dI)) (ci := 1) (v := .int (nI (m_wn u))) (C := RX1) (T := TX1) (N := 14) hx hb hts hinT hown hK hP 0 rfl rfl 10 (by decide) (hts _ (List.mem_cons_of_mem _ fl_74)) (fun _ h9 => h9) rfl dX1_put_33 ?_
    refine lv_iconst (v := 1) hx hb dX1_put_36 (by decide) ?_
    refine lv_iadd hx hb dX1_put_37 ?_
    refine W.eq (congrArg (fun z => F0 m 38 ls (.int z :: [.ref qm])) (show (nI (m_wn u)) + 1 = nI (m_wn u + 1) from (nI_add _ _))) ?_
    refine va_put (D := (dC, dI)) (ci := 1) (v := .int (nI (m_wn u + 1))) (ty := .int) (C := RX1) (T := TX1) (N := 14) hx hb hts hinT tyX1 tyX1_ok nmX1 hown hK hP hD hS 0 rfl rfl 10 (by decide) (hts _ (List.mem_cons_of_mem _ fl_74)) (fun _ h9 => h9) rfl (by decide +kernel) rfl rfl (Nat.le_of_ble_eq_true rfl) dX1_put_38 (fun H locs hP hD hS => ?_)
    have hP : va_P (dC, dI) vwCl [(qm, .inr (1, [.int 0, .int (m_st u), .int (m_md u), .ref pb, .int (nI (m_mn u)), .ref pr, .int (nI (m_rw u)), .ref pv, .int (nI (m_sz u)), .ref pw, .int (nI (m_wn u + 1)), .ref ps, .int (nI (m_sn u)), .ref pc])), (pb, .inl (cI, 64, .inl (m_bi u))), (pr, .inl (cI, 259, .inl (m_ro u))), (pv, .inl (cI, 259, .inl (m_rc u))), (pw, .inl (cI, 259, .inl (upd (m_wt u) (m_wn u) (a0 &&& 255)))), (ps, .inl (cI, 306, .inl (m_se u))), (pc, .inl (cI, 5, .inl (m_cn u)))] H := hP
    have hD : va_D A [(qm, .inr (1, [.int 0, .int (m_st u), .int (m_md u), .ref pb, .int (nI (m_mn u)), .ref pr, .int (nI (m_rw u)), .ref pv, .int (nI (m_sz u)), .ref pw, .int (nI (m_wn u + 1)), .ref ps, .int (nI (m_sn u)), .ref pc])), (pb, .inl (cI, 64, .inl (m_bi u))), (pr, .inl (cI, 259, .inl (m_ro u))), (pv, .inl (cI, 259, .inl (m_rc u))), (pw, .inl (cI, 259, .inl (upd (m_wt u) (m_wn u) (a0 &&& 255)))), (ps, .inl (cI, 306, .inl (m_se u))), (pc, .inl (cI, 5, .inl (m_cn u)))] := hD
    refine lv_aload_n hx hb dX1_put_41 rfl (lv_at hl 0 rfl) ?_
    refine va_get (D := (dC, dI)) (ci := 1) (v := .int (nI (m_wn u + 1))) (C := RX1) (T := TX1) (N := 14) hx hb hts hinT hown hK hP 0 rfl rfl 10 (by decide) (hts _ (List.mem_cons_of_mem _ fl_74)) (fun _ h9 => h9) rfl dX1_put_42 ?_
    have hP9 : va_P (dC, dI) vwCl (m_W qm pb pr pv pw ps pc cI (0, m_st u, m_md u, m_mn u, m_rw u, m_sz u, m_wn u + 1, m_sn u, m_bi u, m_ro u, m_rc u, upd (m_wt u) (m_wn u) (a0 &&& 255), m_se u, m_cn u)) H := hP
    have hD9 : va_D A (m_W qm pb pr pv pw ps pc cI (0, m_st u, m_md u, m_mn u, m_rw u, m_sz u, m_wn u + 1, m_sn u, m_bi u, m_ro u, m_rc u, upd (m_wt u) (m_wn u) (a0 &&& 255), m_se u, m_cn u)) := hD
    exact W.iret (v := nI (m_wn u + 1)) hx hb hr (fun t ht hW => ⟨⟨_, (0, m_st u, m_md u, m_mn u, m_rw u, m_sz u, m_wn u + 1, m_sn u, m_bi u, m_ro u, m_rc u, upd (m_wt u) (m_wn u) (a0 &&& 255), m_se u, m_cn u), rfl, ⟨(by unfold m_put_r; rw [if_neg c_1]), (by unfold m_put; rw [if_neg c_1])⟩, by rw [ht]; exact hP9, va_K.moved hW.alike hK, hD9⟩, hS.F ht⟩) hS.2.2 dX1_put_45
  · refine lv_iconst (v := (-1)) hx hb dX1_put_15 (by decide) ?_
    have hP9 : va_P (dC, dI) vwCl (m_W qm pb pr pv pw ps pc cI (0, m_st u, m_md u, m_mn u, m_rw u, m_sz u, m_wn u, m_sn u, m_bi u, m_ro u, m_rc u, m_wt u, m_se u, m_cn u)) H := hP
    have hD9 : va_D A (m_W qm pb pr pv pw ps pc cI (0, m_st u, m_md u, m_mn u, m_rw u, m_sz u, m_wn u, m_sn u, m_bi u, m_ro u, m_rc u, m_wt u, m_se u, m_cn u)) := hD
    exact W.iret (v := (-1)) hx hb hr (fun t ht hW => ⟨⟨_, (0, m_st u, m_md u, m_mn u, m_rw u, m_sz u, m_wn u, m_sn u, m_bi u, m_ro u, m_rc u, m_wt u, m_se u, m_cn u), rfl, ⟨(by unfold m_put_r; rw [if_pos c_1]), (by unfold m_put; rw [if_pos c_1])⟩, by rw [ht]; exact hP9, va_K.moved hW.alike hK, hD9⟩, hS.F ht⟩) hS.2.2 dX1_put_16

abbrev rmX1_out : Room := { frames := 0, cells := 0, slots := 0, locals := 0 }
def m_out (u : m_S) (a0 : Int32) : m_S := (m_th u, m_st u, m_md u, m_mn u, m_rw u, m_sz u, m_wn u, m_sn u + 1, m_bi u, m_ro u, m_rc u, m_wt u, upd (m_se u) (m_sn u) a0, m_cn u)
set_option maxHeartbeats 4000000 in
set_option maxRecDepth 100000 in
theorem kX1_out (l : Launch) (dC : Nat → ClassId) (dI : Nat → Nat → Nat) (qm pb pr pv pw ps pc : Nat) (cI : ClassId) (sz : Nat) (u : m_S) (a0 : Int32) (hsn : m_sn u < 306) : Met l yX1_out vX1_out rmX1_out (va_Pc [.ref qm, .int a0] (fun U => U.heap.size = sz ∧ va_P (dC, dI) vwCl (m_W qm pb pr pv pw ps pc cI u) U.heap ∧ va_K (dC, dI) vwCl [(cI, .int)] U ∧ va_D (fun _ => True) (m_W qm pb pr pv pw ps pc cI u))) (va_Qv (fun u2 => u2 = m_out u a0) (m_At dC dI (va_A (m_W qm pb pr pv pw ps pc cI u) sz) qm pb pr pv pw ps pc cI) (va_A (m_W qm pb pr pv pw ps pc cI u) sz)) 0 0 (va_A (m_W qm pb pr pv pw ps pc cI u) sz) := by
  refine Met.ofW (cc := cX1_out) (maxL := 2) (ret := none) (by decide) rfl ?_
  intro p e s m args below meth c s₁ B hml hv
  obtain ⟨rfl, hsz, hP, hK, hD0⟩ := hv
  have hx := B.exec
  have hb := B.bytes
  have hr := B.returns
  have hts := atoms_spec (ws := vX1_out) B.pre
  have hown : s.vm.findClass RX1 = some m.cls := findClass_of_methodNamed B.named
  have hlocks := B.notSynchronized
  have hinT : ∀ w ∈ wsX10, w ∈ vX1_out := fun w h => List.mem_cons_of_mem _ (inM w h)
  subst hsz
  have hD := hD0.self (sz := s.heap.size)
  generalize hAe : va_A (m_W qm pb pr pv pw ps pc cI u) s.heap.size = A at hD ⊢
  have hA : ∀ q : Nat, s.heap.size ≤ q → A q := fun q h => by rw [← hAe]; exact Or.inr h
  have hS : va_S A s.heap s.heap [] := va_S.rf
  have hD : va_D A [(qm, .inr (1, [.int (m_th u), .int (m_st u), .int (m_md u), .ref pb, .int (nI (m_mn u)), .ref pr, .int (nI (m_rw u)), .ref pv, .int (nI (m_sz u)), .ref pw, .int (nI (m_wn u)), .ref ps, .int (nI (m_sn u)), .ref pc])), (pb, .inl (cI, 64, .inl (m_bi u))), (pr, .inl (cI, 259, .inl (m_ro u))), (pv, .inl (cI, 259, .inl (m_rc u))), (pw, .inl (cI, 259, .inl (m_wt u))), (ps, .inl (cI, 306, .inl (m_se u))), (pc, .inl (cI, 5, .inl (m_cn u)))] := hD
  have hP : va_P (dC, dI) vwCl [(qm, .inr (1, [.int (m_th u), .int (m_st u), .int (m_md u), .ref pb, .int (nI (m_mn u)), .ref pr, .int (nI (m_rw u)), .ref pv, .int (nI (m_sz u)), .ref pw, .int (nI (m_wn u)), .ref ps, .int (nI (m_sn u)), .ref pc])), (pb, .inl (cI, 64, .inl (m_bi u))), (pr, .inl (cI, 259, .inl (m_ro u))), (pv, .inl (cI, 259, .inl (m_rc u))), (pw, .inl (cI, 259, .inl (m_wt u))), (ps, .inl (cI, 306, .inl (m_se u))), (pc, .inl (cI, 5, .inl (m_cn u)))] s.heap := hP
  have hl := lv_entry ([.ref qm, .int a0]) (n := 2) (Nat.le_of_ble_eq_true rfl)
  rw [lg_entry_eq]
  generalize (lg_sl ([.ref qm, .int a0]) ++ List.replicate (2 - (lg_sl ([.ref qm, .int a0])).length) Slot.unset).toArray = ls at hl ⊢
  have hl : lv_has ls 2 [(0, .ref qm), (1, .int a0)] := hl
  refine lv_aload_n hx hb dX1_out_0 rfl (lv_at hl 0 rfl) ?_
  refine va_get (D := (dC, dI)) (ci := 1) (v := .ref ps) (C := RX1) (T := TX1) (N := 14) hx hb hts hinT hown hK hP 0 rfl rfl 11 (by decide) (hts _ (List.mem_cons_of_mem _ fl_22)) (fun _ h9 => h9) rfl dX1_out_1 ?_
  refine lv_aload_n hx hb dX1_out_4 rfl (lv_at hl 0 rfl) ?_
  refine va_get (D := (dC, dI)) (ci := 1) (v := .int (nI (m_sn u))) (C := RX1) (T := TX1) (N := 14) hx hb hts hinT hown hK hP 0 rfl rfl 12 (by decide) (hts _ (List.mem_cons_of_mem _ fl_77)) (fun _ h9 => h9) rfl dX1_out_5 ?_
  refine lv_iload_n hx hb dX1_out_8 rfl (lv_at hl 1 rfl) ?_
  refine va_iast hx hb hK hP hD hS 5 0 rfl rfl (vp_in_nI (by omega) (by decide)) dX1_out_9 (fun H locs hP hD hS => ?_)
  rw [show (nI (m_sn u) : Int32).toNatClampNeg = m_sn u from (nI_clamp (by omega))] at hP hD
  have hP : va_P (dC, dI) vwCl [(qm, .inr (1, [.int (m_th u), .int (m_st u), .int (m_md u), .ref pb, .int (nI (m_mn u)), .ref pr, .int (nI (m_rw u)), .ref pv, .int (nI (m_sz u)), .ref pw, .int (nI (m_wn u)), .ref ps, .int (nI (m_sn u)), .ref pc])), (pb, .inl (cI, 64, .inl (m_bi u))), (pr, .inl (cI, 259, .inl (m_ro u))), (pv, .inl (cI, 259, .inl (m_rc u))), (pw, .inl (cI, 259, .inl (m_wt u))), (ps, .inl (cI, 306, .inl (upd (m_se u) (m_sn u) a0))), (pc, .inl (cI, 5, .inl (m_cn u)))] H := hP
  have hD : va_D A [(qm, .inr (1, [.int (m_th u), .int (m_st u), .int (m_md u), .ref pb, .int (nI (m_mn u)), .ref pr, .int (nI (m_rw u)), .ref pv, .int (nI (m_sz u)), .ref pw, .int (nI (m_wn u)), .ref ps, .int (nI (m_sn u)), .ref pc])), (pb, .inl (cI, 64, .inl (m_bi u))), (pr, .inl (cI, 259, .inl (m_ro u))), (pv, .inl (cI, 259, .inl (m_rc u))), (pw, .inl (cI, 259, .inl (m_wt u))), (ps, .inl (cI, 306, .inl (upd (m_se u) (m_sn u) a0))), (pc, .inl (cI, 5, .inl (m_cn u)))] := hD
  refine lv_aload_n hx hb dX1_out_10 rfl (lv_at hl 0 rfl) ?_
  refine lv_dup hx hb dX1_out_11 rfl ?_
  refine va_get (D := (dC, dI)) (ci := 1) (v := .int (nI (m_sn u))) (C := RX1) (T := TX1) (N := 14) hx hb hts hinT hown hK hP 0 rfl rfl 12 (by decide) (hts _ (List.mem_cons_of_mem _ fl_77)) (fun _ h9 => h9) rfl dX1_out_12 ?_
  refine lv_iconst (v := 1) hx hb dX1_out_15 (by decide) ?_
  refine lv_iadd hx hb dX1_out_16 ?_
  refine W.eq (congrArg (fun z => F0 m 17 ls (.int z :: [.ref qm])) (show (nI (m_sn u)) + 1 = nI (m_sn u + 1) from (nI_add _ _))) ?_
  refine va_put (D := (dC, dI)) (ci := 1) (v := .int (nI (m_sn u + 1))) (ty := .int) (C := RX1) (T := TX1) (N := 14) hx hb hts hinT tyX1 tyX1_ok nmX1 hown hK hP hD hS 0 rfl rfl 12 (by decide) (hts _ (List.mem_cons_of_mem _ fl_77)) (fun _ h9 => h9) rfl (by decide +kernel) rfl rfl (Nat.le_of_ble_eq_true rfl) dX1_out_17 (fun H locs hP hD hS => ?_)
  have hP : va_P (dC, dI) vwCl [(qm, .inr (1, [.int (m_th u), .int (m_st u), .int (m_md u), .ref pb, .int (nI (m_mn u)), .ref pr, .int (nI (m_rw u)), .ref pv, .int (nI (m_sz u)), .ref pw, .int (nI (m_wn u)), .ref ps, .int (nI (m_sn u + 1)), .ref pc])), (pb, .inl (cI, 64, .inl (m_bi u))), (pr, .inl (cI, 259, .inl (m_ro u))), (pv, .inl (cI, 259, .inl (m_rc u))), (pw, .inl (cI, 259, .inl (m_wt u))), (ps, .inl (cI, 306, .inl (upd (m_se u) (m_sn u) a0))), (pc, .inl (cI, 5, .inl (m_cn u)))] H := hP
  have hD : va_D A [(qm, .inr (1, [.int (m_th u), .int (m_st u), .int (m_md u), .ref pb, .int (nI (m_mn u)), .ref pr, .int (nI (m_rw u)), .ref pv, .int (nI (m_sz u)), .ref pw, .int (nI (m_wn u)), .ref ps, .int (nI (m_sn u + 1)), .ref pc])), (pb, .inl (cI, 64, .inl (m_bi u))), (pr, .inl (cI, 259, .inl (m_ro u))), (pv, .inl (cI, 259, .inl (m_rc u))), (pw, .inl (cI, 259, .inl (m_wt u))), (ps, .inl (cI, 306, .inl (upd (m_se u) (m_sn u) a0))), (pc, .inl (cI, 5, .inl (m_cn u)))] := hD
  have hP9 : va_P (dC, dI) vwCl (m_W qm pb pr pv pw ps pc cI (m_th u, m_st u, m_md u, m_mn u, m_rw u, m_sz u, m_wn u, m_sn u + 1, m_bi u, m_ro u, m_rc u, m_wt u, upd (m_se u) (m_sn u) a0, m_cn u)) H := hP
  have hD9 : va_D A (m_W qm pb pr pv pw ps pc cI (m_th u, m_st u, m_md u, m_mn u, m_rw u, m_sz u, m_wn u, m_sn u + 1, m_bi u, m_ro u, m_rc u, m_wt u, upd (m_se u) (m_sn u) a0, m_cn u)) := hD
  exact W.vret hx hb hr (fun t ht hW => ⟨⟨(m_th u, m_st u, m_md u, m_mn u, m_rw u, m_sz u, m_wn u, m_sn u + 1, m_bi u, m_ro u, m_rc u, m_wt u, upd (m_se u) (m_sn u) a0, m_cn u), rfl, (rfl), by rw [ht]; exact hP9, va_K.moved hW.alike hK, hD9⟩, hS.F ht⟩) hS.2.2 dX1_out_20
end
section
abbrev rmX1_check : Room := { frames := 0, cells := 0, slots := 0, locals := 0 }
def m_ckB (u : m_S) (fr ck k : Nat) : Int32 := if 56 ≤ nI k then 1 - (((nI ck) >>> ((62 - (nI k)) &&& 31)) &&& 1) else (((m_wt u) (fr + k / 8)) >>> ((7 - (nI (k % 8))) &&& 31)) &&& 1
def m_ciF (u : m_S) (fr ck : Nat) : Nat → Nat → Int32 → Int32
  | 0, _, r => r
  | n + 1, k, r => m_ciF u fr ck n (k + 1) (m_rd ((2 * r) + (m_ckB u fr ck k)))
def m_coF (u : m_S) (fr : Nat) : Nat → Nat → Int32 → Int32
  | 0, _, f => f
  | n + 1, ck, f => m_coF u fr n (ck + 1) (if m_ciF u fr ck 63 0 0 = 0 then nI (2 * ck) else f)
set_option maxHeartbeats 4000000 in
set_option maxRecDepth 100000 in
theorem lpX1_checkI {p : Program} {l : Launch} {e : Env} {s : State} {m : MethodId} {args : Array Value} {below : List Frame} {meth : Method} {c : Code} {H : Heap} {locs : List Loc} {Q : State → Prop} (dC : Nat → ClassId) (dI : Nat → Nat → Nat) (qm pb pr pv pw ps pc : Nat) (cI : ClassId) (fr ck : Nat) (hfr : fr ≤ 252) (f : Int32) (hx : p.tables.exec = Jvm.exec) (hb : c.code = cX1_check) (hml : c.maxLocals = 7) (hown : s.vm.findClass RX1 = some m.cls) (hts : ∀ w ∈ vX1_check, w.before args s = true) (u : m_S) (hP : va_P (dC, dI) vwCl (m_W qm pb pr pv pw ps pc cI u) H) (hK : va_K (dC, dI) vwCl [(cI, .int)] s) : ∀ (n : Nat) (k : Nat) (r : Int32) (ls : Array Slot), k + n = 63 → lv_has ls 7 [(0, .ref qm), (1, .int (nI fr)), (2, .int f), (3, .int (nI ck)), (4, .int r), (5, .int (nI k))] → (∀ (ls : Array Slot), lv_has ls 7 [(0, .ref qm), (1, .int (nI fr)), (2, .int f), (3, .int (nI ck)), (4, .int (m_ciF u fr ck n k r))] → W p l e (headSpec vX1_check rmX1_check).room s m args below meth c H locs 0 0 Q (F0 m 105 ls [])) → W p l e (headSpec vX1_check rmX1_check).room s m args below meth c H locs 0 0 Q (F0 m 17 ls []) := by
  have hinT : ∀ w ∈ wsX10, w ∈ vX1_check := fun w h => List.mem_cons_of_mem _ (inM w h)
  have hP : va_P (dC, dI) vwCl [(qm, .inr (1, [.int (m_th u), .int (m_st u), .int (m_md u), .ref pb, .int (nI (m_mn u)), .ref pr, .int (nI (m_rw u)), .ref pv, .int (nI (m_sz u)), .ref pw, .int (nI (m_wn u)), .ref ps, .int (nI (m_sn u)), .ref pc])), (pb, .inl (cI, 64, .inl (m_bi u))), (pr, .inl (cI, 259, .inl (m_ro u))), (pv, .inl (cI, 259, .inl (m_rc u))), (pw, .inl (cI, 259, .inl (m_wt u))), (ps, .inl (cI, 306, .inl (m_se u))), (pc, .inl (cI, 5, .inl (m_cn u)))] H := hP
  intro n
  induction n with
  | zero =>
    intro k r ls hn hl kk
    have hk : k = 63 := by omega
    subst hk
    have hl : lv_has ls 7 [(0, .ref qm), (1, .int (nI fr)), (2, .int f), (3, .int (nI ck)), (4, .int r), (5, .int (nI 63))] := hl
    refine lv_iload hx hb dX1_check_17 (lv_at hl 5 rfl) ?_
    refine lv_bipush (v := 63) hx hb dX1_check_19 (by decide) ?_
    refine lv_icmp_ge (tgt := 105) hx hb dX1_check_21 (by decide) (fun c_1 => ?_) (fun c_1 => absurd (by decide) c_1)
    exact kk ls (lv_sub hl [0, 1, 2, 3, 4] rfl)
  | succ n ih =>
    intro k r ls hn hl kk
    have hl : lv_has ls 7 [(0, .ref qm), (1, .int (nI fr)), (2, .int f), (3, .int (nI ck)), (4, .int r), (5, .int (nI k))] := hl
    refine lv_iload hx hb dX1_check_17 (lv_at hl 5 rfl) ?_
    refine lv_bipush (v := 63) hx hb dX1_check_19 (by decide) ?_
    refine lv_icmp_ge (tgt := 105) hx hb dX1_check_21 (by decide) (fun c_1 => absurd c_1 (show ¬ nI 63 ≤ nI k from nI_ge (by omega) (by decide))) (fun c_1 => ?_)
    refine lv_iload hx hb dX1_check_24 (lv_at hl 5 rfl) ?_
    refine lv_bipush (v := 56) hx hb dX1_check_26 (by decide) ?_
    refine lv_icmp_ge (tgt := 57) hx hb dX1_check_28 (by decide) (fun c_2 => ?_) (fun c_2 => ?_)
    · refine lv_iconst (v := 1) hx hb dX1_check_57 (by decide) ?_
      refine lv_iload_n hx hb dX1_check_58 rfl (lv_at hl 3 rfl) ?_
      refine lv_bipush (v := 62) hx hb dX1_check_59 (by decide) ?_
      refine lv_iload hx hb dX1_check_61 (lv_at hl 5 rfl) ?_
      refine lv_isub hx hb dX1_check_63 ?_
      refine lv_ishr hx hb dX1_check_64 ?_
      refine lv_iconst (v := 1) hx hb dX1_check_65 (by decide) ?_
      refine lv_iand hx hb dX1_check_66 ?_
      refine lv_isub hx hb dX1_check_67 ?_
      refine lv_istore (lv' := [(6, .int (1 - (((nI ck) >>> (62 - (nI k) &&& 31)) &&& 1))), (0, .ref qm), (1, .int (nI fr)), (2, .int f), (3, .int (nI ck)), (4, .int r), (5, .int (nI k))]) hx hb dX1_check_68 hl (by decide) rfl (fun ls hl => ?_)
      refine lv_iconst (v := 2) hx hb dX1_check_70 (by decide) ?_
      refine lv_iload hx hb dX1_check_71 (lv_at hl 5 rfl) ?_
      refine lv_imul hx hb dX1_check_73 ?_
      refine lv_iload hx hb dX1_check_74 (lv_at hl 0 rfl) ?_
      refine lv_iadd hx hb dX1_check_76 ?_
      refine lv_istore (lv' := [(4, .int ((2 * r) + (1 - (((nI ck) >>> (62 - (nI k) &&& 31)) &&& 1)))), (6, .int (1 - (((nI ck) >>> (62 - (nI k) &&& 31)) &&& 1))), (0, .ref qm), (1, .int (nI fr)), (2, .int f), (3, .int (nI ck)), (5, .int (nI k))]) hx hb dX1_check_77 hl (by decide) rfl (fun ls hl => ?_)
      refine lv_iload hx hb dX1_check_79 (lv_at hl 0 rfl) ?_
      refine lv_bipush (v := 127) hx hb dX1_check_81 (by decide) ?_
      refine lv_icmp_le (tgt := 95) hx hb dX1_check_83 (by decide) (fun c_3 => ?_) (fun c_3 => ?_)
      · refine lv_iload hx hb dX1_check_95 (lv_at hl 0 rfl) ?_
        refine lv_istore (lv' := [(4, .int ((2 * r) + (1 - (((nI ck) >>> (62 - (nI k) &&& 31)) &&& 1)))), (6, .int (1 - (((nI ck) >>> (62 - (nI k) &&& 31)) &&& 1))), (0, .ref qm), (1, .int (nI fr)), (2, .int f), (3, .int (nI ck)), (5, .int (nI k))]) hx hb dX1_check_97 hl (by decide) rfl (fun ls hl => ?_)
        refine lv_iinc (v := nI (k + 1)) (lv' := [(5, .int (nI (k + 1))), (4, .int ((2 * r) + (1 - (((nI ck) >>> (62 - (nI k) &&& 31)) &&& 1)))), (6, .int (1 - (((nI ck) >>> (62 - (nI k) &&& 31)) &&& 1))), (0, .ref qm), (1, .int (nI fr)), (2, .int f), (3, .int (nI ck))]) hx hb dX1_check_99 hl (k := 6) rfl (show nI k + nI 1 = nI (k + 1) from nI_add _ _) (by decide) rfl (fun ls hl => ?_)
        refine lv_goto (tgt := 17) hx hb dX1_check_102 (by decide) ?_
        have eF : m_ciF u fr ck (n + 1) k r = m_ciF u fr ck n (k + 1) ((2 * r) + (1 - (((nI ck) >>> (62 - (nI k) &&& 31)) &&& 1))) := by simp only [m_ciF, m_ckB, m_rd, if_pos c_2, if_pos c_3]
        exact ih (k + 1) ((2 * r) + (1 - (((nI ck) >>> (62 - (nI k) &&& 31)) &&& 1))) ls (by omega) (lv_sub hl [3, 4, 5, 6, 1, 0] rfl) (fun ls hl => kk ls (by rw [eF]; exact hl))
      · refine lv_iload hx hb dX1_check_86 (lv_at hl 0 rfl) ?_
        refine lv_sipush (v := 197) hx hb dX1_check_88 (by decide) ?_
        refine lv_ixor hx hb dX1_check_91 ?_
        refine lv_goto (tgt := 97) hx hb dX1_check_92 (by decide) ?_
        refine lv_istore (lv' := [(4, .int (((2 * r) + (1 - (((nI ck) >>> (62 - (nI k) &&& 31)) &&& 1))) ^^^ 197)), (6, .int (1 - (((nI ck) >>> (62 - (nI k) &&& 31)) &&& 1))), (0, .ref qm), (1, .int (nI fr)), (2, .int f), (3, .int (nI ck)), (5, .int (nI k))]) hx hb dX1_check_97 hl (by decide) rfl (fun ls hl => ?_)
        refine lv_iinc (v := nI (k + 1)) (lv' := [(5, .int (nI (k + 1))), (4, .int (((2 * r) + (1 - (((nI ck) >>> (62 - (nI k) &&& 31)) &&& 1))) ^^^ 197)), (6, .int (1 - (((nI ck) >>> (62 - (nI k) &&& 31)) &&& 1))), (0, .ref qm), (1, .int (nI fr)), (2, .int f), (3, .int (nI ck))]) hx hb dX1_check_99 hl (k := 6) rfl (show nI k + nI 1 = nI (k + 1) from nI_add _ _) (by decide) rfl (fun ls hl => ?_)
        refine lv_goto (tgt := 17) hx hb dX1_check_102 (by decide) ?_
        have eF : m_ciF u fr ck (n + 1) k r = m_ciF u fr ck n (k + 1) (((2 * r) + (1 - (((nI ck) >>> (62 - (nI k) &&& 31)) &&& 1))) ^^^ 197) := by simp only [m_ciF, m_ckB, m_rd, if_pos c_2, if_neg c_3]
        exact ih (k + 1) (((2 * r) + (1 - (((nI ck) >>> (62 - (nI k) &&& 31)) &&& 1))) ^^^ 197) ls (by omega) (lv_sub hl [3, 4, 5, 6, 1, 0] rfl) (fun ls hl => kk ls (by rw [eF]; exact hl))
    · have h56 : k < 56 := j_ltn (by decide) (by omega) (show ¬ nI 56 ≤ nI k from c_2)
      refine lv_aload_n hx hb dX1_check_31 rfl (lv_at hl 0 rfl) ?_
      refine va_get (D := (dC, dI)) (ci := 1) (v := .ref pw) (C := RX1) (T := TX1) (N := 14) hx hb hts hinT hown hK hP 0 rfl rfl 9 (by decide) (hts _ (List.mem_cons_of_mem _ fl_19)) (fun _ h9 => h9) rfl dX1_check_32 ?_
      refine lv_iload_n hx hb dX1_check_35 rfl (lv_at hl 1 rfl) ?_
      refine lv_iload hx hb dX1_check_36 (lv_at hl 5 rfl) ?_
      refine lv_bipush (v := 8) hx hb dX1_check_38 (by decide) ?_
      refine lv_idiv hx hb dX1_check_40 (by decide) ?_
      refine W.eq (congrArg (fun z => F0 m 41 ls (.int z :: [.int (nI fr), .ref pw])) (show (nI k) / 8 = nI (k / 8) from (pk_div (by omega) (by decide) (by decide)))) ?_
      refine lv_iadd hx hb dX1_check_41 ?_
      refine W.eq (congrArg (fun z => F0 m 42 ls (.int z :: [.ref pw])) (show (nI fr) + (nI (k / 8)) = nI (fr + k / 8) from (nI_add _ _))) ?_
      refine va_iald hx hb hK hP 4 0 rfl rfl (vp_in_nI (by omega) (by decide)) dX1_check_42 ?_
      refine W.eq (g2 := F0 m 43 ls [.int ((m_wt u) (fr + k / 8))]) (by rw [nI_clamp (by omega)]) ?_
      refine lv_bipush (v := 7) hx hb dX1_check_43 (by decide) ?_
      refine lv_iload hx hb dX1_check_45 (lv_at hl 5 rfl) ?_
      refine lv_bipush (v := 8) hx hb dX1_check_47 (by decide) ?_
      refine lv_irem hx hb dX1_check_49 (by decide) ?_
      refine W.eq (congrArg (fun z => F0 m 50 ls (.int z :: [.int 7, .int ((m_wt u) (fr + k / 8))])) (show (nI k) - (nI k) / 8 * 8 = nI (k % 8) from (pk_rem (by omega) (by decide) (by decide)))) ?_
      refine lv_isub hx hb dX1_check_50 ?_
      refine lv_ishr hx hb dX1_check_51 ?_
      refine lv_iconst (v := 1) hx hb dX1_check_52 (by decide) ?_
      refine lv_iand hx hb dX1_check_53 ?_
      refine lv_goto (tgt := 68) hx hb dX1_check_54 (by decide) ?_
      refine lv_istore (lv' := [(6, .int ((((m_wt u) (fr + k / 8)) >>> (7 - (nI (k % 8)) &&& 31)) &&& 1)), (0, .ref qm), (1, .int (nI fr)), (2, .int f), (3, .int (nI ck)), (4, .int r), (5, .int (nI k))]) hx hb dX1_check_68 hl (by decide) rfl (fun ls hl => ?_)
      refine lv_iconst (v := 2) hx hb dX1_check_70 (by decide) ?_
      refine lv_iload hx hb dX1_check_71 (lv_at hl 5 rfl) ?_
      refine lv_imul hx hb dX1_check_73 ?_
      refine lv_iload hx hb dX1_check_74 (lv_at hl 0 rfl) ?_
      refine lv_iadd hx hb dX1_check_76 ?_
      refine lv_istore (lv' := [(4, .int ((2 * r) + ((((m_wt u) (fr + k / 8)) >>> (7 - (nI (k % 8)) &&& 31)) &&& 1))), (6, .int ((((m_wt u) (fr + k / 8)) >>> (7 - (nI (k % 8)) &&& 31)) &&& 1)), (0, .ref qm), (1, .int (nI fr)), (2, .int f), (3, .int (nI ck)), (5, .int (nI k))]) hx hb dX1_check_77 hl (by decide) rfl (fun ls hl => ?_)
      refine lv_iload hx hb dX1_check_79 (lv_at hl 0 rfl) ?_
      refine lv_bipush (v := 127) hx hb dX1_check_81 (by decide) ?_
      refine lv_icmp_le (tgt := 95) hx hb dX1_check_83 (by decide) (fun c_4 => ?_) (fun c_4 => ?_)
      · refine lv_iload hx hb dX1_check_95 (lv_at hl 0 rfl) ?_
        refine lv_istore (lv' := [(4, .int ((2 * r) + ((((m_wt u) (fr + k / 8)) >>> (7 - (nI (k % 8)) &&& 31)) &&& 1))), (6, .int ((((m_wt u) (fr + k / 8)) >>> (7 - (nI (k % 8)) &&& 31)) &&& 1)), (0, .ref qm), (1, .int (nI fr)), (2, .int f), (3, .int (nI ck)), (5, .int (nI k))]) hx hb dX1_check_97 hl (by decide) rfl (fun ls hl => ?_)
        refine lv_iinc (v := nI (k + 1)) (lv' := [(5, .int (nI (k + 1))), (4, .int ((2 * r) + ((((m_wt u) (fr + k / 8)) >>> (7 - (nI (k % 8)) &&& 31)) &&& 1))), (6, .int ((((m_wt u) (fr + k / 8)) >>> (7 - (nI (k % 8)) &&& 31)) &&& 1)), (0, .ref qm), (1, .int (nI fr)), (2, .int f), (3, .int (nI ck))]) hx hb dX1_check_99 hl (k := 6) rfl (show nI k + nI 1 = nI (k + 1) from nI_add _ _) (by decide) rfl (fun ls hl => ?_)
        refine lv_goto (tgt := 17) hx hb dX1_check_102 (by decide) ?_
        have eF : m_ciF u fr ck (n + 1) k r = m_ciF u fr ck n (k + 1) ((2 * r) + ((((m_wt u) (fr + k / 8)) >>> (7 - (nI (k % 8)) &&& 31)) &&& 1)) := by simp only [m_ciF, m_ckB, m_rd, if_neg c_2, if_pos c_4]
        exact ih (k + 1) ((2 * r) + ((((m_wt u) (fr + k / 8)) >>> (7 - (nI (k % 8)) &&& 31)) &&& 1)) ls (by omega) (lv_sub hl [3, 4, 5, 6, 1, 0] rfl) (fun ls hl => kk ls (by rw [eF]; exact hl))
      · refine lv_iload hx hb dX1_check_86 (lv_at hl 0 rfl) ?_
        refine lv_sipush (v := 197) hx hb dX1_check_88 (by decide) ?_
        refine lv_ixor hx hb dX1_check_91 ?_
        refine lv_goto (tgt := 97) hx hb dX1_check_92 (by decide) ?_
        refine lv_istore (lv' := [(4, .int (((2 * r) + ((((m_wt u) (fr + k / 8)) >>> (7 - (nI (k % 8)) &&& 31)) &&& 1)) ^^^ 197)), (6, .int ((((m_wt u) (fr + k / 8)) >>> (7 - (nI (k % 8)) &&& 31)) &&& 1)), (0, .ref qm), (1, .int (nI fr)), (2, .int f), (3, .int (nI ck)), (5, .int (nI k))]) hx hb dX1_check_97 hl (by decide) rfl (fun ls hl => ?_)
        refine lv_iinc (v := nI (k + 1)) (lv' := [(5, .int (nI (k + 1))), (4, .int (((2 * r) + ((((m_wt u) (fr + k / 8)) >>> (7 - (nI (k % 8)) &&& 31)) &&& 1)) ^^^ 197)), (6, .int ((((m_wt u) (fr + k / 8)) >>> (7 - (nI (k % 8)) &&& 31)) &&& 1)), (0, .ref qm), (1, .int (nI fr)), (2, .int f), (3, .int (nI ck))]) hx hb dX1_check_99 hl (k := 6) rfl (show nI k + nI 1 = nI (k + 1) from nI_add _ _) (by decide) rfl (fun ls hl => ?_)
        refine lv_goto (tgt := 17) hx hb dX1_check_102 (by decide) ?_
        have eF : m_ciF u fr ck (n + 1) k r = m_ciF u fr ck n (k + 1) (((2 * r) + ((((m_wt u) (fr + k / 8)) >>> (7 - (nI (k % 8)) &&& 31)) &&& 1)) ^^^ 197) := by simp only [m_ciF, m_ckB, m_rd, if_neg c_2, if_neg c_4]
        exact ih (k + 1) (((2 * r) + ((((m_wt u) (fr + k / 8)) >>> (7 - (nI (k % 8)) &&& 31)) &&& 1)) ^^^ 197) ls (by omega) (lv_sub hl [3, 4, 5, 6, 1, 0] rfl) (fun ls hl => kk ls (by rw [eF]; exact hl))
set_option maxHeartbeats 4000000 in
set_option maxRecDepth 100000 in
theorem lpX1_checkO {p : Program} {l : Launch} {e : Env} {s : State} {m : MethodId} {args : Array Value} {below : List Frame} {meth : Method} {c : Code} {H : Heap} {locs : List Loc} {Q : State → Prop} (dC : Nat → ClassId) (dI : Nat → Nat → Nat) (qm pb pr pv pw ps pc : Nat) (cI : ClassId) (fr : Nat) (hfr : fr ≤ 252) (hx : p.tables.exec = Jvm.exec) (hb : c.code = cX1_check) (hml : c.maxLocals = 7) (hown : s.vm.findClass RX1 = some m.cls) (hts : ∀ w ∈ vX1_check, w.before args s = true) (u : m_S) (hP : va_P (dC, dI) vwCl (m_W qm pb pr pv pw ps pc cI u) H) (hK : va_K (dC, dI) vwCl [(cI, .int)] s) : ∀ (n : Nat) (ck : Nat) (f : Int32) (ls : Array Slot), ck + n = 128 → lv_has ls 7 [(0, .ref qm), (1, .int (nI fr)), (2, .int f), (3, .int (nI ck))] → (∀ (ls : Array Slot), lv_has ls 7 [(2, .int (m_coF u fr n ck f))] → W p l e (headSpec vX1_check rmX1_check).room s m args below meth c H locs 0 0 Q (F0 m 124 ls [])) → W p l e (headSpec vX1_check rmX1_check).room s m args below meth c H locs 0 0 Q (F0 m 4 ls []) := by
  have hinT : ∀ w ∈ wsX10, w ∈ vX1_check := fun w h => List.mem_cons_of_mem _ (inM w h)
  have hP : va_P (dC, dI) vwCl [(qm, .inr (1, [.int (m_th u), .int (m_st u), .int (m_md u), .ref pb, .int (nI (m_mn u)), .ref pr, .int (nI (m_rw u)), .ref pv, .int (nI (m_sz u)), .ref pw, .int (nI (m_wn u)), .ref ps, .int (nI (m_sn u)), .ref pc])), (pb, .inl (cI, 64, .inl (m_bi u))), (pr, .inl (cI, 259, .inl (m_ro u))), (pv, .inl (cI, 259, .inl (m_rc u))), (pw, .inl (cI, 259, .inl (m_wt u))), (ps, .inl (cI, 306, .inl (m_se u))), (pc, .inl (cI, 5, .inl (m_cn u)))] H := hP
  intro n
  induction n with
  | zero =>
    intro ck f ls hn hl kk
    have hc : ck = 128 := by omega
    subst hc
    have hl : lv_has ls 7 [(0, .ref qm), (1, .int (nI fr)), (2, .int f), (3, .int (nI 128))] := hl
    refine lv_iload_n hx hb dX1_check_4 rfl (lv_at hl 3 rfl) ?_
    refine lv_sipush (v := 128) hx hb dX1_check_5 (by decide) ?_
    refine lv_icmp_ge (tgt := 124) hx hb dX1_check_8 (by decide) (fun c_1 => ?_) (fun c_1 => absurd (by decide) c_1)
    exact kk ls (lv_sub hl [2] rfl)
  | succ n ih =>
    intro ck f ls hn hl kk
    have hl : lv_has ls 7 [(0, .ref qm), (1, .int (nI fr)), (2, .int f), (3, .int (nI ck))] := hl
    refine lv_iload_n hx hb dX1_check_4 rfl (lv_at hl 3 rfl) ?_
    refine lv_sipush (v := 128) hx hb dX1_check_5 (by decide) ?_
    refine lv_icmp_ge (tgt := 124) hx hb dX1_check_8 (by decide) (fun c_1 => absurd c_1 (show ¬ nI 128 ≤ nI ck from nI_ge (by omega) (by decide))) (fun c_1 => ?_)
    refine lv_iconst (v := 0) hx hb dX1_check_11 (by decide) ?_
    refine lv_istore (lv' := [(4, .int 0), (0, .ref qm), (1, .int (nI fr)), (2, .int f), (3, .int (nI ck))]) hx hb dX1_check_12 hl (by decide) rfl (fun ls hl => ?_)
    refine lv_iconst (v := 0) hx hb dX1_check_14 (by decide) ?_
    refine lv_istore (lv' := [(5, .int 0), (4, .int 0), (0, .ref qm), (1, .int (nI fr)), (2, .int f), (3, .int (nI ck))]) hx hb dX1_check_15 hl (by decide) rfl (fun ls hl => ?_)
    refine lpX1_checkI (l := l) dC dI qm pb pr pv pw ps pc cI fr ck hfr f hx hb hml hown hts u hP hK 63 0 0 ls rfl (lv_sub hl [2, 3, 4, 5, 1, 0] rfl) (fun ls hl => ?_)
    refine lv_iload hx hb dX1_check_105 (lv_at hl 4 rfl) ?_
    refine lv_if_ne (tgt := 116) hx hb dX1_check_107 (by decide) (fun c_2 => ?_) (fun c_2 => ?_)
    · refine lv_iload_n hx hb dX1_check_116 rfl (lv_at hl 2 rfl) ?_
      refine lv_istore_n (lv' := [(2, .int f), (0, .ref qm), (1, .int (nI fr)), (3, .int (nI ck)), (4, .int (m_ciF u fr ck 63 0 0))]) hx hb dX1_check_117 rfl hl (by decide) rfl (fun ls hl => ?_)
      refine lv_iinc (v := nI (ck + 1)) (lv' := [(3, .int (nI (ck + 1))), (2, .int f), (0, .ref qm), (1, .int (nI fr)), (4, .int (m_ciF u fr ck 63 0 0))]) hx hb dX1_check_118 hl (k := 3) rfl (show nI ck + nI 1 = nI (ck + 1) from nI_add _ _) (by decide) rfl (fun ls hl => ?_)
      refine lv_goto (tgt := 4) hx hb dX1_check_121 (by decide) ?_
      have eF : m_coF u fr (n + 1) ck f = m_coF u fr n (ck + 1) f := by rw [m_coF, if_neg c_2]
      exact ih (ck + 1) f ls (by omega) (lv_sub hl [2, 3, 1, 0] rfl) (fun ls hl => kk ls (by rw [eF]; exact hl))
    · refine lv_iconst (v := 2) hx hb dX1_check_110 (by decide) ?_
      refine lv_iload_n hx hb dX1_check_111 rfl (lv_at hl 3 rfl) ?_
      refine lv_imul hx hb dX1_check_112 ?_
      refine W.eq (congrArg (fun z => F0 m 113 ls (.int z :: [])) (show 2 * (nI ck) = nI (2 * ck) from (pk_mul _ _))) ?_
      refine lv_goto (tgt := 117) hx hb dX1_check_113 (by decide) ?_
      refine lv_istore_n (lv' := [(2, .int (nI (2 * ck))), (0, .ref qm), (1, .int (nI fr)), (3, .int (nI ck)), (4, .int (m_ciF u fr ck 63 0 0))]) hx hb dX1_check_117 rfl hl (by decide) rfl (fun ls hl => ?_)
      refine lv_iinc (v := nI (ck + 1)) (lv' := [(3, .int (nI (ck + 1))), (2, .int (nI (2 * ck))), (0, .ref qm), (1, .int (nI fr)), (4, .int (m_ciF u fr ck 63 0 0))]) hx hb dX1_check_118 hl (k := 3) rfl (show nI ck + nI 1 = nI (ck + 1) from nI_add _ _) (by decide) rfl (fun ls hl => ?_)
      refine lv_goto (tgt := 4) hx hb dX1_check_121 (by decide) ?_
      have eF : m_coF u fr (n + 1) ck f = m_coF u fr n (ck + 1) (nI (2 * ck)) := by rw [m_coF, if_pos c_2]
      exact ih (ck + 1) (nI (2 * ck)) ls (by omega) (lv_sub hl [2, 3, 1, 0] rfl) (fun ls hl => kk ls (by rw [eF]; exact hl))
def m_check (u : m_S) (fr : Nat) : Int32 := m_coF u fr 128 0 0
set_option maxHeartbeats 4000000 in
set_option maxRecDepth 100000 in
theorem kX1_check (l : Launch) (dC : Nat → ClassId) (dI : Nat → Nat → Nat) (qm pb pr pv pw ps pc : Nat) (cI : ClassId) (u : m_S) (fr : Nat) (hfr : fr ≤ 252) : Met l yX1_check vX1_check rmX1_check (va_Pc [.ref qm, .int (nI fr)] (fun U => va_P (dC, dI) vwCl (m_W qm pb pr pv pw ps pc cI u) U.heap ∧ va_K (dC, dI) vwCl [(cI, .int)] U)) (vp_Si (fun r => r = m_check u fr)) 0 0 (fun _ => False) := by
  refine Met.ofW (cc := cX1_check) (maxL := 7) (ret := some .int) (by decide) rfl ?_
  intro p e s m args below meth c s₁ B hml hv
  obtain ⟨rfl, hP, hK⟩ := hv
  have hx := B.exec
  have hb := B.bytes
  have hr := B.returns
  have hts := atoms_spec (ws := vX1_check) B.pre
  have hown : s.vm.findClass RX1 = some m.cls := findClass_of_methodNamed B.named
  have hlocks := B.notSynchronized
  have hinT : ∀ w ∈ wsX10, w ∈ vX1_check := fun w h => List.mem_cons_of_mem _ (inM w h)
  have hP : va_P (dC, dI) vwCl [(qm, .inr (1, [.int (m_th u), .int (m_st u), .int (m_md u), .ref pb, .int (nI (m_mn u)), .ref pr, .int (nI (m_rw u)), .ref pv, .int (nI (m_sz u)), .ref pw, .int (nI (m_wn u)), .ref ps, .int (nI (m_sn u)), .ref pc])), (pb, .inl (cI, 64, .inl (m_bi u))), (pr, .inl (cI, 259, .inl (m_ro u))), (pv, .inl (cI, 259, .inl (m_rc u))), (pw, .inl (cI, 259, .inl (m_wt u))), (ps, .inl (cI, 306, .inl (m_se u))), (pc, .inl (cI, 5, .inl (m_cn u)))] s.heap := hP
  have hl := lv_entry ([.ref qm, .int (nI fr)]) (n := 7) (Nat.le_of_ble_eq_true rfl)
  rw [lg_entry_eq]
  generalize (lg_sl ([.ref qm, .int (nI fr)]) ++ List.replicate (7 - (lg_sl ([.ref qm, .int (nI fr)])).length) Slot.unset).toArray = ls at hl ⊢
  have hl : lv_has ls 7 [(0, .ref qm), (1, .int (nI fr))] := hl
  refine lv_iconst (v := 0) hx hb dX1_check_0 (by decide) ?_
  refine lv_istore_n (lv' := [(2, .int 0), (0, .ref qm), (1, .int (nI fr))]) hx hb dX1_check_1 rfl hl (by decide) rfl (fun ls hl => ?_)
  refine lv_iconst (v := 0) hx hb dX1_check_2 (by decide) ?_
  refine lv_istore_n (lv' := [(3, .int 0), (2, .int 0), (0, .ref qm), (1, .int (nI fr))]) hx hb dX1_check_3 rfl hl (by decide) rfl (fun ls hl => ?_)
  refine lpX1_checkO (l := l) dC dI qm pb pr pv pw ps pc cI fr hfr hx hb hml hown hts u hP hK 128 0 0 ls rfl (lv_sub hl [2, 3, 1, 0] rfl) (fun ls hl => ?_)
  refine lv_iload_n hx hb dX1_check_124 rfl (lv_at hl 0 rfl) ?_
  exact W.iret (v := m_coF u fr 128 0 0) hx hb hr (fun t ht hW => ⟨_, rfl, (rfl), ht⟩) (fun q h => by cases h) dX1_check_125
end
section
abbrev rmX1_send : Room := { frames := 1, cells := 0, slots := 0, locals := 26 }
def m_waF : Nat → m_S → m_S
  | 0, u => u
  | n + 1, u => if nI (m_wn u % 7) = 0 then u else m_waF n (m_th u, m_st u, m_md u, m_mn u, m_rw u, m_sz u, m_wn u + 1, m_sn u, m_bi u, m_ro u, m_rc u, upd (m_wt u) (m_wn u) 85, m_se u, m_cn u)
def m_ocF (i : Nat) : Nat → Nat → m_S → m_S
  | 0, _, u => u
  | n + 1, k, u => m_ocF i n (k + 1) (m_out u ((m_wt u) ((7 * i) + k)))
def m_sB : Nat → Nat → m_S → m_S
  | 0, _, u => u
  | n + 1, i, u => m_sB n (i + 1) (m_out (m_ocF i 7 0 u) (m_check (m_ocF i 7 0 u) (7 * i)))
def m_odF : Nat → Nat → m_S → m_S
  | 0, _, u => u
  | n + 1, k, u => m_odF n (k + 1) (m_out u 197)
def m_th0 (u : m_S) : m_S := (0, m_st u, m_md u, m_mn u, m_rw u, m_sz u, m_wn u, m_sn u, m_bi u, m_ro u, m_rc u, m_wt u, m_se u, m_cn u)
def m_sn0 (u : m_S) : m_S := (m_th u, m_st u, m_md u, m_mn u, m_rw u, m_sz u, m_wn u, 0, m_bi u, m_ro u, m_rc u, m_wt u, m_se u, m_cn u)
def m_wn0 (u : m_S) : m_S := (m_th u, m_st u, m_md u, m_mn u, m_rw u, m_sz u, 0, m_sn u, m_bi u, m_ro u, m_rc u, m_wt u, m_se u, m_cn u)
def m_sendA (u : m_S) : m_S := m_out (m_out (m_sn0 (m_waF 7 (m_th0 u))) 235) 144
def m_sendT (u : m_S) : m_S := m_out (m_odF 7 0 (m_sB ((m_wn u + 6) / 7) 0 (m_sendA u))) 121
theorem m_wa_wn : ∀ (n : Nat) (u : m_S), m_wn u ≤ 259 → (m_wn u % 7 = 0 ∨ 7 ≤ n + m_wn u % 7) → m_wn (m_waF n u) = 7 * ((m_wn u + 6) / 7) := by
  intro n
  induction n with
  | zero =>
    intro u h1 h2
    show m_wn u = _
    omega
  | succ n ih =>
    intro u h1 h2
    rw [m_waF]
    by_cases h0 : m_wn u % 7 = 0
    · rw [h0, if_pos nI_0]; omega
    · rw [if_neg (nI_ne0 (by omega) (by omega)), ih _ (show m_wn u + 1 ≤ 259 by omega) (show (m_wn u + 1) % 7 = 0 ∨ 7 ≤ n + (m_wn u + 1) % 7 by omega)]
      show 7 * ((m_wn u + 1 + 6) / 7) = 7 * ((m_wn u + 6) / 7)
      omega
theorem m_oc_f (i : Nat) : ∀ (n k : Nat) (u : m_S), m_wn (m_ocF i n k u) = m_wn u ∧ m_sn (m_ocF i n k u) = m_sn u + n := by
  intro n
  induction n with
  | zero => intro k u; exact ⟨rfl, rfl⟩
  | succ n ih =>
    intro k u
    rw [m_ocF]
    obtain ⟨h1, h2⟩ := ih (k + 1) (m_out u ((m_wt u) ((7 * i) + k)))
    refine ⟨h1, h2.trans ?_⟩
    show m_sn u + 1 + n = m_sn u + (n + 1)
    omega
theorem m_sB_f : ∀ (n i : Nat) (u : m_S), m_wn (m_sB n i u) = m_wn u ∧ m_sn (m_sB n i u) = m_sn u + 8 * n := by
  intro n
  induction n with
  | zero => intro i u; exact ⟨rfl, rfl⟩
  | succ n ih =>
    intro i u
    rw [m_sB]
    obtain ⟨h1, h2⟩ := ih (i + 1) (m_out (m_ocF i 7 0 u) (m_check (m_ocF i 7 0 u) (7 * i)))
    refine ⟨h1.trans (m_oc_f i 7 0 u).1, h2.trans ?_⟩
    show m_sn (m_ocF i 7 0 u) + 1 + 8 * n = m_sn u + 8 * (n + 1)
    rw [(m_oc_f i 7 0 u).2]
    omega
theorem m_od_f : ∀ (n k : Nat) (u : m_S), m_sn (m_odF n k u) = m_sn u + n := by
  intro n
  induction n with
  | zero => intro k u; rfl
  | succ n ih =>
    intro k u
    rw [m_odF, ih]
    show m_sn u + 1 + n = m_sn u + (n + 1)
    omega
set_option maxHeartbeats 4000000 in
set_option maxRecDepth 100000 in
theorem lpX1_sendA {p : Program} {l : Launch} {e : Env} {s : State} {m : MethodId} {args : Array Value} {below : List Frame} {meth : Method} {c : Code} {Q : State → Prop} (dC : Nat → ClassId) (dI : Nat → Nat → Nat) (qm pb pr pv pw ps pc : Nat) (cI : ClassId) (hx : p.tables.exec = Jvm.exec) (hb : c.code = cX1_send) (hml : c.maxLocals = 3) (hown : s.vm.findClass RX1 = some m.cls) (hts : ∀ w ∈ vX1_send, w.before args s = true) (A : Nat → Prop) (hA : ∀ q : Nat, s.heap.size ≤ q → A q) (hK : va_K (dC, dI) vwCl [(cI, .int)] s) : ∀ (n : Nat) (u : m_S) (H : Heap) (locs : List Loc) (ls : Array Slot), m_wn u ≤ 259 → (m_wn u % 7 = 0 ∨ 7 ≤ n + m_wn u % 7) → va_P (dC, dI) vwCl (m_W qm pb pr pv pw ps pc cI u) H → va_D A (m_W qm pb pr pv pw ps pc cI u) → va_S A s.heap H locs → lv_has ls 3 [(0, .ref qm)] → (∀ (H : Heap) (locs : List Loc) (ls : Array Slot), va_P (dC, dI) vwCl (m_W qm pb pr pv pw ps pc cI (m_waF n u)) H → va_D A (m_W qm pb pr pv pw ps pc cI (m_waF n u)) → va_S A s.heap H locs → lv_has ls 3 [(0, .ref qm)] → W p l e (headSpec vX1_send rmX1_send).room s m args below meth c H locs 0 0 Q (F0 m 48 ls [])) → W p l e (headSpec vX1_send rmX1_send).room s m args below meth c H locs 0 0 Q (F0 m 14 ls []) := by
  have hinT : ∀ w ∈ wsX10, w ∈ vX1_send := fun w h => List.mem_cons_of_mem _ (inM w h)
  intro n
  induction n with
  | zero =>
    intro u H locs ls hwn hf hP hD hS hl kk
    have hP : va_P (dC, dI) vwCl [(qm, .inr (1, [.int (m_th u), .int (m_st u), .int (m_md u), .ref pb, .int (nI (m_mn u)), .ref pr, .int (nI (m_rw u)), .ref pv, .int (nI (m_sz u)), .ref pw, .int (nI (m_wn u)), .ref ps, .int (nI (m_sn u)), .ref pc])), (pb, .inl (cI, 64, .inl (m_bi u))), (pr, .inl (cI, 259, .inl (m_ro u))), (pv, .inl (cI, 259, .inl (m_rc u))), (pw, .inl (cI, 259, .inl (m_wt u))), (ps, .inl (cI, 306, .inl (m_se u))), (pc, .inl (cI, 5, .inl (m_cn u)))] H := hP
    have hD : va_D A [(qm, .inr (1, [.int (m_th u), .int (m_st u), .int (m_md u), .ref pb, .int (nI (m_mn u)), .ref pr, .int (nI (m_rw u)), .ref pv, .int (nI (m_sz u)), .ref pw, .int (nI (m_wn u)), .ref ps, .int (nI (m_sn u)), .ref pc])), (pb, .inl (cI, 64, .inl (m_bi u))), (pr, .inl (cI, 259, .inl (m_ro u))), (pv, .inl (cI, 259, .inl (m_rc u))), (pw, .inl (cI, 259, .inl (m_wt u))), (ps, .inl (cI, 306, .inl (m_se u))), (pc, .inl (cI, 5, .inl (m_cn u)))] := hD
    have hl : lv_has ls 3 [(0, .ref qm)] := hl
    refine lv_aload_n hx hb dX1_send_14 rfl (lv_at hl 0 rfl) ?_
    refine va_get (D := (dC, dI)) (ci := 1) (v := .int (nI (m_wn u))) (C := RX1) (T := TX1) (N := 14) hx hb hts hinT hown hK hP 0 rfl rfl 10 (by decide) (hts _ (List.mem_cons_of_mem _ fl_74)) (fun _ h9 => h9) rfl dX1_send_15 ?_
    refine lv_bipush (v := 7) hx hb dX1_send_18 (by decide) ?_
    refine lv_irem hx hb dX1_send_20 (by decide) ?_
    refine W.eq (congrArg (fun z => F0 m 21 ls (.int z :: [])) (show (nI (m_wn u)) - (nI (m_wn u)) / 7 * 7 = nI ((m_wn u) % 7) from (pk_rem (by omega) (by decide) (by decide)))) ?_
    refine lv_if_eq (tgt := 48) hx hb dX1_send_21 (by decide) (fun c_1 => ?_) (fun c_1 => absurd ((by rw [show m_wn u % 7 = 0 from by omega]; rfl)) c_1)
    exact kk H locs ls hP hD hS (lv_sub hl [0] rfl)
  | succ n ih =>
    intro u H locs ls hwn hf hP hD hS hl kk
    have hP : va_P (dC, dI) vwCl [(qm, .inr (1, [.int (m_th u), .int (m_st u), .int (m_md u), .ref pb, .int (nI (m_mn u)), .ref pr, .int (nI (m_rw u)), .ref pv, .int (nI (m_sz u)), .ref pw, .int (nI (m_wn u)), .ref ps, .int (nI (m_sn u)), .ref pc])), (pb, .inl (cI, 64, .inl (m_bi u))), (pr, .inl (cI, 259, .inl (m_ro u))), (pv, .inl (cI, 259, .inl (m_rc u))), (pw, .inl (cI, 259, .inl (m_wt u))), (ps, .inl (cI, 306, .inl (m_se u))), (pc, .inl (cI, 5, .inl (m_cn u)))] H := hP
    have hD : va_D A [(qm, .inr (1, [.int (m_th u), .int (m_st u), .int (m_md u), .ref pb, .int (nI (m_mn u)), .ref pr, .int (nI (m_rw u)), .ref pv, .int (nI (m_sz u)), .ref pw, .int (nI (m_wn u)), .ref ps, .int (nI (m_sn u)), .ref pc])), (pb, .inl (cI, 64, .inl (m_bi u))), (pr, .inl (cI, 259, .inl (m_ro u))), (pv, .inl (cI, 259, .inl (m_rc u))), (pw, .inl (cI, 259, .inl (m_wt u))), (ps, .inl (cI, 306, .inl (m_se u))), (pc, .inl (cI, 5, .inl (m_cn u)))] := hD
    have hl : lv_has ls 3 [(0, .ref qm)] := hl
    refine lv_aload_n hx hb dX1_send_14 rfl (lv_at hl 0 rfl) ?_
    refine va_get (D := (dC, dI)) (ci := 1) (v := .int (nI (m_wn u))) (C := RX1) (T := TX1) (N := 14) hx hb hts hinT hown hK hP 0 rfl rfl 10 (by decide) (hts _ (List.mem_cons_of_mem _ fl_74)) (fun _ h9 => h9) rfl dX1_send_15 ?_
    refine lv_bipush (v := 7) hx hb dX1_send_18 (by decide) ?_
    refine lv_irem hx hb dX1_send_20 (by decide) ?_
    refine W.eq (congrArg (fun z => F0 m 21 ls (.int z :: [])) (show (nI (m_wn u)) - (nI (m_wn u)) / 7 * 7 = nI ((m_wn u) % 7) from (pk_rem (by omega) (by decide) (by decide)))) ?_
    refine lv_if_eq (tgt := 48) hx hb dX1_send_21 (by decide) (fun c_1 => ?_) (fun c_1 => ?_)
    · have eF : m_waF (n + 1) u = u := by rw [m_waF, if_pos c_1]
      exact kk H locs ls (by rw [eF]; exact hP) (by rw [eF]; exact hD) hS (by exact lv_sub hl [0] rfl)
    · have h7 : m_wn u % 7 ≠ 0 := fun e => c_1 (by rw [e]; rfl)
      refine lv_aload_n hx hb dX1_send_24 rfl (lv_at hl 0 rfl) ?_
      refine va_get (D := (dC, dI)) (ci := 1) (v := .ref pw) (C := RX1) (T := TX1) (N := 14) hx hb hts hinT hown hK hP 0 rfl rfl 9 (by decide) (hts _ (List.mem_cons_of_mem _ fl_19)) (fun _ h9 => h9) rfl dX1_send_25 ?_
      refine lv_aload_n hx hb dX1_send_28 rfl (lv_at hl 0 rfl) ?_
      refine va_get (D := (dC, dI)) (ci := 1) (v := .int (nI (m_wn u))) (C := RX1) (T := TX1) (N := 14) hx hb hts hinT hown hK hP 0 rfl rfl 10 (by decide) (hts _ (List.mem_cons_of_mem _ fl_74)) (fun _ h9 => h9) rfl dX1_send_29 ?_
      refine lv_bipush (v := 85) hx hb dX1_send_32 (by decide) ?_
      refine va_iast hx hb hK hP hD hS 4 0 rfl rfl (vp_in_nI (by omega) (by decide)) dX1_send_34 (fun H locs hP hD hS => ?_)
      rw [show (nI (m_wn u) : Int32).toNatClampNeg = m_wn u from (nI_clamp (by omega))] at hP hD
      have hP : va_P (dC, dI) vwCl [(qm, .inr (1, [.int (m_th u), .int (m_st u), .int (m_md u), .ref pb, .int (nI (m_mn u)), .ref pr, .int (nI (m_rw u)), .ref pv, .int (nI (m_sz u)), .ref pw, .int (nI (m_wn u)), .ref ps, .int (nI (m_sn u)), .ref pc])), (pb, .inl (cI, 64, .inl (m_bi u))), (pr, .inl (cI, 259, .inl (m_ro u))), (pv, .inl (cI, 259, .inl (m_rc u))), (pw, .inl (cI, 259, .inl (upd (m_wt u) (m_wn u) 85))), (ps, .inl (cI, 306, .inl (m_se u))), (pc, .inl (cI, 5, .inl (m_cn u)))] H := hP
      have hD : va_D A [(qm, .inr (1, [.int (m_th u), .int (m_st u), .int (m_md u), .ref pb, .int (nI (m_mn u)), .ref pr, .int (nI (m_rw u)), .ref pv, .int (nI (m_sz u)), .ref pw, .int (nI (m_wn u)), .ref ps, .int (nI (m_sn u)), .ref pc])), (pb, .inl (cI, 64, .inl (m_bi u))), (pr, .inl (cI, 259, .inl (m_ro u))), (pv, .inl (cI, 259, .inl (m_rc u))), (pw, .inl (cI, 259, .inl (upd (m_wt u) (m_wn u) 85))), (ps, .inl (cI, 306, .inl (m_se u))), (pc, .inl (cI, 5, .inl (m_cn u)))] := hD
      refine lv_aload_n hx hb dX1_send_35 rfl (lv_at hl 0 rfl) ?_
      refine lv_dup hx hb dX1_send_36 rfl ?_
      refine va_get (D := (dC, dI)) (ci := 1) (v := .int (nI (m_wn u))) (C := RX1) (T := TX1) (N := 14) hx hb hts hinT hown hK hP 0 rfl rfl 10 (by decide) (hts _ (List.mem_cons_of_mem _ fl_74)) (fun _ h9 => h9) rfl dX1_send_37 ?_
      refine lv_iconst (v := 1) hx hb dX1_send_40 (by decide) ?_
      refine lv_iadd hx hb dX1_send_41 ?_
      refine W.eq (congrArg (fun z => F0 m 42 ls (.int z :: [.ref qm])) (show (nI (m_wn u)) + 1 = nI (m_wn u + 1) from (nI_add _ _))) ?_
      refine va_put (D := (dC, dI)) (ci := 1) (v := .int (nI (m_wn u + 1))) (ty := .int) (C := RX1) (T := TX1) (N := 14) hx hb hts hinT tyX1 tyX1_ok nmX1 hown hK hP hD hS 0 rfl rfl 10 (by decide) (hts _ (List.mem_cons_of_mem _ fl_74)) (fun _ h9 => h9) rfl (by decide +kernel) rfl rfl (Nat.le_of_ble_eq_true rfl) dX1_send_42 (fun H locs hP hD hS => ?_)
      have hP : va_P (dC, dI) vwCl [(qm, .inr (1, [.int (m_th u), .int (m_st u), .int (m_md u), .ref pb, .int (nI (m_mn u)), .ref pr, .int (nI (m_rw u)), .ref pv, .int (nI (m_sz u)), .ref pw, .int (nI (m_wn u + 1)), .ref ps, .int (nI (m_sn u)), .ref pc])), (pb, .inl (cI, 64, .inl (m_bi u))), (pr, .inl (cI, 259, .inl (m_ro u))), (pv, .inl (cI, 259, .inl (m_rc u))), (pw, .inl (cI, 259, .inl (upd (m_wt u) (m_wn u) 85))), (ps, .inl (cI, 306, .inl (m_se u))), (pc, .inl (cI, 5, .inl (m_cn u)))] H := hP
      have hD : va_D A [(qm, .inr (1, [.int (m_th u), .int (m_st u), .int (m_md u), .ref pb, .int (nI (m_mn u)), .ref pr, .int (nI (m_rw u)), .ref pv, .int (nI (m_sz u)), .ref pw, .int (nI (m_wn u + 1)), .ref ps, .int (nI (m_sn u)), .ref pc])), (pb, .inl (cI, 64, .inl (m_bi u))), (pr, .inl (cI, 259, .inl (m_ro u))), (pv, .inl (cI, 259, .inl (m_rc u))), (pw, .inl (cI, 259, .inl (upd (m_wt u) (m_wn u) 85))), (ps, .inl (cI, 306, .inl (m_se u))), (pc, .inl (cI, 5, .inl (m_cn u)))] := hD
      refine lv_goto (tgt := 14) hx hb dX1_send_45 (by decide) ?_
      have eF : m_waF (n + 1) u = m_waF n (m_th u, m_st u, m_md u, m_mn u, m_rw u, m_sz u, m_wn u + 1, m_sn u, m_bi u, m_ro u, m_rc u, upd (m_wt u) (m_wn u) 85, m_se u, m_cn u) := by rw [m_waF, if_neg c_1]
      exact ih (m_th u, m_st u, m_md u, m_mn u, m_rw u, m_sz u, m_wn u + 1, m_sn u, m_bi u, m_ro u, m_rc u, upd (m_wt u) (m_wn u) 85, m_se u, m_cn u) H locs ls (show m_wn u + 1 ≤ 259 by omega) (show (m_wn u + 1) % 7 = 0 ∨ 7 ≤ n + (m_wn u + 1) % 7 by omega) hP hD hS (lv_sub hl [0] rfl) (fun H locs ls hP hD hS hl => kk H locs ls (by rw [eF]; exact hP) (by rw [eF]; exact hD) hS (by exact hl))
set_option maxHeartbeats 4000000 in
set_option maxRecDepth 100000 in
theorem lpX1_sendC {p : Program} {l : Launch} {e : Env} {s : State} {m : MethodId} {args : Array Value} {below : List Frame} {meth : Method} {c : Code} {Q : State → Prop} (dC : Nat → ClassId) (dI : Nat → Nat → Nat) (qm pb pr pv pw ps pc : Nat) (cI : ClassId) (i : Nat) (hi : i < 37) (hx : p.tables.exec = Jvm.exec) (hb : c.code = cX1_send) (hml : c.maxLocals = 3) (hown : s.vm.findClass RX1 = some m.cls) (hts : ∀ w ∈ vX1_send, w.before args s = true) (A : Nat → Prop) (hA : ∀ q : Nat, s.heap.size ≤ q → A q) (hK : va_K (dC, dI) vwCl [(cI, .int)] s) : ∀ (n : Nat) (u : m_S) (k : Nat) (H : Heap) (locs : List Loc) (ls : Array Slot), k + n = 7 → m_sn u + n ≤ 300 → va_P (dC, dI) vwCl (m_W qm pb pr pv pw ps pc cI u) H → va_D A (m_W qm pb pr pv pw ps pc cI u) → va_S A s.heap H locs → lv_has ls 3 [(0, .ref qm), (1, .int (nI (7 * i))), (2, .int (nI k))] → (∀ (H : Heap) (locs : List Loc) (ls : Array Slot), va_P (dC, dI) vwCl (m_W qm pb pr pv pw ps pc cI (m_ocF i n k u)) H → va_D A (m_W qm pb pr pv pw ps pc cI (m_ocF i n k u)) → va_S A s.heap H locs → lv_has ls 3 [(0, .ref qm), (1, .int (nI (7 * i)))] → W p l e (headSpec vX1_send rmX1_send).room s m args below meth c H locs 0 0 Q (F0 m 103 ls [])) → W p l e (headSpec vX1_send rmX1_send).room s m args below meth c H locs 0 0 Q (F0 m 79 ls []) := by
  have hinT : ∀ w ∈ wsX10, w ∈ vX1_send := fun w h => List.mem_cons_of_mem _ (inM w h)
  intro n
  induction n with
  | zero =>
    intro u k H locs ls hn hsn hP hD hS hl kk
    have hk : k = 7 := by omega
    subst hk
    have hP : va_P (dC, dI) vwCl [(qm, .inr (1, [.int (m_th u), .int (m_st u), .int (m_md u), .ref pb, .int (nI (m_mn u)), .ref pr, .int (nI (m_rw u)), .ref pv, .int (nI (m_sz u)), .ref pw, .int (nI (m_wn u)), .ref ps, .int (nI (m_sn u)), .ref pc])), (pb, .inl (cI, 64, .inl (m_bi u))), (pr, .inl (cI, 259, .inl (m_ro u))), (pv, .inl (cI, 259, .inl (m_rc u))), (pw, .inl (cI, 259, .inl (m_wt u))), (ps, .inl (cI, 306, .inl (m_se u))), (pc, .inl (cI, 5, .inl (m_cn u)))] H := hP
    have hD : va_D A [(qm, .inr (1, [.int (m_th u), .int (m_st u), .int (m_md u), .ref pb, .int (nI (m_mn u)), .ref pr, .int (nI (m_rw u)), .ref pv, .int (nI (m_sz u)), .ref pw, .int (nI (m_wn u)), .ref ps, .int (nI (m_sn u)), .ref pc])), (pb, .inl (cI, 64, .inl (m_bi u))), (pr, .inl (cI, 259, .inl (m_ro u))), (pv, .inl (cI, 259, .inl (m_rc u))), (pw, .inl (cI, 259, .inl (m_wt u))), (ps, .inl (cI, 306, .inl (m_se u))), (pc, .inl (cI, 5, .inl (m_cn u)))] := hD
    have hl : lv_has ls 3 [(0, .ref qm), (1, .int (nI (7 * i))), (2, .int (nI 7))] := hl
    refine lv_iload_n hx hb dX1_send_79 rfl (lv_at hl 2 rfl) ?_
    refine lv_bipush (v := 7) hx hb dX1_send_80 (by decide) ?_
    refine lv_icmp_ge (tgt := 103) hx hb dX1_send_82 (by decide) (fun c_1 => ?_) (fun c_1 => absurd (by decide) c_1)
    exact kk H locs ls hP hD hS (lv_sub hl [0, 1] rfl)
  | succ n ih =>
    intro u k H locs ls hn hsn hP hD hS hl kk
    have hP : va_P (dC, dI) vwCl [(qm, .inr (1, [.int (m_th u), .int (m_st u), .int (m_md u), .ref pb, .int (nI (m_mn u)), .ref pr, .int (nI (m_rw u)), .ref pv, .int (nI (m_sz u)), .ref pw, .int (nI (m_wn u)), .ref ps, .int (nI (m_sn u)), .ref pc])), (pb, .inl (cI, 64, .inl (m_bi u))), (pr, .inl (cI, 259, .inl (m_ro u))), (pv, .inl (cI, 259, .inl (m_rc u))), (pw, .inl (cI, 259, .inl (m_wt u))), (ps, .inl (cI, 306, .inl (m_se u))), (pc, .inl (cI, 5, .inl (m_cn u)))] H := hP
    have hD : va_D A [(qm, .inr (1, [.int (m_th u), .int (m_st u), .int (m_md u), .ref pb, .int (nI (m_mn u)), .ref pr, .int (nI (m_rw u)), .ref pv, .int (nI (m_sz u)), .ref pw, .int (nI (m_wn u)), .ref ps, .int (nI (m_sn u)), .ref pc])), (pb, .inl (cI, 64, .inl (m_bi u))), (pr, .inl (cI, 259, .inl (m_ro u))), (pv, .inl (cI, 259, .inl (m_rc u))), (pw, .inl (cI, 259, .inl (m_wt u))), (ps, .inl (cI, 306, .inl (m_se u))), (pc, .inl (cI, 5, .inl (m_cn u)))] := hD
    have hl : lv_has ls 3 [(0, .ref qm), (1, .int (nI (7 * i))), (2, .int (nI k))] := hl
    refine lv_iload_n hx hb dX1_send_79 rfl (lv_at hl 2 rfl) ?_
    refine lv_bipush (v := 7) hx hb dX1_send_80 (by decide) ?_
    refine lv_icmp_ge (tgt := 103) hx hb dX1_send_82 (by decide) (fun c_1 => absurd c_1 (show ¬ nI 7 ≤ nI k from nI_ge (by omega) (by decide))) (fun c_1 => ?_)
    refine lv_aload_n hx hb dX1_send_85 rfl (lv_at hl 0 rfl) ?_
    refine lv_aload_n hx hb dX1_send_86 rfl (lv_at hl 0 rfl) ?_
    refine va_get (D := (dC, dI)) (ci := 1) (v := .ref pw) (C := RX1) (T := TX1) (N := 14) hx hb hts hinT hown hK hP 0 rfl rfl 9 (by decide) (hts _ (List.mem_cons_of_mem _ fl_19)) (fun _ h9 => h9) rfl dX1_send_87 ?_
    refine lv_iload_n hx hb dX1_send_90 rfl (lv_at hl 1 rfl) ?_
    refine lv_iload_n hx hb dX1_send_91 rfl (lv_at hl 2 rfl) ?_
    refine lv_iadd hx hb dX1_send_92 ?_
    refine W.eq (congrArg (fun z => F0 m 93 ls (.int z :: [.ref pw, .ref qm])) (show (nI (7 * i)) + (nI k) = nI ((7 * i) + k) from (nI_add _ _))) ?_
    refine va_iald hx hb hK hP 4 0 rfl rfl (vp_in_nI (by omega) (by decide)) dX1_send_93 ?_
    refine W.eq (g2 := F0 m 94 ls [.int ((m_wt u) ((7 * i) + k)), .ref qm]) (by rw [nI_clamp (by omega)]) ?_
    have hPc : va_P (dC, dI) vwCl (m_W qm pb pr pv pw ps pc cI u) H := hP
    have hDc : va_D A (m_W qm pb pr pv pw ps pc cI u) := hD
    have hFc := va_free (wc := (m_W qm pb pr pv pw ps pc cI u)) hD hS hA [0, 1, 2, 3, 4, 5, 6] rfl
    refine va_callv (va_runV (As := [.int ((m_wt u) ((7 * i) + k))]) (rest := []) ⟨hx, hb, hml, hown, hts⟩ (kX1_out l dC dI qm pb pr pv pw ps pc cI H.size u ((m_wt u) ((7 * i) + k)) (by omega)) (cwV 1 hts gM_X1_out rfl rfl rfl (by decide +kernel) ⟨Nat.le_of_ble_eq_true rfl, Nat.le_of_ble_eq_true rfl⟩) ⟨fun a U g mk q => by obtain ⟨q0, q1, qP, qK, qD⟩ := q; exact ⟨q0, q1, qP, va_K.moved (u := U) (U := U.calling g mk a) (Vm.Alike.refl U.vm) qK, qD⟩, va_recv hK hP (ci := 1) (q0 := 0) rfl rfl, fun U hU hW => ⟨rfl, by rw [hU], by rw [hU]; exact hPc, va_K.moved hW.alike hK, hDc.weaken (fun _ _ _ _ => trivial)⟩⟩ rfl rfl hl.1 rfl (lv_room (Nat.le_of_ble_eq_true rfl)) dX1_send_94 ⟨Nat.le_of_ble_eq_true rfl, Nat.le_of_ble_eq_true rfl⟩) hS (fun q _ h => hFc q h) hFc (fun  u_2 t H1 locs ht hvm hu_2 hB hz1 hk1 hS => ?_)
    obtain ⟨hP1, -, hD1⟩ := hB
    rw [ht] at hP1
    have hP : va_P (dC, dI) vwCl [(qm, .inr (1, [.int (m_th u_2), .int (m_st u_2), .int (m_md u_2), .ref pb, .int (nI (m_mn u_2)), .ref pr, .int (nI (m_rw u_2)), .ref pv, .int (nI (m_sz u_2)), .ref pw, .int (nI (m_wn u_2)), .ref ps, .int (nI (m_sn u_2)), .ref pc])), (pb, .inl (cI, 64, .inl (m_bi u_2))), (pr, .inl (cI, 259, .inl (m_ro u_2))), (pv, .inl (cI, 259, .inl (m_rc u_2))), (pw, .inl (cI, 259, .inl (m_wt u_2))), (ps, .inl (cI, 306, .inl (m_se u_2))), (pc, .inl (cI, 5, .inl (m_cn u_2)))] H1 := hP1
    have hD : va_D A [(qm, .inr (1, [.int (m_th u_2), .int (m_st u_2), .int (m_md u_2), .ref pb, .int (nI (m_mn u_2)), .ref pr, .int (nI (m_rw u_2)), .ref pv, .int (nI (m_sz u_2)), .ref pw, .int (nI (m_wn u_2)), .ref ps, .int (nI (m_sn u_2)), .ref pc])), (pb, .inl (cI, 64, .inl (m_bi u_2))), (pr, .inl (cI, 259, .inl (m_ro u_2))), (pv, .inl (cI, 259, .inl (m_rc u_2))), (pw, .inl (cI, 259, .inl (m_wt u_2))), (ps, .inl (cI, 306, .inl (m_se u_2))), (pc, .inl (cI, 5, .inl (m_cn u_2)))] := hD1.weaken (fun k q _ h => hFc q.1 h)
    generalize H1 = H at hP hS ⊢
    refine lv_iinc (v := nI (k + 1)) (lv' := [(2, .int (nI (k + 1))), (0, .ref qm), (1, .int (nI (7 * i)))]) hx hb dX1_send_97 hl (k := 2) rfl (show nI k + nI 1 = nI (k + 1) from nI_add _ _) (by decide) rfl (fun ls hl => ?_)
    refine lv_goto (tgt := 79) hx hb dX1_send_100 (by decide) ?_
    subst hu_2
    have eF : m_ocF i (n + 1) k u = m_ocF i n (k + 1) (m_out u ((m_wt u) ((7 * i) + k))) := by rw [m_ocF]
    exact ih (m_out u ((m_wt u) ((7 * i) + k))) (k + 1) H locs ls (by omega) (show m_sn u + 1 + n ≤ 300 by omega) hP hD hS (lv_sub hl [1, 2, 0] rfl) (fun H locs ls hP hD hS hl => kk H locs ls (by rw [eF]; exact hP) (by rw [eF]; exact hD) hS (by exact hl))
set_option maxHeartbeats 4000000 in
set_option maxRecDepth 100000 in
theorem lpX1_sendB {p : Program} {l : Launch} {e : Env} {s : State} {m : MethodId} {args : Array Value} {below : List Frame} {meth : Method} {c : Code} {Q : State → Prop} (dC : Nat → ClassId) (dI : Nat → Nat → Nat) (qm pb pr pv pw ps pc : Nat) (cI : ClassId) (q : Nat) (hq : q ≤ 37) (hx : p.tables.exec = Jvm.exec) (hb : c.code = cX1_send) (hml : c.maxLocals = 3) (hown : s.vm.findClass RX1 = some m.cls) (hts : ∀ w ∈ vX1_send, w.before args s = true) (A : Nat → Prop) (hA : ∀ q : Nat, s.heap.size ≤ q → A q) (hK : va_K (dC, dI) vwCl [(cI, .int)] s) : ∀ (n : Nat) (u : m_S) (i : Nat) (H : Heap) (locs : List Loc) (ls : Array Slot), i + n = q → m_wn u = 7 * q → m_sn u + 8 * n ≤ 298 → va_P (dC, dI) vwCl (m_W qm pb pr pv pw ps pc cI u) H → va_D A (m_W qm pb pr pv pw ps pc cI u) → va_S A s.heap H locs → lv_has ls 3 [(0, .ref qm), (1, .int (nI (7 * i)))] → (∀ (H : Heap) (locs : List Loc) (ls : Array Slot), va_P (dC, dI) vwCl (m_W qm pb pr pv pw ps pc cI (m_sB n i u)) H → va_D A (m_W qm pb pr pv pw ps pc cI (m_sB n i u)) → va_S A s.heap H locs → lv_has ls 3 [(0, .ref qm)] → W p l e (headSpec vX1_send rmX1_send).room s m args below meth c H locs 0 0 Q (F0 m 118 ls [])) → W p l e (headSpec vX1_send rmX1_send).room s m args below meth c H locs 0 0 Q (F0 m 69 ls []) := by
  have hinT : ∀ w ∈ wsX10, w ∈ vX1_send := fun w h => List.mem_cons_of_mem _ (inM w h)
  intro n
  induction n with
  | zero =>
    intro u i H locs ls hn hwq hsn hP hD hS hl kk
    have hi : i = q := by omega
    subst hi
    have hP : va_P (dC, dI) vwCl [(qm, .inr (1, [.int (m_th u), .int (m_st u), .int (m_md u), .ref pb, .int (nI (m_mn u)), .ref pr, .int (nI (m_rw u)), .ref pv, .int (nI (m_sz u)), .ref pw, .int (nI (m_wn u)), .ref ps, .int (nI (m_sn u)), .ref pc])), (pb, .inl (cI, 64, .inl (m_bi u))), (pr, .inl (cI, 259, .inl (m_ro u))), (pv, .inl (cI, 259, .inl (m_rc u))), (pw, .inl (cI, 259, .inl (m_wt u))), (ps, .inl (cI, 306, .inl (m_se u))), (pc, .inl (cI, 5, .inl (m_cn u)))] H := hP
    have hD : va_D A [(qm, .inr (1, [.int (m_th u), .int (m_st u), .int (m_md u), .ref pb, .int (nI (m_mn u)), .ref pr, .int (nI (m_rw u)), .ref pv, .int (nI (m_sz u)), .ref pw, .int (nI (m_wn u)), .ref ps, .int (nI (m_sn u)), .ref pc])), (pb, .inl (cI, 64, .inl (m_bi u))), (pr, .inl (cI, 259, .inl (m_ro u))), (pv, .inl (cI, 259, .inl (m_rc u))), (pw, .inl (cI, 259, .inl (m_wt u))), (ps, .inl (cI, 306, .inl (m_se u))), (pc, .inl (cI, 5, .inl (m_cn u)))] := hD
    have hl : lv_has ls 3 [(0, .ref qm), (1, .int (nI (7 * i)))] := hl
    refine lv_iload_n hx hb dX1_send_69 rfl (lv_at hl 1 rfl) ?_
    refine lv_aload_n hx hb dX1_send_70 rfl (lv_at hl 0 rfl) ?_
    refine va_get (D := (dC, dI)) (ci := 1) (v := .int (nI (m_wn u))) (C := RX1) (T := TX1) (N := 14) hx hb hts hinT hown hK hP 0 rfl rfl 10 (by decide) (hts _ (List.mem_cons_of_mem _ fl_74)) (fun _ h9 => h9) rfl dX1_send_71 ?_
    refine lv_icmp_ge (tgt := 118) hx hb dX1_send_74 (by decide) (fun c_1 => ?_) (fun c_1 => absurd ((by rw [hwq]; exact nI_le (Nat.le_refl _) (by omega))) c_1)
    exact kk H locs ls hP hD hS (lv_sub hl [0] rfl)
  | succ n ih =>
    intro u i H locs ls hn hwq hsn hP hD hS hl kk
    have hP : va_P (dC, dI) vwCl [(qm, .inr (1, [.int (m_th u), .int (m_st u), .int (m_md u), .ref pb, .int (nI (m_mn u)), .ref pr, .int (nI (m_rw u)), .ref pv, .int (nI (m_sz u)), .ref pw, .int (nI (m_wn u)), .ref ps, .int (nI (m_sn u)), .ref pc])), (pb, .inl (cI, 64, .inl (m_bi u))), (pr, .inl (cI, 259, .inl (m_ro u))), (pv, .inl (cI, 259, .inl (m_rc u))), (pw, .inl (cI, 259, .inl (m_wt u))), (ps, .inl (cI, 306, .inl (m_se u))), (pc, .inl (cI, 5, .inl (m_cn u)))] H := hP
    have hD : va_D A [(qm, .inr (1, [.int (m_th u), .int (m_st u), .int (m_md u), .ref pb, .int (nI (m_mn u)), .ref pr, .int (nI (m_rw u)), .ref pv, .int (nI (m_sz u)), .ref pw, .int (nI (m_wn u)), .ref ps, .int (nI (m_sn u)), .ref pc])), (pb, .inl (cI, 64, .inl (m_bi u))), (pr, .inl (cI, 259, .inl (m_ro u))), (pv, .inl (cI, 259, .inl (m_rc u))), (pw, .inl (cI, 259, .inl (m_wt u))), (ps, .inl (cI, 306, .inl (m_se u))), (pc, .inl (cI, 5, .inl (m_cn u)))] := hD
    have hl : lv_has ls 3 [(0, .ref qm), (1, .int (nI (7 * i)))] := hl
    refine lv_iload_n hx hb dX1_send_69 rfl (lv_at hl 1 rfl) ?_
    refine lv_aload_n hx hb dX1_send_70 rfl (lv_at hl 0 rfl) ?_
    refine va_get (D := (dC, dI)) (ci := 1) (v := .int (nI (m_wn u))) (C := RX1) (T := TX1) (N := 14) hx hb hts hinT hown hK hP 0 rfl rfl 10 (by decide) (hts _ (List.mem_cons_of_mem _ fl_74)) (fun _ h9 => h9) rfl dX1_send_71 ?_
    refine lv_icmp_ge (tgt := 118) hx hb dX1_send_74 (by decide) (fun c_1 => absurd c_1 ((by rw [hwq]; exact nI_ge (by omega) (by omega)))) (fun c_1 => ?_)
    refine lv_iconst (v := 0) hx hb dX1_send_77 (by decide) ?_
    refine lv_istore_n (lv' := [(2, .int 0), (0, .ref qm), (1, .int (nI (7 * i)))]) hx hb dX1_send_78 rfl hl (by decide) rfl (fun ls hl => ?_)
    refine lpX1_sendC (l := l) dC dI qm pb pr pv pw ps pc cI i (by omega) hx hb hml hown hts A hA hK  7 u 0 H locs ls rfl (by omega) hP hD hS (lv_sub hl [1, 2, 0] rfl) (fun H locs ls hP hD hS hl => ?_)
    obtain ⟨v_2, hv_2⟩ : ∃ z, z = m_ocF i 7 0 u := ⟨_, rfl⟩
    rw [← hv_2] at hP hD
    have hP : va_P (dC, dI) vwCl [(qm, .inr (1, [.int (m_th v_2), .int (m_st v_2), .int (m_md v_2), .ref pb, .int (nI (m_mn v_2)), .ref pr, .int (nI (m_rw v_2)), .ref pv, .int (nI (m_sz v_2)), .ref pw, .int (nI (m_wn v_2)), .ref ps, .int (nI (m_sn v_2)), .ref pc])), (pb, .inl (cI, 64, .inl (m_bi v_2))), (pr, .inl (cI, 259, .inl (m_ro v_2))), (pv, .inl (cI, 259, .inl (m_rc v_2))), (pw, .inl (cI, 259, .inl (m_wt v_2))), (ps, .inl (cI, 306, .inl (m_se v_2))), (pc, .inl (cI, 5, .inl (m_cn v_2)))] H := hP
    have hD : va_D A [(qm, .inr (1, [.int (m_th v_2), .int (m_st v_2), .int (m_md v_2), .ref pb, .int (nI (m_mn v_2)), .ref pr, .int (nI (m_rw v_2)), .ref pv, .int (nI (m_sz v_2)), .ref pw, .int (nI (m_wn v_2)), .ref ps, .int (nI (m_sn v_2)), .ref pc])), (pb, .inl (cI, 64, .inl (m_bi v_2))), (pr, .inl (cI, 259, .inl (m_ro v_2))), (pv, .inl (cI, 259, .inl (m_rc v_2))), (pw, .inl (cI, 259, .inl (m_wt v_2))), (ps, .inl (cI, 306, .inl (m_se v_2))), (pc, .inl (cI, 5, .inl (m_cn v_2)))] := hD
    refine lv_aload_n hx hb dX1_send_103 rfl (lv_at hl 0 rfl) ?_
    refine lv_aload_n hx hb dX1_send_104 rfl (lv_at hl 0 rfl) ?_
    refine lv_iload_n hx hb dX1_send_105 rfl (lv_at hl 1 rfl) ?_
    have hPc : va_P (dC, dI) vwCl (m_W qm pb pr pv pw ps pc cI v_2) H := hP
    refine vp_callSi (va_runV (As := [.int (nI (7 * i))]) (rest := [.ref qm]) ⟨hx, hb, hml, hown, hts⟩ (kX1_check l dC dI qm pb pr pv pw ps pc cI v_2 (7 * i) (by omega)) (cwV 1 hts gM_X1_check rfl rfl rfl (by decide +kernel) ⟨Nat.le_of_ble_eq_true rfl, Nat.le_of_ble_eq_true rfl⟩) ⟨fun a U g mk q => by obtain ⟨q0, qP, qK⟩ := q; exact ⟨q0, qP, va_K.moved (u := U) (U := U.calling g mk a) (Vm.Alike.refl U.vm) qK⟩, va_recv hK hP (ci := 1) (q0 := 0) rfl rfl, fun U hU hW => ⟨rfl, by rw [hU]; exact hPc, va_K.moved hW.alike hK⟩⟩ rfl rfl hl.1 rfl (lv_room (Nat.le_of_ble_eq_true rfl)) dX1_send_106 ⟨Nat.le_of_ble_eq_true rfl, Nat.le_of_ble_eq_true rfl⟩).run (fun r_3 hr_3 => ?_)
    rw [hr_3]
    have hPc : va_P (dC, dI) vwCl (m_W qm pb pr pv pw ps pc cI v_2) H := hP
    have hDc : va_D A (m_W qm pb pr pv pw ps pc cI v_2) := hD
    have hFc := va_free (wc := (m_W qm pb pr pv pw ps pc cI v_2)) hD hS hA [0, 1, 2, 3, 4, 5, 6] rfl
    refine va_callv (va_runV (As := [.int (m_check v_2 (7 * i))]) (rest := []) ⟨hx, hb, hml, hown, hts⟩ (kX1_out l dC dI qm pb pr pv pw ps pc cI H.size v_2 (m_check v_2 (7 * i)) (show m_sn v_2 < 306 by rw [hv_2, (m_oc_f i 7 0 u).2]; omega)) (cwV 1 hts gM_X1_out rfl rfl rfl (by decide +kernel) ⟨Nat.le_of_ble_eq_true rfl, Nat.le_of_ble_eq_true rfl⟩) ⟨fun a U g mk q => by obtain ⟨q0, q1, qP, qK, qD⟩ := q; exact ⟨q0, q1, qP, va_K.moved (u := U) (U := U.calling g mk a) (Vm.Alike.refl U.vm) qK, qD⟩, va_recv hK hP (ci := 1) (q0 := 0) rfl rfl, fun U hU hW => ⟨rfl, by rw [hU], by rw [hU]; exact hPc, va_K.moved hW.alike hK, hDc.weaken (fun _ _ _ _ => trivial)⟩⟩ rfl rfl hl.1 rfl (lv_room (Nat.le_of_ble_eq_true rfl)) dX1_send_109 ⟨Nat.le_of_ble_eq_true rfl, Nat.le_of_ble_eq_true rfl⟩) hS (fun q _ h => hFc q h) hFc (fun  u_4 t H1 locs ht hvm hu_4 hB hz1 hk1 hS => ?_)
    obtain ⟨hP1, -, hD1⟩ := hB
    rw [ht] at hP1
    have hP : va_P (dC, dI) vwCl [(qm, .inr (1, [.int (m_th u_4), .int (m_st u_4), .int (m_md u_4), .ref pb, .int (nI (m_mn u_4)), .ref pr, .int (nI (m_rw u_4)), .ref pv, .int (nI (m_sz u_4)), .ref pw, .int (nI (m_wn u_4)), .ref ps, .int (nI (m_sn u_4)), .ref pc])), (pb, .inl (cI, 64, .inl (m_bi u_4))), (pr, .inl (cI, 259, .inl (m_ro u_4))), (pv, .inl (cI, 259, .inl (m_rc u_4))), (pw, .inl (cI, 259, .inl (m_wt u_4))), (ps, .inl (cI, 306, .inl (m_se u_4))), (pc, .inl (cI, 5, .inl (m_cn u_4)))] H1 := hP1
    have hD : va_D A [(qm, .inr (1, [.int (m_th u_4), .int (m_st u_4), .int (m_md u_4), .ref pb, .int (nI (m_mn u_4)), .ref pr, .int (nI (m_rw u_4)), .ref pv, .int (nI (m_sz u_4)), .ref pw, .int (nI (m_wn u_4)), .ref ps, .int (nI (m_sn u_4)), .ref pc])), (pb, .inl (cI, 64, .inl (m_bi u_4))), (pr, .inl (cI, 259, .inl (m_ro u_4))), (pv, .inl (cI, 259, .inl (m_rc u_4))), (pw, .inl (cI, 259, .inl (m_wt u_4))), (ps, .inl (cI, 306, .inl (m_se u_4))), (pc, .inl (cI, 5, .inl (m_cn u_4)))] := hD1.weaken (fun k q _ h => hFc q.1 h)
    generalize H1 = H at hP hS ⊢
    refine lv_iinc (v := nI (7 * (i + 1))) (lv' := [(1, .int (nI (7 * (i + 1)))), (0, .ref qm)]) hx hb dX1_send_112 hl (k := 1) rfl (show nI (7 * i) + nI 7 = nI (7 * (i + 1)) from (by rw [nI_add]; rfl)) (by decide) rfl (fun ls hl => ?_)
    refine lv_goto (tgt := 69) hx hb dX1_send_115 (by decide) ?_
    subst hu_4
    subst hv_2
    have eF : m_sB (n + 1) i u = m_sB n (i + 1) (m_out (m_ocF i 7 0 u) (m_check (m_ocF i 7 0 u) (7 * i))) := by rw [m_sB]
    exact ih (m_out (m_ocF i 7 0 u) (m_check (m_ocF i 7 0 u) (7 * i))) (i + 1) H locs ls (by omega) ((m_oc_f i 7 0 u).1.trans hwq) (show m_sn (m_ocF i 7 0 u) + 1 + 8 * n ≤ 298 by rw [(m_oc_f i 7 0 u).2]; omega) hP hD hS (lv_sub hl [1, 0] rfl) (fun H locs ls hP hD hS hl => kk H locs ls (by rw [eF]; exact hP) (by rw [eF]; exact hD) hS (by exact hl))
set_option maxHeartbeats 4000000 in
set_option maxRecDepth 100000 in
theorem lpX1_sendD {p : Program} {l : Launch} {e : Env} {s : State} {m : MethodId} {args : Array Value} {below : List Frame} {meth : Method} {c : Code} {Q : State → Prop} (dC : Nat → ClassId) (dI : Nat → Nat → Nat) (qm pb pr pv pw ps pc : Nat) (cI : ClassId) (hx : p.tables.exec = Jvm.exec) (hb : c.code = cX1_send) (hml : c.maxLocals = 3) (hown : s.vm.findClass RX1 = some m.cls) (hts : ∀ w ∈ vX1_send, w.before args s = true) (A : Nat → Prop) (hA : ∀ q : Nat, s.heap.size ≤ q → A q) (hK : va_K (dC, dI) vwCl [(cI, .int)] s) : ∀ (n : Nat) (u : m_S) (k : Nat) (H : Heap) (locs : List Loc) (ls : Array Slot), k + n = 7 → m_sn u + n ≤ 305 → va_P (dC, dI) vwCl (m_W qm pb pr pv pw ps pc cI u) H → va_D A (m_W qm pb pr pv pw ps pc cI u) → va_S A s.heap H locs → lv_has ls 3 [(0, .ref qm), (1, .int (nI k))] → (∀ (H : Heap) (locs : List Loc) (ls : Array Slot), va_P (dC, dI) vwCl (m_W qm pb pr pv pw ps pc cI (m_odF n k u)) H → va_D A (m_W qm pb pr pv pw ps pc cI (m_odF n k u)) → va_S A s.heap H locs → lv_has ls 3 [(0, .ref qm)] → W p l e (headSpec vX1_send rmX1_send).room s m args below meth c H locs 0 0 Q (F0 m 139 ls [])) → W p l e (headSpec vX1_send rmX1_send).room s m args below meth c H locs 0 0 Q (F0 m 120 ls []) := by
  have hinT : ∀ w ∈ wsX10, w ∈ vX1_send := fun w h => List.mem_cons_of_mem _ (inM w h)
  intro n
  induction n with
  | zero =>
    intro u k H locs ls hn hsn hP hD hS hl kk
    have hk : k = 7 := by omega
    subst hk
    have hP : va_P (dC, dI) vwCl [(qm, .inr (1, [.int (m_th u), .int (m_st u), .int (m_md u), .ref pb, .int (nI (m_mn u)), .ref pr, .int (nI (m_rw u)), .ref pv, .int (nI (m_sz u)), .ref pw, .int (nI (m_wn u)), .ref ps, .int (nI (m_sn u)), .ref pc])), (pb, .inl (cI, 64, .inl (m_bi u))), (pr, .inl (cI, 259, .inl (m_ro u))), (pv, .inl (cI, 259, .inl (m_rc u))), (pw, .inl (cI, 259, .inl (m_wt u))), (ps, .inl (cI, 306, .inl (m_se u))), (pc, .inl (cI, 5, .inl (m_cn u)))] H := hP
    have hD : va_D A [(qm, .inr (1, [.int (m_th u), .int (m_st u), .int (m_md u), .ref pb, .int (nI (m_mn u)), .ref pr, .int (nI (m_rw u)), .ref pv, .int (nI (m_sz u)), .ref pw, .int (nI (m_wn u)), .ref ps, .int (nI (m_sn u)), .ref pc])), (pb, .inl (cI, 64, .inl (m_bi u))), (pr, .inl (cI, 259, .inl (m_ro u))), (pv, .inl (cI, 259, .inl (m_rc u))), (pw, .inl (cI, 259, .inl (m_wt u))), (ps, .inl (cI, 306, .inl (m_se u))), (pc, .inl (cI, 5, .inl (m_cn u)))] := hD
    have hl : lv_has ls 3 [(0, .ref qm), (1, .int (nI 7))] := hl
    refine lv_iload_n hx hb dX1_send_120 rfl (lv_at hl 1 rfl) ?_
    refine lv_bipush (v := 7) hx hb dX1_send_121 (by decide) ?_
    refine lv_icmp_ge (tgt := 139) hx hb dX1_send_123 (by decide) (fun c_1 => ?_) (fun c_1 => absurd (by decide) c_1)
    exact kk H locs ls hP hD hS (lv_sub hl [0] rfl)
  | succ n ih =>
    intro u k H locs ls hn hsn hP hD hS hl kk
    have hP : va_P (dC, dI) vwCl [(qm, .inr (1, [.int (m_th u), .int (m_st u), .int (m_md u), .ref pb, .int (nI (m_mn u)), .ref pr, .int (nI (m_rw u)), .ref pv, .int (nI (m_sz u)), .ref pw, .int (nI (m_wn u)), .ref ps, .int (nI (m_sn u)), .ref pc])), (pb, .inl (cI, 64, .inl (m_bi u))), (pr, .inl (cI, 259, .inl (m_ro u))), (pv, .inl (cI, 259, .inl (m_rc u))), (pw, .inl (cI, 259, .inl (m_wt u))), (ps, .inl (cI, 306, .inl (m_se u))), (pc, .inl (cI, 5, .inl (m_cn u)))] H := hP
    have hD : va_D A [(qm, .inr (1, [.int (m_th u), .int (m_st u), .int (m_md u), .ref pb, .int (nI (m_mn u)), .ref pr, .int (nI (m_rw u)), .ref pv, .int (nI (m_sz u)), .ref pw, .int (nI (m_wn u)), .ref ps, .int (nI (m_sn u)), .ref pc])), (pb, .inl (cI, 64, .inl (m_bi u))), (pr, .inl (cI, 259, .inl (m_ro u))), (pv, .inl (cI, 259, .inl (m_rc u))), (pw, .inl (cI, 259, .inl (m_wt u))), (ps, .inl (cI, 306, .inl (m_se u))), (pc, .inl (cI, 5, .inl (m_cn u)))] := hD
    have hl : lv_has ls 3 [(0, .ref qm), (1, .int (nI k))] := hl
    refine lv_iload_n hx hb dX1_send_120 rfl (lv_at hl 1 rfl) ?_
    refine lv_bipush (v := 7) hx hb dX1_send_121 (by decide) ?_
    refine lv_icmp_ge (tgt := 139) hx hb dX1_send_123 (by decide) (fun c_1 => absurd c_1 (show ¬ nI 7 ≤ nI k from nI_ge (by omega) (by decide))) (fun c_1 => ?_)
    refine lv_aload_n hx hb dX1_send_126 rfl (lv_at hl 0 rfl) ?_
    refine lv_sipush (v := 197) hx hb dX1_send_127 (by decide) ?_
    have hPc : va_P (dC, dI) vwCl (m_W qm pb pr pv pw ps pc cI u) H := hP
    have hDc : va_D A (m_W qm pb pr pv pw ps pc cI u) := hD
    have hFc := va_free (wc := (m_W qm pb pr pv pw ps pc cI u)) hD hS hA [0, 1, 2, 3, 4, 5, 6] rfl
    refine va_callv (va_runV (As := [.int 197]) (rest := []) ⟨hx, hb, hml, hown, hts⟩ (kX1_out l dC dI qm pb pr pv pw ps pc cI H.size u 197 (by omega)) (cwV 1 hts gM_X1_out rfl rfl rfl (by decide +kernel) ⟨Nat.le_of_ble_eq_true rfl, Nat.le_of_ble_eq_true rfl⟩) ⟨fun a U g mk q => by obtain ⟨q0, q1, qP, qK, qD⟩ := q; exact ⟨q0, q1, qP, va_K.moved (u := U) (U := U.calling g mk a) (Vm.Alike.refl U.vm) qK, qD⟩, va_recv hK hP (ci := 1) (q0 := 0) rfl rfl, fun U hU hW => ⟨rfl, by rw [hU], by rw [hU]; exact hPc, va_K.moved hW.alike hK, hDc.weaken (fun _ _ _ _ => trivial)⟩⟩ rfl rfl hl.1 rfl (lv_room (Nat.le_of_ble_eq_true rfl)) dX1_send_130 ⟨Nat.le_of_ble_eq_true rfl, Nat.le_of_ble_eq_true rfl⟩) hS (fun q _ h => hFc q h) hFc (fun  u_2 t H1 locs ht hvm hu_2 hB hz1 hk1 hS => ?_)
    obtain ⟨hP1, -, hD1⟩ := hB
    rw [ht] at hP1
    have hP : va_P (dC, dI) vwCl [(qm, .inr (1, [.int (m_th u_2), .int (m_st u_2), .int (m_md u_2), .ref pb, .int (nI (m_mn u_2)), .ref pr, .int (nI (m_rw u_2)), .ref pv, .int (nI (m_sz u_2)), .ref pw, .int (nI (m_wn u_2)), .ref ps, .int (nI (m_sn u_2)), .ref pc])), (pb, .inl (cI, 64, .inl (m_bi u_2))), (pr, .inl (cI, 259, .inl (m_ro u_2))), (pv, .inl (cI, 259, .inl (m_rc u_2))), (pw, .inl (cI, 259, .inl (m_wt u_2))), (ps, .inl (cI, 306, .inl (m_se u_2))), (pc, .inl (cI, 5, .inl (m_cn u_2)))] H1 := hP1
    have hD : va_D A [(qm, .inr (1, [.int (m_th u_2), .int (m_st u_2), .int (m_md u_2), .ref pb, .int (nI (m_mn u_2)), .ref pr, .int (nI (m_rw u_2)), .ref pv, .int (nI (m_sz u_2)), .ref pw, .int (nI (m_wn u_2)), .ref ps, .int (nI (m_sn u_2)), .ref pc])), (pb, .inl (cI, 64, .inl (m_bi u_2))), (pr, .inl (cI, 259, .inl (m_ro u_2))), (pv, .inl (cI, 259, .inl (m_rc u_2))), (pw, .inl (cI, 259, .inl (m_wt u_2))), (ps, .inl (cI, 306, .inl (m_se u_2))), (pc, .inl (cI, 5, .inl (m_cn u_2)))] := hD1.weaken (fun k q _ h => hFc q.1 h)
    generalize H1 = H at hP hS ⊢
    refine lv_iinc (v := nI (k + 1)) (lv' := [(1, .int (nI (k + 1))), (0, .ref qm)]) hx hb dX1_send_133 hl (k := 1) rfl (show nI k + nI 1 = nI (k + 1) from nI_add _ _) (by decide) rfl (fun ls hl => ?_)
    refine lv_goto (tgt := 120) hx hb dX1_send_136 (by decide) ?_
    subst hu_2
    have eF : m_odF (n + 1) k u = m_odF n (k + 1) (m_out u 197) := by rw [m_odF]
    exact ih (m_out u 197) (k + 1) H locs ls (by omega) (show m_sn u + 1 + n ≤ 305 by omega) hP hD hS (lv_sub hl [1, 0] rfl) (fun H locs ls hP hD hS hl => kk H locs ls (by rw [eF]; exact hP) (by rw [eF]; exact hD) hS (by exact hl))
def m_send (u : m_S) : m_S := if nI (m_wn u) = 0 then m_th0 u else m_wn0 (m_sendT u)
def m_send_r (u : m_S) : Int32 := if nI (m_wn u) = 0 then (-1) else nI (m_sn (m_sendT u))
set_option maxHeartbeats 4000000 in
set_option maxRecDepth 100000 in
theorem kX1_send (l : Launch) (dC : Nat → ClassId) (dI : Nat → Nat → Nat) (qm pb pr pv pw ps pc : Nat) (cI : ClassId) (sz : Nat) (u : m_S)  (hwn : m_wn u ≤ 259) : Met l yX1_send vX1_send rmX1_send (va_Pc [.ref qm] (fun U => U.heap.size = sz ∧ va_P (dC, dI) vwCl (m_W qm pb pr pv pw ps pc cI u) U.heap ∧ va_K (dC, dI) vwCl [(cI, .int)] U ∧ va_D (fun _ => True) (m_W qm pb pr pv pw ps pc cI u))) (va_Qi (fun r u2 => r = m_send_r u ∧ u2 = m_send u) (m_At dC dI (va_A (m_W qm pb pr pv pw ps pc cI u) sz) qm pb pr pv pw ps pc cI) (va_A (m_W qm pb pr pv pw ps pc cI u) sz)) 0 0 (va_A (m_W qm pb pr pv pw ps pc cI u) sz) := by
  refine Met.ofW (cc := cX1_send) (maxL := 3) (ret := some .int) (by decide) rfl ?_
  intro p e s m args below meth c s₁ B hml hv
  obtain ⟨rfl, hsz, hP, hK, hD0⟩ := hv
  have hx := B.exec
  have hb := B.bytes
  have hr := B.returns
  have hts := atoms_spec (ws := vX1_send) B.pre
  have hown : s.vm.findClass RX1 = some m.cls := findClass_of_methodNamed B.named
  have hlocks := B.notSynchronized
  have hinT : ∀ w ∈ wsX10, w ∈ vX1_send := fun w h => List.mem_cons_of_mem _ (inM w h)
  subst hsz
  have hD := hD0.self (sz := s.heap.size)
  generalize hAe : va_A (m_W qm pb pr pv pw ps pc cI u) s.heap.size = A at hD ⊢
  have hA : ∀ q : Nat, s.heap.size ≤ q → A q := fun q h => by rw [← hAe]; exact Or.inr h
  have hS : va_S A s.heap s.heap [] := va_S.rf
  have hD : va_D A [(qm, .inr (1, [.int (m_th u), .int (m_st u), .int (m_md u), .ref pb, .int (nI (m_mn u)), .ref pr, .int (nI (m_rw u)), .ref pv, .int (nI (m_sz u)), .ref pw, .int (nI (m_wn u)), .ref ps, .int (nI (m_sn u)), .ref pc])), (pb, .inl (cI, 64, .inl (m_bi u))), (pr, .inl (cI, 259, .inl (m_ro u))), (pv, .inl (cI, 259, .inl (m_rc u))), (pw, .inl (cI, 259, .inl (m_wt u))), (ps, .inl (cI, 306, .inl (m_se u))), (pc, .inl (cI, 5, .inl (m_cn u)))] := hD
  have hP : va_P (dC, dI) vwCl [(qm, .inr (1, [.int (m_th u), .int (m_st u), .int (m_md u), .ref pb, .int (nI (m_mn u)), .ref pr, .int (nI (m_rw u)), .ref pv, .int (nI (m_sz u)), .ref pw, .int (nI (m_wn u)), .ref ps, .int (nI (m_sn u)), .ref pc])), (pb, .inl (cI, 64, .inl (m_bi u))), (pr, .inl (cI, 259, .inl (m_ro u))), (pv, .inl (cI, 259, .inl (m_rc u))), (pw, .inl (cI, 259, .inl (m_wt u))), (ps, .inl (cI, 306, .inl (m_se u))), (pc, .inl (cI, 5, .inl (m_cn u)))] s.heap := hP
  have hl := lv_entry ([.ref qm]) (n := 3) (Nat.le_of_ble_eq_true rfl)
  rw [lg_entry_eq]
  generalize (lg_sl ([.ref qm]) ++ List.replicate (3 - (lg_sl ([.ref qm])).length) Slot.unset).toArray = ls at hl ⊢
  have hl : lv_has ls 3 [(0, .ref qm)] := hl
  refine lv_aload_n hx hb dX1_send_0 rfl (lv_at hl 0 rfl) ?_
  refine lv_iconst (v := 0) hx hb dX1_send_1 (by decide) ?_
  refine va_put (D := (dC, dI)) (ci := 1) (v := .int 0) (ty := .int) (C := RX1) (T := TX1) (N := 14) hx hb hts hinT tyX1 tyX1_ok nmX1 hown hK hP hD hS 0 rfl rfl 0 (by decide) (hts _ (List.mem_cons_of_mem _ fl_28)) (fun _ h9 => h9) rfl (by decide +kernel) rfl rfl (Nat.le_of_ble_eq_true rfl) dX1_send_2 (fun H locs hP hD hS => ?_)
  have hP : va_P (dC, dI) vwCl [(qm, .inr (1, [.int 0, .int (m_st u), .int (m_md u), .ref pb, .int (nI (m_mn u)), .ref pr, .int (nI (m_rw u)), .ref pv, .int (nI (m_sz u)), .ref pw, .int (nI (m_wn u)), .ref ps, .int (nI (m_sn u)), .ref pc])), (pb, .inl (cI, 64, .inl (m_bi u))), (pr, .inl (cI, 259, .inl (m_ro u))), (pv, .inl (cI, 259, .inl (m_rc u))), (pw, .inl (cI, 259, .inl (m_wt u))), (ps, .inl (cI, 306, .inl (m_se u))), (pc, .inl (cI, 5, .inl (m_cn u)))] H := hP
  have hD : va_D A [(qm, .inr (1, [.int 0, .int (m_st u), .int (m_md u), .ref pb, .int (nI (m_mn u)), .ref pr, .int (nI (m_rw u)), .ref pv, .int (nI (m_sz u)), .ref pw, .int (nI (m_wn u)), .ref ps, .int (nI (m_sn u)), .ref pc])), (pb, .inl (cI, 64, .inl (m_bi u))), (pr, .inl (cI, 259, .inl (m_ro u))), (pv, .inl (cI, 259, .inl (m_rc u))), (pw, .inl (cI, 259, .inl (m_wt u))), (ps, .inl (cI, 306, .inl (m_se u))), (pc, .inl (cI, 5, .inl (m_cn u)))] := hD
  refine lv_aload_n hx hb dX1_send_5 rfl (lv_at hl 0 rfl) ?_
  refine va_get (D := (dC, dI)) (ci := 1) (v := .int (nI (m_wn u))) (C := RX1) (T := TX1) (N := 14) hx hb hts hinT hown hK hP 0 rfl rfl 10 (by decide) (hts _ (List.mem_cons_of_mem _ fl_74)) (fun _ h9 => h9) rfl dX1_send_6 ?_
  refine lv_if_ne (tgt := 14) hx hb dX1_send_9 (by decide) (fun c_1 => ?_) (fun c_1 => ?_)
  · refine lpX1_sendA (l := l) dC dI qm pb pr pv pw ps pc cI  hx hb hml hown hts A hA hK  7 (0, m_st u, m_md u, m_mn u, m_rw u, m_sz u, m_wn u, m_sn u, m_bi u, m_ro u, m_rc u, m_wt u, m_se u, m_cn u) H locs ls hwn (show m_wn u % 7 = 0 ∨ 7 ≤ 7 + m_wn u % 7 by omega) hP hD hS (lv_sub hl [0] rfl) (fun H locs ls hP hD hS hl => ?_)
    obtain ⟨v_2, hv_2⟩ : ∃ z, z = m_waF 7 (0, m_st u, m_md u, m_mn u, m_rw u, m_sz u, m_wn u, m_sn u, m_bi u, m_ro u, m_rc u, m_wt u, m_se u, m_cn u) := ⟨_, rfl⟩
    rw [← hv_2] at hP hD
    have hP : va_P (dC, dI) vwCl [(qm, .inr (1, [.int (m_th v_2), .int (m_st v_2), .int (m_md v_2), .ref pb, .int (nI (m_mn v_2)), .ref pr, .int (nI (m_rw v_2)), .ref pv, .int (nI (m_sz v_2)), .ref pw, .int (nI (m_wn v_2)), .ref ps, .int (nI (m_sn v_2)), .ref pc])), (pb, .inl (cI, 64, .inl (m_bi v_2))), (pr, .inl (cI, 259, .inl (m_ro v_2))), (pv, .inl (cI, 259, .inl (m_rc v_2))), (pw, .inl (cI, 259, .inl (m_wt v_2))), (ps, .inl (cI, 306, .inl (m_se v_2))), (pc, .inl (cI, 5, .inl (m_cn v_2)))] H := hP
    have hD : va_D A [(qm, .inr (1, [.int (m_th v_2), .int (m_st v_2), .int (m_md v_2), .ref pb, .int (nI (m_mn v_2)), .ref pr, .int (nI (m_rw v_2)), .ref pv, .int (nI (m_sz v_2)), .ref pw, .int (nI (m_wn v_2)), .ref ps, .int (nI (m_sn v_2)), .ref pc])), (pb, .inl (cI, 64, .inl (m_bi v_2))), (pr, .inl (cI, 259, .inl (m_ro v_2))), (pv, .inl (cI, 259, .inl (m_rc v_2))), (pw, .inl (cI, 259, .inl (m_wt v_2))), (ps, .inl (cI, 306, .inl (m_se v_2))), (pc, .inl (cI, 5, .inl (m_cn v_2)))] := hD
    refine lv_aload_n hx hb dX1_send_48 rfl (lv_at hl 0 rfl) ?_
    refine lv_iconst (v := 0) hx hb dX1_send_49 (by decide) ?_
    refine va_put (D := (dC, dI)) (ci := 1) (v := .int 0) (ty := .int) (C := RX1) (T := TX1) (N := 14) hx hb hts hinT tyX1 tyX1_ok nmX1 hown hK hP hD hS 0 rfl rfl 12 (by decide) (hts _ (List.mem_cons_of_mem _ fl_77)) (fun _ h9 => h9) rfl (by decide +kernel) rfl rfl (Nat.le_of_ble_eq_true rfl) dX1_send_50 (fun H locs hP hD hS => ?_)
    have hP : va_P (dC, dI) vwCl [(qm, .inr (1, [.int (m_th v_2), .int (m_st v_2), .int (m_md v_2), .ref pb, .int (nI (m_mn v_2)), .ref pr, .int (nI (m_rw v_2)), .ref pv, .int (nI (m_sz v_2)), .ref pw, .int (nI (m_wn v_2)), .ref ps, .int 0, .ref pc])), (pb, .inl (cI, 64, .inl (m_bi v_2))), (pr, .inl (cI, 259, .inl (m_ro v_2))), (pv, .inl (cI, 259, .inl (m_rc v_2))), (pw, .inl (cI, 259, .inl (m_wt v_2))), (ps, .inl (cI, 306, .inl (m_se v_2))), (pc, .inl (cI, 5, .inl (m_cn v_2)))] H := hP
    have hD : va_D A [(qm, .inr (1, [.int (m_th v_2), .int (m_st v_2), .int (m_md v_2), .ref pb, .int (nI (m_mn v_2)), .ref pr, .int (nI (m_rw v_2)), .ref pv, .int (nI (m_sz v_2)), .ref pw, .int (nI (m_wn v_2)), .ref ps, .int 0, .ref pc])), (pb, .inl (cI, 64, .inl (m_bi v_2))), (pr, .inl (cI, 259, .inl (m_ro v_2))), (pv, .inl (cI, 259, .inl (m_rc v_2))), (pw, .inl (cI, 259, .inl (m_wt v_2))), (ps, .inl (cI, 306, .inl (m_se v_2))), (pc, .inl (cI, 5, .inl (m_cn v_2)))] := hD
    refine lv_aload_n hx hb dX1_send_53 rfl (lv_at hl 0 rfl) ?_
    refine lv_sipush (v := 235) hx hb dX1_send_54 (by decide) ?_
    have hPc : va_P (dC, dI) vwCl (m_W qm pb pr pv pw ps pc cI (m_th v_2, m_st v_2, m_md v_2, m_mn v_2, m_rw v_2, m_sz v_2, m_wn v_2, 0, m_bi v_2, m_ro v_2, m_rc v_2, m_wt v_2, m_se v_2, m_cn v_2)) H := hP
    have hDc : va_D A (m_W qm pb pr pv pw ps pc cI (m_th v_2, m_st v_2, m_md v_2, m_mn v_2, m_rw v_2, m_sz v_2, m_wn v_2, 0, m_bi v_2, m_ro v_2, m_rc v_2, m_wt v_2, m_se v_2, m_cn v_2)) := hD
    have hFc := va_free (wc := (m_W qm pb pr pv pw ps pc cI (m_th v_2, m_st v_2, m_md v_2, m_mn v_2, m_rw v_2, m_sz v_2, m_wn v_2, 0, m_bi v_2, m_ro v_2, m_rc v_2, m_wt v_2, m_se v_2, m_cn v_2))) hD hS hA [0, 1, 2, 3, 4, 5, 6] rfl
    refine va_callv (va_runV (As := [.int 235]) (rest := []) ⟨hx, hb, hml, hown, hts⟩ (kX1_out l dC dI qm pb pr pv pw ps pc cI H.size (m_th v_2, m_st v_2, m_md v_2, m_mn v_2, m_rw v_2, m_sz v_2, m_wn v_2, 0, m_bi v_2, m_ro v_2, m_rc v_2, m_wt v_2, m_se v_2, m_cn v_2) 235 (show 0 < 306 by decide)) (cwV 1 hts gM_X1_out rfl rfl rfl (by decide +kernel) ⟨Nat.le_of_ble_eq_true rfl, Nat.le_of_ble_eq_true rfl⟩) ⟨fun a U g mk q => by obtain ⟨q0, q1, qP, qK, qD⟩ := q; exact ⟨q0, q1, qP, va_K.moved (u := U) (U := U.calling g mk a) (Vm.Alike.refl U.vm) qK, qD⟩, va_recv hK hP (ci := 1) (q0 := 0) rfl rfl, fun U hU hW => ⟨rfl, by rw [hU], by rw [hU]; exact hPc, va_K.moved hW.alike hK, hDc.weaken (fun _ _ _ _ => trivial)⟩⟩ rfl rfl hl.1 rfl (lv_room (Nat.le_of_ble_eq_true rfl)) dX1_send_57 ⟨Nat.le_of_ble_eq_true rfl, Nat.le_of_ble_eq_true rfl⟩) hS (fun q _ h => hFc q h) hFc (fun  u_3 t H1 locs ht hvm hu_3 hB hz1 hk1 hS => ?_)
    obtain ⟨hP1, -, hD1⟩ := hB
    rw [ht] at hP1
    have hP : va_P (dC, dI) vwCl [(qm, .inr (1, [.int (m_th u_3), .int (m_st u_3), .int (m_md u_3), .ref pb, .int (nI (m_mn u_3)), .ref pr, .int (nI (m_rw u_3)), .ref pv, .int (nI (m_sz u_3)), .ref pw, .int (nI (m_wn u_3)), .ref ps, .int (nI (m_sn u_3)), .ref pc])), (pb, .inl (cI, 64, .inl (m_bi u_3))), (pr, .inl (cI, 259, .inl (m_ro u_3))), (pv, .inl (cI, 259, .inl (m_rc u_3))), (pw, .inl (cI, 259, .inl (m_wt u_3))), (ps, .inl (cI, 306, .inl (m_se u_3))), (pc, .inl (cI, 5, .inl (m_cn u_3)))] H1 := hP1
    have hD : va_D A [(qm, .inr (1, [.int (m_th u_3), .int (m_st u_3), .int (m_md u_3), .ref pb, .int (nI (m_mn u_3)), .ref pr, .int (nI (m_rw u_3)), .ref pv, .int (nI (m_sz u_3)), .ref pw, .int (nI (m_wn u_3)), .ref ps, .int (nI (m_sn u_3)), .ref pc])), (pb, .inl (cI, 64, .inl (m_bi u_3))), (pr, .inl (cI, 259, .inl (m_ro u_3))), (pv, .inl (cI, 259, .inl (m_rc u_3))), (pw, .inl (cI, 259, .inl (m_wt u_3))), (ps, .inl (cI, 306, .inl (m_se u_3))), (pc, .inl (cI, 5, .inl (m_cn u_3)))] := hD1.weaken (fun k q _ h => hFc q.1 h)
    generalize H1 = H at hP hS ⊢
    refine lv_aload_n hx hb dX1_send_60 rfl (lv_at hl 0 rfl) ?_
    refine lv_sipush (v := 144) hx hb dX1_send_61 (by decide) ?_
    have hPc : va_P (dC, dI) vwCl (m_W qm pb pr pv pw ps pc cI u_3) H := hP
    have hDc : va_D A (m_W qm pb pr pv pw ps pc cI u_3) := hD
    have hFc := va_free (wc := (m_W qm pb pr pv pw ps pc cI u_3)) hD hS hA [0, 1, 2, 3, 4, 5, 6] rfl
    refine va_callv (va_runV (As := [.int 144]) (rest := []) ⟨hx, hb, hml, hown, hts⟩ (kX1_out l dC dI qm pb pr pv pw ps pc cI H.size u_3 144 (show m_sn u_3 < 306 by rw [hu_3]; show 0 + 1 < 306; decide)) (cwV 1 hts gM_X1_out rfl rfl rfl (by decide +kernel) ⟨Nat.le_of_ble_eq_true rfl, Nat.le_of_ble_eq_true rfl⟩) ⟨fun a U g mk q => by obtain ⟨q0, q1, qP, qK, qD⟩ := q; exact ⟨q0, q1, qP, va_K.moved (u := U) (U := U.calling g mk a) (Vm.Alike.refl U.vm) qK, qD⟩, va_recv hK hP (ci := 1) (q0 := 0) rfl rfl, fun U hU hW => ⟨rfl, by rw [hU], by rw [hU]; exact hPc, va_K.moved hW.alike hK, hDc.weaken (fun _ _ _ _ => trivial)⟩⟩ rfl rfl hl.1 rfl (lv_room (Nat.le_of_ble_eq_true rfl)) dX1_send_64 ⟨Nat.le_of_ble_eq_true rfl, Nat.le_of_ble_eq_true rfl⟩) hS (fun q _ h => hFc q h) hFc (fun  u_4 t H1 locs ht hvm hu_4 hB hz1 hk1 hS => ?_)
    obtain ⟨hP1, -, hD1⟩ := hB
    rw [ht] at hP1
    have hP : va_P (dC, dI) vwCl [(qm, .inr (1, [.int (m_th u_4), .int (m_st u_4), .int (m_md u_4), .ref pb, .int (nI (m_mn u_4)), .ref pr, .int (nI (m_rw u_4)), .ref pv, .int (nI (m_sz u_4)), .ref pw, .int (nI (m_wn u_4)), .ref ps, .int (nI (m_sn u_4)), .ref pc])), (pb, .inl (cI, 64, .inl (m_bi u_4))), (pr, .inl (cI, 259, .inl (m_ro u_4))), (pv, .inl (cI, 259, .inl (m_rc u_4))), (pw, .inl (cI, 259, .inl (m_wt u_4))), (ps, .inl (cI, 306, .inl (m_se u_4))), (pc, .inl (cI, 5, .inl (m_cn u_4)))] H1 := hP1
    have hD : va_D A [(qm, .inr (1, [.int (m_th u_4), .int (m_st u_4), .int (m_md u_4), .ref pb, .int (nI (m_mn u_4)), .ref pr, .int (nI (m_rw u_4)), .ref pv, .int (nI (m_sz u_4)), .ref pw, .int (nI (m_wn u_4)), .ref ps, .int (nI (m_sn u_4)), .ref pc])), (pb, .inl (cI, 64, .inl (m_bi u_4))), (pr, .inl (cI, 259, .inl (m_ro u_4))), (pv, .inl (cI, 259, .inl (m_rc u_4))), (pw, .inl (cI, 259, .inl (m_wt u_4))), (ps, .inl (cI, 306, .inl (m_se u_4))), (pc, .inl (cI, 5, .inl (m_cn u_4)))] := hD1.weaken (fun k q _ h => hFc q.1 h)
    generalize H1 = H at hP hS ⊢
    refine lv_iconst (v := 0) hx hb dX1_send_67 (by decide) ?_
    refine lv_istore_n (lv' := [(1, .int 0), (0, .ref qm)]) hx hb dX1_send_68 rfl hl (by decide) rfl (fun ls hl => ?_)
    have eA : u_4 = m_sendA u := by rw [hu_4, hu_3, hv_2, m_sendA, m_sn0, m_th0]
    have ewn : m_wn u_4 = 7 * ((m_wn u + 6) / 7) := by rw [eA]; exact m_wa_wn 7 (m_th0 u) hwn (show m_wn u % 7 = 0 ∨ 7 ≤ 7 + m_wn u % 7 by omega)
    have esn : m_sn u_4 = 2 := by rw [eA]; rfl
    refine lpX1_sendB (l := l) dC dI qm pb pr pv pw ps pc cI ((m_wn u + 6) / 7) (by omega) hx hb hml hown hts A hA hK  ((m_wn u + 6) / 7) u_4 0 H locs ls (Nat.zero_add _) ewn (by rw [esn]; omega) hP hD hS (lv_sub hl [1, 0] rfl) (fun H locs ls hP hD hS hl => ?_)
    obtain ⟨v_5, hv_5⟩ : ∃ z, z = m_sB ((m_wn u + 6) / 7) 0 u_4 := ⟨_, rfl⟩
    rw [← hv_5] at hP hD
    have hP : va_P (dC, dI) vwCl [(qm, .inr (1, [.int (m_th v_5), .int (m_st v_5), .int (m_md v_5), .ref pb, .int (nI (m_mn v_5)), .ref pr, .int (nI (m_rw v_5)), .ref pv, .int (nI (m_sz v_5)), .ref pw, .int (nI (m_wn v_5)), .ref ps, .int (nI (m_sn v_5)), .ref pc])), (pb, .inl (cI, 64, .inl (m_bi v_5))), (pr, .inl (cI, 259, .inl (m_ro v_5))), (pv, .inl (cI, 259, .inl (m_rc v_5))), (pw, .inl (cI, 259, .inl (m_wt v_5))), (ps, .inl (cI, 306, .inl (m_se v_5))), (pc, .inl (cI, 5, .inl (m_cn v_5)))] H := hP
    have hD : va_D A [(qm, .inr (1, [.int (m_th v_5), .int (m_st v_5), .int (m_md v_5), .ref pb, .int (nI (m_mn v_5)), .ref pr, .int (nI (m_rw v_5)), .ref pv, .int (nI (m_sz v_5)), .ref pw, .int (nI (m_wn v_5)), .ref ps, .int (nI (m_sn v_5)), .ref pc])), (pb, .inl (cI, 64, .inl (m_bi v_5))), (pr, .inl (cI, 259, .inl (m_ro v_5))), (pv, .inl (cI, 259, .inl (m_rc v_5))), (pw, .inl (cI, 259, .inl (m_wt v_5))), (ps, .inl (cI, 306, .inl (m_se v_5))), (pc, .inl (cI, 5, .inl (m_cn v_5)))] := hD
    refine lv_iconst (v := 0) hx hb dX1_send_118 (by decide) ?_
    refine lv_istore_n (lv' := [(1, .int 0), (0, .ref qm)]) hx hb dX1_send_119 rfl hl (by decide) rfl (fun ls hl => ?_)
    have esB : m_sn v_5 = 2 + 8 * ((m_wn u + 6) / 7) := by rw [hv_5, (m_sB_f _ _ _).2, esn]
    refine lpX1_sendD (l := l) dC dI qm pb pr pv pw ps pc cI  hx hb hml hown hts A hA hK  7 v_5 0 H locs ls rfl (by rw [esB]; omega) hP hD hS (lv_sub hl [1, 0] rfl) (fun H locs ls hP hD hS hl => ?_)
    obtain ⟨v_6, hv_6⟩ : ∃ z, z = m_odF 7 0 v_5 := ⟨_, rfl⟩
    rw [← hv_6] at hP hD
    have hP : va_P (dC, dI) vwCl [(qm, .inr (1, [.int (m_th v_6), .int (m_st v_6), .int (m_md v_6), .ref pb, .int (nI (m_mn v_6)), .ref pr, .int (nI (m_rw v_6)), .ref pv, .int (nI (m_sz v_6)), .ref pw, .int (nI (m_wn v_6)), .ref ps, .int (nI (m_sn v_6)), .ref pc])), (pb, .inl (cI, 64, .inl (m_bi v_6))), (pr, .inl (cI, 259, .inl (m_ro v_6))), (pv, .inl (cI, 259, .inl (m_rc v_6))), (pw, .inl (cI, 259, .inl (m_wt v_6))), (ps, .inl (cI, 306, .inl (m_se v_6))), (pc, .inl (cI, 5, .inl (m_cn v_6)))] H := hP
    have hD : va_D A [(qm, .inr (1, [.int (m_th v_6), .int (m_st v_6), .int (m_md v_6), .ref pb, .int (nI (m_mn v_6)), .ref pr, .int (nI (m_rw v_6)), .ref pv, .int (nI (m_sz v_6)), .ref pw, .int (nI (m_wn v_6)), .ref ps, .int (nI (m_sn v_6)), .ref pc])), (pb, .inl (cI, 64, .inl (m_bi v_6))), (pr, .inl (cI, 259, .inl (m_ro v_6))), (pv, .inl (cI, 259, .inl (m_rc v_6))), (pw, .inl (cI, 259, .inl (m_wt v_6))), (ps, .inl (cI, 306, .inl (m_se v_6))), (pc, .inl (cI, 5, .inl (m_cn v_6)))] := hD
    refine lv_aload_n hx hb dX1_send_139 rfl (lv_at hl 0 rfl) ?_
    refine lv_bipush (v := 121) hx hb dX1_send_140 (by decide) ?_
    have hPc : va_P (dC, dI) vwCl (m_W qm pb pr pv pw ps pc cI v_6) H := hP
    have hDc : va_D A (m_W qm pb pr pv pw ps pc cI v_6) := hD
    have hFc := va_free (wc := (m_W qm pb pr pv pw ps pc cI v_6)) hD hS hA [0, 1, 2, 3, 4, 5, 6] rfl
    refine va_callv (va_runV (As := [.int 121]) (rest := []) ⟨hx, hb, hml, hown, hts⟩ (kX1_out l dC dI qm pb pr pv pw ps pc cI H.size v_6 121 (show m_sn v_6 < 306 by rw [hv_6, m_od_f, esB]; omega)) (cwV 1 hts gM_X1_out rfl rfl rfl (by decide +kernel) ⟨Nat.le_of_ble_eq_true rfl, Nat.le_of_ble_eq_true rfl⟩) ⟨fun a U g mk q => by obtain ⟨q0, q1, qP, qK, qD⟩ := q; exact ⟨q0, q1, qP, va_K.moved (u := U) (U := U.calling g mk a) (Vm.Alike.refl U.vm) qK, qD⟩, va_recv hK hP (ci := 1) (q0 := 0) rfl rfl, fun U hU hW => ⟨rfl, by rw [hU], by rw [hU]; exact hPc, va_K.moved hW.alike hK, hDc.weaken (fun _ _ _ _ => trivial)⟩⟩ rfl rfl hl.1 rfl (lv_room (Nat.le_of_ble_eq_true rfl)) dX1_send_142 ⟨Nat.le_of_ble_eq_true rfl, Nat.le_of_ble_eq_true rfl⟩) hS (fun q _ h => hFc q h) hFc (fun  u_7 t H1 locs ht hvm hu_7 hB hz1 hk1 hS => ?_)
    obtain ⟨hP1, -, hD1⟩ := hB
    rw [ht] at hP1
    have hP : va_P (dC, dI) vwCl [(qm, .inr (1, [.int (m_th u_7), .int (m_st u_7), .int (m_md u_7), .ref pb, .int (nI (m_mn u_7)), .ref pr, .int (nI (m_rw u_7)), .ref pv, .int (nI (m_sz u_7)), .ref pw, .int (nI (m_wn u_7)), .ref ps, .int (nI (m_sn u_7)), .ref pc])), (pb, .inl (cI, 64, .inl (m_bi u_7))), (pr, .inl (cI, 259, .inl (m_ro u_7))), (pv, .inl (cI, 259, .inl (m_rc u_7))), (pw, .inl (cI, 259, .inl (m_wt u_7))), (ps, .inl (cI, 306, .inl (m_se u_7))), (pc, .inl (cI, 5, .inl (m_cn u_7)))] H1 := hP1
    have hD : va_D A [(qm, .inr (1, [.int (m_th u_7), .int (m_st u_7), .int (m_md u_7), .ref pb, .int (nI (m_mn u_7)), .ref pr, .int (nI (m_rw u_7)), .ref pv, .int (nI (m_sz u_7)), .ref pw, .int (nI (m_wn u_7)), .ref ps, .int (nI (m_sn u_7)), .ref pc])), (pb, .inl (cI, 64, .inl (m_bi u_7))), (pr, .inl (cI, 259, .inl (m_ro u_7))), (pv, .inl (cI, 259, .inl (m_rc u_7))), (pw, .inl (cI, 259, .inl (m_wt u_7))), (ps, .inl (cI, 306, .inl (m_se u_7))), (pc, .inl (cI, 5, .inl (m_cn u_7)))] := hD1.weaken (fun k q _ h => hFc q.1 h)
    generalize H1 = H at hP hS ⊢
    refine lv_aload_n hx hb dX1_send_145 rfl (lv_at hl 0 rfl) ?_
    refine lv_iconst (v := 0) hx hb dX1_send_146 (by decide) ?_
    refine va_put (D := (dC, dI)) (ci := 1) (v := .int 0) (ty := .int) (C := RX1) (T := TX1) (N := 14) hx hb hts hinT tyX1 tyX1_ok nmX1 hown hK hP hD hS 0 rfl rfl 10 (by decide) (hts _ (List.mem_cons_of_mem _ fl_74)) (fun _ h9 => h9) rfl (by decide +kernel) rfl rfl (Nat.le_of_ble_eq_true rfl) dX1_send_147 (fun H locs hP hD hS => ?_)
    have hP : va_P (dC, dI) vwCl [(qm, .inr (1, [.int (m_th u_7), .int (m_st u_7), .int (m_md u_7), .ref pb, .int (nI (m_mn u_7)), .ref pr, .int (nI (m_rw u_7)), .ref pv, .int (nI (m_sz u_7)), .ref pw, .int 0, .ref ps, .int (nI (m_sn u_7)), .ref pc])), (pb, .inl (cI, 64, .inl (m_bi u_7))), (pr, .inl (cI, 259, .inl (m_ro u_7))), (pv, .inl (cI, 259, .inl (m_rc u_7))), (pw, .inl (cI, 259, .inl (m_wt u_7))), (ps, .inl (cI, 306, .inl (m_se u_7))), (pc, .inl (cI, 5, .inl (m_cn u_7)))] H := hP
    have hD : va_D A [(qm, .inr (1, [.int (m_th u_7), .int (m_st u_7), .int (m_md u_7), .ref pb, .int (nI (m_mn u_7)), .ref pr, .int (nI (m_rw u_7)), .ref pv, .int (nI (m_sz u_7)), .ref pw, .int 0, .ref ps, .int (nI (m_sn u_7)), .ref pc])), (pb, .inl (cI, 64, .inl (m_bi u_7))), (pr, .inl (cI, 259, .inl (m_ro u_7))), (pv, .inl (cI, 259, .inl (m_rc u_7))), (pw, .inl (cI, 259, .inl (m_wt u_7))), (ps, .inl (cI, 306, .inl (m_se u_7))), (pc, .inl (cI, 5, .inl (m_cn u_7)))] := hD
    refine lv_aload_n hx hb dX1_send_150 rfl (lv_at hl 0 rfl) ?_
    refine va_get (D := (dC, dI)) (ci := 1) (v := .int (nI (m_sn u_7))) (C := RX1) (T := TX1) (N := 14) hx hb hts hinT hown hK hP 0 rfl rfl 12 (by decide) (hts _ (List.mem_cons_of_mem _ fl_77)) (fun _ h9 => h9) rfl dX1_send_151 ?_
    have e5 : u_7 = m_sendT u := by rw [hu_7, hv_6, hv_5, eA, m_sendT]
    have hP9 : va_P (dC, dI) vwCl (m_W qm pb pr pv pw ps pc cI (m_th u_7, m_st u_7, m_md u_7, m_mn u_7, m_rw u_7, m_sz u_7, 0, m_sn u_7, m_bi u_7, m_ro u_7, m_rc u_7, m_wt u_7, m_se u_7, m_cn u_7)) H := hP
    have hD9 : va_D A (m_W qm pb pr pv pw ps pc cI (m_th u_7, m_st u_7, m_md u_7, m_mn u_7, m_rw u_7, m_sz u_7, 0, m_sn u_7, m_bi u_7, m_ro u_7, m_rc u_7, m_wt u_7, m_se u_7, m_cn u_7)) := hD
    exact W.iret (v := nI (m_sn u_7)) hx hb hr (fun t ht hW => ⟨⟨_, (m_th u_7, m_st u_7, m_md u_7, m_mn u_7, m_rw u_7, m_sz u_7, 0, m_sn u_7, m_bi u_7, m_ro u_7, m_rc u_7, m_wt u_7, m_se u_7, m_cn u_7), rfl, ⟨(by rw [e5]; unfold m_send_r; rw [if_neg c_1]), ((show _ = m_wn0 u_7 from rfl).trans (by rw [e5]; unfold m_send; rw [if_neg c_1]))⟩, by rw [ht]; exact hP9, va_K.moved hW.alike hK, hD9⟩, hS.F ht⟩) hS.2.2 dX1_send_154
  · refine lv_iconst (v := (-1)) hx hb dX1_send_12 (by decide) ?_
    have hP9 : va_P (dC, dI) vwCl (m_W qm pb pr pv pw ps pc cI (0, m_st u, m_md u, m_mn u, m_rw u, m_sz u, m_wn u, m_sn u, m_bi u, m_ro u, m_rc u, m_wt u, m_se u, m_cn u)) H := hP
    have hD9 : va_D A (m_W qm pb pr pv pw ps pc cI (0, m_st u, m_md u, m_mn u, m_rw u, m_sz u, m_wn u, m_sn u, m_bi u, m_ro u, m_rc u, m_wt u, m_se u, m_cn u)) := hD
    exact W.iret (v := (-1)) hx hb hr (fun t ht hW => ⟨⟨_, (0, m_st u, m_md u, m_mn u, m_rw u, m_sz u, m_wn u, m_sn u, m_bi u, m_ro u, m_rc u, m_wt u, m_se u, m_cn u), rfl, ⟨(by unfold m_send_r; rw [if_pos c_1]), ((show _ = m_th0 u from rfl).trans (by unfold m_send; rw [if_pos c_1]))⟩, by rw [ht]; exact hP9, va_K.moved hW.alike hK, hD9⟩, hS.F ht⟩) hS.2.2 dX1_send_13
end
section
abbrev rmX1_init : Room := { frames := 1, cells := 6, slots := 1152, locals := 12 }
def m_init : m_S := (0, 0, 0, 0, 0, 0, 0, 0, (fun _ => 0), (fun _ => 0), (fun _ => 0), (fun _ => 0), (fun _ => 0), (fun _ => 0))
set_option maxHeartbeats 4000000 in
set_option maxRecDepth 100000 in
theorem kX1_init (l : Launch) (dC : Nat → ClassId) (dI : Nat → Nat → Nat) (qm : Nat) (sz : Nat) : Met l yX1_init vX1_init rmX1_init (va_Pc [.ref qm] (fun U => U.heap.size = sz ∧ va_P (dC, dI) vwCl [(qm, .inr (1, [.int 0, .int 0, .int 0, .null, .int 0, .null, .int 0, .null, .int 0, .null, .int 0, .null, .int 0, .null]))] U.heap ∧ va_K (dC, dI) vwCl [] U ∧ va_D (fun _ => True) [(qm, .inr (1, [.int 0, .int 0, .int 0, .null, .int 0, .null, .int 0, .null, .int 0, .null, .int 0, .null, .int 0, .null]))])) (va_Qv (fun _ => True) (fun (w : Nat × Nat × Nat × Nat × Nat × Nat × ClassId) t => m_At dC dI (va_A [(qm, .inr (1, [.int 0, .int 0, .int 0, .null, .int 0, .null, .int 0, .null, .int 0, .null, .int 0, .null, .int 0, .null]))] sz) qm w.1 w.2.1 w.2.2.1 w.2.2.2.1 w.2.2.2.2.1 w.2.2.2.2.2.1 w.2.2.2.2.2.2 m_init t) (va_A [(qm, .inr (1, [.int 0, .int 0, .int 0, .null, .int 0, .null, .int 0, .null, .int 0, .null, .int 0, .null, .int 0, .null]))] sz)) 6 1152 (va_A [(qm, .inr (1, [.int 0, .int 0, .int 0, .null, .int 0, .null, .int 0, .null, .int 0, .null, .int 0, .null, .int 0, .null]))] sz) := by
  refine Met.ofW (cc := cX1_init) (maxL := 1) (ret := none) (by decide) rfl ?_
  intro p e s m args below meth c s₁ B hml hv
  obtain ⟨rfl, hsz, hP, hK, hD0⟩ := hv
  have hx := B.exec
  have hb := B.bytes
  have hr := B.returns
  have hts := atoms_spec (ws := vX1_init) B.pre
  have hown : s.vm.findClass RX1 = some m.cls := findClass_of_methodNamed B.named
  have hlocks := B.notSynchronized
  have hin : meth.name = "<init>" := (name_of_methodNamed B.named B.method).1
  have hinT : ∀ w ∈ wsX10, w ∈ vX1_init := fun w h => List.mem_cons_of_mem _ (inM w h)
  subst hsz
  have hD := hD0.self (sz := s.heap.size)
  generalize hAe : va_A [(qm, .inr (1, [.int 0, .int 0, .int 0, .null, .int 0, .null, .int 0, .null, .int 0, .null, .int 0, .null, .int 0, .null]))] s.heap.size = A at hD ⊢
  have hA : ∀ q : Nat, s.heap.size ≤ q → A q := fun q h => by rw [← hAe]; exact Or.inr h
  have hS : va_S A s.heap s.heap [] := va_S.rf
  have hP : va_P (dC, dI) vwCl [(qm, .inr (1, [.int 0, .int 0, .int 0, .null, .int 0, .null, .int 0, .null, .int 0, .null, .int 0, .null, .int 0, .null]))] s.heap := hP
  have hl := lv_entry ([.ref qm]) (n := 1) (Nat.le_of_ble_eq_true rfl)
  rw [lg_entry_eq]
  generalize (lg_sl ([.ref qm]) ++ List.replicate (1 - (lg_sl ([.ref qm])).length) Slot.unset).toArray = ls at hl ⊢
  have hl : lv_has ls 1 [(0, .ref qm)] := hl
  refine lv_aload_n hx hb dX1_init_0 rfl (lv_at hl 0 rfl) ?_
  refine W.objInit hx hb hown (hts (.methodLink RX1 1 objectInit) (by decide +kernel)) (hts (.instanceMethod objectInit) (by decide +kernel)) (hts _ (List.mem_cons_of_mem _ tbObj)) rfl (by rw [hml]; exact hl.1) rfl dX1_init_1 (Nat.le_of_ble_eq_true rfl) (Nat.le_of_ble_eq_true rfl) ?_
  refine W.eq (g2 := F0 m 4 ls []) rfl ?_
  refine lv_aload_n hx hb dX1_init_4 rfl (lv_at hl 0 rfl) ?_
  refine lv_bipush (v := 64) hx hb dX1_init_5 (by decide) ?_
  refine va_newa (atype := .int) (N' := 64) (a0 := (64, .inl (fun _ => 0))) (ty := .int) (n := 64) hx hb (hts (.arrayClass .int) (by decide +kernel)) rfl hK hP hD hS hA (fun _ => rfl) (by decide) (by decide) (by decide) (Nat.le_of_ble_eq_true rfl) (Nat.le_of_ble_eq_true rfl) dX1_init_7 (fun q0 c0 H hK hP hD hS => ?_)
  have hK : va_K (dC, dI) vwCl [(c0, .int)] s := hK
  have hP : va_P (dC, dI) vwCl [(qm, .inr (1, [.int 0, .int 0, .int 0, .null, .int 0, .null, .int 0, .null, .int 0, .null, .int 0, .null, .int 0, .null])), (q0, .inl (c0, 64, .inl (fun _ => 0)))] H := hP
  have hD : va_D A [(qm, .inr (1, [.int 0, .int 0, .int 0, .null, .int 0, .null, .int 0, .null, .int 0, .null, .int 0, .null, .int 0, .null])), (q0, .inl (c0, 64, .inl (fun _ => 0)))] := hD
  refine W.widen (k := 1) (n := 64) (by omega) (by omega) ?_
  refine va_putF (D := (dC, dI)) (ci := 1) (v := .ref q0) (ty := .array .int) (C := RX1) (T := TX1) (N := 14) hx hb hts hinT tyX1 tyX1_ok nmX1 hown hK hP hD hS 0 rfl rfl 3 (by decide) (hts _ (List.mem_cons_of_mem _ fl_7)) (fun _ h9 => h9) rfl hin rfl (by decide +kernel) rfl rfl (Nat.le_of_ble_eq_true rfl) dX1_init_9 (fun H locs hP hD hS => ?_)
  have hP : va_P (dC, dI) vwCl [(qm, .inr (1, [.int 0, .int 0, .int 0, .ref q0, .int 0, .null, .int 0, .null, .int 0, .null, .int 0, .null, .int 0, .null])), (q0, .inl (c0, 64, .inl (fun _ => 0)))] H := hP
  have hD : va_D A [(qm, .inr (1, [.int 0, .int 0, .int 0, .ref q0, .int 0, .null, .int 0, .null, .int 0, .null, .int 0, .null, .int 0, .null])), (q0, .inl (c0, 64, .inl (fun _ => 0)))] := hD
  refine lv_aload_n hx hb dX1_init_12 rfl (lv_at hl 0 rfl) ?_
  refine lv_sipush (v := 259) hx hb dX1_init_13 (by decide) ?_
  refine va_newa (atype := .int) (N' := 259) (a0 := (259, .inl (fun _ => 0))) (ty := .int) (n := 259) hx hb (hts (.arrayClass .int) (by decide +kernel)) rfl hK hP hD hS hA (fun _ => rfl) (by decide) (by decide) (by decide) (Nat.le_of_ble_eq_true rfl) (Nat.le_of_ble_eq_true rfl) dX1_init_16 (fun q1 c1 H hK hP hD hS => ?_)
  have hK : va_K (dC, dI) vwCl [(c0, .int), (c1, .int)] s := hK
  have hP : va_P (dC, dI) vwCl [(qm, .inr (1, [.int 0, .int 0, .int 0, .ref q0, .int 0, .null, .int 0, .null, .int 0, .null, .int 0, .null, .int 0, .null])), (q0, .inl (c0, 64, .inl (fun _ => 0))), (q1, .inl (c1, 259, .inl (fun _ => 0)))] H := hP
  have hD : va_D A [(qm, .inr (1, [.int 0, .int 0, .int 0, .ref q0, .int 0, .null, .int 0, .null, .int 0, .null, .int 0, .null, .int 0, .null])), (q0, .inl (c0, 64, .inl (fun _ => 0))), (q1, .inl (c1, 259, .inl (fun _ => 0)))] := hD
  refine W.widen (k := 2) (n := 323) (by omega) (by omega) ?_
  refine va_putF (D := (dC, dI)) (ci := 1) (v := .ref q1) (ty := .array .int) (C := RX1) (T := TX1) (N := 14) hx hb hts hinT tyX1 tyX1_ok nmX1 hown hK hP hD hS 0 rfl rfl 5 (by decide) (hts _ (List.mem_cons_of_mem _ fl_13)) (fun _ h9 => h9) rfl hin rfl (by decide +kernel) rfl rfl (Nat.le_of_ble_eq_true rfl) dX1_init_18 (fun H locs hP hD hS => ?_)
  have hP : va_P (dC, dI) vwCl [(qm, .inr (1, [.int 0, .int 0, .int 0, .ref q0, .int 0, .ref q1, .int 0, .null, .int 0, .null, .int 0, .null, .int 0, .null])), (q0, .inl (c0, 64, .inl (fun _ => 0))), (q1, .inl (c1, 259, .inl (fun _ => 0)))] H := hP
  have hD : va_D A [(qm, .inr (1, [.int 0, .int 0, .int 0, .ref q0, .int 0, .ref q1, .int 0, .null, .int 0, .null, .int 0, .null, .int 0, .null])), (q0, .inl (c0, 64, .inl (fun _ => 0))), (q1, .inl (c1, 259, .inl (fun _ => 0)))] := hD
  refine lv_aload_n hx hb dX1_init_21 rfl (lv_at hl 0 rfl) ?_
  refine lv_sipush (v := 259) hx hb dX1_init_22 (by decide) ?_
  refine va_newa (atype := .int) (N' := 259) (a0 := (259, .inl (fun _ => 0))) (ty := .int) (n := 259) hx hb (hts (.arrayClass .int) (by decide +kernel)) rfl hK hP hD hS hA (fun _ => rfl) (by decide) (by decide) (by decide) (Nat.le_of_ble_eq_true rfl) (Nat.le_of_ble_eq_true rfl) dX1_init_25 (fun q2 c2 H hK hP hD hS => ?_)
  have hK : va_K (dC, dI) vwCl [(c0, .int), (c1, .int), (c2, .int)] s := hK
  have hP : va_P (dC, dI) vwCl [(qm, .inr (1, [.int 0, .int 0, .int 0, .ref q0, .int 0, .ref q1, .int 0, .null, .int 0, .null, .int 0, .null, .int 0, .null])), (q0, .inl (c0, 64, .inl (fun _ => 0))), (q1, .inl (c1, 259, .inl (fun _ => 0))), (q2, .inl (c2, 259, .inl (fun _ => 0)))] H := hP
  have hD : va_D A [(qm, .inr (1, [.int 0, .int 0, .int 0, .ref q0, .int 0, .ref q1, .int 0, .null, .int 0, .null, .int 0, .null, .int 0, .null])), (q0, .inl (c0, 64, .inl (fun _ => 0))), (q1, .inl (c1, 259, .inl (fun _ => 0))), (q2, .inl (c2, 259, .inl (fun _ => 0)))] := hD
  refine W.widen (k := 3) (n := 582) (by omega) (by omega) ?_
  refine va_putF (D := (dC, dI)) (ci := 1) (v := .ref q2) (ty := .array .int) (C := RX1) (T := TX1) (N := 14) hx hb hts hinT tyX1 tyX1_ok nmX1 hown hK hP hD hS 0 rfl rfl 7 (by decide) (hts _ (List.mem_cons_of_mem _ fl_16)) (fun _ h9 => h9) rfl hin rfl (by decide +kernel) rfl rfl (Nat.le_of_ble_eq_true rfl) dX1_init_27 (fun H locs hP hD hS => ?_)
  have hP : va_P (dC, dI) vwCl [(qm, .inr (1, [.int 0, .int 0, .int 0, .ref q0, .int 0, .ref q1, .int 0, .ref q2, .int 0, .null, .int 0, .null, .int 0, .null])), (q0, .inl (c0, 64, .inl (fun _ => 0))), (q1, .inl (c1, 259, .inl (fun _ => 0))), (q2, .inl (c2, 259, .inl (fun _ => 0)))] H := hP
  have hD : va_D A [(qm, .inr (1, [.int 0, .int 0, .int 0, .ref q0, .int 0, .ref q1, .int 0, .ref q2, .int 0, .null, .int 0, .null, .int 0, .null])), (q0, .inl (c0, 64, .inl (fun _ => 0))), (q1, .inl (c1, 259, .inl (fun _ => 0))), (q2, .inl (c2, 259, .inl (fun _ => 0)))] := hD
  refine lv_aload_n hx hb dX1_init_30 rfl (lv_at hl 0 rfl) ?_
  refine lv_sipush (v := 259) hx hb dX1_init_31 (by decide) ?_
  refine va_newa (atype := .int) (N' := 259) (a0 := (259, .inl (fun _ => 0))) (ty := .int) (n := 259) hx hb (hts (.arrayClass .int) (by decide +kernel)) rfl hK hP hD hS hA (fun _ => rfl) (by decide) (by decide) (by decide) (Nat.le_of_ble_eq_true rfl) (Nat.le_of_ble_eq_true rfl) dX1_init_34 (fun q3 c3 H hK hP hD hS => ?_)
  have hK : va_K (dC, dI) vwCl [(c0, .int), (c1, .int), (c2, .int), (c3, .int)] s := hK
  have hP : va_P (dC, dI) vwCl [(qm, .inr (1, [.int 0, .int 0, .int 0, .ref q0, .int 0, .ref q1, .int 0, .ref q2, .int 0, .null, .int 0, .null, .int 0, .null])), (q0, .inl (c0, 64, .inl (fun _ => 0))), (q1, .inl (c1, 259, .inl (fun _ => 0))), (q2, .inl (c2, 259, .inl (fun _ => 0))), (q3, .inl (c3, 259, .inl (fun _ => 0)))] H := hP
  have hD : va_D A [(qm, .inr (1, [.int 0, .int 0, .int 0, .ref q0, .int 0, .ref q1, .int 0, .ref q2, .int 0, .null, .int 0, .null, .int 0, .null])), (q0, .inl (c0, 64, .inl (fun _ => 0))), (q1, .inl (c1, 259, .inl (fun _ => 0))), (q2, .inl (c2, 259, .inl (fun _ => 0))), (q3, .inl (c3, 259, .inl (fun _ => 0)))] := hD
  refine W.widen (k := 4) (n := 841) (by omega) (by omega) ?_
  refine va_putF (D := (dC, dI)) (ci := 1) (v := .ref q3) (ty := .array .int) (C := RX1) (T := TX1) (N := 14) hx hb hts hinT tyX1 tyX1_ok nmX1 hown hK hP hD hS 0 rfl rfl 9 (by decide) (hts _ (List.mem_cons_of_mem _ fl_19)) (fun _ h9 => h9) rfl hin rfl (by decide +kernel) rfl rfl (Nat.le_of_ble_eq_true rfl) dX1_init_36 (fun H locs hP hD hS => ?_)
  have hP : va_P (dC, dI) vwCl [(qm, .inr (1, [.int 0, .int 0, .int 0, .ref q0, .int 0, .ref q1, .int 0, .ref q2, .int 0, .ref q3, .int 0, .null, .int 0, .null])), (q0, .inl (c0, 64, .inl (fun _ => 0))), (q1, .inl (c1, 259, .inl (fun _ => 0))), (q2, .inl (c2, 259, .inl (fun _ => 0))), (q3, .inl (c3, 259, .inl (fun _ => 0)))] H := hP
  have hD : va_D A [(qm, .inr (1, [.int 0, .int 0, .int 0, .ref q0, .int 0, .ref q1, .int 0, .ref q2, .int 0, .ref q3, .int 0, .null, .int 0, .null])), (q0, .inl (c0, 64, .inl (fun _ => 0))), (q1, .inl (c1, 259, .inl (fun _ => 0))), (q2, .inl (c2, 259, .inl (fun _ => 0))), (q3, .inl (c3, 259, .inl (fun _ => 0)))] := hD
  refine lv_aload_n hx hb dX1_init_39 rfl (lv_at hl 0 rfl) ?_
  refine lv_sipush (v := 306) hx hb dX1_init_40 (by decide) ?_
  refine va_newa (atype := .int) (N' := 306) (a0 := (306, .inl (fun _ => 0))) (ty := .int) (n := 306) hx hb (hts (.arrayClass .int) (by decide +kernel)) rfl hK hP hD hS hA (fun _ => rfl) (by decide) (by decide) (by decide) (Nat.le_of_ble_eq_true rfl) (Nat.le_of_ble_eq_true rfl) dX1_init_43 (fun q4 c4 H hK hP hD hS => ?_)
  have hK : va_K (dC, dI) vwCl [(c0, .int), (c1, .int), (c2, .int), (c3, .int), (c4, .int)] s := hK
  have hP : va_P (dC, dI) vwCl [(qm, .inr (1, [.int 0, .int 0, .int 0, .ref q0, .int 0, .ref q1, .int 0, .ref q2, .int 0, .ref q3, .int 0, .null, .int 0, .null])), (q0, .inl (c0, 64, .inl (fun _ => 0))), (q1, .inl (c1, 259, .inl (fun _ => 0))), (q2, .inl (c2, 259, .inl (fun _ => 0))), (q3, .inl (c3, 259, .inl (fun _ => 0))), (q4, .inl (c4, 306, .inl (fun _ => 0)))] H := hP
  have hD : va_D A [(qm, .inr (1, [.int 0, .int 0, .int 0, .ref q0, .int 0, .ref q1, .int 0, .ref q2, .int 0, .ref q3, .int 0, .null, .int 0, .null])), (q0, .inl (c0, 64, .inl (fun _ => 0))), (q1, .inl (c1, 259, .inl (fun _ => 0))), (q2, .inl (c2, 259, .inl (fun _ => 0))), (q3, .inl (c3, 259, .inl (fun _ => 0))), (q4, .inl (c4, 306, .inl (fun _ => 0)))] := hD
  refine W.widen (k := 5) (n := 1147) (by omega) (by omega) ?_
  refine va_putF (D := (dC, dI)) (ci := 1) (v := .ref q4) (ty := .array .int) (C := RX1) (T := TX1) (N := 14) hx hb hts hinT tyX1 tyX1_ok nmX1 hown hK hP hD hS 0 rfl rfl 11 (by decide) (hts _ (List.mem_cons_of_mem _ fl_22)) (fun _ h9 => h9) rfl hin rfl (by decide +kernel) rfl rfl (Nat.le_of_ble_eq_true rfl) dX1_init_45 (fun H locs hP hD hS => ?_)
  have hP : va_P (dC, dI) vwCl [(qm, .inr (1, [.int 0, .int 0, .int 0, .ref q0, .int 0, .ref q1, .int 0, .ref q2, .int 0, .ref q3, .int 0, .ref q4, .int 0, .null])), (q0, .inl (c0, 64, .inl (fun _ => 0))), (q1, .inl (c1, 259, .inl (fun _ => 0))), (q2, .inl (c2, 259, .inl (fun _ => 0))), (q3, .inl (c3, 259, .inl (fun _ => 0))), (q4, .inl (c4, 306, .inl (fun _ => 0)))] H := hP
  have hD : va_D A [(qm, .inr (1, [.int 0, .int 0, .int 0, .ref q0, .int 0, .ref q1, .int 0, .ref q2, .int 0, .ref q3, .int 0, .ref q4, .int 0, .null])), (q0, .inl (c0, 64, .inl (fun _ => 0))), (q1, .inl (c1, 259, .inl (fun _ => 0))), (q2, .inl (c2, 259, .inl (fun _ => 0))), (q3, .inl (c3, 259, .inl (fun _ => 0))), (q4, .inl (c4, 306, .inl (fun _ => 0)))] := hD
  refine lv_aload_n hx hb dX1_init_48 rfl (lv_at hl 0 rfl) ?_
  refine lv_iconst (v := 5) hx hb dX1_init_49 (by decide) ?_
  refine va_newa (atype := .int) (N' := 5) (a0 := (5, .inl (fun _ => 0))) (ty := .int) (n := 5) hx hb (hts (.arrayClass .int) (by decide +kernel)) rfl hK hP hD hS hA (fun _ => rfl) (by decide) (by decide) (by decide) (Nat.le_of_ble_eq_true rfl) (Nat.le_of_ble_eq_true rfl) dX1_init_50 (fun q5 c5 H hK hP hD hS => ?_)
  have hK : va_K (dC, dI) vwCl [(c0, .int), (c1, .int), (c2, .int), (c3, .int), (c4, .int), (c5, .int)] s := hK
  have hP : va_P (dC, dI) vwCl [(qm, .inr (1, [.int 0, .int 0, .int 0, .ref q0, .int 0, .ref q1, .int 0, .ref q2, .int 0, .ref q3, .int 0, .ref q4, .int 0, .null])), (q0, .inl (c0, 64, .inl (fun _ => 0))), (q1, .inl (c1, 259, .inl (fun _ => 0))), (q2, .inl (c2, 259, .inl (fun _ => 0))), (q3, .inl (c3, 259, .inl (fun _ => 0))), (q4, .inl (c4, 306, .inl (fun _ => 0))), (q5, .inl (c5, 5, .inl (fun _ => 0)))] H := hP
  have hD : va_D A [(qm, .inr (1, [.int 0, .int 0, .int 0, .ref q0, .int 0, .ref q1, .int 0, .ref q2, .int 0, .ref q3, .int 0, .ref q4, .int 0, .null])), (q0, .inl (c0, 64, .inl (fun _ => 0))), (q1, .inl (c1, 259, .inl (fun _ => 0))), (q2, .inl (c2, 259, .inl (fun _ => 0))), (q3, .inl (c3, 259, .inl (fun _ => 0))), (q4, .inl (c4, 306, .inl (fun _ => 0))), (q5, .inl (c5, 5, .inl (fun _ => 0)))] := hD
  refine W.widen (k := 6) (n := 1152) (by omega) (by omega) ?_
  refine va_putF (D := (dC, dI)) (ci := 1) (v := .ref q5) (ty := .array .int) (C := RX1) (T := TX1) (N := 14) hx hb hts hinT tyX1 tyX1_ok nmX1 hown hK hP hD hS 0 rfl rfl 13 (by decide) (hts _ (List.mem_cons_of_mem _ fl_25)) (fun _ h9 => h9) rfl hin rfl (by decide +kernel) rfl rfl (Nat.le_of_ble_eq_true rfl) dX1_init_52 (fun H locs hP hD hS => ?_)
  have hP : va_P (dC, dI) vwCl [(qm, .inr (1, [.int 0, .int 0, .int 0, .ref q0, .int 0, .ref q1, .int 0, .ref q2, .int 0, .ref q3, .int 0, .ref q4, .int 0, .ref q5])), (q0, .inl (c0, 64, .inl (fun _ => 0))), (q1, .inl (c1, 259, .inl (fun _ => 0))), (q2, .inl (c2, 259, .inl (fun _ => 0))), (q3, .inl (c3, 259, .inl (fun _ => 0))), (q4, .inl (c4, 306, .inl (fun _ => 0))), (q5, .inl (c5, 5, .inl (fun _ => 0)))] H := hP
  have hD : va_D A [(qm, .inr (1, [.int 0, .int 0, .int 0, .ref q0, .int 0, .ref q1, .int 0, .ref q2, .int 0, .ref q3, .int 0, .ref q4, .int 0, .ref q5])), (q0, .inl (c0, 64, .inl (fun _ => 0))), (q1, .inl (c1, 259, .inl (fun _ => 0))), (q2, .inl (c2, 259, .inl (fun _ => 0))), (q3, .inl (c3, 259, .inl (fun _ => 0))), (q4, .inl (c4, 306, .inl (fun _ => 0))), (q5, .inl (c5, 5, .inl (fun _ => 0)))] := hD
  have e1 : c1 = c0 := Option.some.inj ((show s.vm.findClass _ = some c1 from (hK.2 1 _ rfl).2).symm.trans (show s.vm.findClass _ = some c0 from (hK.2 0 _ rfl).2))
  have e2 : c2 = c0 := Option.some.inj ((show s.vm.findClass _ = some c2 from (hK.2 2 _ rfl).2).symm.trans (show s.vm.findClass _ = some c0 from (hK.2 0 _ rfl).2))
  have e3 : c3 = c0 := Option.some.inj ((show s.vm.findClass _ = some c3 from (hK.2 3 _ rfl).2).symm.trans (show s.vm.findClass _ = some c0 from (hK.2 0 _ rfl).2))
  have e4 : c4 = c0 := Option.some.inj ((show s.vm.findClass _ = some c4 from (hK.2 4 _ rfl).2).symm.trans (show s.vm.findClass _ = some c0 from (hK.2 0 _ rfl).2))
  have e5 : c5 = c0 := Option.some.inj ((show s.vm.findClass _ = some c5 from (hK.2 5 _ rfl).2).symm.trans (show s.vm.findClass _ = some c0 from (hK.2 0 _ rfl).2))
  subst e1
  subst e2
  subst e3
  subst e4
  subst e5
  have hK9 : va_K (dC, dI) vwCl [(_, .int)] s := hK.sub [0] rfl
  exact W.vret hx hb hr (fun t ht hW => ⟨⟨(q0, q1, q2, q3, q4, q5, _), rfl, trivial, by rw [ht]; exact hP, va_K.moved hW.alike hK9, hD⟩, hS.F ht⟩) hS.2.2 dX1_init_55
end
section
/-! pasted families of kit/laws/BITS.to-paste -/
/-! ===== nI under and, xor, >>>, one bit, 65535 ===== -/
theorem nx_and (a b : Nat) : nI a &&& nI b = nI (a &&& b) := by
  apply Int32.toBitVec_inj.1
  show BitVec.ofNat 32 a &&& BitVec.ofNat 32 b = BitVec.ofNat 32 (a &&& b)
  apply BitVec.eq_of_getLsbD_eq
  intro i hi
  simp [hi]
theorem nx_xor (a b : Nat) : nI a ^^^ nI b = nI (a ^^^ b) := by
  apply Int32.toBitVec_inj.1
  show BitVec.ofNat 32 a ^^^ BitVec.ofNat 32 b = BitVec.ofNat 32 (a ^^^ b)
  apply BitVec.eq_of_getLsbD_eq
  intro i hi
  simp [hi]
theorem nx_cnt : ∀ j : Fin 32, (UInt32.ofNat j.val &&& Int32.toUInt32 31).toNat % 32 = j.val := by decide +kernel
theorem nx_ush {k j : Nat} (hk : k < 65536) (hj : j < 32) : ((nI k).toUInt32 >>> ((nI j).toUInt32 &&& Int32.toUInt32 31)).toInt32 = nI (k >>> j) := by
  have hs : k >>> j ≤ k := by
    rw [Nat.shiftRight_eq_div_pow]
    exact Nat.div_le_self _ _
  have e2 : UInt32.ofNat k >>> (UInt32.ofNat j &&& Int32.toUInt32 31) = UInt32.ofNat (k >>> j) := by
    apply UInt32.toNat_inj.1
    have h1 : (UInt32.ofNat k).toNat = k := Nat.mod_eq_of_lt (by omega)
    have h2 : (UInt32.ofNat (k >>> j)).toNat = k >>> j := Nat.mod_eq_of_lt (by omega)
    rw [UInt32.toNat_shiftRight, nx_cnt ⟨j, hj⟩, h1, h2]
  show (UInt32.ofNat k >>> (UInt32.ofNat j &&& Int32.toUInt32 31)).toInt32 = _
  rw [e2]
  rfl
theorem nx_bit {k j : Nat} (hk : k < 65536) (hj : j < 16) : (((nI k).toUInt32 >>> ((nI j).toUInt32 &&& Int32.toUInt32 31)).toInt32 &&& 1) = 0 ↔ k.testBit j = false := by
  rw [nx_ush hk (by omega)]
  show nI (k >>> j) &&& nI 1 = 0 ↔ _
  rw [nx_and, Nat.and_one_is_mod, ← nI_0, nI_eq (by omega) (by omega), Nat.testBit_eq_decide_div_mod_eq, Nat.shiftRight_eq_div_pow, decide_eq_false_iff_not]
  generalize k / 2 ^ j = z
  omega
theorem nx_mod (k : Nat) : nI k &&& 65535 = nI (k % 65536) := by
  show nI k &&& nI 65535 = _
  rw [nx_and, show (65535 : Nat) = 2 ^ 16 - 1 from rfl, Nat.and_two_pow_sub_one_eq_mod]
theorem nx_m16 {k : Nat} (h : k < 65536) : nI k &&& 65535 = nI k := by rw [nx_mod, Nat.mod_eq_of_lt h]
theorem nx_mask (x : Int32) : ∃ k, k < 65536 ∧ x &&& 65535 = nI k := by
  have e : x = nI x.toBitVec.toNat := by
    apply Int32.toBitVec_inj.1
    show x.toBitVec = BitVec.ofNat 32 x.toBitVec.toNat
    simp
  refine ⟨x.toBitVec.toNat % 65536, Nat.mod_lt _ (by omega), ?_⟩
  rw [← nx_mod, ← e]
/-! ===== lN n to 2^64: shifts, and, or, masks, one bit ===== -/
theorem wb_tb (n : Nat) : (lN n).toBitVec = BitVec.ofNat 64 n := rfl
theorem wb_inj {a b : Int64} (h : a.toBitVec = b.toBitVec) : a = b := Int64.toBitVec_inj.mp h
theorem wb_tn {n : Nat} (h : n < 2 ^ 64) : (lN n).toBitVec.toNat = n := by rw [wb_tb, BitVec.toNat_ofNat, Nat.mod_eq_of_lt h]
theorem wb_of (x : Int64) : ∃ n, n < 2 ^ 64 ∧ x = lN n := ⟨x.toBitVec.toNat, x.toBitVec.isLt, wb_inj (by rw [wb_tb]; simp)⟩
theorem wb_of32 (x : Int32) : ∃ n, n < 2 ^ 32 ∧ x = nI n := ⟨x.toBitVec.toNat, x.toBitVec.isLt, Int32.toBitVec_inj.mp (by show _ = BitVec.ofNat 32 _; simp)⟩
theorem wb_c : ∀ k, k < 64 → ((nI k).toInt64 &&& 63) = lN k := by decide +kernel
theorem wb_cu : ∀ k, k < 64 → ((nI k).toInt64.toUInt64 &&& Int64.toUInt64 63) = UInt64.ofNat k := by decide +kernel
theorem wb_sm : ∀ k, k < 64 → (BitVec.ofNat 64 k).smod 64 = BitVec.ofNat 64 k := by decide +kernel
theorem wb_pw {a b : Nat} (h : a ≤ b) : 2 ^ b = 2 ^ a * 2 ^ (b - a) := by rw [← Nat.pow_add]; congr 1; omega
theorem wb_lt2 {a b : Nat} (h : a < b) : 2 ^ a < 2 ^ b := Nat.pow_lt_pow_right (by decide) h
theorem wb_mod (n : Nat) : lN n = lN (n % 2 ^ 64) := wb_inj (by rw [wb_tb, wb_tb]; apply BitVec.eq_of_toNat_eq; rw [BitVec.toNat_ofNat, BitVec.toNat_ofNat, Nat.mod_mod])
theorem wb_shr {n k : Nat} (hn : n < 2 ^ 64) (hk : k < 64) : ((lN n).toUInt64 >>> ((nI k).toInt64.toUInt64 &&& Int64.toUInt64 63)).toInt64 = lN (n / 2 ^ k) := by
  rw [wb_cu k hk]
  apply wb_inj
  apply BitVec.eq_of_toNat_eq
  show ((lN n).toUInt64 >>> UInt64.ofNat k).toNat = (BitVec.ofNat 64 _).toNat
  have h1 : (UInt64.ofNat k).toNat = k := by
    show (BitVec.ofNat 64 k).toNat = k
    rw [BitVec.toNat_ofNat, Nat.mod_eq_of_lt (by omega)]
  have h2 : (lN n).toUInt64.toNat = n := wb_tn hn
  rw [UInt64.toNat_shiftRight, h1, h2, Nat.mod_eq_of_lt hk, Nat.shiftRight_eq_div_pow, BitVec.toNat_ofNat, Nat.mod_eq_of_lt (Nat.lt_of_le_of_lt (Nat.div_le_self _ _) hn)]
theorem wb_shl (n : Nat) {k : Nat} (hk : k < 64) : lN n <<< ((nI k).toInt64 &&& 63) = lN (n * 2 ^ k) := by
  rw [wb_c k hk]
  apply wb_inj
  rw [Int64.toBitVec_shiftLeft, wb_tb, wb_tb, wb_tb, wb_sm k hk]
  apply BitVec.eq_of_toNat_eq
  rw [BitVec.shiftLeft_eq', BitVec.toNat_shiftLeft, BitVec.toNat_ofNat, BitVec.toNat_ofNat, BitVec.toNat_ofNat, Nat.mod_eq_of_lt (show k < 2 ^ 64 by omega), Nat.shiftLeft_eq, Nat.mul_mod, Nat.mod_mod, ← Nat.mul_mod]
theorem wb_and {a b : Nat} (ha : a < 2 ^ 64) (hb : b < 2 ^ 64) : lN a &&& lN b = lN (a &&& b) := by
  apply wb_inj
  rw [Int64.toBitVec_and, wb_tb, wb_tb, wb_tb]
  apply BitVec.eq_of_toNat_eq
  rw [BitVec.toNat_and, BitVec.toNat_ofNat, BitVec.toNat_ofNat, BitVec.toNat_ofNat, Nat.mod_eq_of_lt ha, Nat.mod_eq_of_lt hb, Nat.mod_eq_of_lt (Nat.and_lt_two_pow _ hb)]
theorem wb_or {a b : Nat} (ha : a < 2 ^ 64) (hb : b < 2 ^ 64) : lN a ||| lN b = lN (a ||| b) := by
  apply wb_inj
  rw [Int64.toBitVec_or, wb_tb, wb_tb, wb_tb]
  apply BitVec.eq_of_toNat_eq
  rw [BitVec.toNat_or, BitVec.toNat_ofNat, BitVec.toNat_ofNat, BitVec.toNat_ofNat, Nat.mod_eq_of_lt ha, Nat.mod_eq_of_lt hb, Nat.mod_eq_of_lt (Nat.or_lt_two_pow ha hb)]
theorem wb_mask {n k : Nat} (hn : n < 2 ^ 64) (hk : k < 64) : lN n &&& lN (2 ^ k - 1) = lN (n % 2 ^ k) := by
  rw [wb_and hn (by have := wb_lt2 hk; omega), Nat.and_two_pow_sub_one_eq_mod]
theorem wb_a1 {n : Nat} (hn : n < 2 ^ 64) : lN n &&& 1 = lN (n % 2) := wb_mask (k := 1) hn (by decide)
theorem wb_bit {n k : Nat} (hn : n < 2 ^ 64) (hk : k < 64) : ((lN n).toUInt64 >>> ((nI k).toInt64.toUInt64 &&& Int64.toUInt64 63)).toInt64 &&& 1 = lN (n / 2 ^ k % 2) := by
  rw [wb_shr hn hk, wb_a1 (Nat.lt_of_le_of_lt (Nat.div_le_self _ _) hn)]
theorem wb_xor {q k : Nat} (hk : k < 63) (h : 2 ^ k ≤ q) (h2 : q < 2 ^ (k + 1)) : lN q ^^^ lN (2 ^ k) = lN (q - 2 ^ k) := by
  obtain ⟨r, rfl⟩ : ∃ r, q = 2 ^ k + r := ⟨q - 2 ^ k, by omega⟩
  have hr : r < 2 ^ k := by rw [Nat.pow_succ] at h2; omega
  have hx : (2 ^ k + r) ^^^ 2 ^ k = r := by
    apply Nat.eq_of_testBit_eq
    intro i
    rw [Nat.testBit_xor, Nat.testBit_two_pow]
    rcases Nat.lt_trichotomy i k with h | h | h
    · rw [Nat.testBit_two_pow_add_gt h]
      simp [show ¬ k = i by omega]
    · subst h
      rw [Nat.testBit_two_pow_add_eq]
      simp
    · have a1 : 2 ^ (k + 1) ≤ 2 ^ i := Nat.pow_le_pow_right (by decide) h
      rw [Nat.testBit_lt_two_pow (show 2 ^ k + r < 2 ^ i by omega), Nat.testBit_lt_two_pow (show r < 2 ^ i by omega)]
      simp [show ¬ k = i by omega]
  have b1 := wb_lt2 (show k + 1 < 64 by omega)
  have b2 := wb_lt2 (show k < 64 by omega)
  apply wb_inj
  rw [Int64.toBitVec_xor, wb_tb, wb_tb, wb_tb]
  apply BitVec.eq_of_toNat_eq
  rw [BitVec.toNat_xor, BitVec.toNat_ofNat, BitVec.toNat_ofNat, BitVec.toNat_ofNat, Nat.mod_eq_of_lt (by omega : 2 ^ k + r < 2 ^ 64), Nat.mod_eq_of_lt b2, hx, Nat.add_sub_cancel_left, Nat.mod_eq_of_lt (by omega)]
/-! ===== lN: masks, 'or' of parts that don't overlap is a sum ===== -/
theorem u_tn {n : Nat} (h : n < 2 ^ 64) : (UInt64.ofNat n).toNat = n := Nat.mod_eq_of_lt h
theorem g_and {a b c : Nat} (ha : a < 2 ^ 64) (hb : b < 2 ^ 64) (hc : a &&& b = c) : lN a &&& lN b = lN c := by
  subst hc
  have h : UInt64.ofNat a &&& UInt64.ofNat b = UInt64.ofNat (a &&& b) := UInt64.toNat_inj.mp (by rw [UInt64.toNat_and, u_tn ha, u_tn hb, u_tn (Nat.and_lt_two_pow a hb)])
  have h2 := congrArg UInt64.toInt64 h
  exact h2
theorem g_and1 {a : Nat} (ha : a < 2 ^ 64) : lN a &&& 1 = lN (a % 2) := g_and (b := 1) ha (by decide) (Nat.and_two_pow_sub_one_eq_mod a 1)
theorem g_mask {a s p : Nat} (hp : 2 ^ s = p) (hs : s < 64) (ha : a < 2 ^ 64) : lN a &&& lN (p - 1) = lN (a % p) := by
  subst hp
  have := Nat.pow_lt_pow_right (show 1 < 2 by decide) hs
  exact g_and ha (by omega) (Nat.and_two_pow_sub_one_eq_mod a s)
theorem g_or {k p a b : Nat} (hp : 2 ^ k = p) (ha : a < p) (h : b * p + a < 2 ^ 64) : lN (b * p) ||| lN a = lN (b * p + a) := by
  subst hp
  have h1 : b * 2 ^ k ||| a = b * 2 ^ k + a := by rw [← Nat.shiftLeft_eq, Nat.shiftLeft_add_eq_or_of_lt ha]
  have h3 : UInt64.ofNat (b * 2 ^ k) ||| UInt64.ofNat a = UInt64.ofNat (b * 2 ^ k + a) := UInt64.toNat_inj.mp (by rw [UInt64.toNat_or, u_tn (by omega), u_tn (by omega), u_tn h, h1])
  have h2 := congrArg UInt64.toInt64 h3
  exact h2
theorem g_or' {k p a b : Nat} (hp : 2 ^ k = p) (ha : a < p) (h : a + b * p < 2 ^ 64) : lN a ||| lN (b * p) = lN (a + b * p) := by
  rw [Int64.or_comm, g_or hp ha (by omega), Nat.add_comm]
theorem g_ushr {a k p : Nat} {y : UInt64} (hy : y = UInt64.ofNat k) (hk : k < 64) (hp : 2 ^ k = p) (ha : a < 2 ^ 64) : ((lN a).toUInt64 >>> y).toInt64 = lN (a / p) := by
  subst hy hp
  have h : UInt64.ofNat a >>> UInt64.ofNat k = UInt64.ofNat (a / 2 ^ k) := UInt64.toNat_inj.mp (by rw [UInt64.toNat_shiftRight, u_tn ha, u_tn (by omega), u_tn (Nat.lt_of_le_of_lt (Nat.div_le_self _ _) ha), Nat.mod_eq_of_lt hk, Nat.shiftRight_eq_div_pow])
  have h2 := congrArg UInt64.toInt64 h
  exact h2
theorem g_shl {a k p : Nat} {y : Int64} (hy : y.toBitVec.smod 64 = BitVec.ofNat 64 k) (hk : k < 64) (hp : 2 ^ k = p) (ha : a < 2 ^ 64) : lN a <<< y = lN (a * p) := by
  subst hp
  apply Int64.toBitVec_inj.mp
  rw [Int64.toBitVec_shiftLeft, hy]
  apply BitVec.eq_of_toNat_eq
  have hb : (lN a).toBitVec.toNat = a := Nat.mod_eq_of_lt ha
  have hk' : (BitVec.ofNat 64 k).toNat = k := Nat.mod_eq_of_lt (by omega)
  have h : ((lN a).toBitVec <<< BitVec.ofNat 64 k).toNat = (a * 2 ^ k) % 2 ^ 64 := by simp only [BitVec.shiftLeft_eq', BitVec.toNat_shiftLeft, hb, hk', Nat.shiftLeft_eq]
  exact h
/-! ===== Int64 as an unsigned number: uN x ===== -/
def uN (x : Int64) : Nat := x.toUInt64.toNat
theorem uN_lt (x : Int64) : uN x < 18446744073709551616 := x.toUInt64.toNat_lt
theorem uN_inj {x y : Int64} (h : uN x = uN y) : x = y := congrArg UInt64.toInt64 (UInt64.toNat_inj.mp h)
theorem uN_add (x y : Int64) : uN (x + y) = (uN x + uN y) % 18446744073709551616 := by
  show (x.toUInt64 + y.toUInt64).toNat = _
  exact UInt64.toNat_add _ _
theorem uN_mul (x y : Int64) : uN (x * y) = (uN x * uN y) % 18446744073709551616 := by
  show (x.toUInt64 * y.toUInt64).toNat = _
  exact UInt64.toNat_mul _ _
theorem uN_shl (x : Int64) : uN (x <<< ((1 : Int32).toInt64 &&& 63)) = (2 * uN x) % 18446744073709551616 := by
  have h : (((1 : Int32).toInt64 &&& 63).toBitVec.smod 64).toNat = 1 := by decide
  show (x.toBitVec <<< (((1 : Int32).toInt64 &&& 63).toBitVec.smod 64).toNat).toNat = _
  rw [h, BitVec.toNat_shiftLeft, Nat.shiftLeft_eq, Nat.mul_comm]
  rfl
theorem uN_shr (x : Int64) (s : UInt64) : uN (x.toUInt64 >>> s).toInt64 = uN x / 2 ^ (s.toNat % 64) := by
  show (x.toUInt64 >>> s).toNat = _
  rw [UInt64.toNat_shiftRight, Nat.shiftRight_eq_div_pow]
  rfl
theorem uN_s32 (x : Int64) : uN (x.toUInt64 >>> ((32 : Int32).toInt64.toUInt64 &&& Int64.toUInt64 63)).toInt64 = uN x / 4294967296 := by
  have h : ((32 : Int32).toInt64.toUInt64 &&& Int64.toUInt64 63).toNat % 64 = 32 := by decide
  rw [uN_shr, h]
theorem uN_s63 (x : Int64) : uN (x.toUInt64 >>> ((63 : Int32).toInt64.toUInt64 &&& Int64.toUInt64 63)).toInt64 = uN x / 9223372036854775808 := by
  have h : ((63 : Int32).toInt64.toUInt64 &&& Int64.toUInt64 63).toNat % 64 = 63 := by decide
  rw [uN_shr, h]
theorem uN_lo (x : Int64) : uN (x &&& 4294967295) = uN x % 4294967296 := by
  show (x.toUInt64 &&& Int64.toUInt64 4294967295).toNat = _
  rw [UInt64.toNat_and]
  exact Nat.and_two_pow_sub_one_eq_mod _ 32
theorem uN_bit (x : Int64) : (x &&& 1) = 0 ↔ uN x % 2 = 0 := by
  have h : uN (x &&& 1) = uN x % 2 := by
    show (x.toUInt64 &&& Int64.toUInt64 1).toNat = _
    rw [UInt64.toNat_and]
    exact Nat.and_two_pow_sub_one_eq_mod _ 1
  rw [← h]
  exact ⟨fun z => by rw [z]; rfl, fun z => uN_inj (z.trans rfl)⟩
theorem uN_or {x y : Int64} (hy : uN y < 2) : uN ((x <<< ((1 : Int32).toInt64 &&& 63)) ||| y) = (2 * uN x) % 18446744073709551616 + uN y := by
  have h1 : uN ((x <<< ((1 : Int32).toInt64 &&& 63)) ||| y) = uN (x <<< ((1 : Int32).toInt64 &&& 63)) ||| uN y := UInt64.toNat_or _ _
  have h2 : (2 * uN x) % 18446744073709551616 = 2 ^ 1 * (uN x % 9223372036854775808) := by omega
  rw [h1, uN_shl, h2]
  exact (Nat.two_pow_add_eq_or_of_lt (i := 1) hy _).symm
theorem nat_xor {a : Nat} (h : a < 18446744073709551616) : a ^^^ 2 ^ 63 = (a + 9223372036854775808) % 18446744073709551616 := by
  have h1 : (a ^^^ 2 ^ 63) % 2 ^ 63 = a % 2 ^ 63 := by rw [Nat.xor_mod_two_pow, Nat.mod_self, Nat.xor_zero]
  have h2 : (a ^^^ 2 ^ 63) / 2 ^ 63 = (a / 2 ^ 63) ^^^ 1 := by rw [Nat.xor_div_two_pow, Nat.div_self (Nat.two_pow_pos 63)]
  have h3 : a / 2 ^ 63 = 0 ∨ a / 2 ^ 63 = 1 := by omega
  generalize a ^^^ 2 ^ 63 = t at h1 h2
  rcases h3 with h3 | h3
  · rw [h3] at h2
    have h2 : t / 2 ^ 63 = 1 := h2
    omega
  · rw [h3] at h2
    have h2 : t / 2 ^ 63 = 0 := h2
    omega
theorem uN_xor (x : Int64) : uN (x ^^^ (-9223372036854775808)) = (uN x + 9223372036854775808) % 18446744073709551616 := by
  rw [← nat_xor (uN_lt x)]
  exact UInt64.toNat_xor _ _
theorem uN_int (x : Int64) : x.toInt = if 2 * uN x < 18446744073709551616 then (uN x : Int) else (uN x : Int) - 18446744073709551616 := BitVec.toInt_eq_toNat_cond _
theorem uN_le (x y : Int64) : (x ^^^ (-9223372036854775808)) ≤ (y ^^^ (-9223372036854775808)) ↔ uN x ≤ uN y := by
  have hx := uN_lt x
  have hy := uN_lt y
  rw [Int64.le_iff_toInt_le, uN_int, uN_int, uN_xor, uN_xor]
  omega
theorem uN_sk (x : Int64) {k : Nat} (hk : k < 64) : uN (x.toUInt64 >>> ((nI k).toInt64.toUInt64 &&& Int64.toUInt64 63)).toInt64 = uN x / 2 ^ k := by
  have h : ((nI k).toInt64.toUInt64 &&& Int64.toUInt64 63).toNat % 64 = k := by
    rw [nI_l (by omega), UInt64.toNat_and]
    have e : (lN k).toUInt64.toNat = k % 2 ^ 64 := rfl
    have e2 : (Int64.toUInt64 63).toNat = 2 ^ 6 - 1 := by decide
    rw [e, e2, Nat.and_two_pow_sub_one_eq_mod]
    omega
  rw [uN_shr, h]
/-! ===== unsigned comparison by xor with the least ===== -/
theorem lN_bv (n : Nat) : (lN n).toBitVec = BitVec.ofNat 64 n := rfl
theorem lN_nat {n : Nat} (h : n < 2 ^ 64) : (lN n).toBitVec.toNat = n := by rw [lN_bv, BitVec.toNat_ofNat]; exact Nat.mod_eq_of_lt h
theorem lN_xor (a b : Nat) : lN a ^^^ lN b = lN (a ^^^ b) := by
  apply Int64.toBitVec_inj.mp; rw [Int64.toBitVec_xor, lN_bv, lN_bv, lN_bv]; apply BitVec.eq_of_getLsbD_eq; intro i hi; simp [BitVec.getLsbD_ofNat, Nat.testBit_xor, hi]
theorem lN_ti {m : Nat} (h : m < 2 ^ 64) : (lN m).toInt = if m < 2 ^ 63 then (m : Int) else (m : Int) - 2 ^ 64 := by
  have c := BitVec.toInt_eq_toNat_cond (lN m).toBitVec
  rw [lN_nat h] at c
  show (lN m).toBitVec.toInt = _
  rw [c]
  split <;> split <;> omega
theorem xor63 {x : Nat} (h : x < 2 ^ 63) : x ^^^ 2 ^ 63 = 2 ^ 63 + x := by
  apply Nat.eq_of_testBit_eq
  intro i
  rw [Nat.testBit_xor, Nat.testBit_two_pow]
  rcases Nat.lt_trichotomy i 63 with z | z | z
  · rw [Nat.testBit_two_pow_add_gt z, decide_eq_false (by omega)]; simp
  · subst z; rw [Nat.testBit_two_pow_add_eq]; simp
  · have hp : 2 ^ 64 ≤ 2 ^ i := Nat.pow_le_pow_right (by decide) z
    rw [Nat.testBit_lt_two_pow (show x < 2 ^ i by omega), Nat.testBit_lt_two_pow (show 2 ^ 63 + x < 2 ^ i by omega), decide_eq_false (by omega)]; rfl
theorem xorS {a : Nat} (h : a < 2 ^ 64) : (lN a ^^^ (-9223372036854775808)).toInt = (a : Int) - 2 ^ 63 := by
  rw [show (-9223372036854775808 : Int64) = lN (2 ^ 63) from by decide +kernel, lN_xor]
  rcases Nat.lt_or_ge a (2 ^ 63) with z | z
  · rw [xor63 z, lN_ti (by omega), if_neg (by omega)]; omega
  · obtain ⟨x, rfl⟩ : ∃ x, a = 2 ^ 63 + x := ⟨a - 2 ^ 63, by omega⟩
    rw [← xor63 (by omega), Nat.xor_assoc, Nat.xor_self, Nat.xor_zero, lN_ti (by omega), if_pos (by omega), xor63 (by omega)]; omega
theorem ultL {a b : Nat} (ha : a < 2 ^ 64) (hb : b < 2 ^ 64) : ((lN b ^^^ (-9223372036854775808)) ≤ (lN a ^^^ (-9223372036854775808))) ↔ b ≤ a := by
  rw [Int64.le_iff_toInt_le, xorS ha, xorS hb]; omega
end
section
/-! the relation between the class's state and the reference's behind k calls -/
def bq (x : Int64) (j : Nat) : Nat := uN x / 2 ^ j % 2
/-- the receivers: C bounds the bits since a search began -/
def R_rx (C : Nat) (u : x_S) (v : m_S) : Prop :=
  x_st u = m_st v ∧ x_md u = m_md v ∧ (∀ j, j < 5 → x_cn u j = m_cn v j) ∧
  (m_sz v ≤ 259 ∧ x_vs u = nI (m_sz v) ∧ ∀ j, j < m_sz v → x_rc u j = m_rc v j) ∧
  ((m_st v = 0 ∧ m_mn v = 0 ∧ m_rw v = 0) ∨
   (m_st v = 1 ∧ m_rw v = 0 ∧ ∃ c, c ≤ C ∧ x_cm u = nI c ∧ m_mn v = min c 16 ∧ ∀ j, j < m_mn v → m_bi v j = nI (bq (x_bt u) (m_mn v - 1 - j))) ∨
   (m_st v = 2 ∧ m_mn v < 64 ∧ x_cm u = nI (m_mn v) ∧ (∀ j, j < m_mn v → m_bi v j = nI (bq (x_bt u) (m_mn v - 1 - j))) ∧ (∃ q, q ≤ 36 ∧ m_rw v = 7 * q) ∧ x_rs u = nI (m_rw v) ∧ ∀ j, j < m_rw v → x_ro u j = m_ro v j))
/-- the senders -/
def R_tx (u : x_S) (v : m_S) : Prop :=
  (m_wn v ≤ 259 ∧ x_wz u = nI (m_wn v) ∧ ∀ j, j < m_wn v → x_wt u j = m_wt v j ∧ ∃ b, b < 256 ∧ m_wt v j = nI b) ∧
  (m_sn v ≤ 306 ∧ x_sz u = nI (m_sn v) ∧ ∀ j, j < m_sn v → x_sn u j = m_se v j)
def Rel (k : Nat) (u : x_S) (v : m_S) : Prop := R_rx (64 * k) u v ∧ R_tx u v
theorem R_rx.mono {C D : Nat} {u : x_S} {v : m_S} (h : R_rx C u v) (hD : C ≤ D) : R_rx D u v := by
  obtain ⟨h1, h2, h3, h4, h5⟩ := h
  refine ⟨h1, h2, h3, h4, ?_⟩
  rcases h5 with h5 | ⟨a1, a2, c, a3, a4⟩ | h5
  · exact Or.inl h5
  · exact Or.inr (Or.inl ⟨a1, a2, c, Nat.le_trans a3 hD, a4⟩)
  · exact Or.inr (Or.inr h5)
theorem Rel.next {k : Nat} {u : x_S} {v : m_S} (h : Rel k u v) : Rel (k + 1) u v := ⟨h.1.mono (by omega), h.2⟩
theorem R_rx.mI {C : Nat} {u : x_S} {v : m_S} (h : R_rx C u v) : m_I v := by
  obtain ⟨-, -, -, -, h5⟩ := h
  rcases h5 with ⟨a1, a2, a3⟩ | ⟨a1, a2, c, -, -, a3, -⟩ | ⟨a1, a2, -, -, ⟨q, a3, a4⟩, -⟩
  · exact ⟨by omega, fun _ => by omega, 0, by decide, a3⟩
  · exact ⟨by omega, fun _ => by omega, 0, by decide, a2⟩
  · exact ⟨a2, fun q => absurd a1 q, q, a3, a4⟩
theorem Rel.safe {k : Nat} {u : x_S} {v : m_S} (h : Rel k u v) : m_I v ∧ m_sz v ≤ 259 ∧ m_sn v ≤ 306 ∧ m_wn v ≤ 259 ∧ x_wz u = nI (m_wn v) :=
  ⟨h.1.mI, h.1.2.2.2.1.1, h.2.2.1, h.2.1.1, h.2.1.2.1⟩
theorem Rel.init (hr hv : Nat) : Rel 0 (x_init hr hv) m_init := by
  refine ⟨⟨rfl, rfl, fun _ _ => rfl, ⟨by decide, rfl, fun j h => absurd h (Nat.not_lt_zero j)⟩, Or.inl ⟨rfl, rfl, rfl⟩⟩, ⟨by decide, rfl, fun j h => absurd h (Nat.not_lt_zero j)⟩, ⟨by decide, rfl, fun j h => absurd h (Nat.not_lt_zero j)⟩⟩
theorem j_law4 {k L : Nat} (hk : 4 * k < 2 ^ 30) (hL : L < 2 ^ 30) (h : ¬ nI L - 4 < nI (4 * k)) : 4 * k + 4 ≤ L := by
  rw [Int32.lt_iff_toInt_lt, nI_toInt (by omega), show (nI L - 4).toInt = (L : Int) - 4 from pk_sub_toInt (b := 4) hL (by decide)] at h
  omega
end
section
def x_setst (u : x_S) (a : Int32) : x_S := (a, x_md u, x_bt u, x_cm u, x_hr u, x_rs u, x_hv u, x_vs u, x_wz u, x_sz u, x_ro u, x_rc u, x_cn u, x_wt u, x_sn u)
def m_setst (u : m_S) (a : Int32) : m_S := (0, a, m_md u, 0, 0, m_sz u, m_wn u, m_sn u, m_bi u, m_ro u, m_rc u, m_wt u, m_se u, m_cn u)
theorem Rel.th0 {k : Nat} {u : x_S} {v : m_S} (h : Rel k u v) : Rel (k + 1) u (m_th0 v) := h.next
theorem r_state {k : Nat} {u : x_S} {v : m_S} (h : Rel k u v) : x_state u = m_state_r v ∧ Rel (k + 1) u (m_state v) := ⟨h.1.1, h.th0⟩
theorem r_size {k : Nat} {u : x_S} {v : m_S} (h : Rel k u v) : x_size u = m_size_r v ∧ Rel (k + 1) u (m_size v) := ⟨h.1.2.2.2.1.2.1, h.th0⟩
theorem r_count {k : Nat} {u : x_S} {v : m_S} (h : Rel k u v) (a0 : Int32) : x_count u a0 = m_count_r v a0 ∧ Rel (k + 1) u (m_count v a0) := by
  have hs : m_count v a0 = m_th0 v := by
    unfold m_count
    split
    · rfl
    · split <;> rfl
  rw [hs]
  refine ⟨?_, h.th0⟩
  unfold x_count m_count_r
  rcases pk_ix a0 (n := 5) (by decide) with h0 | h0 | ⟨j, hj, rfl⟩
  · rw [if_pos h0, if_pos h0]
  · have h1 : ¬ a0 < 0 := fun q => absurd (Int32.lt_of_le_of_lt h0 q) (by decide)
    have h2 : ¬ a0 ≤ 4 := fun q => absurd (Int32.le_trans h0 q) (by decide)
    rw [if_neg h1, if_neg h1, if_pos (show (5 : Int32) ≤ a0 from h0), if_neg h2]
  · rw [if_neg (nI_pos (by omega)), if_neg (nI_pos (by omega)), if_neg (show ¬ (5 : Int32) ≤ nI j from (show ¬ nI 5 ≤ nI j from nI_ge hj (by decide))), if_pos (show nI j ≤ 4 from (show nI j ≤ nI 4 from nI_le (by omega) (by decide))), nI_clamp (by omega)]
    exact h.1.2.2.1 j hj
theorem r_byteAt {k : Nat} {u : x_S} {v : m_S} (h : Rel k u v) (a0 : Int32) : x_byteAt u a0 = m_byteAt_r v a0 ∧ Rel (k + 1) u (m_byteAt v a0) := by
  have hs : m_byteAt v a0 = m_th0 v := by
    unfold m_byteAt
    split
    · rfl
    · split <;> rfl
  rw [hs]
  refine ⟨?_, h.th0⟩
  obtain ⟨h1, h2, h3⟩ := h.1.2.2.2.1
  unfold x_byteAt m_byteAt_r
  rw [h2]
  rcases pk_ix a0 (n := m_sz v) (by omega) with h0 | h0 | ⟨j, hj, rfl⟩
  · rw [if_pos h0, if_pos h0]
  · have h5 : ¬ a0 < nI (m_sz v) := fun q => Int32.lt_irrefl (Int32.lt_of_le_of_lt h0 q)
    rw [if_pos h0, if_neg h5]
  · rw [if_neg (nI_pos (by omega)), if_neg (nI_pos (by omega)), if_neg (nI_ge hj (by omega)), if_neg (show ¬ (259 : Int32) ≤ nI j from (show ¬ nI 259 ≤ nI j from nI_ge (by omega) (by decide))), if_pos (nI_lt hj (by omega)), nI_clamp (by omega)]
    exact h3 j hj
theorem r_sent {k : Nat} {u : x_S} {v : m_S} (h : Rel k u v) (a0 : Int32) : x_sent u a0 = m_sent_r v a0 ∧ Rel (k + 1) u (m_sent v a0) := by
  have hs : m_sent v a0 = m_th0 v := by
    unfold m_sent
    split
    · rfl
    · split <;> rfl
  rw [hs]
  refine ⟨?_, h.th0⟩
  obtain ⟨h1, h2, h3⟩ := h.2.2
  unfold x_sent m_sent_r
  rw [h2]
  rcases pk_ix a0 (n := m_sn v) (by omega) with h0 | h0 | ⟨j, hj, rfl⟩
  · rw [if_pos h0, if_pos h0]
  · have h5 : ¬ a0 < nI (m_sn v) := fun q => Int32.lt_irrefl (Int32.lt_of_le_of_lt h0 q)
    rw [if_pos h0, if_neg h5]
  · rw [if_neg (nI_pos (by omega)), if_neg (nI_pos (by omega)), if_neg (nI_ge hj (by omega)), if_neg (show ¬ (306 : Int32) ≤ nI j from (show ¬ nI 306 ≤ nI j from nI_ge (by omega) (by decide))), if_pos (nI_lt hj (by omega)), nI_clamp (by omega)]
    exact h3 j hj
theorem r_mending {k : Nat} {u : x_S} {v : m_S} (h : Rel k u v) (b : Bool) : Rel (k + 1) (x_mending u b) (m_mending v b) := by
  obtain ⟨⟨h1, h2, h3⟩, h4⟩ := h.next
  exact ⟨⟨h1, rfl, h3⟩, h4⟩
theorem r_off {C : Nat} {u : x_S} {v : m_S} (h : R_rx C u v) : R_rx C (x_setst u 0) (m_setst v 0) := by
  obtain ⟨h1, h2, h3, h4, h5⟩ := h
  exact ⟨rfl, h2, h3, h4, Or.inl ⟨rfl, rfl, rfl⟩⟩
theorem r_on {C : Nat} {u : x_S} {v : m_S} (h : R_rx C u v) : R_rx C (x_beginSearch u) (m_setst v 1) := by
  obtain ⟨h1, h2, h3, h4, h5⟩ := h
  exact ⟨rfl, h2, h3, h4, Or.inr (Or.inl ⟨rfl, rfl, 0, Nat.zero_le _, rfl, rfl, fun j hj => absurd hj (Nat.not_lt_zero j)⟩)⟩
theorem r_turn {k : Nat} {u : x_S} {v : m_S} (h : Rel k u v) (b : Bool) : x_turn_r u b = m_turn_r v b ∧ Rel (k + 1) (x_turn u b) (m_turn v b) := by
  have e1 := h.1.1
  have ht := h.th0
  have ho : Rel (k + 1) (x_setst u 0) (m_setst v 0) := ⟨r_off h.next.1, h.2⟩
  have hn : Rel (k + 1) (x_beginSearch u) (m_setst v 1) := ⟨r_on h.next.1, h.2⟩
  refine ⟨?_, ?_⟩
  · unfold x_turn_r m_turn_r
    rw [e1]
  · unfold x_turn m_turn
    rw [e1]
    split
    · split
      · exact ht
      · exact hn
    · split
      · exact ht
      · split
        · exact ho
        · exact hn
theorem r_put {k : Nat} {u : x_S} {v : m_S} (h : Rel k u v) (a0 : Int32) : x_put_r u a0 = m_put_r v a0 ∧ Rel (k + 1) (x_put u a0) (m_put v a0) := by
  obtain ⟨⟨h1, h2, h3⟩, h4⟩ := h.2
  by_cases hw : m_wn v = 259
  · unfold x_put x_put_r m_put m_put_r
    rw [h2, hw, if_neg (nI_pos (by decide)), if_neg (nI_pos (by decide)), if_neg (show ¬ nI 259 < 259 by decide), if_neg (show ¬ nI 259 < 259 by decide), if_pos (show nI 259 = 259 from rfl), if_pos (show nI 259 = 259 from rfl)]
    have ht := h.th0
    unfold m_th0 at ht
    rw [hw] at ht
    exact ⟨rfl, ht⟩
  · have hlt : m_wn v < 259 := by omega
    have hne : ¬ nI (m_wn v) = 259 := fun e => hw ((nI_eq (by omega) (by decide)).mp (show nI (m_wn v) = nI 259 from e))
    have em : m_put v a0 = (0, m_st v, m_md v, m_mn v, m_rw v, m_sz v, m_wn v + 1, m_sn v, m_bi v, m_ro v, m_rc v, upd (m_wt v) (m_wn v) (a0 &&& 255), m_se v, m_cn v) := by
      unfold m_put
      rw [if_neg hne]
    rw [x_put_at a0 h2 hlt, em]
    refine ⟨?_, h.next.1, ⟨?_, rfl, ?_⟩, h4⟩
    · unfold x_put_r m_put_r
      rw [h2, if_neg (nI_pos (by omega)), if_pos (show nI (m_wn v) < 259 from (show nI (m_wn v) < nI 259 from nI_lt hlt (by decide))), if_neg hne, nI_1]
    · show m_wn v + 1 ≤ 259
      omega
    · intro j hj
      have hj : j < m_wn v + 1 := hj
      show upd (x_wt u) (m_wn v) (a0 &&& 255) j = upd (m_wt v) (m_wn v) (a0 &&& 255) j ∧ ∃ b, b < 256 ∧ upd (m_wt v) (m_wn v) (a0 &&& 255) j = nI b
      by_cases e : j = m_wn v
      · subst e
        rw [pk_us, pk_us]
        exact ⟨rfl, pk_andE a0 8 (by decide)⟩
      · rw [pk_un e, pk_un e]
        exact h3 j (by omega)
end
section
/-! the division by x^7 + x^6 + x^2 + 1, in natural numbers -/
def cr_st (r b : Nat) : Nat := if 2 * r + b < 128 then 2 * r + b else (2 * r + b) ^^^ 197
def cr_rem (A : Nat) : Nat → Nat → Nat
  | 0, r => r
  | n + 1, r => cr_rem A n (cr_st r (A / 2 ^ n % 2))
theorem cr_st_x : ∀ r, r < 128 → ∀ b, b < 2 → x_reduced (((nI r) <<< (1 &&& 31)) ||| nI b) = nI (cr_st r b) ∧ cr_st r b < 128 := by decide +kernel
theorem cr_st_lin : ∀ r, r < 128 → ∀ s, s < 128 → ∀ b, b < 2 → ∀ c, c < 2 → cr_st (r ^^^ s) (b ^^^ c) = cr_st r b ^^^ cr_st s c := by decide +kernel
theorem cr_x128 {r s : Nat} (hr : r < 128) (hs : s < 128) : r ^^^ s < 128 := Nat.xor_lt_two_pow (n := 7) hr hs
theorem cr_bit (A B n : Nat) : (A ^^^ B) / 2 ^ n % 2 = (A / 2 ^ n % 2) ^^^ (B / 2 ^ n % 2) := by
  have h : ∀ X : Nat, X / 2 ^ n % 2 = (X.testBit n).toNat := fun X => by
    rw [Nat.testBit_eq_decide_div_mod_eq]
    rcases Nat.mod_two_eq_zero_or_one (X / 2 ^ n) with e | e <;> rw [e] <;> rfl
  rw [h, h, h, Nat.testBit_xor]
  cases A.testBit n <;> cases B.testBit n <;> rfl
theorem cr_rem_lt (A : Nat) : ∀ n r, r < 128 → cr_rem A n r < 128 := by
  intro n
  induction n with
  | zero => intro r h; exact h
  | succ n ih => intro r h; exact ih _ (cr_st_x r h _ (Nat.mod_lt _ (by decide))).2
theorem cr_rem_lin (A B : Nat) : ∀ n r s, r < 128 → s < 128 → cr_rem (A ^^^ B) n (r ^^^ s) = cr_rem A n r ^^^ cr_rem B n s := by
  intro n
  induction n with
  | zero => intro r s _ _; rfl
  | succ n ih =>
    intro r s hr hs
    have ha : A / 2 ^ n % 2 < 2 := Nat.mod_lt _ (by decide)
    have hb : B / 2 ^ n % 2 < 2 := Nat.mod_lt _ (by decide)
    show cr_rem (A ^^^ B) n (cr_st (r ^^^ s) ((A ^^^ B) / 2 ^ n % 2)) = cr_rem A n (cr_st r (A / 2 ^ n % 2)) ^^^ cr_rem B n (cr_st s (B / 2 ^ n % 2))
    rw [cr_bit, cr_st_lin r hr s hs _ ha _ hb]
    exact ih _ _ (cr_st_x r hr _ ha).2 (cr_st_x s hs _ hb).2
theorem cr_remF {A : Nat} (hA : A < 2 ^ 64) : ∀ n, n ≤ 63 → ∀ r, r < 128 → x_remF (lN A) n (nI r) = nI (cr_rem A n r) := by
  intro n
  induction n with
  | zero => intro _ r _; rfl
  | succ n ih =>
    intro hn r hr
    have hb : A / 2 ^ n % 2 < 2 := Nat.mod_lt _ (by decide)
    have e := cr_st_x r hr _ hb
    rw [x_remF, show (j_lushr (lN A) (nI n) &&& 1) = lN (A / 2 ^ n % 2) from wb_bit hA (by omega), lN_i, e.1]
    exact ih (by omega) _ e.2
theorem cr_remainder {A : Nat} (hA : A < 2 ^ 64) : x_remainderOf (lN A) = nI (cr_rem A 63 0) := cr_remF hA 63 (Nat.le_refl _) 0 (by decide)
end
section
theorem uN_lN {n : Nat} (h : n < 2 ^ 64) : uN (lN n) = n := wb_tn h
theorem lN_uN (x : Int64) : lN (uN x) = x := by
  obtain ⟨n, hn, rfl⟩ := wb_of x
  rw [uN_lN hn]
theorem cr_tb (X n : Nat) : X / 2 ^ n % 2 = (X.testBit n).toNat := by
  rw [Nat.testBit_eq_decide_div_mod_eq]
  rcases Nat.mod_two_eq_zero_or_one (X / 2 ^ n) with e | e <;> rw [e] <;> rfl
theorem cr_tb2 (X n : Nat) : X / 2 ^ n % 2 < 2 := Nat.mod_lt _ (by decide)
/-- the bits behind one more -/
theorem bq_uN (x : Int64) {b : Nat} (hb : b < 2) : uN ((j_lshl x 1) ||| lN b) = (2 * uN x) % 18446744073709551616 + b := by
  have e : uN (lN b) = b := uN_lN (by omega)
  have h := uN_or (x := x) (y := lN b) (by omega)
  rw [e] at h
  exact h
theorem bq_0 (x : Int64) {b : Nat} (hb : b < 2) : bq ((j_lshl x 1) ||| lN b) 0 = b := by
  unfold bq
  rw [bq_uN x hb]
  omega
theorem bq_s (x : Int64) {b j : Nat} (hb : b < 2) (hj : j < 63) : bq ((j_lshl x 1) ||| lN b) (j + 1) = bq x j := by
  unfold bq
  rw [bq_uN x hb]
  have e : ((2 * uN x) % 18446744073709551616 + b) / 2 ^ (j + 1) = (uN x % 2 ^ 63) / 2 ^ j := by
    rw [show 2 ^ (j + 1) = 2 * 2 ^ j from by rw [Nat.pow_succ, Nat.mul_comm], ← Nat.div_div_eq_div_mul]
    congr 1
    omega
  rw [e, cr_tb, cr_tb, Nat.testBit_mod_two_pow, decide_eq_true hj, Bool.true_and]
theorem bq_lt (x : Int64) (j : Nat) : bq x j < 2 := Nat.mod_lt _ (by decide)
/-- the reference's bit: the same as the class's -/
theorem m_tb_eq (w : Int64) {n : Nat} (hn : n < 64) : m_tb w n = nI (uN w / 2 ^ n % 2) := by
  have h1 : ((j_lshr w (nI n)).toInt32 &&& 1) = nI ((j_lshr w (nI n)).toInt32.toBitVec.toNat % 2 ^ 1) := pk_and _ 1 (by decide)
  have hb : (j_lshr w (nI n)).toInt32.toBitVec.getLsbD 0 = w.toBitVec.getLsbD n := by
    show ((w >>> ((nI n).toInt64 &&& 63)).toBitVec.signExtend 32).getLsbD 0 = _
    rw [BitVec.getLsbD_signExtend, wb_c n hn, Int64.toBitVec_shiftRight, wb_tb, wb_sm n hn]
    show (decide (0 < 32) && if 0 < 64 then (w.toBitVec.sshiftRight (BitVec.ofNat 64 n).toNat).getLsbD 0 else _) = _
    rw [BitVec.toNat_ofNat, Nat.mod_eq_of_lt (show n < 2 ^ 64 by omega), BitVec.getLsbD_sshiftRight]
    simp [hn]
  show ((j_lshr w (nI n)).toInt32 &&& 1) = _
  rw [h1]
  congr 1
  have e0 : ∀ z : Nat, z % 2 ^ 1 = (z.testBit 0).toNat := fun z => by
    have := cr_tb z 0
    rw [Nat.pow_zero, Nat.div_one] at this
    exact this
  rw [e0, cr_tb]
  exact congrArg Bool.toNat hb
theorem x_bit_eq (w : Int64) {n : Nat} (hn : n < 64) : (j_lushr w (nI n)) &&& 1 = lN (uN w / 2 ^ n % 2) := by
  have h := wb_bit (n := uN w) (k := n) (by have := uN_lt w; omega) hn
  rw [lN_uN] at h
  exact h
theorem nI_tn (n : Nat) : (nI n).toBitVec.toNat = n % 2 ^ 32 := by
  show (BitVec.ofNat 32 n).toNat = _
  rw [BitVec.toNat_ofNat]
theorem x_byte_eq {D t : Nat} (hD : D < 2 ^ 64) (ht : t < 8) : x_byteOf (lN D) (nI t) = nI (D / 2 ^ (8 * t) % 256) := by
  unfold x_byteOf
  rw [show (8 : Int32) * nI t = nI (8 * t) from pk_mul 8 t, show j_lushr (lN D) (nI (8 * t)) = lN (D / 2 ^ (8 * t)) from wb_shr hD (by omega), lN_i, pk_and _ (m := 255) 8 (by decide), nI_tn]
  congr 1
  omega
end
section
/-! the arrays behind the loops -/
def cpF (g : Nat → Int32) : Nat → Nat → (Nat → Int32) → (Nat → Int32)
  | 0, _, f => f
  | n + 1, k, f => cpF g n (k + 1) (upd f k (g k))
theorem cpF_at (g : Nat → Int32) : ∀ (n k : Nat) (f : Nat → Int32) (j : Nat), cpF g n k f j = if k ≤ j ∧ j < k + n then g j else f j := by
  intro n
  induction n with
  | zero => intro k f j; rw [if_neg (by omega)]; rfl
  | succ n ih =>
    intro k f j
    rw [cpF, ih]
    by_cases h : j = k
    · subst h
      rw [if_neg (by omega), if_pos (by omega), pk_us]
    · rw [pk_un h]
      by_cases h2 : k ≤ j ∧ j < k + (n + 1)
      · rw [if_pos h2, if_pos (by omega)]
      · rw [if_neg h2, if_neg (by omega)]
theorem m_en_full : ∀ (n k : Nat) (u : m_S), m_enF n k u = (m_th u, m_st u, m_md u, m_mn u, m_rw u, m_sz u, m_wn u, m_sn u, m_bi u, m_ro u, cpF (m_ro u) n k (m_rc u), m_wt u, m_se u, m_cn u) := by
  intro n
  induction n with
  | zero => intro k u; rfl
  | succ n ih => intro k u; rw [m_enF, ih]; rfl
def shF : Nat → Nat → (Nat → Int32) → (Nat → Int32)
  | 0, _, f => f
  | n + 1, k, f => shF n (k + 1) (upd f k (f (k + 1)))
theorem shF_at : ∀ (n k : Nat) (f : Nat → Int32) (j : Nat), shF n k f j = if k ≤ j ∧ j < k + n then f (j + 1) else f j := by
  intro n
  induction n with
  | zero => intro k f j; rw [if_neg (by omega)]; rfl
  | succ n ih =>
    intro k f j
    rw [shF, ih]
    by_cases h : j = k
    · subst h
      rw [if_neg (by omega), if_pos (by omega), pk_us]
    · rw [pk_un h]
      by_cases h2 : k ≤ j ∧ j < k + (n + 1)
      · rw [if_pos h2, if_pos (by omega), pk_un (by omega)]
      · rw [if_neg h2, if_neg (by omega)]
theorem m_sh_full : ∀ (n k : Nat) (u : m_S), m_shF n k u = (m_th u, m_st u, m_md u, m_mn u, m_rw u, m_sz u, m_wn u, m_sn u, shF n k (m_bi u), m_ro u, m_rc u, m_wt u, m_se u, m_cn u) := by
  intro n
  induction n with
  | zero => intro k u; rfl
  | succ n ih => intro k u; rw [m_shF, ih]; rfl
def biF (f : Nat → Int32) (w : Int32) (k : Nat) : Nat → Nat → Int32 → Int32
  | 0, _, b => b
  | n + 1, i, b => biF f w k n (i + 1) ((2 * b) + ((f (8 * k + i)) ^^^ (if nI (8 * k + i) = w then 1 else 0)))
theorem m_bi_full (u : m_S) (w : Int32) (k : Nat) : ∀ (n i : Nat) (b : Int32), m_biF u w k n i b = biF (m_bi u) w k n i b := by
  intro n
  induction n with
  | zero => intro i b; rfl
  | succ n ih => intro i b; rw [m_biF, ih]; rfl
def blF (f : Nat → Int32) (w : Int32) : Nat → Nat → Nat → (Nat → Int32) → (Nat → Int32)
  | 0, _, _, g => g
  | n + 1, k, r, g => blF f w n (k + 1) (r + 1) (upd g r (biF f w k 8 0 0))
theorem blF_at (f : Nat → Int32) (w : Int32) : ∀ (n k r : Nat) (g : Nat → Int32) (j : Nat), blF f w n k r g j = if r ≤ j ∧ j < r + n then biF f w (k + (j - r)) 8 0 0 else g j := by
  intro n
  induction n with
  | zero => intro k r g j; rw [if_neg (by omega)]; rfl
  | succ n ih =>
    intro k r g j
    rw [blF, ih]
    by_cases h : j = r
    · subst h
      rw [if_neg (by omega), if_pos (by omega), pk_us, Nat.sub_self]
      rfl
    · rw [pk_un h]
      by_cases h2 : r ≤ j ∧ j < r + (n + 1)
      · rw [if_pos h2, if_pos (by omega), show k + 1 + (j - (r + 1)) = k + (j - r) by omega]
      · rw [if_neg h2, if_neg (by omega)]
theorem m_bl_full (w : Int32) : ∀ (n k : Nat) (u : m_S), m_blF w n k u = (m_th u, m_st u, m_md u, m_mn u, m_rw u + n, m_sz u, m_wn u, m_sn u, m_bi u, blF (m_bi u) w n k (m_rw u) (m_ro u), m_rc u, m_wt u, m_se u, m_cn u) := by
  intro n
  induction n with
  | zero => intro k u; rfl
  | succ n ih =>
    intro k u
    rw [m_blF, ih, m_bi_full]
    show (m_th u, m_st u, m_md u, m_mn u, m_rw u + 1 + n, m_sz u, m_wn u, m_sn u, m_bi u, blF (m_bi u) w n (k + 1) (m_rw u + 1) (upd (m_ro u) (m_rw u) (biF (m_bi u) w k 8 0 0)), m_rc u, m_wt u, m_se u, m_cn u) = _
    rw [show m_rw u + 1 + n = m_rw u + (n + 1) by omega]
    rfl
def kdF (d : Int64) : Nat → Nat → (Nat → Int32) → (Nat → Int32)
  | 0, _, g => g
  | n + 1, r, g => kdF d n (r + 1) (upd g r (x_byteOf d (nI n)))
theorem kdF_at (d : Int64) : ∀ (n r : Nat) (g : Nat → Int32) (j : Nat), kdF d n r g j = if r ≤ j ∧ j < r + n then x_byteOf d (nI (n - 1 - (j - r))) else g j := by
  intro n
  induction n with
  | zero => intro r g j; rw [if_neg (by omega)]; rfl
  | succ n ih =>
    intro r g j
    rw [kdF, ih]
    by_cases h : j = r
    · subst h
      rw [if_neg (by omega), if_pos (by omega), pk_us, Nat.sub_self]
      rfl
    · rw [pk_un h]
      by_cases h2 : r ≤ j ∧ j < r + (n + 1)
      · rw [if_pos h2, if_pos (by omega), show n - 1 - (j - (r + 1)) = n + 1 - 1 - (j - r) by omega]
      · rw [if_neg h2, if_neg (by omega)]
theorem x_kd_full (d : Int64) : ∀ (n : Nat) (u : x_S) (r : Nat), x_rs u = nI r → r + n ≤ 259 → x_kdF d n u = (x_st u, x_md u, x_bt u, x_cm u, x_hr u, nI (r + n), x_hv u, x_vs u, x_wz u, x_sz u, kdF d n r (x_ro u), x_rc u, x_cn u, x_wt u, x_sn u) := by
  intro n
  induction n with
  | zero => intro u r e h; rw [Nat.add_zero, ← e]; rfl
  | succ n ih =>
    intro u r e h
    rw [x_kdF, e, if_neg (nI_pos (by omega)), if_neg (show ¬ (259 : Int32) ≤ nI r from (show ¬ nI 259 ≤ nI r from nI_ge (by omega) (by decide))), nI_clamp (by omega), nI_1, ih _ (r + 1) rfl (by omega)]
    show (x_st u, x_md u, x_bt u, x_cm u, x_hr u, nI (r + 1 + n), x_hv u, x_vs u, x_wz u, x_sz u, kdF d n (r + 1) (upd (x_ro u) r (x_byteOf d (nI n))), x_rc u, x_cn u, x_wt u, x_sn u) = _
    rw [show r + 1 + n = r + (n + 1) by omega]
    rfl
theorem m_ends_full (u : m_S) : m_ends u = (m_th u, 1, m_md u, 0, 0, if nI (m_rw u) ≤ 0 then m_sz u else m_rw u, m_wn u, m_sn u, m_bi u, m_ro u, cpF (m_ro u) (m_rw u) 0 (m_rc u), m_wt u, m_se u, upd (m_cn u) 1 (m_cn u 1 + 1)) := by
  unfold m_ends
  rw [m_en_full]
  by_cases h : nI (m_rw u) ≤ 0
  · rw [if_pos h, if_pos h]; rfl
  · rw [if_neg h, if_neg h]; rfl
end
section
/-! Integer.bitCount at 16 bits -/
def bc1 (z : Nat) : Nat := z - ((z / 2 ^ 1) &&& 1431655765)
def bc2 (a : Nat) : Nat := (a &&& 858993459) + ((a / 2 ^ 2) &&& 858993459)
def bc3 (a : Nat) : Nat := (a + a / 2 ^ 4) &&& 252645135
def bc4 (a : Nat) : Nat := a + a / 2 ^ 8
def bc5 (a : Nat) : Nat := a + a / 2 ^ 16
def bcN (z : Nat) : Nat := bc5 (bc4 (bc3 (bc2 (bc1 z)))) &&& 63
def lkN (z : Nat) : Nat → Nat → Nat → Nat
  | 0, _, d => d
  | n + 1, k, d => lkN z n (k + 1) (d + z / 2 ^ (15 - k) % 2)
theorem bc_s1 {z : Nat} (h : z < 2 ^ 31) : nI z - ((j_iushr (nI z) 1) &&& 1431655765) = nI (bc1 z) := by
  rw [show j_iushr (nI z) 1 = nI (z / 2 ^ 1) from pk_ushrN (by omega) 1 1 (by decide), show nI (z / 2 ^ 1) &&& 1431655765 = nI ((z / 2 ^ 1) &&& 1431655765) from nx_and _ 1431655765, pk_sub]
  · rfl
  · exact Nat.le_trans Nat.and_le_left (Nat.div_le_self _ _)
theorem bc_s2 {a : Nat} (h : a < 2 ^ 31) : (nI a &&& 858993459) + ((j_iushr (nI a) 2) &&& 858993459) = nI (bc2 a) := by
  rw [show j_iushr (nI a) 2 = nI (a / 2 ^ 2) from pk_ushrN (by omega) 2 2 (by decide), show nI (a / 2 ^ 2) &&& 858993459 = nI ((a / 2 ^ 2) &&& 858993459) from nx_and _ 858993459, show nI a &&& 858993459 = nI (a &&& 858993459) from nx_and _ 858993459, nI_add]
  rfl
theorem bc_s3 {a : Nat} (h : a < 2 ^ 31) : (nI a + (j_iushr (nI a) 4)) &&& 252645135 = nI (bc3 a) := by
  rw [show j_iushr (nI a) 4 = nI (a / 2 ^ 4) from pk_ushrN (by omega) 4 4 (by decide), nI_add, show nI (a + a / 2 ^ 4) &&& 252645135 = nI ((a + a / 2 ^ 4) &&& 252645135) from nx_and _ 252645135]
  rfl
theorem bc_s4 {a : Nat} (h : a < 2 ^ 31) : nI a + (j_iushr (nI a) 8) = nI (bc4 a) := by
  rw [show j_iushr (nI a) 8 = nI (a / 2 ^ 8) from pk_ushrN (by omega) 8 8 (by decide), nI_add]
  rfl
theorem bc_s5 {a : Nat} (h : a < 2 ^ 31) : nI a + (j_iushr (nI a) 16) = nI (bc5 a) := by
  rw [show j_iushr (nI a) 16 = nI (a / 2 ^ 16) from pk_ushrN (by omega) 16 16 (by decide), nI_add]
  rfl
theorem bc_eq {z : Nat} (h : z < 65536) : x_bitCount (nI z) = nI (bcN z) := by
  have h1 : bc1 z < 65536 := by unfold bc1; omega
  have h2 : bc2 (bc1 z) < 200000 := by
    have a1 : bc1 z &&& 858993459 ≤ bc1 z := Nat.and_le_left
    have a2 : (bc1 z / 2 ^ 2) &&& 858993459 ≤ bc1 z / 2 ^ 2 := Nat.and_le_left
    unfold bc2; omega
  have h3 : bc3 (bc2 (bc1 z)) < 400000 := by
    have a1 : (bc2 (bc1 z) + bc2 (bc1 z) / 2 ^ 4) &&& 252645135 ≤ bc2 (bc1 z) + bc2 (bc1 z) / 2 ^ 4 := Nat.and_le_left
    unfold bc3; omega
  have h4 : bc4 (bc3 (bc2 (bc1 z))) < 800000 := by unfold bc4; omega
  unfold x_bitCount
  rw [bc_s1 (by omega), bc_s2 (by omega), bc_s3 (by omega), bc_s4 (by omega), bc_s5 (by omega)]
  exact nx_and _ 63
theorem bc_t0 : ∀ h, h < 4 → ∀ l, l < 256 → bcN (256 * (4 * 0 + h) + l) = lkN (256 * (4 * 0 + h) + l) 16 0 0 := by decide +kernel
theorem bc_t1 : ∀ h, h < 4 → ∀ l, l < 256 → bcN (256 * (4 * 1 + h) + l) = lkN (256 * (4 * 1 + h) + l) 16 0 0 := by decide +kernel
theorem bc_t2 : ∀ h, h < 4 → ∀ l, l < 256 → bcN (256 * (4 * 2 + h) + l) = lkN (256 * (4 * 2 + h) + l) 16 0 0 := by decide +kernel
theorem bc_t3 : ∀ h, h < 4 → ∀ l, l < 256 → bcN (256 * (4 * 3 + h) + l) = lkN (256 * (4 * 3 + h) + l) 16 0 0 := by decide +kernel
theorem bc_t4 : ∀ h, h < 4 → ∀ l, l < 256 → bcN (256 * (4 * 4 + h) + l) = lkN (256 * (4 * 4 + h) + l) 16 0 0 := by decide +kernel
theorem bc_t5 : ∀ h, h < 4 → ∀ l, l < 256 → bcN (256 * (4 * 5 + h) + l) = lkN (256 * (4 * 5 + h) + l) 16 0 0 := by decide +kernel
theorem bc_t6 : ∀ h, h < 4 → ∀ l, l < 256 → bcN (256 * (4 * 6 + h) + l) = lkN (256 * (4 * 6 + h) + l) 16 0 0 := by decide +kernel
theorem bc_t7 : ∀ h, h < 4 → ∀ l, l < 256 → bcN (256 * (4 * 7 + h) + l) = lkN (256 * (4 * 7 + h) + l) 16 0 0 := by decide +kernel
theorem bc_t8 : ∀ h, h < 4 → ∀ l, l < 256 → bcN (256 * (4 * 8 + h) + l) = lkN (256 * (4 * 8 + h) + l) 16 0 0 := by decide +kernel
theorem bc_t9 : ∀ h, h < 4 → ∀ l, l < 256 → bcN (256 * (4 * 9 + h) + l) = lkN (256 * (4 * 9 + h) + l) 16 0 0 := by decide +kernel
theorem bc_t10 : ∀ h, h < 4 → ∀ l, l < 256 → bcN (256 * (4 * 10 + h) + l) = lkN (256 * (4 * 10 + h) + l) 16 0 0 := by decide +kernel
theorem bc_t11 : ∀ h, h < 4 → ∀ l, l < 256 → bcN (256 * (4 * 11 + h) + l) = lkN (256 * (4 * 11 + h) + l) 16 0 0 := by decide +kernel
theorem bc_t12 : ∀ h, h < 4 → ∀ l, l < 256 → bcN (256 * (4 * 12 + h) + l) = lkN (256 * (4 * 12 + h) + l) 16 0 0 := by decide +kernel
theorem bc_t13 : ∀ h, h < 4 → ∀ l, l < 256 → bcN (256 * (4 * 13 + h) + l) = lkN (256 * (4 * 13 + h) + l) 16 0 0 := by decide +kernel
theorem bc_t14 : ∀ h, h < 4 → ∀ l, l < 256 → bcN (256 * (4 * 14 + h) + l) = lkN (256 * (4 * 14 + h) + l) 16 0 0 := by decide +kernel
theorem bc_t15 : ∀ h, h < 4 → ∀ l, l < 256 → bcN (256 * (4 * 15 + h) + l) = lkN (256 * (4 * 15 + h) + l) 16 0 0 := by decide +kernel
theorem bc_t16 : ∀ h, h < 4 → ∀ l, l < 256 → bcN (256 * (4 * 16 + h) + l) = lkN (256 * (4 * 16 + h) + l) 16 0 0 := by decide +kernel
theorem bc_t17 : ∀ h, h < 4 → ∀ l, l < 256 → bcN (256 * (4 * 17 + h) + l) = lkN (256 * (4 * 17 + h) + l) 16 0 0 := by decide +kernel
theorem bc_t18 : ∀ h, h < 4 → ∀ l, l < 256 → bcN (256 * (4 * 18 + h) + l) = lkN (256 * (4 * 18 + h) + l) 16 0 0 := by decide +kernel
theorem bc_t19 : ∀ h, h < 4 → ∀ l, l < 256 → bcN (256 * (4 * 19 + h) + l) = lkN (256 * (4 * 19 + h) + l) 16 0 0 := by decide +kernel
theorem bc_t20 : ∀ h, h < 4 → ∀ l, l < 256 → bcN (256 * (4 * 20 + h) + l) = lkN (256 * (4 * 20 + h) + l) 16 0 0 := by decide +kernel
theorem bc_t21 : ∀ h, h < 4 → ∀ l, l < 256 → bcN (256 * (4 * 21 + h) + l) = lkN (256 * (4 * 21 + h) + l) 16 0 0 := by decide +kernel
theorem bc_t22 : ∀ h, h < 4 → ∀ l, l < 256 → bcN (256 * (4 * 22 + h) + l) = lkN (256 * (4 * 22 + h) + l) 16 0 0 := by decide +kernel
theorem bc_t23 : ∀ h, h < 4 → ∀ l, l < 256 → bcN (256 * (4 * 23 + h) + l) = lkN (256 * (4 * 23 + h) + l) 16 0 0 := by decide +kernel
theorem bc_t24 : ∀ h, h < 4 → ∀ l, l < 256 → bcN (256 * (4 * 24 + h) + l) = lkN (256 * (4 * 24 + h) + l) 16 0 0 := by decide +kernel
theorem bc_t25 : ∀ h, h < 4 → ∀ l, l < 256 → bcN (256 * (4 * 25 + h) + l) = lkN (256 * (4 * 25 + h) + l) 16 0 0 := by decide +kernel
theorem bc_t26 : ∀ h, h < 4 → ∀ l, l < 256 → bcN (256 * (4 * 26 + h) + l) = lkN (256 * (4 * 26 + h) + l) 16 0 0 := by decide +kernel
theorem bc_t27 : ∀ h, h < 4 → ∀ l, l < 256 → bcN (256 * (4 * 27 + h) + l) = lkN (256 * (4 * 27 + h) + l) 16 0 0 := by decide +kernel
theorem bc_t28 : ∀ h, h < 4 → ∀ l, l < 256 → bcN (256 * (4 * 28 + h) + l) = lkN (256 * (4 * 28 + h) + l) 16 0 0 := by decide +kernel
theorem bc_t29 : ∀ h, h < 4 → ∀ l, l < 256 → bcN (256 * (4 * 29 + h) + l) = lkN (256 * (4 * 29 + h) + l) 16 0 0 := by decide +kernel
theorem bc_t30 : ∀ h, h < 4 → ∀ l, l < 256 → bcN (256 * (4 * 30 + h) + l) = lkN (256 * (4 * 30 + h) + l) 16 0 0 := by decide +kernel
theorem bc_t31 : ∀ h, h < 4 → ∀ l, l < 256 → bcN (256 * (4 * 31 + h) + l) = lkN (256 * (4 * 31 + h) + l) 16 0 0 := by decide +kernel
theorem bc_t32 : ∀ h, h < 4 → ∀ l, l < 256 → bcN (256 * (4 * 32 + h) + l) = lkN (256 * (4 * 32 + h) + l) 16 0 0 := by decide +kernel
theorem bc_t33 : ∀ h, h < 4 → ∀ l, l < 256 → bcN (256 * (4 * 33 + h) + l) = lkN (256 * (4 * 33 + h) + l) 16 0 0 := by decide +kernel
theorem bc_t34 : ∀ h, h < 4 → ∀ l, l < 256 → bcN (256 * (4 * 34 + h) + l) = lkN (256 * (4 * 34 + h) + l) 16 0 0 := by decide +kernel
theorem bc_t35 : ∀ h, h < 4 → ∀ l, l < 256 → bcN (256 * (4 * 35 + h) + l) = lkN (256 * (4 * 35 + h) + l) 16 0 0 := by decide +kernel
theorem bc_t36 : ∀ h, h < 4 → ∀ l, l < 256 → bcN (256 * (4 * 36 + h) + l) = lkN (256 * (4 * 36 + h) + l) 16 0 0 := by decide +kernel
theorem bc_t37 : ∀ h, h < 4 → ∀ l, l < 256 → bcN (256 * (4 * 37 + h) + l) = lkN (256 * (4 * 37 + h) + l) 16 0 0 := by decide +kernel
theorem bc_t38 : ∀ h, h < 4 → ∀ l, l < 256 → bcN (256 * (4 * 38 + h) + l) = lkN (256 * (4 * 38 + h) + l) 16 0 0 := by decide +kernel
theorem bc_t39 : ∀ h, h < 4 → ∀ l, l < 256 → bcN (256 * (4 * 39 + h) + l) = lkN (256 * (4 * 39 + h) + l) 16 0 0 := by decide +kernel
theorem bc_t40 : ∀ h, h < 4 → ∀ l, l < 256 → bcN (256 * (4 * 40 + h) + l) = lkN (256 * (4 * 40 + h) + l) 16 0 0 := by decide +kernel
theorem bc_t41 : ∀ h, h < 4 → ∀ l, l < 256 → bcN (256 * (4 * 41 + h) + l) = lkN (256 * (4 * 41 + h) + l) 16 0 0 := by decide +kernel
theorem bc_t42 : ∀ h, h < 4 → ∀ l, l < 256 → bcN (256 * (4 * 42 + h) + l) = lkN (256 * (4 * 42 + h) + l) 16 0 0 := by decide +kernel
theorem bc_t43 : ∀ h, h < 4 → ∀ l, l < 256 → bcN (256 * (4 * 43 + h) + l) = lkN (256 * (4 * 43 + h) + l) 16 0 0 := by decide +kernel
theorem bc_t44 : ∀ h, h < 4 → ∀ l, l < 256 → bcN (256 * (4 * 44 + h) + l) = lkN (256 * (4 * 44 + h) + l) 16 0 0 := by decide +kernel
theorem bc_t45 : ∀ h, h < 4 → ∀ l, l < 256 → bcN (256 * (4 * 45 + h) + l) = lkN (256 * (4 * 45 + h) + l) 16 0 0 := by decide +kernel
theorem bc_t46 : ∀ h, h < 4 → ∀ l, l < 256 → bcN (256 * (4 * 46 + h) + l) = lkN (256 * (4 * 46 + h) + l) 16 0 0 := by decide +kernel
theorem bc_t47 : ∀ h, h < 4 → ∀ l, l < 256 → bcN (256 * (4 * 47 + h) + l) = lkN (256 * (4 * 47 + h) + l) 16 0 0 := by decide +kernel
theorem bc_t48 : ∀ h, h < 4 → ∀ l, l < 256 → bcN (256 * (4 * 48 + h) + l) = lkN (256 * (4 * 48 + h) + l) 16 0 0 := by decide +kernel
theorem bc_t49 : ∀ h, h < 4 → ∀ l, l < 256 → bcN (256 * (4 * 49 + h) + l) = lkN (256 * (4 * 49 + h) + l) 16 0 0 := by decide +kernel
theorem bc_t50 : ∀ h, h < 4 → ∀ l, l < 256 → bcN (256 * (4 * 50 + h) + l) = lkN (256 * (4 * 50 + h) + l) 16 0 0 := by decide +kernel
theorem bc_t51 : ∀ h, h < 4 → ∀ l, l < 256 → bcN (256 * (4 * 51 + h) + l) = lkN (256 * (4 * 51 + h) + l) 16 0 0 := by decide +kernel
theorem bc_t52 : ∀ h, h < 4 → ∀ l, l < 256 → bcN (256 * (4 * 52 + h) + l) = lkN (256 * (4 * 52 + h) + l) 16 0 0 := by decide +kernel
theorem bc_t53 : ∀ h, h < 4 → ∀ l, l < 256 → bcN (256 * (4 * 53 + h) + l) = lkN (256 * (4 * 53 + h) + l) 16 0 0 := by decide +kernel
theorem bc_t54 : ∀ h, h < 4 → ∀ l, l < 256 → bcN (256 * (4 * 54 + h) + l) = lkN (256 * (4 * 54 + h) + l) 16 0 0 := by decide +kernel
theorem bc_t55 : ∀ h, h < 4 → ∀ l, l < 256 → bcN (256 * (4 * 55 + h) + l) = lkN (256 * (4 * 55 + h) + l) 16 0 0 := by decide +kernel
theorem bc_t56 : ∀ h, h < 4 → ∀ l, l < 256 → bcN (256 * (4 * 56 + h) + l) = lkN (256 * (4 * 56 + h) + l) 16 0 0 := by decide +kernel
theorem bc_t57 : ∀ h, h < 4 → ∀ l, l < 256 → bcN (256 * (4 * 57 + h) + l) = lkN (256 * (4 * 57 + h) + l) 16 0 0 := by decide +kernel
theorem bc_t58 : ∀ h, h < 4 → ∀ l, l < 256 → bcN (256 * (4 * 58 + h) + l) = lkN (256 * (4 * 58 + h) + l) 16 0 0 := by decide +kernel
theorem bc_t59 : ∀ h, h < 4 → ∀ l, l < 256 → bcN (256 * (4 * 59 + h) + l) = lkN (256 * (4 * 59 + h) + l) 16 0 0 := by decide +kernel
theorem bc_t60 : ∀ h, h < 4 → ∀ l, l < 256 → bcN (256 * (4 * 60 + h) + l) = lkN (256 * (4 * 60 + h) + l) 16 0 0 := by decide +kernel
theorem bc_t61 : ∀ h, h < 4 → ∀ l, l < 256 → bcN (256 * (4 * 61 + h) + l) = lkN (256 * (4 * 61 + h) + l) 16 0 0 := by decide +kernel
theorem bc_t62 : ∀ h, h < 4 → ∀ l, l < 256 → bcN (256 * (4 * 62 + h) + l) = lkN (256 * (4 * 62 + h) + l) 16 0 0 := by decide +kernel
theorem bc_t63 : ∀ h, h < 4 → ∀ l, l < 256 → bcN (256 * (4 * 63 + h) + l) = lkN (256 * (4 * 63 + h) + l) 16 0 0 := by decide +kernel
theorem bc_t : ∀ i, i < 64 → ∀ h, h < 4 → ∀ l, l < 256 → bcN (256 * (4 * i + h) + l) = lkN (256 * (4 * i + h) + l) 16 0 0 := by
  intro i hi
  match i, hi with
  | 0, _ => exact bc_t0
  | 1, _ => exact bc_t1
  | 2, _ => exact bc_t2
  | 3, _ => exact bc_t3
  | 4, _ => exact bc_t4
  | 5, _ => exact bc_t5
  | 6, _ => exact bc_t6
  | 7, _ => exact bc_t7
  | 8, _ => exact bc_t8
  | 9, _ => exact bc_t9
  | 10, _ => exact bc_t10
  | 11, _ => exact bc_t11
  | 12, _ => exact bc_t12
  | 13, _ => exact bc_t13
  | 14, _ => exact bc_t14
  | 15, _ => exact bc_t15
  | 16, _ => exact bc_t16
  | 17, _ => exact bc_t17
  | 18, _ => exact bc_t18
  | 19, _ => exact bc_t19
  | 20, _ => exact bc_t20
  | 21, _ => exact bc_t21
  | 22, _ => exact bc_t22
  | 23, _ => exact bc_t23
  | 24, _ => exact bc_t24
  | 25, _ => exact bc_t25
  | 26, _ => exact bc_t26
  | 27, _ => exact bc_t27
  | 28, _ => exact bc_t28
  | 29, _ => exact bc_t29
  | 30, _ => exact bc_t30
  | 31, _ => exact bc_t31
  | 32, _ => exact bc_t32
  | 33, _ => exact bc_t33
  | 34, _ => exact bc_t34
  | 35, _ => exact bc_t35
  | 36, _ => exact bc_t36
  | 37, _ => exact bc_t37
  | 38, _ => exact bc_t38
  | 39, _ => exact bc_t39
  | 40, _ => exact bc_t40
  | 41, _ => exact bc_t41
  | 42, _ => exact bc_t42
  | 43, _ => exact bc_t43
  | 44, _ => exact bc_t44
  | 45, _ => exact bc_t45
  | 46, _ => exact bc_t46
  | 47, _ => exact bc_t47
  | 48, _ => exact bc_t48
  | 49, _ => exact bc_t49
  | 50, _ => exact bc_t50
  | 51, _ => exact bc_t51
  | 52, _ => exact bc_t52
  | 53, _ => exact bc_t53
  | 54, _ => exact bc_t54
  | 55, _ => exact bc_t55
  | 56, _ => exact bc_t56
  | 57, _ => exact bc_t57
  | 58, _ => exact bc_t58
  | 59, _ => exact bc_t59
  | 60, _ => exact bc_t60
  | 61, _ => exact bc_t61
  | 62, _ => exact bc_t62
  | 63, _ => exact bc_t63
  | n + 64, h => exact absurd h (by omega)
theorem bc_lk {z : Nat} (h : z < 65536) : bcN z = lkN z 16 0 0 := by
  have := bc_t (z / 1024) (by omega) (z / 256 % 4) (by omega) (z % 256) (by omega)
  rw [show 256 * (4 * (z / 1024) + z / 256 % 4) + z % 256 = z by omega] at this
  exact this
end
section
theorem xor0 {a b : Nat} (h : a ^^^ b = 0) : a = b := by
  apply Nat.eq_of_testBit_eq
  intro i
  have h5 := congrArg (fun z => z.testBit i) h
  simp only [Nat.testBit_xor, Nat.zero_testBit] at h5
  revert h5
  cases a.testBit i <;> cases b.testBit i <;> simp
theorem cr_rd : ∀ r, r < 128 → ∀ e, e < 2 → m_rd ((2 * nI r) + nI e) = nI (cr_st r e) := by decide +kernel
theorem m_dv_rem {v : m_S} {a0 : Int32} {E : Nat} (hE : ∀ k, k < 63 → ((m_bi v k) ^^^ (if nI k ≤ 55 then 0 else 1)) ^^^ (if nI k = a0 then 1 else 0) = nI (E / 2 ^ (62 - k) % 2)) : ∀ n k r, k + n = 63 → r < 128 → m_dvF v a0 n k (nI r) = nI (cr_rem E n r) := by
  intro n
  induction n with
  | zero => intro k r _ _; rfl
  | succ n ih =>
    intro k r h hr
    have e : 62 - k = n := by omega
    rw [m_dvF, hE k (by omega), e, cr_rd r hr _ (cr_tb2 _ _), ih (k + 1) _ (by omega) (cr_st_x r hr _ (cr_tb2 _ _)).2]
    rfl
/-- the 63 bits with the check bits turned round -/
def cA (x : Int64) : Nat := (uN x / 2) ^^^ 127
theorem cA_lt (x : Int64) : cA x < 2 ^ 63 := by
  have := uN_lt x
  exact Nat.xor_lt_two_pow (n := 63) (by omega) (by decide)
theorem half_bit (X : Nat) {k : Nat} (hk : k < 63) : X / 2 / 2 ^ (62 - k) % 2 = X / 2 ^ (63 - k) % 2 := by
  rw [Nat.div_div_eq_div_mul, show 2 * 2 ^ (62 - k) = 2 ^ (63 - k) from by rw [show 63 - k = 62 - k + 1 by omega, Nat.pow_succ, Nat.mul_comm]]
theorem cA_bit (x : Int64) {k : Nat} (hk : k < 63) : cA x / 2 ^ (62 - k) % 2 = (bq x (63 - k)) ^^^ (127 / 2 ^ (62 - k) % 2) := by
  unfold cA bq
  rw [cr_bit, half_bit _ hk]
theorem t127 : ∀ k, k < 63 → (if nI k ≤ 55 then (0 : Int32) else 1) = nI (127 / 2 ^ (62 - k) % 2) := by decide +kernel
theorem tm1 : ∀ k, k < 63 → ¬ nI k = (-1) := by decide +kernel
theorem pw_bit (a b : Nat) : 2 ^ a / 2 ^ b % 2 = if a = b then 1 else 0 := by
  rw [cr_tb, Nat.testBit_two_pow]
  by_cases h : a = b
  · simp [h]
  · simp [h]
theorem i_bit {k t : Nat} (hk : k < 63) (ht : t < 63) : (if nI k = nI t then (1 : Int32) else 0) = nI (2 ^ (62 - t) / 2 ^ (62 - k) % 2) := by
  rw [pw_bit]
  by_cases h : k = t
  · subst h; rw [if_pos rfl, if_pos rfl]; rfl
  · rw [if_neg (fun e => h ((nI_eq (by omega) (by omega)).mp e)), if_neg (by omega)]; rfl
theorem e_none {v : m_S} {x : Int64} (hB : ∀ j, j < 64 → m_bi v j = nI (bq x (63 - j))) (k : Nat) (hk : k < 63) : ((m_bi v k) ^^^ (if nI k ≤ 55 then 0 else 1)) ^^^ (if nI k = (-1) then 1 else 0) = nI (cA x / 2 ^ (62 - k) % 2) := by
  rw [hB k (by omega), t127 k hk, if_neg (tm1 k hk), nx_xor, ← cA_bit x hk]
  exact Int32.xor_zero
theorem e_at {v : m_S} {x : Int64} {t : Nat} (ht : t < 63) (hB : ∀ j, j < 64 → m_bi v j = nI (bq x (63 - j))) (k : Nat) (hk : k < 63) : ((m_bi v k) ^^^ (if nI k ≤ 55 then 0 else 1)) ^^^ (if nI k = nI t then 1 else 0) = nI ((cA x ^^^ 2 ^ (62 - t)) / 2 ^ (62 - k) % 2) := by
  rw [hB k (by omega), t127 k hk, i_bit hk ht, nx_xor, nx_xor, ← cA_bit x hk, cr_bit]
theorem dv_none {v : m_S} {x : Int64} (hB : ∀ j, j < 64 → m_bi v j = nI (bq x (63 - j))) : m_divided v (-1) = if cr_rem (cA x) 63 0 = 0 then 1 else 0 := by
  have e : m_dvF v (-1) 63 0 0 = nI (cr_rem (cA x) 63 0) := m_dv_rem (e_none hB) 63 0 0 rfl (by decide)
  have hl := cr_rem_lt (cA x) 63 0 (by decide)
  unfold m_divided
  rw [e]
  by_cases h : cr_rem (cA x) 63 0 = 0
  · rw [h, if_pos nI_0, if_pos rfl]
  · rw [if_neg (nI_ne0 (by omega) (by omega)), if_neg h]
theorem dv_at {v : m_S} {x : Int64} {t : Nat} (ht : t < 63) (hB : ∀ j, j < 64 → m_bi v j = nI (bq x (63 - j))) : m_divided v (nI t) = if cr_rem (cA x) 63 0 = cr_rem (2 ^ (62 - t)) 63 0 then 1 else 0 := by
  have e : m_dvF v (nI t) 63 0 0 = nI (cr_rem (cA x ^^^ 2 ^ (62 - t)) 63 0) := m_dv_rem (e_at ht hB) 63 0 0 rfl (by decide)
  have hl := cr_rem_lt (cA x ^^^ 2 ^ (62 - t)) 63 0 (by decide)
  have hx : cr_rem (cA x ^^^ 2 ^ (62 - t)) 63 0 = cr_rem (cA x) 63 0 ^^^ cr_rem (2 ^ (62 - t)) 63 0 := cr_rem_lin (cA x) (2 ^ (62 - t)) 63 0 0 (by decide) (by decide)
  unfold m_divided
  rw [e]
  by_cases h : cr_rem (cA x) 63 0 = cr_rem (2 ^ (62 - t)) 63 0
  · rw [if_pos h, if_pos (by rw [hx, h, Nat.xor_self]; rfl)]
  · have h2 : cr_rem (cA x ^^^ 2 ^ (62 - t)) 63 0 ≠ 0 := by
      rw [hx]
      intro q
      exact h (xor0 q)
    rw [if_neg (nI_ne0 (by omega) (by omega)), if_neg h]
def wrN (r : Nat) : Nat → Nat → Int32 → Int32
  | 0, _, f => f
  | n + 1, k, f => wrN r n (k + 1) (if r = cr_rem (2 ^ (62 - k)) 63 0 then nI k else f)
theorem m_wr_N {v : m_S} {r : Nat} (hmd : ¬ m_md v = 0) (hD : ∀ t, t < 63 → m_divided v (nI t) = if r = cr_rem (2 ^ (62 - t)) 63 0 then 1 else 0) : ∀ n k f, k + n = 63 → m_wrF v n k f = wrN r n k f := by
  intro n
  induction n with
  | zero => intro k f _; rfl
  | succ n ih =>
    intro k f h
    rw [m_wrF, if_neg hmd, hD k (by omega), ih _ _ (by omega), wrN]
    by_cases c : r = cr_rem (2 ^ (62 - k)) 63 0
    · rw [if_pos c, if_neg (by decide), if_pos c]
    · rw [if_neg c, if_pos rfl, if_neg c]
theorem pw_tab : ∀ r, r < 128 → r = 0 ∨ (x_powerWithRemainder (nI r) = (-1) ∧ wrN r 63 0 (-2) = (-2)) ∨ ((x_powerWithRemainder (nI r)).toNatClampNeg < 63 ∧ x_powerWithRemainder (nI r) = nI (x_powerWithRemainder (nI r)).toNatClampNeg ∧ wrN r 63 0 (-2) = nI (62 - (x_powerWithRemainder (nI r)).toNatClampNeg)) := by decide +kernel
/-- a byte of the data, as the reference puts it together -/
theorem bi_byte {f : Nat → Int32} {w : Int32} {E k : Nat} (hk : k < 7) (hE : ∀ j, j < 56 → (f j) ^^^ (if nI j = w then 1 else 0) = nI (E / 2 ^ (62 - j) % 2)) : ∀ n i b, i + n = 8 → biF f w k n i (nI b) = nI (b * 2 ^ n + (E / 2 ^ (55 - 8 * k)) % 2 ^ n) := by
  intro n
  induction n with
  | zero => intro i b _; rw [biF, Nat.pow_zero, Nat.mod_one, Nat.mul_one, Nat.add_zero]
  | succ n ih =>
    intro i b h
    have e : E / 2 ^ (62 - (8 * k + i)) % 2 = (E / 2 ^ (55 - 8 * k)) / 2 ^ n % 2 := by
      rw [Nat.div_div_eq_div_mul, ← Nat.pow_add]
      congr 3
      omega
    rw [biF, hE (8 * k + i) (by omega), e, show (2 : Int32) * nI b = nI (2 * b) from pk_mul 2 b, nI_add, ih (i + 1) _ (by omega)]
    congr 1
    generalize E / 2 ^ (55 - 8 * k) = X
    rw [Nat.mod_pow_succ, Nat.pow_succ]
    generalize 2 ^ n = P
    generalize X / P % 2 = c
    generalize X % P = y
    rw [Nat.add_mul, Nat.mul_comm P c, Nat.mul_assoc, Nat.mul_comm 2 (b * P), Nat.mul_assoc]
    omega
theorem byte_eq {f : Nat → Int32} {w : Int32} {E k : Nat} (hk : k < 7) (hEl : E < 2 ^ 63) (hE : ∀ j, j < 56 → (f j) ^^^ (if nI j = w then 1 else 0) = nI (E / 2 ^ (62 - j) % 2)) : biF f w k 8 0 0 = x_byteOf (lN (E / 128)) (nI (6 - k)) := by
  have h1 : biF f w k 8 0 0 = nI (0 * 2 ^ 8 + (E / 2 ^ (55 - 8 * k)) % 2 ^ 8) := bi_byte hk hE 8 0 0 rfl
  rw [h1, x_byte_eq (by omega) (by omega), Nat.div_div_eq_div_mul, show 128 * 2 ^ (8 * (6 - k)) = 2 ^ (55 - 8 * k) from by rw [show (128 : Nat) = 2 ^ 7 from rfl, ← Nat.pow_add]; congr 1; omega]
  congr 1
  omega
end
section
/-! the end of a transmission, and what a block does, on both sides -/
theorem x_end_full (u : x_S) (r : Nat) (hr : r < 2 ^ 31) (e : x_rs u = nI r) : x_endTransmission u = if r = 0 then x_beginSearch (x_st u, x_md u, x_bt u, x_cm u, x_hr u, x_rs u, x_hv u, x_vs u, x_wz u, x_sz u, x_ro u, x_rc u, upd (x_cn u) 1 (x_cn u 1 + 1), x_wt u, x_sn u) else x_beginSearch (x_st u, x_md u, x_bt u, x_cm u, x_hv u, nI r, x_hr u, nI r, x_wz u, x_sz u, x_rc u, x_ro u, upd (x_cn u) 1 (x_cn u 1 + 1), x_wt u, x_sn u) := by
  unfold x_endTransmission
  rw [e]
  by_cases h : r = 0
  · rw [if_pos h, if_pos (by rw [h]; exact Int32.le_refl 0)]
  · rw [if_neg h, if_neg (nI_nle (by omega) hr)]
/-- an end: both are related in the search that begins -/
theorem r_end {C : Nat} {u : x_S} {v : m_S} (h2 : x_md u = m_md v) (h3 : ∀ j, j < 5 → x_cn u j = m_cn v j) (h4 : m_sz v ≤ 259 ∧ x_vs u = nI (m_sz v) ∧ ∀ j, j < m_sz v → x_rc u j = m_rc v j) (hr : m_rw v ≤ 259) (hrs : x_rs u = nI (m_rw v)) (hro : ∀ j, j < m_rw v → x_ro u j = m_ro v j) : R_rx C (x_endTransmission u) (m_ends v) ∧ x_cn (x_endTransmission u) 1 = x_cn u 1 + 1 := by
  have h3' : ∀ j, j < 5 → upd (x_cn u) 1 (x_cn u 1 + 1) j = upd (m_cn v) 1 (m_cn v 1 + 1) j := by
    intro j hj
    by_cases e : j = 1
    · subst e; rw [pk_us, pk_us, h3 1 (by decide)]
    · rw [pk_un e, pk_un e]; exact h3 j hj
  rw [x_end_full u (m_rw v) (by omega) hrs, m_ends_full]
  by_cases h : m_rw v = 0
  · rw [if_pos h]
    have e0 : nI (m_rw v) ≤ 0 := by rw [h]; exact Int32.le_refl 0
    rw [if_pos e0]
    refine ⟨⟨rfl, h2, h3', ⟨h4.1, h4.2.1, ?_⟩, Or.inr (Or.inl ⟨rfl, rfl, 0, Nat.zero_le _, rfl, rfl, fun j hj => absurd hj (Nat.not_lt_zero j)⟩)⟩, (show upd (x_cn u) 1 (x_cn u 1 + 1) 1 = x_cn u 1 + 1 from pk_us)⟩
    intro j hj
    show x_rc u j = cpF (m_ro v) (m_rw v) 0 (m_rc v) j
    rw [cpF_at, if_neg (by omega)]
    exact h4.2.2 j hj
  · rw [if_neg h]
    have e0 : ¬ nI (m_rw v) ≤ 0 := nI_nle (by omega) (by omega)
    rw [if_neg e0]
    refine ⟨⟨rfl, h2, h3', ⟨hr, rfl, ?_⟩, Or.inr (Or.inl ⟨rfl, rfl, 0, Nat.zero_le _, rfl, rfl, fun j hj => absurd hj (Nat.not_lt_zero j)⟩)⟩, (show upd (x_cn u) 1 (x_cn u 1 + 1) 1 = x_cn u 1 + 1 from pk_us)⟩
    intro j hj
    have hj : j < m_rw v := hj
    show x_ro u j = cpF (m_ro v) (m_rw v) 0 (m_rc v) j
    rw [cpF_at, if_pos (by omega)]
    exact hro j hj
/-- the reference's block that is kept -/
theorem m_keep_full (v : m_S) (w : Int32) (hw : m_wrong v = w) (hne : ¬ w = (-2)) : m_block v = (if nI (m_rw v + 7) = 259 then m_ends (m_th v, m_st v, m_md v, 0, m_rw v + 7, m_sz v, m_wn v, m_sn v, m_bi v, blF (m_bi v) w 7 0 (m_rw v) (m_ro v), m_rc v, m_wt v, m_se v, upd (upd (m_cn v) 2 (m_cn v 2 + 1)) 3 ((upd (m_cn v) 2 (m_cn v 2 + 1)) 3 + (if w < 0 then 0 else 1))) else (m_th v, m_st v, m_md v, 0, m_rw v + 7, m_sz v, m_wn v, m_sn v, m_bi v, blF (m_bi v) w 7 0 (m_rw v) (m_ro v), m_rc v, m_wt v, m_se v, upd (upd (m_cn v) 2 (m_cn v 2 + 1)) 3 ((upd (m_cn v) 2 (m_cn v 2 + 1)) 3 + (if w < 0 then 0 else 1)))) ∧ m_block_r v = (if nI (m_rw v + 7) = 259 then 1 else 0) := by
  unfold m_block m_block_r
  rw [hw, if_neg hne, if_neg hne, m_bl_full]
  by_cases h : w < 0
  · rw [if_pos h, if_pos h, if_pos h]
    exact ⟨rfl, rfl⟩
  · rw [if_neg h, if_neg h, if_neg h]
    exact ⟨rfl, rfl⟩
theorem m_end_block (v : m_S) (hw : m_wrong v = (-2)) : m_block v = m_ends v ∧ m_block_r v = 1 := by
  unfold m_block m_block_r
  rw [if_pos hw, if_pos hw]
  exact ⟨rfl, rfl⟩
end
section
theorem x_keep_full (u : x_S) (E r : Nat) (hE : E < 2 ^ 64) (e : x_rs u = nI r) (hr : r + 7 ≤ 259) : x_keepData u (lN E) = if nI (r + 7) = 259 then x_endTransmission (x_st u, x_md u, x_bt u, x_cm u, x_hr u, nI (r + 7), x_hv u, x_vs u, x_wz u, x_sz u, kdF (lN (E / 128)) 7 r (x_ro u), x_rc u, upd (x_cn u) 2 (x_cn u 2 + 1), x_wt u, x_sn u) else (x_st u, x_md u, x_bt u, x_cm u, x_hr u, nI (r + 7), x_hv u, x_vs u, x_wz u, x_sz u, kdF (lN (E / 128)) 7 r (x_ro u), x_rc u, upd (x_cn u) 2 (x_cn u 2 + 1), x_wt u, x_sn u) := by
  unfold x_keepData
  rw [show j_lushr (lN E) 7 = lN (E / 128) from wb_shr (k := 7) hE (by decide), x_kd_full (lN (E / 128)) 7 (x_st u, x_md u, x_bt u, x_cm u, x_hr u, x_rs u, x_hv u, x_vs u, x_wz u, x_sz u, x_ro u, x_rc u, upd (x_cn u) 2 (x_cn u 2 + 1), x_wt u, x_sn u) r e hr]
/-- a block that is kept, on both sides -/
theorem r_keep {C : Nat} {u : x_S} {v : m_S} {E : Nat} {w : Int32} (hs : x_st u = 2) (hsm : m_st v = 2) (h2 : x_md u = m_md v) (hcn : ∀ j, j < 5 → upd (x_cn u) 2 (x_cn u 2 + 1) j = (upd (upd (m_cn v) 2 (m_cn v 2 + 1)) 3 ((upd (m_cn v) 2 (m_cn v 2 + 1)) 3 + (if w < 0 then 0 else 1))) j) (h4 : m_sz v ≤ 259 ∧ x_vs u = nI (m_sz v) ∧ ∀ j, j < m_sz v → x_rc u j = m_rc v j) (hq : ∃ q, q ≤ 36 ∧ m_rw v = 7 * q) (hrs : x_rs u = nI (m_rw v)) (hro : ∀ j, j < m_rw v → x_ro u j = m_ro v j) (hcm : x_cm u = 0) (hEl : E < 2 ^ 63) (hE : ∀ j, j < 56 → (m_bi v j) ^^^ (if nI j = w then 1 else 0) = nI (E / 2 ^ (62 - j) % 2)) :
    R_rx C (x_keepData u (lN E)) (if nI (m_rw v + 7) = 259 then m_ends (m_th v, m_st v, m_md v, 0, m_rw v + 7, m_sz v, m_wn v, m_sn v, m_bi v, blF (m_bi v) w 7 0 (m_rw v) (m_ro v), m_rc v, m_wt v, m_se v, upd (upd (m_cn v) 2 (m_cn v 2 + 1)) 3 ((upd (m_cn v) 2 (m_cn v 2 + 1)) 3 + (if w < 0 then 0 else 1))) else (m_th v, m_st v, m_md v, 0, m_rw v + 7, m_sz v, m_wn v, m_sn v, m_bi v, blF (m_bi v) w 7 0 (m_rw v) (m_ro v), m_rc v, m_wt v, m_se v, upd (upd (m_cn v) 2 (m_cn v 2 + 1)) 3 ((upd (m_cn v) 2 (m_cn v 2 + 1)) 3 + (if w < 0 then 0 else 1)))) ∧ x_cn (x_keepData u (lN E)) 1 = x_cn u 1 + (if nI (m_rw v + 7) = 259 then 1 else 0) := by
  obtain ⟨q, hq1, hq2⟩ := hq
  have hro' : ∀ j, j < m_rw v + 7 → kdF (lN (E / 128)) 7 (m_rw v) (x_ro u) j = blF (m_bi v) w 7 0 (m_rw v) (m_ro v) j := by
    intro j hj
    rw [kdF_at, blF_at]
    by_cases c : m_rw v ≤ j ∧ j < m_rw v + 7
    · rw [if_pos c, if_pos c, Nat.zero_add, byte_eq (by omega) hEl hE]
    · rw [if_neg c, if_neg c]
      exact hro j (by omega)
  have hc1 : upd (x_cn u) 2 (x_cn u 2 + 1) 1 = x_cn u 1 := pk_un (by decide)
  rw [x_keep_full u E (m_rw v) (by omega) hrs (by omega)]
  by_cases h : nI (m_rw v + 7) = 259
  · rw [if_pos h, if_pos h, if_pos h]
    obtain ⟨g1, g2⟩ := r_end (C := C) (u := (x_st u, x_md u, x_bt u, x_cm u, x_hr u, nI (m_rw v + 7), x_hv u, x_vs u, x_wz u, x_sz u, kdF (lN (E / 128)) 7 (m_rw v) (x_ro u), x_rc u, upd (x_cn u) 2 (x_cn u 2 + 1), x_wt u, x_sn u)) (v := (m_th v, m_st v, m_md v, 0, m_rw v + 7, m_sz v, m_wn v, m_sn v, m_bi v, blF (m_bi v) w 7 0 (m_rw v) (m_ro v), m_rc v, m_wt v, m_se v, upd (upd (m_cn v) 2 (m_cn v 2 + 1)) 3 ((upd (m_cn v) 2 (m_cn v 2 + 1)) 3 + (if w < 0 then 0 else 1)))) h2 hcn h4 (show m_rw v + 7 ≤ 259 by omega) rfl hro'
    refine ⟨g1, g2.trans ?_⟩
    show upd (x_cn u) 2 (x_cn u 2 + 1) 1 + 1 = x_cn u 1 + 1
    rw [hc1]
  · rw [if_neg h, if_neg h, if_neg h]
    have h7 : m_rw v + 7 ≠ 259 := fun e => h (by rw [e]; rfl)
    refine ⟨⟨hs.trans hsm.symm, h2, hcn, h4, Or.inr (Or.inr ⟨hsm, (by decide : 0 < 64), hcm, fun j hj => absurd hj (Nat.not_lt_zero j), ⟨q + 1, by omega, (show m_rw v + 7 = 7 * (q + 1) by omega)⟩, rfl, hro'⟩)⟩, ?_⟩
    show upd (x_cn u) 2 (x_cn u 2 + 1) 1 = x_cn u 1 + 0
    rw [hc1]
    exact (Int32.add_zero _).symm
theorem drop55 {j : Nat} (h : j < 56) : (if nI j ≤ 55 then (0 : Int32) else 1) = 0 := if_pos (show nI j ≤ nI 55 from nI_le (by omega) (by decide))
theorem m2_ne {k : Nat} (h : k < 63) : ¬ nI k = (-2) := (by decide +kernel : ∀ k, k < 63 → ¬ nI k = (-2)) k h
/-- a whole block has come -/
theorem r_lab {C : Nat} {u : x_S} {v : m_S} (hs : x_st u = 2) (hsm : m_st v = 2) (h2 : x_md u = m_md v) (h3 : ∀ j, j < 5 → x_cn u j = m_cn v j) (h4 : m_sz v ≤ 259 ∧ x_vs u = nI (m_sz v) ∧ ∀ j, j < m_sz v → x_rc u j = m_rc v j) (hq : ∃ q, q ≤ 36 ∧ m_rw v = 7 * q) (hrs : x_rs u = nI (m_rw v)) (hro : ∀ j, j < m_rw v → x_ro u j = m_ro v j) (hcm : x_cm u = 0) (hB : ∀ j, j < 64 → m_bi v j = nI (bq (x_bt u) (63 - j))) :
    R_rx C (x_lookAtBlock u) (m_block v) ∧ x_cn (x_lookAtBlock u) 1 = x_cn u 1 + m_block_r v := by
  have hT := uN_lt (x_bt u)
  have hA := cA_lt (x_bt u)
  have hrw : m_rw v ≤ 259 := by obtain ⟨q, a1, a2⟩ := hq; omega
  have ecode : (j_lushr (x_bt u) 1) ^^^ 127 = lN (cA (x_bt u)) := by
    have h := wb_shr (n := uN (x_bt u)) (k := 1) (by omega) (by decide)
    rw [lN_uN] at h
    rw [show j_lushr (x_bt u) 1 = lN (uN (x_bt u) / 2 ^ 1) from h]
    exact lN_xor _ 127
  have erem : x_remainderOf (lN (cA (x_bt u))) = nI (cr_rem (cA (x_bt u)) 63 0) := cr_remainder (by omega)
  have hl := cr_rem_lt (cA (x_bt u)) 63 0 (by decide)
  have hdn := dv_none hB
  unfold x_lookAtBlock
  rw [ecode, erem]
  generalize hr : cr_rem (cA (x_bt u)) 63 0 = r at *
  by_cases h0 : r = 0
  · have hw : m_wrong v = (-1) := by
      unfold m_wrong
      rw [hdn, if_pos h0, if_neg (by decide)]
    rw [if_pos (by rw [h0]; rfl), (m_keep_full v (-1) hw (by decide)).1, (m_keep_full v (-1) hw (by decide)).2]
    refine r_keep hs hsm h2 ?_ h4 hq hrs hro hcm hA ?_
    · intro j hj
      rw [if_pos (show (-1 : Int32) < 0 by decide)]
      by_cases e2 : j = 2
      · subst e2; rw [pk_us, pk_un (by decide), pk_us, h3 2 (by decide)]
      · by_cases e3 : j = 3
        · subst e3; rw [pk_us, pk_un (by decide), pk_un (by decide), h3 3 (by decide)]; exact (Int32.add_zero _).symm
        · rw [pk_un e2, pk_un e3, pk_un e2]; exact h3 j hj
    · intro j hj
      have := e_none hB j (by omega)
      rw [drop55 hj, Int32.xor_zero] at this
      exact this
  · rw [if_neg (nI_ne0 (by omega) (by omega))]
    have hw0 : m_wrong v = m_wrF v 63 0 (-2) := by
      unfold m_wrong
      rw [hdn, if_neg h0, if_pos rfl]
    by_cases hmd : m_md v = 0
    · have hw : m_wrong v = (-2) := by rw [hw0, m_wrF, if_pos hmd]
      rw [if_pos (h2.trans hmd), (m_end_block v hw).1, (m_end_block v hw).2]
      exact r_end h2 h3 h4 hrw hrs hro
    · have hw1 : m_wrong v = wrN r 63 0 (-2) := by
        rw [hw0]
        exact m_wr_N hmd (fun t ht => by have := dv_at ht hB; rw [hr] at this; exact this) 63 0 (-2) rfl
      have hmx : ¬ x_md u = 0 := fun e => hmd (h2.symm.trans e)
      rw [if_neg hmx]
      rcases pw_tab r hl with e | ⟨e1, e2⟩ | ⟨e1, e2, e3⟩
      · exact absurd e h0
      · have hw : m_wrong v = (-2) := hw1.trans e2
        rw [if_pos e1, (m_end_block v hw).1, (m_end_block v hw).2]
        exact r_end h2 h3 h4 hrw hrs hro
      · generalize (x_powerWithRemainder (nI r)).toNatClampNeg = p at e1 e2 e3
        have hw : m_wrong v = nI (62 - p) := hw1.trans e3
        have hp1 : ¬ nI p = (-1) := tm1 p e1
        rw [e2, if_neg hp1, (m_keep_full v (nI (62 - p)) hw (m2_ne (by omega))).1, (m_keep_full v (nI (62 - p)) hw (m2_ne (by omega))).2, show (lN (cA (x_bt u))) ^^^ (j_lshl 1 (nI p)) = lN (cA (x_bt u) ^^^ 2 ^ p) from by
          rw [show j_lshl 1 (nI p) = lN (1 * 2 ^ p) from wb_shl 1 (by omega), Nat.one_mul, lN_xor]]
        have hpw : 2 ^ p < 2 ^ 63 := wb_lt2 e1
        refine (fun (z : R_rx C _ _ ∧ _) => ⟨z.1, z.2.trans (by show upd (x_cn u) 3 (x_cn u 3 + 1) 1 + _ = _; rw [pk_un (by decide)])⟩) (r_keep (C := C) (u := (x_st u, x_md u, x_bt u, x_cm u, x_hr u, x_rs u, x_hv u, x_vs u, x_wz u, x_sz u, x_ro u, x_rc u, upd (x_cn u) 3 (x_cn u 3 + 1), x_wt u, x_sn u)) (v := v) (E := cA (x_bt u) ^^^ 2 ^ p) (w := nI (62 - p)) hs hsm h2 ?_ h4 hq hrs hro hcm (Nat.xor_lt_two_pow hA hpw) ?_)
        · intro j hj
          rw [if_neg (nI_pos (by omega))]
          show upd (upd (x_cn u) 3 (x_cn u 3 + 1)) 2 (upd (x_cn u) 3 (x_cn u 3 + 1) 2 + 1) j = _
          by_cases e2 : j = 2
          · subst e2; rw [pk_us, pk_un (by decide), pk_un (by decide), pk_us, h3 2 (by decide)]
          · by_cases e3 : j = 3
            · subst e3; rw [pk_un (by decide), pk_us, pk_us, pk_un (by decide), h3 3 (by decide)]
            · rw [pk_un e2, pk_un e3, pk_un e3, pk_un e2]; exact h3 j hj
        · intro j hj
          have := e_at (t := 62 - p) (by omega) hB j (by omega)
          rw [drop55 hj, Int32.xor_zero, show 62 - (62 - p) = p by omega] at this
          exact this
end
section
theorem lk_tab : ∀ k, k < 16 → ∀ b, b < 2 → (if nI b = ((60304 >>> ((15 - (nI k)) &&& 31)) &&& 1) then (0 : Int32) else 1) = nI (b ^^^ (60304 / 2 ^ (15 - k) % 2)) := by decide +kernel
theorem m_lk_N {v : m_S} {x : Int64} (hB : ∀ j, j < 16 → m_bi v j = nI (bq x (15 - j))) : ∀ n k d, k + n = 16 → m_lkF v n k (nI d) = nI (lkN ((uN x % 65536) ^^^ 60304) n k d) := by
  intro n
  induction n with
  | zero => intro k d _; rfl
  | succ n ih =>
    intro k d h
    have e1 : (uN x % 65536) / 2 ^ (15 - k) % 2 = bq x (15 - k) := by
      unfold bq
      rw [show (65536 : Nat) = 2 ^ 16 from rfl, cr_tb, cr_tb, Nat.testBit_mod_two_pow, decide_eq_true (by omega), Bool.true_and]
    rw [m_lkF, hB k (by omega), lk_tab k (by omega) _ (bq_lt _ _), nI_add, ih _ _ (by omega), lkN, cr_bit, e1]
theorem x_pop {u : x_S} : x_bitCount ((((x_bt u) &&& 65535).toInt32) ^^^ 60304) = nI (lkN ((uN (x_bt u) % 65536) ^^^ 60304) 16 0 0) := by
  have hT := uN_lt (x_bt u)
  have h := wb_mask (n := uN (x_bt u)) (k := 16) (by omega) (by decide)
  rw [lN_uN] at h
  have hz : (uN (x_bt u) % 65536) ^^^ 60304 < 65536 := Nat.xor_lt_two_pow (n := 16) (by omega) (by decide)
  rw [show (x_bt u) &&& 65535 = lN (uN (x_bt u) % 65536) from h, lN_i, show nI (uN (x_bt u) % 65536) ^^^ 60304 = nI ((uN (x_bt u) % 65536) ^^^ 60304) from nx_xor _ 60304, bc_eq hz, bc_lk hz]
theorem lkN_le (z : Nat) : ∀ n k d, lkN z n k d ≤ d + n := by
  intro n
  induction n with
  | zero => intro k d; exact Nat.le_refl _
  | succ n ih =>
    intro k d
    rw [lkN]
    have h1 := ih (k + 1) (d + z / 2 ^ (15 - k) % 2)
    have h2 := cr_tb2 z (15 - k)
    omega
/-- sixteen bits are looked at -/
theorem r_lfs {C c : Nat} {u : x_S} {v : m_S} (hs : x_st u = 1) (hsm : m_st v = 1) (h2 : x_md u = m_md v) (h3 : ∀ j, j < 5 → x_cn u j = m_cn v j) (h4 : m_sz v ≤ 259 ∧ x_vs u = nI (m_sz v) ∧ ∀ j, j < m_sz v → x_rc u j = m_rc v j) (hrw : m_rw v = 0) (hcC : c ≤ C) (hc : x_cm u = nI c) (hc16 : 16 ≤ c) (hcl : c < 2 ^ 31) (hmn : m_mn v = 16) (hB : ∀ j, j < 16 → m_bi v j = nI (bq (x_bt u) (15 - j))) :
    R_rx C (x_lookForStart u) (m_look v) ∧ x_cn (x_lookForStart u) 1 = x_cn u 1 := by
  have same : R_rx C u v ∧ x_cn u 1 = x_cn u 1 := by
    refine ⟨⟨hs.trans hsm.symm, h2, h3, h4, Or.inr (Or.inl ⟨hsm, hrw, c, hcC, hc, by omega, ?_⟩)⟩, rfl⟩
    intro j hj
    rw [hmn] at hj ⊢
    exact hB j hj
  have ex := x_pop (u := u)
  have em : m_lkF v 16 0 0 = nI (lkN ((uN (x_bt u) % 65536) ^^^ 60304) 16 0 0) := m_lk_N hB 16 0 0 rfl
  have hle := lkN_le ((uN (x_bt u) % 65536) ^^^ 60304) 16 0 0
  unfold x_lookForStart m_look
  rw [ex, em, hc, if_pos (show (16 : Int32) ≤ nI c from (show nI 16 ≤ nI c from nI_le hc16 hcl))]
  generalize lkN ((uN (x_bt u) % 65536) ^^^ 60304) 16 0 0 = d at *
  by_cases d0 : d = 0
  · subst d0
    rw [if_pos nI_0, if_pos nI_0]
    refine ⟨⟨rfl, h2, ?_, h4, Or.inr (Or.inr ⟨rfl, (by decide : 0 < 64), rfl, fun j hj => absurd hj (Nat.not_lt_zero j), ⟨0, by decide, rfl⟩, rfl, fun j hj => absurd hj (Nat.not_lt_zero j)⟩)⟩, ?_⟩
    · intro j hj
      show upd (x_cn u) 0 (x_cn u 0 + 1) j = upd (upd (m_cn v) 0 (m_cn v 0 + 1)) 4 ((upd (m_cn v) 0 (m_cn v 0 + 1)) 4 + nI 0) j
      by_cases e0 : j = 0
      · subst e0; rw [pk_us, pk_un (by decide), pk_us, h3 0 (by decide)]
      · by_cases e4 : j = 4
        · subst e4; rw [pk_us, pk_un (by decide), pk_un (by decide), h3 4 (by decide)]; exact (Int32.add_zero _).symm
        · rw [pk_un e0, pk_un e4, pk_un e0]; exact h3 j hj
    · show upd (x_cn u) 0 (x_cn u 0 + 1) 1 = x_cn u 1
      exact pk_un (by decide)
  · rw [if_neg (nI_ne0 (by omega) (by omega)), if_neg (nI_ne0 (by omega) (by omega))]
    by_cases d1 : d = 1
    · subst d1
      rw [if_pos (show nI 1 = 1 from rfl), if_pos (show nI 1 = 1 from rfl), h2]
      by_cases hm : m_md v = 0
      · rw [if_pos hm, if_pos hm]; exact same
      · rw [if_neg hm, if_neg hm]
        refine ⟨⟨rfl, rfl, ?_, h4, Or.inr (Or.inr ⟨rfl, (by decide : 0 < 64), rfl, fun j hj => absurd hj (Nat.not_lt_zero j), ⟨0, by decide, rfl⟩, rfl, fun j hj => absurd hj (Nat.not_lt_zero j)⟩)⟩, ?_⟩
        · intro j hj
          show upd (upd (x_cn u) 4 (x_cn u 4 + 1)) 0 ((upd (x_cn u) 4 (x_cn u 4 + 1)) 0 + 1) j = upd (upd (m_cn v) 0 (m_cn v 0 + 1)) 4 ((upd (m_cn v) 0 (m_cn v 0 + 1)) 4 + nI 1) j
          by_cases e0 : j = 0
          · subst e0; rw [pk_us, pk_un (by decide), pk_un (by decide), pk_us, h3 0 (by decide)]
          · by_cases e4 : j = 4
            · subst e4; rw [pk_un (by decide), pk_us, pk_us, pk_un (by decide), h3 4 (by decide)]; rfl
            · rw [pk_un e0, pk_un e4, pk_un e4, pk_un e0]; exact h3 j hj
        · show upd (upd (x_cn u) 4 (x_cn u 4 + 1)) 0 ((upd (x_cn u) 4 (x_cn u 4 + 1)) 0 + 1) 1 = x_cn u 1
          rw [pk_un (by decide), pk_un (by decide)]
    · have hn1 : ¬ nI d = 1 := fun e => d1 ((nI_eq (by omega) (by decide)).mp (show nI d = nI 1 from e))
      rw [if_neg hn1, if_neg hn1]
      exact same
theorem b_push {f : Nat → Int32} {x : Int64} {n b : Nat} (hb : b < 2) (hn : n < 64) (h : ∀ j, j < n → f j = nI (bq x (n - 1 - j))) : ∀ j, j < n + 1 → upd f n (nI b) j = nI (bq ((j_lshl x 1) ||| lN b) (n - j)) := by
  intro j hj
  by_cases e : j = n
  · subst e; rw [pk_us, Nat.sub_self, bq_0 x hb]
  · rw [pk_un e, h j (by omega), show n - j = (n - 1 - j) + 1 by omega, bq_s x hb (by omega)]
theorem b_shift {f : Nat → Int32} {x : Int64} {b : Nat} (hb : b < 2) (h : ∀ j, j < 16 → f j = nI (bq x (16 - 1 - j))) : ∀ j, j < 16 → upd (shF 15 0 f) 15 (nI b) j = nI (bq ((j_lshl x 1) ||| lN b) (15 - j)) := by
  intro j hj
  by_cases e : j = 15
  · subst e; rw [pk_us, bq_0 x hb]
  · rw [pk_un e, shF_at, if_pos (by omega), h (j + 1) (by omega), show 15 - j = (16 - 1 - (j + 1)) + 1 by omega, bq_s x hb (by omega)]
theorem m_bit_st {v : m_S} {b : Int32} (h : ¬ m_st v = 0) : ¬ m_st (m_bit v b) = 0 := by
  unfold m_bit
  split
  · rename_i hs
    split
    · rcases m_block_f (m_th v, m_st v, m_md v, m_mn v + 1, m_rw v, m_sz v, m_wn v, m_sn v, upd (m_bi v) (m_mn v) b, m_ro v, m_rc v, m_wt v, m_se v, m_cn v) with ⟨e, -⟩ | ⟨e, -⟩
      · rw [e]; decide
      · rw [e]; exact h
    · exact h
  · split
    · rw [m_sh_full]
      rcases m_look_f (m_th v, m_st v, m_md v, 16, m_rw v, m_sz v, m_wn v, m_sn v, upd (shF 15 0 (m_bi v)) 15 b, m_ro v, m_rc v, m_wt v, m_se v, m_cn v) with e | ⟨e, -⟩
      · rw [e]; exact h
      · rw [e]; decide
    · split
      · rcases m_look_f (m_th v, m_st v, m_md v, m_mn v + 1, m_rw v, m_sz v, m_wn v, m_sn v, upd (m_bi v) (m_mn v) b, m_ro v, m_rc v, m_wt v, m_se v, m_cn v) with e | ⟨e, -⟩
        · rw [e]; exact h
        · rw [e]; decide
      · exact h
/-- ONE BIT, on both sides -/
theorem r_step {C : Nat} {u : x_S} {v : m_S} {b : Nat} (h : R_rx C u v) (hC : C + 1 < 2 ^ 31) (hs0 : ¬ m_st v = 0) (hb : b < 2) : R_rx (C + 1) (x_takeBit u (lN b)) (m_bit v (nI b)) ∧ x_cn (x_takeBit u (lN b)) 1 = x_cn u 1 + m_bit_r v (nI b) := by
  obtain ⟨h1, h2, h3, h4, h5⟩ := h
  rcases h5 with ⟨a1, -⟩ | ⟨a1, a2, c, a3, a4, a5, a6⟩ | ⟨a1, a2, a3, a4, a5, a6, a7⟩
  · exact absurd a1 hs0
  · have hn2 : ¬ m_st v = 2 := by rw [a1]; decide
    unfold x_takeBit m_bit m_bit_r
    rw [if_pos (h1.trans a1), if_neg hn2, if_neg hn2, a4, nI_1]
    by_cases h16 : m_mn v = 16
    · have e16 : nI (m_mn v) = 16 := by rw [h16]; rfl
      rw [if_pos e16, if_pos e16, m_sh_full]
      have z := r_lfs (C := C + 1) (c := c + 1) (u := (x_st u, x_md u, (j_lshl (x_bt u) 1) ||| lN b, nI (c + 1), x_hr u, x_rs u, x_hv u, x_vs u, x_wz u, x_sz u, x_ro u, x_rc u, x_cn u, x_wt u, x_sn u)) (v := (m_th v, m_st v, m_md v, 16, m_rw v, m_sz v, m_wn v, m_sn v, upd (shF 15 0 (m_bi v)) 15 (nI b), m_ro v, m_rc v, m_wt v, m_se v, m_cn v)) (h1.trans a1) a1 h2 h3 h4 a2 (by omega) rfl (by omega) (by omega) rfl (b_shift hb (fun j hj => by have := a6 j (by omega); rw [h16] at this; exact this))
      exact ⟨z.1, z.2.trans (Int32.add_zero _).symm⟩
    · have n16 : ¬ nI (m_mn v) = 16 := fun e => h16 ((nI_eq (by omega) (by decide)).mp (show nI (m_mn v) = nI 16 from e))
      have ec : m_mn v = c := by omega
      rw [if_neg n16, if_neg n16]
      have hB' := b_push hb (show m_mn v < 64 by omega) a6
      by_cases h15 : m_mn v + 1 = 16
      · have e15 : nI (m_mn v + 1) = 16 := by rw [h15]; rfl
        rw [if_pos e15, if_pos e15]
        have z := r_lfs (C := C + 1) (c := c + 1) (u := (x_st u, x_md u, (j_lshl (x_bt u) 1) ||| lN b, nI (c + 1), x_hr u, x_rs u, x_hv u, x_vs u, x_wz u, x_sz u, x_ro u, x_rc u, x_cn u, x_wt u, x_sn u)) (v := (m_th v, m_st v, m_md v, m_mn v + 1, m_rw v, m_sz v, m_wn v, m_sn v, upd (m_bi v) (m_mn v) (nI b), m_ro v, m_rc v, m_wt v, m_se v, m_cn v)) (h1.trans a1) a1 h2 h3 h4 a2 (by omega) rfl (by omega) (by omega) h15 (fun j hj => by
          have := hB' j (by omega)
          rw [show m_mn v = 15 by omega] at this
          show upd (m_bi v) (m_mn v) (nI b) j = _
          rw [show m_mn v = 15 by omega]
          exact this)
        exact ⟨z.1, z.2.trans (Int32.add_zero _).symm⟩
      · have n15 : ¬ nI (m_mn v + 1) = 16 := fun e => h15 ((nI_eq (by omega) (by decide)).mp (show nI (m_mn v + 1) = nI 16 from e))
        rw [if_neg n15, if_neg n15]
        have ex : x_lookForStart (x_st u, x_md u, (j_lshl (x_bt u) 1) ||| lN b, nI (c + 1), x_hr u, x_rs u, x_hv u, x_vs u, x_wz u, x_sz u, x_ro u, x_rc u, x_cn u, x_wt u, x_sn u) = (x_st u, x_md u, (j_lshl (x_bt u) 1) ||| lN b, nI (c + 1), x_hr u, x_rs u, x_hv u, x_vs u, x_wz u, x_sz u, x_ro u, x_rc u, x_cn u, x_wt u, x_sn u) := by
          unfold x_lookForStart
          rw [if_neg (show ¬ (16 : Int32) ≤ nI (c + 1) from (show ¬ nI 16 ≤ nI (c + 1) from nI_ge (by omega) (by decide)))]
        rw [ex]
        refine ⟨⟨h1, h2, h3, h4, Or.inr (Or.inl ⟨a1, a2, c + 1, by omega, rfl, (show m_mn v + 1 = min (c + 1) 16 by omega), hB'⟩)⟩, (Int32.add_zero _).symm⟩
  · have hn1 : ¬ x_st u = 1 := by rw [h1, a1]; decide
    unfold x_takeBit m_bit m_bit_r
    rw [if_neg hn1, if_pos a1, if_pos a1, a3, nI_1]
    have hB' := b_push hb a2 a4
    by_cases h64 : m_mn v + 1 = 64
    · have e64 : nI (m_mn v + 1) = 64 := by rw [h64]; rfl
      rw [if_pos e64, if_pos e64, if_pos e64]
      exact r_lab (C := C + 1) (u := (x_st u, x_md u, (j_lshl (x_bt u) 1) ||| lN b, 0, x_hr u, x_rs u, x_hv u, x_vs u, x_wz u, x_sz u, x_ro u, x_rc u, x_cn u, x_wt u, x_sn u)) (v := (m_th v, m_st v, m_md v, m_mn v + 1, m_rw v, m_sz v, m_wn v, m_sn v, upd (m_bi v) (m_mn v) (nI b), m_ro v, m_rc v, m_wt v, m_se v, m_cn v)) (h1.trans a1) a1 h2 h3 h4 a5 a6 a7 rfl (fun j hj => by
        have := hB' j (by omega)
        rw [show m_mn v = 63 by omega] at this
        show upd (m_bi v) (m_mn v) (nI b) j = _
        rw [show m_mn v = 63 by omega]
        exact this)
    · have n64 : ¬ nI (m_mn v + 1) = 64 := fun e => h64 ((nI_eq (by omega) (by decide)).mp (show nI (m_mn v + 1) = nI 64 from e))
      rw [if_neg n64, if_neg n64, if_neg n64]
      refine ⟨⟨h1, h2, h3, h4, Or.inr (Or.inr ⟨a1, (show m_mn v + 1 < 64 by omega), rfl, hB', a5, a6, a7⟩)⟩, (Int32.add_zero _).symm⟩
end
section
def x_tx (u : x_S) : Int32 × (Nat → Int32) × Int32 × (Nat → Int32) := (x_wz u, x_wt u, x_sz u, x_sn u)
def m_tx (v : m_S) : Nat × (Nat → Int32) × Nat × (Nat → Int32) := (m_wn v, m_wt v, m_sn v, m_se v)
theorem R_tx_eq {u u' : x_S} {v v' : m_S} (hu : x_tx u' = x_tx u) (hv : m_tx v' = m_tx v) (h : R_tx u v) : R_tx u' v' := by
  unfold x_tx at hu
  unfold m_tx at hv
  rw [Prod.mk.injEq, Prod.mk.injEq, Prod.mk.injEq] at hu hv
  obtain ⟨a1, a2, a3, a4⟩ := hu
  obtain ⟨b1, b2, b3, b4⟩ := hv
  unfold R_tx
  rw [a1, a2, a3, a4, b1, b2, b3, b4]
  exact h
theorem x_tx_et (u : x_S) : x_tx (x_endTransmission u) = x_tx u := by
  unfold x_endTransmission
  split <;> rfl
theorem x_tx_kd (d : Int64) : ∀ (n : Nat) (u : x_S), x_tx (x_kdF d n u) = x_tx u := by
  intro n
  induction n with
  | zero => intro u; rfl
  | succ n ih =>
    intro u
    rw [x_kdF]
    split
    · rfl
    · split
      · rfl
      · rw [ih]; rfl
theorem x_tx_keep (u : x_S) (a : Int64) : x_tx (x_keepData u a) = x_tx u := by
  unfold x_keepData
  split
  · rw [x_tx_et, x_tx_kd]; rfl
  · rw [x_tx_kd]; rfl
theorem x_tx_lab (u : x_S) : x_tx (x_lookAtBlock u) = x_tx u := by
  unfold x_lookAtBlock
  split
  · exact x_tx_keep _ _
  · split
    · exact x_tx_et _
    · split
      · exact x_tx_et _
      · rw [x_tx_keep]; rfl
theorem x_tx_lfs (u : x_S) : x_tx (x_lookForStart u) = x_tx u := by
  unfold x_lookForStart
  split
  · split
    · rfl
    · split
      · split <;> rfl
      · rfl
  · rfl
theorem x_tx_tb (u : x_S) (a : Int64) : x_tx (x_takeBit u a) = x_tx u := by
  unfold x_takeBit
  split
  · rw [x_tx_lfs]; rfl
  · split
    · rw [x_tx_lab]; rfl
    · rfl
theorem x_tx_tk (w : Int64) : ∀ (n : Nat) (u : x_S), x_tx (x_tkF w n u) = x_tx u := by
  intro n
  induction n with
  | zero => intro u; rfl
  | succ n ih => intro u; rw [x_tkF, ih, x_tx_tb]
theorem m_tx_ends (v : m_S) : m_tx (m_ends v) = m_tx v := by rw [m_ends_full]; rfl
theorem m_tx_block (v : m_S) : m_tx (m_block v) = m_tx v := by
  by_cases h : m_wrong v = (-2)
  · rw [(m_end_block v h).1]; exact m_tx_ends v
  · rw [(m_keep_full v _ rfl h).1]
    split
    · rw [m_tx_ends]; rfl
    · rfl
theorem m_tx_look (v : m_S) : m_tx (m_look v) = m_tx v := by
  unfold m_look
  split
  · rfl
  · split
    · split <;> rfl
    · rfl
theorem m_tx_bit (v : m_S) (b : Int32) : m_tx (m_bit v b) = m_tx v := by
  unfold m_bit
  split
  · split
    · rw [m_tx_block]; rfl
    · rfl
  · split
    · rw [m_sh_full, m_tx_look]; rfl
    · split
      · rw [m_tx_look]; rfl
      · rfl
theorem m_tx_tk (w : Int64) : ∀ (n : Nat) (v : m_S), m_tx (m_tkF w n v) = m_tx v := by
  intro n
  induction n with
  | zero => intro v; rfl
  | succ n ih => intro v; rw [m_tkF, ih, m_tx_bit]
theorem i_sum (z r a c : Int32) : (z + r) + (a - (c + r)) = z + (a - c) := by grind
theorem r_tk (w : Int64) : ∀ (n C : Nat) (u : x_S) (v : m_S) (z : Int32), n ≤ 64 → C + n < 2 ^ 31 → R_rx C u v → ¬ m_st v = 0 → R_rx (C + n) (x_tkF w n u) (m_tkF w n v) ∧ m_tkE w n v z = z + (x_cn (x_tkF w n u) 1 - x_cn u 1) := by
  intro n
  induction n with
  | zero =>
    intro C u v z _ _ h _
    refine ⟨h, ?_⟩
    show z = z + (x_cn u 1 - x_cn u 1)
    rw [Int32.sub_self, Int32.add_zero]
  | succ n ih =>
    intro C u v z hn hC h hs
    have hb : uN w / 2 ^ n % 2 < 2 := cr_tb2 _ _
    obtain ⟨s1, s2⟩ := r_step h (by omega) hs hb
    obtain ⟨i1, i2⟩ := ih (C + 1) _ _ (z + m_bit_r v (nI (uN w / 2 ^ n % 2))) (by omega) (by omega) s1 (m_bit_st hs)
    rw [x_tkF, m_tkF, m_tkE, x_bit_eq w (by omega), m_tb_eq w (by omega), i2, s2, i_sum]
    rw [show C + (n + 1) = C + 1 + n by omega]
    exact ⟨i1, rfl⟩
theorem r_take {k : Nat} {u : x_S} {v : m_S} (hk : k < 512) (h : Rel k u v) (a0 : Int32) (a1 : Int64) : x_take_r u a0 a1 = m_take_r v a0 a1 ∧ Rel (k + 1) (x_take u a0 a1) (m_take v a0 a1) := by
  have ht := h.th0
  have e1 := h.1.1
  unfold x_take_r m_take_r x_take m_take
  rw [e1]
  by_cases h0 : m_st v = 0
  · rw [if_pos h0, if_pos h0, if_pos h0, if_pos h0]; exact ⟨rfl, ht⟩
  · rw [if_neg h0, if_neg h0, if_neg h0, if_neg h0]
    by_cases h1 : a0 < 1
    · rw [if_pos h1, if_pos h1, if_pos h1, if_pos h1]; exact ⟨rfl, ht⟩
    · rw [if_neg h1, if_neg h1, if_neg h1, if_neg h1]
      by_cases h2 : a0 ≤ 64
      · rw [if_pos h2, if_pos h2, if_pos h2, if_pos h2]
        obtain ⟨-, hn⟩ := j_take h1 h2
        generalize a0.toNatClampNeg = n at hn
        have hx : R_rx (64 * k) u (m_th0 v) := h.1
        obtain ⟨i1, i2⟩ := r_tk a1 n (64 * k) u (m_th0 v) 0 hn (by omega) hx h0
        refine ⟨?_, i1.mono (by omega), R_tx_eq (x_tx_tk a1 n u) (m_tx_tk a1 n (m_th0 v)) h.2⟩
        refine Eq.trans ?_ i2.symm
        rw [Int32.zero_add]
      · rw [if_neg h2, if_neg h2, if_neg h2, if_neg h2]; exact ⟨rfl, ht⟩
end
section
/-! the receivers are not touched by send -/
def x_rx (u : x_S) : Int32 × Int32 × Int64 × Int32 × Int32 × Int32 × (Nat → Int32) × (Nat → Int32) × (Nat → Int32) := (x_st u, x_md u, x_bt u, x_cm u, x_rs u, x_vs u, x_ro u, x_rc u, x_cn u)
def m_rx (v : m_S) : Int32 × Int32 × Nat × Nat × Nat × (Nat → Int32) × (Nat → Int32) × (Nat → Int32) × (Nat → Int32) := (m_st v, m_md v, m_mn v, m_rw v, m_sz v, m_bi v, m_ro v, m_rc v, m_cn v)
theorem R_rx_eq {C : Nat} {u u' : x_S} {v v' : m_S} (hu : x_rx u' = x_rx u) (hv : m_rx v' = m_rx v) (h : R_rx C u v) : R_rx C u' v' := by
  unfold x_rx at hu
  unfold m_rx at hv
  rw [Prod.mk.injEq, Prod.mk.injEq, Prod.mk.injEq, Prod.mk.injEq, Prod.mk.injEq, Prod.mk.injEq, Prod.mk.injEq, Prod.mk.injEq] at hu hv
  obtain ⟨a1, a2, a3, a4, a5, a6, a7, a8, a9⟩ := hu
  obtain ⟨b1, b2, b3, b4, b5, b6, b7, b8, b9⟩ := hv
  unfold R_rx
  rw [a1, a2, a3, a4, a5, a6, a7, a8, a9, b1, b2, b3, b4, b5, b6, b7, b8, b9]
  exact h
theorem x_rx_sb (d : Int64) : ∀ (n : Nat) (u : x_S), x_rx (x_sbF d n u) = x_rx u := by
  intro n
  induction n with
  | zero => intro u; rfl
  | succ n ih =>
    intro u
    rw [x_sbF]
    split
    · rfl
    · split
      · rfl
      · rw [ih]; rfl
theorem x_rx_put (u : x_S) (b : Int32) : x_rx (x_put u b) = x_rx u := by
  unfold x_put
  split
  · rfl
  · split <;> rfl
theorem x_rx_fl : ∀ (n : Nat) (u : x_S), x_rx (x_flF n u) = x_rx u := by
  intro n
  induction n with
  | zero => intro u; rfl
  | succ n ih =>
    intro u
    rw [x_flF]
    split
    · rfl
    · rw [ih, x_rx_put]
theorem x_rx_s1 : ∀ (n i : Nat) (u : x_S), x_rx (x_s1F n i u) = x_rx u := by
  intro n
  induction n with
  | zero => intro i u; rfl
  | succ n ih => intro i u; rw [x_s1F, ih, x_sendBytes, x_rx_sb]
theorem x_rx_s2 : ∀ (n i : Nat) (u : x_S), x_rx (x_s2F n i u) = x_rx u := by
  intro n
  induction n with
  | zero => intro i u; rfl
  | succ n ih => intro i u; rw [x_s2F, ih, x_sendBytes, x_rx_sb]
theorem x_rx_send (u : x_S) (q : Nat) : x_rx (x_sendT u q) = x_rx u := by
  unfold x_sendT
  rw [x_rx_s2, x_rx_s1, x_sendBytes, x_rx_sb]
  show x_rx (x_fillLastBlock u) = _
  exact x_rx_fl 6 u
theorem m_rx_wa : ∀ (n : Nat) (v : m_S), m_rx (m_waF n v) = m_rx v := by
  intro n
  induction n with
  | zero => intro v; rfl
  | succ n ih =>
    intro v
    rw [m_waF]
    split
    · rfl
    · rw [ih]; rfl
theorem m_rx_oc (i : Nat) : ∀ (n k : Nat) (v : m_S), m_rx (m_ocF i n k v) = m_rx v := by
  intro n
  induction n with
  | zero => intro k v; rfl
  | succ n ih => intro k v; rw [m_ocF, ih]; rfl
theorem m_rx_sB : ∀ (n i : Nat) (v : m_S), m_rx (m_sB n i v) = m_rx v := by
  intro n
  induction n with
  | zero => intro i v; rfl
  | succ n ih =>
    intro i v
    rw [m_sB, ih]
    show m_rx (m_ocF i 7 0 v) = _
    exact m_rx_oc i 7 0 v
theorem m_rx_od : ∀ (n k : Nat) (v : m_S), m_rx (m_odF n k v) = m_rx v := by
  intro n
  induction n with
  | zero => intro k v; rfl
  | succ n ih => intro k v; rw [m_odF, ih]; rfl
theorem m_rx_send (v : m_S) : m_rx (m_sendT v) = m_rx v := by
  unfold m_sendT
  show m_rx (m_odF 7 0 (m_sB ((m_wn v + 6) / 7) 0 (m_sendA v))) = _
  rw [m_rx_od, m_rx_sB]
  show m_rx (m_waF 7 (m_th0 v)) = _
  rw [m_rx_wa]
  rfl
/-! the arrays of the senders -/
theorem x_sb_full (d : Int64) : ∀ (n : Nat) (u : x_S) (s : Nat), x_sz u = nI s → s + n ≤ 306 → x_sbF d n u = (x_st u, x_md u, x_bt u, x_cm u, x_hr u, x_rs u, x_hv u, x_vs u, x_wz u, nI (s + n), x_ro u, x_rc u, x_cn u, x_wt u, kdF d n s (x_sn u)) := by
  intro n
  induction n with
  | zero => intro u s e h; rw [Nat.add_zero, ← e]; rfl
  | succ n ih =>
    intro u s e h
    rw [x_sbF, e, if_neg (nI_pos (by omega)), if_neg (show ¬ (306 : Int32) ≤ nI s from (show ¬ nI 306 ≤ nI s from nI_ge (by omega) (by decide))), nI_clamp (by omega), nI_1, ih _ (s + 1) rfl (by omega)]
    show (x_st u, x_md u, x_bt u, x_cm u, x_hr u, x_rs u, x_hv u, x_vs u, x_wz u, nI (s + 1 + n), x_ro u, x_rc u, x_cn u, x_wt u, kdF d n (s + 1) (upd (x_sn u) s (x_byteOf d (nI n)))) = _
    rw [show s + 1 + n = s + (n + 1) by omega]
    rfl
def padF : Nat → Nat → (Nat → Int32) → (Nat → Int32)
  | 0, _, f => f
  | n + 1, w, f => if w % 7 = 0 then f else padF n (w + 1) (upd f w 85)
theorem padF_at : ∀ (n w : Nat) (f : Nat → Int32) (j : Nat), (w % 7 = 0 ∨ 7 ≤ n + w % 7) → padF n w f j = if w ≤ j ∧ j < 7 * ((w + 6) / 7) then 85 else f j := by
  intro n
  induction n with
  | zero => intro w f j h; rw [if_neg (by omega)]; rfl
  | succ n ih =>
    intro w f j h
    rw [padF]
    by_cases h0 : w % 7 = 0
    · rw [if_pos h0, if_neg (by omega)]
    · rw [if_neg h0, ih (w + 1) _ j (by omega)]
      by_cases e : j = w
      · subst e; rw [if_neg (by omega), if_pos (by omega), pk_us]
      · rw [pk_un e]
        by_cases c : w ≤ j ∧ j < 7 * ((w + 6) / 7)
        · rw [if_pos c, if_pos (by omega)]
        · rw [if_neg c, if_neg (by omega)]
theorem x_fl_wt : ∀ (n : Nat) (u : x_S) (w : Nat), x_wz u = nI w → w ≤ 259 → x_wt (x_flF n u) = padF n w (x_wt u) ∧ x_sn (x_flF n u) = x_sn u := by
  intro n
  induction n with
  | zero => intro u w e h; exact ⟨rfl, rfl⟩
  | succ n ih =>
    intro u w e h
    have er : x_wz u - x_wz u / 7 * 7 = nI (w % 7) := by
      rw [e]; exact pk_rem (by omega) (by decide) (by decide)
    rw [x_flF, er, padF]
    by_cases h0 : w % 7 = 0
    · rw [h0, if_pos nI_0, if_pos rfl]; exact ⟨rfl, rfl⟩
    · rw [if_neg (nI_ne0 (by omega) (by omega)), if_neg h0, x_put_at 85 e (by omega)]
      obtain ⟨g1, g2⟩ := ih (x_st u, x_md u, x_bt u, x_cm u, x_hr u, x_rs u, x_hv u, x_vs u, nI (w + 1), x_sz u, x_ro u, x_rc u, x_cn u, upd (x_wt u) w (85 &&& 255), x_sn u) (w + 1) rfl (by omega)
      rw [g1, g2]
      exact ⟨rfl, rfl⟩
theorem m_wa_wt : ∀ (n : Nat) (v : m_S), m_wn v ≤ 259 → m_wt (m_waF n v) = padF n (m_wn v) (m_wt v) := by
  intro n
  induction n with
  | zero => intro v h; rfl
  | succ n ih =>
    intro v h
    rw [m_waF, padF]
    by_cases h0 : m_wn v % 7 = 0
    · rw [h0, if_pos nI_0, if_pos rfl]
    · rw [if_neg (nI_ne0 (by omega) (by omega)), if_neg h0, ih _ (show m_wn v + 1 ≤ 259 by omega)]
def ocF (g : Nat → Int32) (i : Nat) : Nat → Nat → Nat → (Nat → Int32) → (Nat → Int32)
  | 0, _, _, f => f
  | n + 1, k, s, f => ocF g i n (k + 1) (s + 1) (upd f s (g ((7 * i) + k)))
theorem ocF_at (g : Nat → Int32) (i : Nat) : ∀ (n k s : Nat) (f : Nat → Int32) (j : Nat), ocF g i n k s f j = if s ≤ j ∧ j < s + n then g ((7 * i) + (k + (j - s))) else f j := by
  intro n
  induction n with
  | zero => intro k s f j; rw [if_neg (by omega)]; rfl
  | succ n ih =>
    intro k s f j
    rw [ocF, ih]
    by_cases h : j = s
    · subst h
      rw [if_neg (by omega), if_pos (by omega), pk_us, Nat.sub_self]
      rfl
    · rw [pk_un h]
      by_cases h2 : s ≤ j ∧ j < s + (n + 1)
      · rw [if_pos h2, if_pos (by omega), show k + 1 + (j - (s + 1)) = k + (j - s) by omega]
      · rw [if_neg h2, if_neg (by omega)]
theorem m_oc_full (i : Nat) : ∀ (n k : Nat) (v : m_S), m_ocF i n k v = (m_th v, m_st v, m_md v, m_mn v, m_rw v, m_sz v, m_wn v, m_sn v + n, m_bi v, m_ro v, m_rc v, m_wt v, ocF (m_wt v) i n k (m_sn v) (m_se v), m_cn v) := by
  intro n
  induction n with
  | zero => intro k v; rfl
  | succ n ih =>
    intro k v
    rw [m_ocF, ih]
    show (m_th v, m_st v, m_md v, m_mn v, m_rw v, m_sz v, m_wn v, m_sn v + 1 + n, m_bi v, m_ro v, m_rc v, m_wt v, ocF (m_wt v) i n (k + 1) (m_sn v + 1) (upd (m_se v) (m_sn v) ((m_wt v) ((7 * i) + k))), m_cn v) = _
    rw [show m_sn v + 1 + n = m_sn v + (n + 1) by omega]
    rfl
def odF : Nat → Nat → (Nat → Int32) → (Nat → Int32)
  | 0, _, f => f
  | n + 1, s, f => odF n (s + 1) (upd f s 197)
theorem odF_at : ∀ (n s : Nat) (f : Nat → Int32) (j : Nat), odF n s f j = if s ≤ j ∧ j < s + n then 197 else f j := by
  intro n
  induction n with
  | zero => intro s f j; rw [if_neg (by omega)]; rfl
  | succ n ih =>
    intro s f j
    rw [odF, ih]
    by_cases h : j = s
    · subst h
      rw [if_neg (by omega), if_pos (by omega), pk_us]
    · rw [pk_un h]
      by_cases h2 : s ≤ j ∧ j < s + (n + 1)
      · rw [if_pos h2, if_pos (by omega)]
      · rw [if_neg h2, if_neg (by omega)]
theorem m_od_full : ∀ (n k : Nat) (v : m_S), m_odF n k v = (m_th v, m_st v, m_md v, m_mn v, m_rw v, m_sz v, m_wn v, m_sn v + n, m_bi v, m_ro v, m_rc v, m_wt v, odF n (m_sn v) (m_se v), m_cn v) := by
  intro n
  induction n with
  | zero => intro k v; rfl
  | succ n ih =>
    intro k v
    rw [m_odF, ih]
    show (m_th v, m_st v, m_md v, m_mn v, m_rw v, m_sz v, m_wn v, m_sn v + 1 + n, m_bi v, m_ro v, m_rc v, m_wt v, odF n (m_sn v + 1) (upd (m_se v) (m_sn v) 197), m_cn v) = _
    rw [show m_sn v + 1 + n = m_sn v + (n + 1) by omega]
    rfl
end
section
/-! one code block of the senders -/
def wdN (g : Nat → Nat) : Nat → Nat → Nat → Nat
  | 0, _, d => d
  | n + 1, j, d => wdN g n (j + 1) (d * 256 + g j)
theorem x_wd_N {u : x_S} {g : Nat → Nat} {J : Nat} (hg : ∀ j, j < J → x_wt u j = nI (g j) ∧ g j < 256) : ∀ (n j d : Nat), j + n ≤ J → n ≤ 7 → d < 2 ^ (8 * (7 - n)) → x_wdF u n j (lN d) = lN (wdN g n j d) := by
  intro n
  induction n with
  | zero => intro j d _ _ _; rfl
  | succ n ih =>
    intro j d h h7 hd
    obtain ⟨e1, e2⟩ := hg j (by omega)
    have hp : 2 ^ (8 * (7 - (n + 1))) ≤ 2 ^ 48 := Nat.pow_le_pow_right (by decide) (by omega)
    have e3 : j_lshl (lN d) 8 = lN (d * 256) := wb_shl d (k := 8) (by decide)
    have hn : d * 256 + g j < 2 ^ (8 * (7 - n)) := by
      have : 2 ^ (8 * (7 - n)) = 2 ^ (8 * (7 - (n + 1))) * 256 := by
        rw [show 8 * (7 - n) = 8 * (7 - (n + 1)) + 8 by omega, Nat.pow_add]
      rw [this]
      generalize 2 ^ (8 * (7 - (n + 1))) = P at *
      omega
    rw [x_wdF, e1, nI_l (by omega), e3, g_or (k := 8) (p := 256) rfl e2 (by omega), ih (j + 1) _ (by omega) (by omega) hn]
    rfl
/-- the data of block i -/
def dN (g : Nat → Nat) (i : Nat) : Nat := wdN g 7 (7 * i) 0
theorem dN_eq (g : Nat → Nat) (i : Nat) : dN g i = ((((((g (7 * i)) * 256 + g (7 * i + 1)) * 256 + g (7 * i + 2)) * 256 + g (7 * i + 3)) * 256 + g (7 * i + 4)) * 256 + g (7 * i + 5)) * 256 + g (7 * i + 6) := by
  show wdN g 7 (7 * i) 0 = _
  simp only [wdN, Nat.zero_mul, Nat.zero_add]
theorem dN_b {g : Nat → Nat} {i : Nat} (hg : ∀ t, t < 7 → g (7 * i + t) < 256) : dN g i < 2 ^ 56 ∧ ∀ t, t < 7 → dN g i / 2 ^ (8 * (6 - t)) % 256 = g (7 * i + t) := by
  have h0 : g (7 * i) < 256 := hg 0 (by decide)
  have h1 := hg 1 (by decide)
  have h2 := hg 2 (by decide)
  have h3 := hg 3 (by decide)
  have h4 := hg 4 (by decide)
  have h5 := hg 5 (by decide)
  have h6 := hg 6 (by decide)
  rw [dN_eq]
  refine ⟨by omega, ?_⟩
  intro t ht
  rcases (show t = 0 ∨ t = 1 ∨ t = 2 ∨ t = 3 ∨ t = 4 ∨ t = 5 ∨ t = 6 by omega) with rfl | rfl | rfl | rfl | rfl | rfl | rfl
  · show _ / 2 ^ 48 % 256 = g (7 * i)
    omega
  · show _ / 2 ^ 40 % 256 = _
    omega
  · show _ / 2 ^ 32 % 256 = _
    omega
  · show _ / 2 ^ 24 % 256 = _
    omega
  · show _ / 2 ^ 16 % 256 = _
    omega
  · show _ / 2 ^ 8 % 256 = _
    omega
  · show _ / 2 ^ 0 % 256 = _
    omega
/-- the check bits of data D, turned round -/
def yN (D : Nat) : Nat := (cr_rem (D * 128) 63 0) ^^^ 127
theorem yN_lt (D : Nat) : yN D < 128 := cr_x128 (cr_rem_lt _ 63 0 (by decide)) (by decide)
theorem x_blk {D : Nat} (h : D < 2 ^ 56) : x_blockOf (lN D) = lN ((D * 128 + yN D) * 2) := by
  have hr : cr_rem (D * 128) 63 0 < 128 := cr_rem_lt _ 63 0 (by decide)
  have hy := yN_lt D
  unfold x_blockOf
  rw [show j_lshl (lN D) 7 = lN (D * 128) from wb_shl D (k := 7) (by decide), cr_remainder (by omega), show nI (cr_rem (D * 128) 63 0) ^^^ 127 = nI (yN D) from nx_xor _ 127, nI_l (by omega), g_or (k := 7) (p := 128) rfl hy (by omega)]
  exact wb_shl (D * 128 + yN D) (k := 1) (by decide)
theorem x_blk_b {D : Nat} (h : D < 2 ^ 56) : (∀ t, t < 7 → x_byteOf (x_blockOf (lN D)) (nI (7 - t)) = nI (D / 2 ^ (8 * (6 - t)) % 256)) ∧ x_byteOf (x_blockOf (lN D)) (nI 0) = nI (2 * yN D) := by
  have hy := yN_lt D
  rw [x_blk h]
  refine ⟨?_, ?_⟩
  · intro t ht
    rw [x_byte_eq (by omega) (by omega)]
    congr 1
    rw [show 8 * (7 - t) = 8 + 8 * (6 - t) by omega, Nat.pow_add, ← Nat.div_div_eq_div_mul]
    congr 2
    omega
  · rw [x_byte_eq (by omega) (by decide)]
    congr 1
    show (D * 128 + yN D) * 2 / 2 ^ 0 % 256 = _
    omega
/-! the reference's search for the check bits -/
theorem ck_lo : ∀ b, b < 256 → ∀ s, s < 8 → ((nI b) >>> ((7 - (nI s)) &&& 31)) &&& 1 = nI (b / 2 ^ (7 - s) % 2) := by decide +kernel
theorem ck_hi : ∀ c, c < 128 → ∀ s, s < 7 → 1 - (((nI c) >>> ((62 - (nI (56 + s))) &&& 31)) &&& 1) = nI ((c ^^^ 127) / 2 ^ (6 - s) % 2) := by decide +kernel
theorem bit_mod (X s n : Nat) (h : s < n) : (X % 2 ^ n) / 2 ^ s % 2 = X / 2 ^ s % 2 := by
  rw [cr_tb, cr_tb, Nat.testBit_mod_two_pow, decide_eq_true h, Bool.true_and]
theorem m_ck_bit {u : m_S} {g : Nat → Nat} {i c : Nat} (hc : c < 128) (hg : ∀ t, t < 7 → m_wt u (7 * i + t) = nI (g (7 * i + t)) ∧ g (7 * i + t) < 256) (k : Nat) (hk : k < 63) : m_ckB u (7 * i) c k = nI ((dN g i * 128 + (c ^^^ 127)) / 2 ^ (62 - k) % 2) := by
  have hy : c ^^^ 127 < 128 := cr_x128 hc (by decide)
  unfold m_ckB
  by_cases h : 56 ≤ k
  · obtain ⟨s, rfl⟩ : ∃ s, k = 56 + s := ⟨k - 56, by omega⟩
    rw [if_pos (show (56 : Int32) ≤ nI (56 + s) from (show nI 56 ≤ nI (56 + s) from nI_le h (by omega))), ck_hi c hc s (by omega)]
    congr 1
    rw [show 62 - (56 + s) = 6 - s by omega, ← bit_mod (dN g i * 128 + (c ^^^ 127)) (6 - s) 7 (by omega)]
    congr 2
    omega
  · rw [if_neg (show ¬ (56 : Int32) ≤ nI k from (show ¬ nI 56 ≤ nI k from nI_ge (by omega) (by decide)))]
    obtain ⟨e1, e2⟩ := hg (k / 8) (by omega)
    obtain ⟨-, hb⟩ := dN_b (i := i) (fun t ht => (hg t ht).2)
    rw [e1, ck_lo _ e2 (k % 8) (by omega), ← hb (k / 8) (by omega)]
    congr 1
    rw [show (256 : Nat) = 2 ^ 8 from rfl, bit_mod _ _ 8 (by omega), Nat.div_div_eq_div_mul, ← Nat.pow_add, show 62 - k = 7 + (8 * (6 - k / 8) + (7 - k % 8)) by omega, Nat.pow_add 2 7, ← Nat.div_div_eq_div_mul]
    congr 2
    omega
theorem m_ci_rem {u : m_S} {fr c E : Nat} (hE : ∀ k, k < 63 → m_ckB u fr c k = nI (E / 2 ^ (62 - k) % 2)) : ∀ n k r, k + n = 63 → r < 128 → m_ciF u fr c n k (nI r) = nI (cr_rem E n r) := by
  intro n
  induction n with
  | zero => intro k r _ _; rfl
  | succ n ih =>
    intro k r h hr
    have e : 62 - k = n := by omega
    rw [m_ciF, hE k (by omega), e, cr_rd r hr _ (cr_tb2 _ _), ih (k + 1) _ (by omega) (cr_st_x r hr _ (cr_tb2 _ _)).2]
    rfl
theorem cr_small : ∀ y, y < 128 → cr_rem y 63 0 = y := by decide +kernel
theorem add_xor {D y : Nat} (hy : y < 128) : D * 128 + y = (D * 128) ^^^ y := by
  have h1 : ((D * 128) ^^^ y) / 2 ^ 7 = D := by
    rw [Nat.xor_div_two_pow, show D * 128 / 2 ^ 7 = D by omega, show y / 2 ^ 7 = 0 by omega, Nat.xor_zero]
  have h2 : ((D * 128) ^^^ y) % 2 ^ 7 = y := by
    rw [Nat.xor_mod_two_pow, show D * 128 % 2 ^ 7 = 0 by omega, show y % 2 ^ 7 = y by omega, Nat.zero_xor]
  generalize (D * 128) ^^^ y = z at *
  omega
theorem xor_back {a b : Nat} (h : a = b ^^^ 127) : b = a ^^^ 127 := by
  rw [h, Nat.xor_assoc, Nat.xor_self, Nat.xor_zero]
theorem m_ck_at {u : m_S} {g : Nat → Nat} {i c : Nat} (hc : c < 128) (hg : ∀ t, t < 7 → m_wt u (7 * i + t) = nI (g (7 * i + t)) ∧ g (7 * i + t) < 256) : m_ciF u (7 * i) c 63 0 0 = 0 ↔ c = yN (dN g i) := by
  have hy : c ^^^ 127 < 128 := cr_x128 hc (by decide)
  have e : m_ciF u (7 * i) c 63 0 0 = nI (cr_rem (dN g i * 128 + (c ^^^ 127)) 63 0) := m_ci_rem (m_ck_bit hc hg) 63 0 0 rfl (by decide)
  have hx : cr_rem (dN g i * 128 + (c ^^^ 127)) 63 0 = cr_rem (dN g i * 128) 63 0 ^^^ (c ^^^ 127) := by
    rw [add_xor hy]
    have := cr_rem_lin (dN g i * 128) (c ^^^ 127) 63 0 0 (by decide) (by decide)
    rw [cr_small _ hy] at this
    exact this
  have hl := cr_rem_lt (dN g i * 128 + (c ^^^ 127)) 63 0 (by decide)
  rw [e]
  constructor
  · intro h
    have h0 : cr_rem (dN g i * 128 + (c ^^^ 127)) 63 0 = 0 := (nI_eq (by omega) (by decide)).mp (show nI _ = nI 0 from h)
    rw [hx] at h0
    exact xor_back (xor0 h0)
  · intro h
    have h5 : cr_rem (dN g i * 128) 63 0 = c ^^^ 127 := xor_back (show c = cr_rem (dN g i * 128) 63 0 ^^^ 127 from h)
    rw [hx, h5, Nat.xor_self]
    rfl
theorem m_co_N {u : m_S} {fr y : Nat} (hy : ∀ c, c < 128 → (m_ciF u fr c 63 0 0 = 0 ↔ c = y)) : ∀ n c f, c + n = 128 → m_coF u fr n c f = if c ≤ y ∧ y < c + n then nI (2 * y) else f := by
  intro n
  induction n with
  | zero => intro c f _; rw [if_neg (by omega)]; rfl
  | succ n ih =>
    intro c f h
    rw [m_coF, ih _ _ (by omega)]
    by_cases e : c = y
    · rw [if_pos ((hy c (by omega)).mpr e), if_neg (by omega), if_pos (by omega), e]
    · rw [if_neg (fun q => e ((hy c (by omega)).mp q))]
      by_cases c2 : c ≤ y ∧ y < c + (n + 1)
      · rw [if_pos c2, if_pos (by omega)]
      · rw [if_neg c2, if_neg (by omega)]
theorem m_check_eq {u : m_S} {g : Nat → Nat} {i : Nat} (hg : ∀ t, t < 7 → m_wt u (7 * i + t) = nI (g (7 * i + t)) ∧ g (7 * i + t) < 256) : m_check u (7 * i) = nI (2 * yN (dN g i)) := by
  have hy := yN_lt (dN g i)
  unfold m_check
  rw [m_co_N (y := yN (dN g i)) (fun c hc => m_ck_at hc hg) 128 0 0 rfl, if_pos (by omega)]
end
section
def S_i (Q : Nat) (u : x_S) (v : m_S) : Prop := x_sz u = nI (m_sn v) ∧ (∀ j, j < m_sn v → x_sn u j = m_se v j) ∧ ∀ j, j < Q → x_wt u j = m_wt v j ∧ ∃ b, b < 256 ∧ m_wt v j = nI b
theorem s_block {Q i : Nat} {u : x_S} {v : m_S} (h : S_i Q u v) (hi : 7 * i + 7 ≤ Q) (hs : m_sn v + 8 ≤ 306) : S_i Q (x_sendBytes u (x_blockOf (x_waitingData u (7 * i))) 8) (m_out (m_ocF i 7 0 v) (m_check (m_ocF i 7 0 v) (7 * i))) := by
  obtain ⟨h1, h2, h3⟩ := h
  have hg : ∀ j, j < Q → m_wt v j = nI ((fun j => (m_wt v j).toNatClampNeg) j) ∧ (fun j => (m_wt v j).toNatClampNeg) j < 256 := by
    intro j hj
    obtain ⟨-, b, hb, e⟩ := h3 j hj
    show m_wt v j = nI (m_wt v j).toNatClampNeg ∧ (m_wt v j).toNatClampNeg < 256
    rw [e, nI_clamp (by omega)]
    exact ⟨rfl, hb⟩
  generalize (fun j => (m_wt v j).toNatClampNeg) = g at hg
  have hgx : ∀ j, j < Q → x_wt u j = nI (g j) ∧ g j < 256 := fun j hj => ⟨(h3 j hj).1.trans (hg j hj).1, (hg j hj).2⟩
  have ed : x_waitingData u (7 * i) = lN (dN g i) := x_wd_N hgx 7 (7 * i) 0 (by omega) (by decide) (by decide)
  obtain ⟨hD, hDb⟩ := dN_b (g := g) (i := i) (fun t ht => (hg (7 * i + t) (by omega)).2)
  obtain ⟨hb7, hb0⟩ := x_blk_b hD
  rw [ed, x_sendBytes, x_sb_full _ 8 u (m_sn v) h1 hs, m_oc_full, m_check_eq (g := g) (i := i) (u := (m_th v, m_st v, m_md v, m_mn v, m_rw v, m_sz v, m_wn v, m_sn v + 7, m_bi v, m_ro v, m_rc v, m_wt v, ocF (m_wt v) i 7 0 (m_sn v) (m_se v), m_cn v)) (fun t ht => hg (7 * i + t) (by omega))]
  refine ⟨rfl, ?_, h3⟩
  intro j hj
  have hj : j < m_sn v + 7 + 1 := hj
  show kdF (x_blockOf (lN (dN g i))) 8 (m_sn v) (x_sn u) j = upd (ocF (m_wt v) i 7 0 (m_sn v) (m_se v)) (m_sn v + 7) (nI (2 * yN (dN g i))) j
  rw [kdF_at]
  by_cases e : j = m_sn v + 7
  · subst e
    rw [pk_us, if_pos (by omega), show 8 - 1 - (m_sn v + 7 - m_sn v) = 0 by omega]
    exact hb0
  · rw [pk_un e, ocF_at]
    by_cases c : m_sn v ≤ j
    · rw [if_pos (by omega), if_pos (by omega), show 8 - 1 - (j - m_sn v) = 7 - (j - m_sn v) by omega, hb7 _ (by omega), hDb _ (by omega), Nat.zero_add]
      exact (hg _ (by omega)).1.symm
    · rw [if_neg (by omega), if_neg (by omega)]
      exact h2 j (by omega)
theorem s_loop {Q : Nat} : ∀ (n i : Nat) (u : x_S) (v : m_S), S_i Q u v → 7 * (i + n) ≤ Q → m_sn v + 8 * n ≤ 306 → S_i Q (x_s1F n i u) (m_sB n i v) := by
  intro n
  induction n with
  | zero => intro i u v h _ _; exact h
  | succ n ih =>
    intro i u v h hi hs
    rw [x_s1F, m_sB]
    refine ih (i + 1) _ _ (s_block h (by omega) (by omega)) (by omega) ?_
    show m_sn (m_ocF i 7 0 v) + 1 + 8 * n ≤ 306
    rw [(m_oc_f i 7 0 v).2]
    omega
def tlF : Nat → Nat → Nat → (Nat → Int32) → (Nat → Int32)
  | 0, _, _, f => f
  | n + 1, j, s, f => tlF n (j + 1) (s + 1) (upd f s (x_tl j))
theorem tlF_at : ∀ (n j s : Nat) (f : Nat → Int32) (i : Nat), tlF n j s f i = if s ≤ i ∧ i < s + n then x_tl (j + (i - s)) else f i := by
  intro n
  induction n with
  | zero => intro j s f i; rw [if_neg (by omega)]; rfl
  | succ n ih =>
    intro j s f i
    rw [tlF, ih]
    by_cases h : i = s
    · subst h
      rw [if_neg (by omega), if_pos (by omega), pk_us, Nat.sub_self]
      rfl
    · rw [pk_un h]
      by_cases h2 : s ≤ i ∧ i < s + (n + 1)
      · rw [if_pos h2, if_pos (by omega), show j + 1 + (i - (s + 1)) = j + (i - s) by omega]
      · rw [if_neg h2, if_neg (by omega)]
theorem tl_b : ∀ j, j < 8 → x_byteOf ((x_tl j).toInt64) (nI 0) = x_tl j := by decide +kernel
theorem x_s2_full : ∀ (n j : Nat) (u : x_S) (s : Nat), x_sz u = nI s → s + n ≤ 306 → j + n ≤ 8 → x_s2F n j u = (x_st u, x_md u, x_bt u, x_cm u, x_hr u, x_rs u, x_hv u, x_vs u, x_wz u, nI (s + n), x_ro u, x_rc u, x_cn u, x_wt u, tlF n j s (x_sn u)) := by
  intro n
  induction n with
  | zero => intro j u s e _ _; rw [Nat.add_zero, ← e]; rfl
  | succ n ih =>
    intro j u s e h hj
    have e1 : x_sendBytes u (x_tl j).toInt64 1 = (x_st u, x_md u, x_bt u, x_cm u, x_hr u, x_rs u, x_hv u, x_vs u, x_wz u, nI (s + 1), x_ro u, x_rc u, x_cn u, x_wt u, upd (x_sn u) s (x_tl j)) := by
      rw [x_sendBytes, x_sb_full _ 1 u s e (by omega)]
      show (x_st u, x_md u, x_bt u, x_cm u, x_hr u, x_rs u, x_hv u, x_vs u, x_wz u, nI (s + 1), x_ro u, x_rc u, x_cn u, x_wt u, upd (x_sn u) s (x_byteOf ((x_tl j).toInt64) (nI 0))) = _
      rw [tl_b j (by omega)]
    rw [x_s2F, e1, ih (j + 1) _ (s + 1) rfl (by omega) (by omega)]
    show (x_st u, x_md u, x_bt u, x_cm u, x_hr u, x_rs u, x_hv u, x_vs u, x_wz u, nI (s + 1 + n), x_ro u, x_rc u, x_cn u, x_wt u, tlF n (j + 1) (s + 1) (upd (x_sn u) s (x_tl j))) = _
    rw [show s + 1 + n = s + (n + 1) by omega]
    rfl
/-- before the blocks -/
theorem s_start {u : x_S} {v : m_S} (h : R_tx u v) : S_i (7 * ((m_wn v + 6) / 7)) (x_sendBytes (x_sz0 (x_fillLastBlock u)) 60304 2) (m_sendA v) := by
  obtain ⟨⟨h1, h2, h3⟩, -⟩ := h
  have hf : m_wn v % 7 = 0 ∨ 7 ≤ 6 + m_wn v % 7 := by omega
  have hf7 : m_wn v % 7 = 0 ∨ 7 ≤ 7 + m_wn v % 7 := by omega
  have ewx : x_wt (x_fillLastBlock u) = padF 6 (m_wn v) (x_wt u) := (x_fl_wt 6 u (m_wn v) h2 h1).1
  have ewm : m_wt (m_waF 7 (m_th0 v)) = padF 7 (m_wn v) (m_wt v) := m_wa_wt 7 (m_th0 v) h1
  rw [x_sendBytes, x_sb_full _ 2 (x_sz0 (x_fillLastBlock u)) 0 rfl (by decide)]
  refine ⟨rfl, ?_, ?_⟩
  · intro j hj
    have hj : j < 2 := hj
    show kdF 60304 2 0 (x_sn (x_fillLastBlock u)) j = upd (upd (m_se (m_waF 7 (m_th0 v))) 0 235) 1 144 j
    rw [kdF_at, if_pos (by omega)]
    rcases (show j = 0 ∨ j = 1 by omega) with rfl | rfl
    · rw [pk_un (by decide), pk_us]; decide +kernel
    · rw [pk_us]; decide +kernel
  · intro j hj
    show x_wt (x_fillLastBlock u) j = m_wt (m_waF 7 (m_th0 v)) j ∧ ∃ b, b < 256 ∧ m_wt (m_waF 7 (m_th0 v)) j = nI b
    rw [ewx, ewm, padF_at 6 _ _ _ hf, padF_at 7 _ _ _ hf7]
    by_cases c : m_wn v ≤ j
    · rw [if_pos (by omega), if_pos (by omega)]
      exact ⟨rfl, 85, by decide, rfl⟩
    · rw [if_neg (by omega), if_neg (by omega)]
      exact h3 j (by omega)
theorem x_rx_wz0 (u : x_S) : x_rx (x_wz0 u) = x_rx u := rfl
theorem m_rx_wn0 (v : m_S) : m_rx (m_wn0 v) = m_rx v := rfl
theorem r_send {k : Nat} {u : x_S} {v : m_S} (h : Rel k u v) : x_send_r u ((m_wn v + 6) / 7) = m_send_r v ∧ Rel (k + 1) (x_send u ((m_wn v + 6) / 7)) (m_send v) := by
  have hwn := h.2.1.1
  have ew := h.2.1.2.1
  by_cases h0 : m_wn v = 0
  · have e0 : nI (m_wn v) = 0 := by rw [h0]; rfl
    have ht := h.th0
    unfold x_send_r m_send_r x_send m_send
    rw [if_pos (ew.trans e0), if_pos (ew.trans e0), if_pos e0, if_pos e0]
    exact ⟨rfl, ht⟩
  · have n0 : ¬ nI (m_wn v) = 0 := nI_ne0 (by omega) (by omega)
    have x0 : ¬ x_wz u = 0 := fun e => n0 (ew.symm.trans e)
    have hA : m_sn (m_sendA v) = 2 := rfl
    have hL := s_loop ((m_wn v + 6) / 7) 0 _ _ (s_start h.2) (by omega) (by rw [hA]; omega)
    have hsB : m_sn (m_sB ((m_wn v + 6) / 7) 0 (m_sendA v)) = 2 + 8 * ((m_wn v + 6) / 7) := by rw [(m_sB_f _ _ _).2, hA]
    have ex : x_sendT u ((m_wn v + 6) / 7) = x_s2F 8 0 (x_s1F ((m_wn v + 6) / 7) 0 (x_sendBytes (x_sz0 (x_fillLastBlock u)) 60304 2)) := rfl
    have em : m_sendT v = m_out (m_odF 7 0 (m_sB ((m_wn v + 6) / 7) 0 (m_sendA v))) 121 := rfl
    have hrx := x_rx_send u ((m_wn v + 6) / 7)
    have hrm := m_rx_send v
    obtain ⟨l1, l2, -⟩ := hL
    generalize x_s1F ((m_wn v + 6) / 7) 0 (x_sendBytes (x_sz0 (x_fillLastBlock u)) 60304 2) = a at *
    generalize m_sB ((m_wn v + 6) / 7) 0 (m_sendA v) = b at *
    have hle : m_sn b + 8 ≤ 306 := by omega
    rw [x_s2_full 8 0 a (m_sn b) l1 hle (by decide)] at ex
    rw [m_od_full] at em
    have key : ∀ j, j < m_sn b + 7 + 1 → tlF 8 0 (m_sn b) (x_sn a) j = upd (odF 7 (m_sn b) (m_se b)) (m_sn b + 7) 121 j := by
      intro j hj
      rw [tlF_at]
      by_cases e : j = m_sn b + 7
      · subst e
        rw [pk_us, if_pos (by omega), show 0 + (m_sn b + 7 - m_sn b) = 7 by omega]
        rfl
      · rw [pk_un e, odF_at]
        by_cases c : m_sn b ≤ j
        · rw [if_pos (by omega), if_pos (by omega)]
          unfold x_tl
          rw [if_neg (by omega)]
        · rw [if_neg (by omega), if_neg (by omega)]
          exact l2 j (by omega)
    unfold x_send_r m_send_r x_send m_send
    rw [if_neg x0, if_neg x0, if_neg n0, if_neg n0]
    refine ⟨?_, ?_, ?_⟩
    · rw [ex, em]; rfl
    · exact R_rx_eq ((x_rx_wz0 _).trans hrx) ((m_rx_wn0 _).trans hrm) h.next.1
    · rw [ex, em]
      exact ⟨⟨Nat.zero_le _, rfl, fun j hj => absurd hj (Nat.not_lt_zero j)⟩, hle, rfl, key⟩
end
