section
-- ===== PART A: goes FIRST, ahead of the names: the tables' words, and 'selects' of the private methods out of them =====
/-- a private method of a class that the tables say can be made, by its rows of tables_1 -/
def lw_okq (q : MethodName × Nat) : Prop := (q.1.cls ≠ "java/lang/invoke/MethodHandle" ∧ q.1.cls ≠ "java/lang/invoke/VarHandle") ∧ Cond.instantiable q.1.cls q.2 ∈ tables_1 ∧ Cond.privateMethod q.1 ∈ tables_1 ∧ Cond.instanceMethod q.1 ∈ tables_1
theorem lw_p0 : lw_okq (⟨"BlockRows", "isBlock", "(I)Z"⟩, 11) := ⟨⟨by decide +kernel, by decide +kernel⟩, List.mem_of_getElem? (i := 9) (by decide +kernel), List.mem_of_getElem? (i := 129) (by decide +kernel), List.mem_of_getElem? (i := 130) (by decide +kernel)⟩
theorem lw_p1 : lw_okq (⟨"BlockRows$Ways", "find", "(II)I"⟩, 5) := ⟨⟨by decide +kernel, by decide +kernel⟩, List.mem_of_getElem? (i := 17) (by decide +kernel), List.mem_of_getElem? (i := 144) (by decide +kernel), List.mem_of_getElem? (i := 145) (by decide +kernel)⟩
theorem lw_p2 : lw_okq (⟨"BlockRows$Ways", "add", "(II)I"⟩, 5) := ⟨⟨by decide +kernel, by decide +kernel⟩, List.mem_of_getElem? (i := 17) (by decide +kernel), List.mem_of_getElem? (i := 148) (by decide +kernel), List.mem_of_getElem? (i := 149) (by decide +kernel)⟩
theorem lw_p3 : lw_okq (⟨"BlockRows$Ways", "moveForward", "(I)V"⟩, 5) := ⟨⟨by decide +kernel, by decide +kernel⟩, List.mem_of_getElem? (i := 17) (by decide +kernel), List.mem_of_getElem? (i := 157) (by decide +kernel), List.mem_of_getElem? (i := 158) (by decide +kernel)⟩
theorem lw_p4 : lw_okq (⟨"BlockRows$Ways", "isBefore", "(II)Z"⟩, 5) := ⟨⟨by decide +kernel, by decide +kernel⟩, List.mem_of_getElem? (i := 17) (by decide +kernel), List.mem_of_getElem? (i := 161) (by decide +kernel), List.mem_of_getElem? (i := 162) (by decide +kernel)⟩
theorem lw_p5 : lw_okq (⟨"BlockRows$Ways", "swap", "(II)V"⟩, 5) := ⟨⟨by decide +kernel, by decide +kernel⟩, List.mem_of_getElem? (i := 17) (by decide +kernel), List.mem_of_getElem? (i := 165) (by decide +kernel), List.mem_of_getElem? (i := 166) (by decide +kernel)⟩
theorem lw_p6 : lw_okq (⟨"BlockRows", "refresh", "()V"⟩, 11) := ⟨⟨by decide +kernel, by decide +kernel⟩, List.mem_of_getElem? (i := 9) (by decide +kernel), List.mem_of_getElem? (i := 181) (by decide +kernel), List.mem_of_getElem? (i := 182) (by decide +kernel)⟩
theorem lw_p7 : lw_okq (⟨"BlockRows", "lineUpByNumber", "()V"⟩, 11) := ⟨⟨by decide +kernel, by decide +kernel⟩, List.mem_of_getElem? (i := 9) (by decide +kernel), List.mem_of_getElem? (i := 185) (by decide +kernel), List.mem_of_getElem? (i := 186) (by decide +kernel)⟩
theorem lw_p8 : lw_okq (⟨"BlockRows$Chains", "mayJoin", "(II)Z"⟩, 3) := ⟨⟨by decide +kernel, by decide +kernel⟩, List.mem_of_getElem? (i := 47) (by decide +kernel), List.mem_of_getElem? (i := 213) (by decide +kernel), List.mem_of_getElem? (i := 214) (by decide +kernel)⟩
theorem lw_p9 : lw_okq (⟨"BlockRows$Chains", "join", "(II)V"⟩, 3) := ⟨⟨by decide +kernel, by decide +kernel⟩, List.mem_of_getElem? (i := 47) (by decide +kernel), List.mem_of_getElem? (i := 217) (by decide +kernel), List.mem_of_getElem? (i := 218) (by decide +kernel)⟩
theorem lw_p10 : lw_okq (⟨"BlockRows$Chains", "mostPulled", "(LBlockRows$Line;LBlockRows$Line;)I"⟩, 3) := ⟨⟨by decide +kernel, by decide +kernel⟩, List.mem_of_getElem? (i := 47) (by decide +kernel), List.mem_of_getElem? (i := 229) (by decide +kernel), List.mem_of_getElem? (i := 230) (by decide +kernel)⟩
theorem lw_p11 : lw_okq (⟨"BlockRows$Chains", "appendChain", "(ILBlockRows$Line;)V"⟩, 3) := ⟨⟨by decide +kernel, by decide +kernel⟩, List.mem_of_getElem? (i := 47) (by decide +kernel), List.mem_of_getElem? (i := 233) (by decide +kernel), List.mem_of_getElem? (i := 234) (by decide +kernel)⟩
theorem lw_p12 : lw_okq (⟨"BlockRows$Chains", "pullTowards", "(ILBlockRows$Ways;)V"⟩, 3) := ⟨⟨by decide +kernel, by decide +kernel⟩, List.mem_of_getElem? (i := 47) (by decide +kernel), List.mem_of_getElem? (i := 238) (by decide +kernel), List.mem_of_getElem? (i := 239) (by decide +kernel)⟩
theorem lw_p13 : lw_okq (⟨"BlockRows", "chainsAreBetter", "()Z"⟩, 11) := ⟨⟨by decide +kernel, by decide +kernel⟩, List.mem_of_getElem? (i := 9) (by decide +kernel), List.mem_of_getElem? (i := 255) (by decide +kernel), List.mem_of_getElem? (i := 256) (by decide +kernel)⟩
theorem lw_p14 : lw_okq (⟨"BlockRowsModel", "isBlock", "(I)Z"⟩, 18) := ⟨⟨by decide +kernel, by decide +kernel⟩, List.mem_of_getElem? (i := 271) (by decide +kernel), List.mem_of_getElem? (i := 341) (by decide +kernel), List.mem_of_getElem? (i := 342) (by decide +kernel)⟩
theorem lw_p15 : lw_okq (⟨"BlockRowsModel", "find", "(II)I"⟩, 18) := ⟨⟨by decide +kernel, by decide +kernel⟩, List.mem_of_getElem? (i := 271) (by decide +kernel), List.mem_of_getElem? (i := 352) (by decide +kernel), List.mem_of_getElem? (i := 353) (by decide +kernel)⟩
def lw_privs_1 : List (MethodName × Nat) := [(⟨"BlockRows", "isBlock", "(I)Z"⟩, 11), (⟨"BlockRows$Ways", "find", "(II)I"⟩, 5), (⟨"BlockRows$Ways", "add", "(II)I"⟩, 5), (⟨"BlockRows$Ways", "moveForward", "(I)V"⟩, 5), (⟨"BlockRows$Ways", "isBefore", "(II)Z"⟩, 5), (⟨"BlockRows$Ways", "swap", "(II)V"⟩, 5), (⟨"BlockRows", "refresh", "()V"⟩, 11), (⟨"BlockRows", "lineUpByNumber", "()V"⟩, 11), (⟨"BlockRows$Chains", "mayJoin", "(II)Z"⟩, 3), (⟨"BlockRows$Chains", "join", "(II)V"⟩, 3), (⟨"BlockRows$Chains", "mostPulled", "(LBlockRows$Line;LBlockRows$Line;)I"⟩, 3), (⟨"BlockRows$Chains", "appendChain", "(ILBlockRows$Line;)V"⟩, 3), (⟨"BlockRows$Chains", "pullTowards", "(ILBlockRows$Ways;)V"⟩, 3), (⟨"BlockRows", "chainsAreBetter", "()Z"⟩, 11), (⟨"BlockRowsModel", "isBlock", "(I)Z"⟩, 18), (⟨"BlockRowsModel", "find", "(II)I"⟩, 18)]
theorem lw_r1 : ∀ q ∈ lw_privs_1, lw_okq q := List.forall_mem_cons.mpr ⟨lw_p0, List.forall_mem_cons.mpr ⟨lw_p1, List.forall_mem_cons.mpr ⟨lw_p2, List.forall_mem_cons.mpr ⟨lw_p3, List.forall_mem_cons.mpr ⟨lw_p4, List.forall_mem_cons.mpr ⟨lw_p5, List.forall_mem_cons.mpr ⟨lw_p6, List.forall_mem_cons.mpr ⟨lw_p7, List.forall_mem_cons.mpr ⟨lw_p8, List.forall_mem_cons.mpr ⟨lw_p9, List.forall_mem_cons.mpr ⟨lw_p10, List.forall_mem_cons.mpr ⟨lw_p11, List.forall_mem_cons.mpr ⟨lw_p12, List.forall_mem_cons.mpr ⟨lw_p13, List.forall_mem_cons.mpr ⟨lw_p14, List.forall_mem_cons.mpr ⟨lw_p15, fun _ h => absurd h List.not_mem_nil⟩⟩⟩⟩⟩⟩⟩⟩⟩⟩⟩⟩⟩⟩⟩⟩
theorem lw_p16 : lw_okq (⟨"BlockRowsModel", "know", "()V"⟩, 18) := ⟨⟨by decide +kernel, by decide +kernel⟩, List.mem_of_getElem? (i := 271) (by decide +kernel), List.mem_of_getElem? (i := 367) (by decide +kernel), List.mem_of_getElem? (i := 368) (by decide +kernel)⟩
theorem lw_p17 : lw_okq (⟨"BlockRowsModel", "chains", "()V"⟩, 18) := ⟨⟨by decide +kernel, by decide +kernel⟩, List.mem_of_getElem? (i := 271) (by decide +kernel), List.mem_of_getElem? (i := 371) (by decide +kernel), List.mem_of_getElem? (i := 372) (by decide +kernel)⟩
theorem lw_p18 : lw_okq (⟨"BlockRowsModel", "comesBefore", "(II)Z"⟩, 18) := ⟨⟨by decide +kernel, by decide +kernel⟩, List.mem_of_getElem? (i := 271) (by decide +kernel), List.mem_of_getElem? (i := 375) (by decide +kernel), List.mem_of_getElem? (i := 376) (by decide +kernel)⟩
theorem lw_p19 : lw_okq (⟨"BlockRowsModel", "place", "()V"⟩, 18) := ⟨⟨by decide +kernel, by decide +kernel⟩, List.mem_of_getElem? (i := 271) (by decide +kernel), List.mem_of_getElem? (i := 379) (by decide +kernel), List.mem_of_getElem? (i := 380) (by decide +kernel)⟩
theorem lw_p20 : lw_okq (⟨"BlockRowsModel", "sum", "(I)J"⟩, 18) := ⟨⟨by decide +kernel, by decide +kernel⟩, List.mem_of_getElem? (i := 271) (by decide +kernel), List.mem_of_getElem? (i := 383) (by decide +kernel), List.mem_of_getElem? (i := 384) (by decide +kernel)⟩
theorem lw_p21 : lw_okq (⟨"BlockRowsModel", "weightOf", "([II)J"⟩, 18) := ⟨⟨by decide +kernel, by decide +kernel⟩, List.mem_of_getElem? (i := 271) (by decide +kernel), List.mem_of_getElem? (i := 387) (by decide +kernel), List.mem_of_getElem? (i := 388) (by decide +kernel)⟩
def lw_privs_2 : List (MethodName × Nat) := [(⟨"BlockRowsModel", "know", "()V"⟩, 18), (⟨"BlockRowsModel", "chains", "()V"⟩, 18), (⟨"BlockRowsModel", "comesBefore", "(II)Z"⟩, 18), (⟨"BlockRowsModel", "place", "()V"⟩, 18), (⟨"BlockRowsModel", "sum", "(I)J"⟩, 18), (⟨"BlockRowsModel", "weightOf", "([II)J"⟩, 18)]
theorem lw_r2 : ∀ q ∈ lw_privs_2, lw_okq q := List.forall_mem_cons.mpr ⟨lw_p16, List.forall_mem_cons.mpr ⟨lw_p17, List.forall_mem_cons.mpr ⟨lw_p18, List.forall_mem_cons.mpr ⟨lw_p19, List.forall_mem_cons.mpr ⟨lw_p20, List.forall_mem_cons.mpr ⟨lw_p21, fun _ h => absurd h List.not_mem_nil⟩⟩⟩⟩⟩⟩
def lw_privs : List (MethodName × Nat) := lw_privs_1 ++ (lw_privs_2)
def lw_tbl : List Cond := k2_sels lw_privs ++ tables_1
theorem lw_privs_ok : ∀ q ∈ lw_privs, lw_okq q := by
  show ∀ q ∈ lw_privs_1 ++ (lw_privs_2), lw_okq q
  exact List.forall_mem_append.mpr ⟨lw_r1, lw_r2⟩
-- ===== end of PART A; then your names; then what follows =====
/-! ===== BEGIN words of one list among another's, by their places ===== -/
theorem goodIn_r {big : List Cond} (ws : List Cond) (ps : List Nat) (hp : ws = ps.filterMap (fun i => big[i]?)) (h : ws.all goodWord = true) : GoodIn big ws := by
  intro w hw
  have h1 := List.all_eq_true.mp h w hw
  rw [hp] at hw
  obtain ⟨i, -, hi⟩ := List.mem_filterMap.mp hw
  have hm : w ∈ big := by first | exact List.mem_of_getElem? hi | exact List.getElem?_mem hi
  exact ⟨hm, good_of_word h1⟩
theorem goodIn_app {big a b : List Cond} (ha : GoodIn big a) (hb : GoodIn big b) : GoodIn big (a ++ b) := fun w h => (List.mem_append.mp h).elim (ha w) (hb w)
theorem goodIn_ca {big a b : List Cond} {c : Cond} (ha : GoodIn big (c :: a)) (hb : GoodIn big b) : GoodIn big (c :: (a ++ b)) := fun w h => (List.mem_cons.mp h).elim (fun e => ha w (List.mem_cons.mpr (Or.inl e))) (fun h => (List.mem_append.mp h).elim (fun h => ha w (List.mem_cons.mpr (Or.inr h))) (hb w))
theorem goodIn_sub {big ws : List Cond} (hm : ∀ w ∈ ws, w ∈ big) (h : ws.all goodWord = true) : GoodIn big ws := fun w hw => ⟨hm w hw, good_of_word (List.all_eq_true.mp h w hw)⟩
/-! ===== END ===== -/

/-! ===== BEGIN printed: names, fields, word lists, decode rows ===== -/
def RX0 : String := "BlockRows$Chains"
def TX0 : u_T := fun k => match k with
  | 0 => ("BlockRows$Chains", "first", "[I", true)
  | 1 => ("BlockRows$Chains", "next", "[I", true)
  | _ => ("BlockRows$Chains", "pulls", "[J", true)
def tyX0 : Nat → FieldType := fun k => match k with
  | 0 => .array .int
  | 1 => .array .int
  | _ => .array .long
abbrev wsX00 : List Cond := u_ws RX0 TX0 3
theorem nmX0 : ∀ a, a < 3 → ∀ b, b < 3 → a ≠ b → (TX0 a).2.1 ≠ (TX0 b).2.1 := by decide +kernel
theorem tyX0_ok : ∀ k, k < 3 → parseFieldDescriptor (TX0 k).2.2.1 = some (tyX0 k) := by decide +kernel
abbrev cX0_init : ByteArray := prog_2_method_1_code
def yX0_init : MethodName := ⟨RX0, "<init>", "()V"⟩
abbrev cX0_start : ByteArray := prog_2_method_2_code
def yX0_start : MethodName := ⟨RX0, "start", "(LBlockRows$Line;)V"⟩
abbrev cX0_joinAlong : ByteArray := prog_2_method_3_code
def yX0_joinAlong : MethodName := ⟨RX0, "joinAlong", "(LBlockRows$Ways;)V"⟩
abbrev cX0_lineUp : ByteArray := prog_2_method_4_code
def yX0_lineUp : MethodName := ⟨RX0, "lineUp", "(LBlockRows$Line;LBlockRows$Ways;LBlockRows$Line;)V"⟩
abbrev cX0_mayJoin : ByteArray := prog_2_method_5_code
def yX0_mayJoin : MethodName := ⟨RX0, "mayJoin", "(II)Z"⟩
abbrev cX0_join : ByteArray := prog_2_method_6_code
def yX0_join : MethodName := ⟨RX0, "join", "(II)V"⟩
abbrev cX0_mostPulled : ByteArray := prog_2_method_7_code
def yX0_mostPulled : MethodName := ⟨RX0, "mostPulled", "(LBlockRows$Line;LBlockRows$Line;)I"⟩
abbrev cX0_appendChain : ByteArray := prog_2_method_8_code
def yX0_appendChain : MethodName := ⟨RX0, "appendChain", "(ILBlockRows$Line;)V"⟩
abbrev cX0_pullTowards : ByteArray := prog_2_method_9_code
def yX0_pullTowards : MethodName := ⟨RX0, "pullTowards", "(ILBlockRows$Ways;)V"⟩
def RX1 : String := "BlockRows$Line"
def TX1 : u_T := fun k => match k with
  | 0 => ("BlockRows$Line", "members", "[I", true)
  | 1 => ("BlockRows$Line", "places", "[I", true)
  | _ => ("BlockRows$Line", "filled", "I", false)
def tyX1 : Nat → FieldType := fun k => match k with
  | 0 => .array .int
  | 1 => .array .int
  | _ => .int
abbrev wsX10 : List Cond := u_ws RX1 TX1 3
theorem nmX1 : ∀ a, a < 3 → ∀ b, b < 3 → a ≠ b → (TX1 a).2.1 ≠ (TX1 b).2.1 := by decide +kernel
theorem tyX1_ok : ∀ k, k < 3 → parseFieldDescriptor (TX1 k).2.2.1 = some (tyX1 k) := by decide +kernel
abbrev cX1_init : ByteArray := prog_3_method_1_code
def yX1_init : MethodName := ⟨RX1, "<init>", "()V"⟩
abbrev cX1_empty : ByteArray := prog_3_method_2_code
def yX1_empty : MethodName := ⟨RX1, "empty", "()V"⟩
abbrev cX1_append : ByteArray := prog_3_method_3_code
def yX1_append : MethodName := ⟨RX1, "append", "(I)V"⟩
abbrev cX1_blockAt : ByteArray := prog_3_method_4_code
def yX1_blockAt : MethodName := ⟨RX1, "blockAt", "(I)I"⟩
abbrev cX1_holds : ByteArray := prog_3_method_5_code
def yX1_holds : MethodName := ⟨RX1, "holds", "(I)Z"⟩
abbrev cX1_goesOn : ByteArray := prog_3_method_6_code
def yX1_goesOn : MethodName := ⟨RX1, "goesOn", "(II)Z"⟩
def RX2 : String := "BlockRows$Ways"
def TX2 : u_T := fun k => match k with
  | 0 => ("BlockRows$Ways", "from", "[I", true)
  | 1 => ("BlockRows$Ways", "to", "[I", true)
  | 2 => ("BlockRows$Ways", "counts", "[J", true)
  | 3 => ("BlockRows$Ways", "falling", "[Z", true)
  | _ => ("BlockRows$Ways", "known", "I", false)
def tyX2 : Nat → FieldType := fun k => match k with
  | 0 => .array .int
  | 1 => .array .int
  | 2 => .array .long
  | 3 => .array .boolean
  | _ => .int
abbrev wsX20 : List Cond := u_ws RX2 TX2 5
theorem nmX2 : ∀ a, a < 5 → ∀ b, b < 5 → a ≠ b → (TX2 a).2.1 ≠ (TX2 b).2.1 := by decide +kernel
theorem tyX2_ok : ∀ k, k < 5 → parseFieldDescriptor (TX2 k).2.2.1 = some (tyX2 k) := by decide +kernel
abbrev cX2_init : ByteArray := prog_4_method_1_code
def yX2_init : MethodName := ⟨RX2, "<init>", "()V"⟩
abbrev cX2_forget : ByteArray := prog_4_method_2_code
def yX2_forget : MethodName := ⟨RX2, "forget", "()V"⟩
abbrev cX2_told : ByteArray := prog_4_method_3_code
def yX2_told : MethodName := ⟨RX2, "told", "(II)J"⟩
abbrev cX2_tell : ByteArray := prog_4_method_4_code
def yX2_tell : MethodName := ⟨RX2, "tell", "(IIIZ)J"⟩
abbrev cX2_weigh : ByteArray := prog_4_method_5_code
def yX2_weigh : MethodName := ⟨RX2, "weigh", "(LBlockRows$Line;)J"⟩
abbrev cX2_find : ByteArray := prog_4_method_6_code
def yX2_find : MethodName := ⟨RX2, "find", "(II)I"⟩
abbrev cX2_add : ByteArray := prog_4_method_7_code
def yX2_add : MethodName := ⟨RX2, "add", "(II)I"⟩
abbrev cX2_moveForward : ByteArray := prog_4_method_8_code
def yX2_moveForward : MethodName := ⟨RX2, "moveForward", "(I)V"⟩
abbrev cX2_isBefore : ByteArray := prog_4_method_9_code
def yX2_isBefore : MethodName := ⟨RX2, "isBefore", "(II)Z"⟩
abbrev cX2_swap : ByteArray := prog_4_method_10_code
def yX2_swap : MethodName := ⟨RX2, "swap", "(II)V"⟩
def RX3 : String := "BlockRows"
def TX3 : u_T := fun k => match k with
  | 0 => ("BlockRows", "hot", "[Z", true)
  | 1 => ("BlockRows", "ways", "LBlockRows$Ways;", true)
  | 2 => ("BlockRows", "chains", "LBlockRows$Chains;", true)
  | 3 => ("BlockRows", "allByNumber", "LBlockRows$Line;", true)
  | 4 => ("BlockRows", "hotByNumber", "LBlockRows$Line;", true)
  | 5 => ("BlockRows", "hotByChains", "LBlockRows$Line;", true)
  | 6 => ("BlockRows", "allWeight", "J", false)
  | 7 => ("BlockRows", "hotWeight", "J", false)
  | 8 => ("BlockRows", "chainsWeight", "J", false)
  | 9 => ("BlockRows", "blocks", "I", false)
  | _ => ("BlockRows", "stale", "Z", false)
def tyX3 : Nat → FieldType := fun k => match k with
  | 0 => .array .boolean
  | 1 => .object "BlockRows$Ways"
  | 2 => .object "BlockRows$Chains"
  | 3 => .object "BlockRows$Line"
  | 4 => .object "BlockRows$Line"
  | 5 => .object "BlockRows$Line"
  | 6 => .long
  | 7 => .long
  | 8 => .long
  | 9 => .int
  | _ => .boolean
abbrev wsX30 : List Cond := u_ws RX3 TX3 11
theorem nmX3 : ∀ a, a < 11 → ∀ b, b < 11 → a ≠ b → (TX3 a).2.1 ≠ (TX3 b).2.1 := by decide +kernel
theorem tyX3_ok : ∀ k, k < 11 → parseFieldDescriptor (TX3 k).2.2.1 = some (tyX3 k) := by decide +kernel
abbrev cX3_init : ByteArray := prog_1_method_1_code
def yX3_init : MethodName := ⟨RX3, "<init>", "()V"⟩
abbrev cX3_size : ByteArray := prog_1_method_2_code
def yX3_size : MethodName := ⟨RX3, "size", "(I)Z"⟩
abbrev cX3_heat : ByteArray := prog_1_method_3_code
def yX3_heat : MethodName := ⟨RX3, "heat", "(IZ)Z"⟩
abbrev cX3_way : ByteArray := prog_1_method_4_code
def yX3_way : MethodName := ⟨RX3, "way", "(IIIZ)J"⟩
abbrev cX3_count : ByteArray := prog_1_method_5_code
def yX3_count : MethodName := ⟨RX3, "count", "(II)J"⟩
abbrev cX3_length : ByteArray := prog_1_method_6_code
def yX3_length : MethodName := ⟨RX3, "length", "()I"⟩
abbrev cX3_row : ByteArray := prog_1_method_7_code
def yX3_row : MethodName := ⟨RX3, "row", "(I)I"⟩
abbrev cX3_weight : ByteArray := prog_1_method_8_code
def yX3_weight : MethodName := ⟨RX3, "weight", "(I)J"⟩
abbrev cX3_chain : ByteArray := prog_1_method_9_code
def yX3_chain : MethodName := ⟨RX3, "chain", "(I)I"⟩
abbrev cX3_isBlock : ByteArray := prog_1_method_10_code
def yX3_isBlock : MethodName := ⟨RX3, "isBlock", "(I)Z"⟩
abbrev cX3_chainsAreBetter : ByteArray := prog_1_method_11_code
def yX3_chainsAreBetter : MethodName := ⟨RX3, "chainsAreBetter", "()Z"⟩
abbrev cX3_refresh : ByteArray := prog_1_method_12_code
def yX3_refresh : MethodName := ⟨RX3, "refresh", "()V"⟩
abbrev cX3_lineUpByNumber : ByteArray := prog_1_method_13_code
def yX3_lineUpByNumber : MethodName := ⟨RX3, "lineUpByNumber", "()V"⟩
def RX4 : String := "BlockRowsModel"
def TX4 : u_T := fun k => match k with
  | 0 => ("BlockRowsModel", "blocks", "I", false)
  | 1 => ("BlockRowsModel", "hot", "[Z", true)
  | 2 => ("BlockRowsModel", "ways", "I", false)
  | 3 => ("BlockRowsModel", "from", "[I", true)
  | 4 => ("BlockRowsModel", "to", "[I", true)
  | 5 => ("BlockRowsModel", "counts", "[J", true)
  | 6 => ("BlockRowsModel", "fall", "[Z", true)
  | 7 => ("BlockRowsModel", "isKnown", "Z", false)
  | 8 => ("BlockRowsModel", "table", "[I", true)
  | 9 => ("BlockRowsModel", "many", "[I", true)
  | 10 => ("BlockRowsModel", "chainOf", "[I", true)
  | 11 => ("BlockRowsModel", "byChains", "[I", true)
  | 12 => ("BlockRowsModel", "byNumber", "[I", true)
  | 13 => ("BlockRowsModel", "hots", "I", false)
  | 14 => ("BlockRowsModel", "isBetter", "Z", false)
  | 15 => ("BlockRowsModel", "looked", "[Z", true)
  | 16 => ("BlockRowsModel", "isPlaced", "[Z", true)
  | _ => ("BlockRowsModel", "all", "[I", true)
def tyX4 : Nat → FieldType := fun k => match k with
  | 0 => .int
  | 1 => .array .boolean
  | 2 => .int
  | 3 => .array .int
  | 4 => .array .int
  | 5 => .array .long
  | 6 => .array .boolean
  | 7 => .boolean
  | 8 => .array .int
  | 9 => .array .int
  | 10 => .array .int
  | 11 => .array .int
  | 12 => .array .int
  | 13 => .int
  | 14 => .boolean
  | 15 => .array .boolean
  | 16 => .array .boolean
  | _ => .array .int
abbrev wsX40 : List Cond := u_ws RX4 TX4 18
theorem nmX4 : ∀ a, a < 18 → ∀ b, b < 18 → a ≠ b → (TX4 a).2.1 ≠ (TX4 b).2.1 := by decide +kernel
theorem tyX4_ok : ∀ k, k < 18 → parseFieldDescriptor (TX4 k).2.2.1 = some (tyX4 k) := by decide +kernel
abbrev cX4_init : ByteArray := prog_6_method_1_code
def yX4_init : MethodName := ⟨RX4, "<init>", "()V"⟩
abbrev cX4_isBlock : ByteArray := prog_6_method_3_code
def yX4_isBlock : MethodName := ⟨RX4, "isBlock", "(I)Z"⟩
abbrev cX4_size : ByteArray := prog_6_method_4_code
def yX4_size : MethodName := ⟨RX4, "size", "(I)Z"⟩
abbrev cX4_heat : ByteArray := prog_6_method_5_code
def yX4_heat : MethodName := ⟨RX4, "heat", "(IZ)Z"⟩
abbrev cX4_find : ByteArray := prog_6_method_6_code
def yX4_find : MethodName := ⟨RX4, "find", "(II)I"⟩
abbrev cX4_way : ByteArray := prog_6_method_7_code
def yX4_way : MethodName := ⟨RX4, "way", "(IIIZ)J"⟩
abbrev cX4_count : ByteArray := prog_6_method_8_code
def yX4_count : MethodName := ⟨RX4, "count", "(II)J"⟩
abbrev cX4_know : ByteArray := prog_6_method_9_code
def yX4_know : MethodName := ⟨RX4, "know", "()V"⟩
abbrev cX4_comesBefore : ByteArray := prog_6_method_10_code
def yX4_comesBefore : MethodName := ⟨RX4, "comesBefore", "(II)Z"⟩
abbrev cX4_chains : ByteArray := prog_6_method_11_code
def yX4_chains : MethodName := ⟨RX4, "chains", "()V"⟩
abbrev cX4_place : ByteArray := prog_6_method_12_code
def yX4_place : MethodName := ⟨RX4, "place", "()V"⟩
abbrev cX4_sum : ByteArray := prog_6_method_13_code
def yX4_sum : MethodName := ⟨RX4, "sum", "(I)J"⟩
abbrev cX4_weightOf : ByteArray := prog_6_method_14_code
def yX4_weightOf : MethodName := ⟨RX4, "weightOf", "([II)J"⟩
abbrev cX4_length : ByteArray := prog_6_method_15_code
def yX4_length : MethodName := ⟨RX4, "length", "()I"⟩
abbrev cX4_row : ByteArray := prog_6_method_16_code
def yX4_row : MethodName := ⟨RX4, "row", "(I)I"⟩
abbrev cX4_weight : ByteArray := prog_6_method_17_code
def yX4_weight : MethodName := ⟨RX4, "weight", "(I)J"⟩
abbrev cX4_chain : ByteArray := prog_6_method_18_code
def yX4_chain : MethodName := ⟨RX4, "chain", "(I)I"⟩
def RJ9 : String := "java/lang/Math"
def TJ9 : u_T := fun k => match k with
  | _ => ("", "", "", false)
def tyJ9 : Nat → FieldType := fun k => match k with
  | _ => .int
abbrev wsJ90 : List Cond := u_ws RJ9 TJ9 0
theorem nmJ9 : ∀ a, a < 0 → ∀ b, b < 0 → a ≠ b → (TJ9 a).2.1 ≠ (TJ9 b).2.1 := by decide +kernel
theorem tyJ9_ok : ∀ k, k < 0 → parseFieldDescriptor (TJ9 k).2.2.1 = some (tyJ9 k) := by decide +kernel
abbrev cJ9_min_f86c9 : ByteArray := prog_7_method_70_code
def yJ9_min_f86c9 : MethodName := ⟨RJ9, "min", "(JJ)J"⟩
def RJ7 : String := "java/util/Arrays"
def TJ7 : u_T := fun k => match k with
  | _ => ("", "", "", false)
def tyJ7 : Nat → FieldType := fun k => match k with
  | _ => .int
abbrev wsJ70 : List Cond := u_ws RJ7 TJ7 0
theorem nmJ7 : ∀ a, a < 0 → ∀ b, b < 0 → a ≠ b → (TJ7 a).2.1 ≠ (TJ7 b).2.1 := by decide +kernel
theorem tyJ7_ok : ∀ k, k < 0 → parseFieldDescriptor (TJ7 k).2.2.1 = some (tyJ7 k) := by decide +kernel
abbrev cJ7_fill_d0a16 : ByteArray := prog_8_method_101_code
def yJ7_fill_d0a16 : MethodName := ⟨RJ7, "fill", "([JJ)V"⟩
abbrev cJ7_fill_53178 : ByteArray := prog_8_method_103_code
def yJ7_fill_53178 : MethodName := ⟨RJ7, "fill", "([II)V"⟩
def RL : String := "BlockRowsLaw"
abbrev cL_law : ByteArray := code
def yL_law : MethodName := ⟨RL, "law", "([I)Z"⟩
def wsX0_init : List Cond := .code yX0_init cX0_init 1 none :: ([.methodLink RX0 3 objectInit, .instanceMethod objectInit, .code objectInit ⟨#[0xb1]⟩ 1 none, .arrayClass .int, .fieldLink RX0 9 "BlockRows$Chains" "first" "[I", .fieldLink RX0 15 "BlockRows$Chains" "next" "[I", .arrayClass .long, .fieldLink RX0 18 "BlockRows$Chains" "pulls" "[J"] ++ wsX00)
def wsJ7_fill_53178 : List Cond := .code yJ7_fill_53178 cJ7_fill_53178 4 none :: ([])
def wsX1_holds : List Cond := .code yX1_holds cX1_holds 2 (some .boolean) :: ([.fieldLink RX1 15 "BlockRows$Line" "places" "[I"] ++ wsX10)
def wsX0_start : List Cond := .code yX0_start cX0_start 3 none :: ([.fieldLink RX0 15 "BlockRows$Chains" "next" "[I", .fieldLink RX0 9 "BlockRows$Chains" "first" "[I", .methodLink RX0 22 yJ7_fill_53178, .static yJ7_fill_53178, .initialized RJ7, .code yJ7_fill_53178 cJ7_fill_53178 4 none, .methodLink RX0 28 yX1_holds, .instanceMethod yX1_holds, .selects RX1 yX1_holds yX1_holds, .initialized RX1, .code yX1_holds cX1_holds 2 (some .boolean), .fieldLink RX1 15 "BlockRows$Line" "places" "[I"] ++ wsX00 ++ wsX10)
def wsX0_mayJoin : List Cond := .code yX0_mayJoin cX0_mayJoin 5 (some .boolean) :: ([.fieldLink RX0 9 "BlockRows$Chains" "first" "[I", .fieldLink RX0 15 "BlockRows$Chains" "next" "[I"] ++ wsX00)
def wsX0_join : List Cond := .code yX0_join cX0_join 5 none :: ([.fieldLink RX0 15 "BlockRows$Chains" "next" "[I", .fieldLink RX0 9 "BlockRows$Chains" "first" "[I"] ++ wsX00)
def wsX0_joinAlong : List Cond := .code yX0_joinAlong cX0_joinAlong 5 none :: ([.methodLink RX0 53 yX0_mayJoin, .instanceMethod yX0_mayJoin, .selects RX0 yX0_mayJoin yX0_mayJoin, .initialized RX0, .code yX0_mayJoin cX0_mayJoin 5 (some .boolean), .fieldLink RX0 9 "BlockRows$Chains" "first" "[I", .fieldLink RX0 15 "BlockRows$Chains" "next" "[I", .methodLink RX0 57 yX0_join, .instanceMethod yX0_join, .selects RX0 yX0_join yX0_join, .code yX0_join cX0_join 5 none] ++ wsX20 ++ wsX00)
def wsX1_empty : List Cond := .code yX1_empty cX1_empty 1 none :: ([.fieldLink RX1 18 "BlockRows$Line" "filled" "I", .fieldLink RX1 15 "BlockRows$Line" "places" "[I", .methodLink RX1 22 yJ7_fill_53178, .static yJ7_fill_53178, .initialized RJ7, .code yJ7_fill_53178 cJ7_fill_53178 4 none] ++ wsX10)
def wsJ7_fill_d0a16 : List Cond := .code yJ7_fill_d0a16 cJ7_fill_d0a16 5 none :: ([])
def wsX0_mostPulled : List Cond := .code yX0_mostPulled cX0_mostPulled 6 (some .int) :: ([.fieldLink RX0 18 "BlockRows$Chains" "pulls" "[J", .fieldLink RX0 9 "BlockRows$Chains" "first" "[I", .methodLink RX0 28 yX1_holds, .instanceMethod yX1_holds, .selects RX1 yX1_holds yX1_holds, .initialized RX1, .code yX1_holds cX1_holds 2 (some .boolean), .fieldLink RX1 15 "BlockRows$Line" "places" "[I"] ++ wsX10 ++ wsX00)
def wsX1_append : List Cond := .code yX1_append cX1_append 2 none :: ([.fieldLink RX1 18 "BlockRows$Line" "filled" "I", .fieldLink RX1 9 "BlockRows$Line" "members" "[I", .fieldLink RX1 15 "BlockRows$Line" "places" "[I"] ++ wsX10)
def wsX0_appendChain : List Cond := .code yX0_appendChain cX0_appendChain 5 none :: ([.fieldLink RX0 15 "BlockRows$Chains" "next" "[I", .methodLink RX0 85 yX1_append, .instanceMethod yX1_append, .selects RX1 yX1_append yX1_append, .initialized RX1, .code yX1_append cX1_append 2 none, .fieldLink RX1 18 "BlockRows$Line" "filled" "I", .fieldLink RX1 9 "BlockRows$Line" "members" "[I", .fieldLink RX1 15 "BlockRows$Line" "places" "[I"] ++ wsX00 ++ wsX10)
def wsX0_pullTowards : List Cond := .code yX0_pullTowards cX0_pullTowards 6 none :: ([.fieldLink RX0 9 "BlockRows$Chains" "first" "[I", .fieldLink RX0 18 "BlockRows$Chains" "pulls" "[J"] ++ wsX20 ++ wsX00)
def wsX0_lineUp_r1 : List Cond := [Cond.fieldLink RX0 18 "BlockRows$Chains" "pulls" "[J", Cond.methodLink RX0 61 yX1_empty, Cond.instanceMethod yX1_empty, Cond.selects RX1 yX1_empty yX1_empty, Cond.initialized RX1, Cond.code yX1_empty cX1_empty 1 none, Cond.fieldLink RX1 18 "BlockRows$Line" "filled" "I", Cond.fieldLink RX1 15 "BlockRows$Line" "places" "[I", Cond.methodLink RX1 22 yJ7_fill_53178, Cond.static yJ7_fill_53178, Cond.initialized RJ7, Cond.code yJ7_fill_53178 cJ7_fill_53178 4 none, Cond.methodLink RX0 64 yJ7_fill_d0a16, Cond.static yJ7_fill_d0a16, Cond.code yJ7_fill_d0a16 cJ7_fill_d0a16 5 none, Cond.methodLink RX0 70 yX0_mostPulled, Cond.instanceMethod yX0_mostPulled, Cond.selects RX0 yX0_mostPulled yX0_mostPulled, Cond.initialized RX0, Cond.code yX0_mostPulled cX0_mostPulled 6 (some .int), Cond.fieldLink RX0 9 "BlockRows$Chains" "first" "[I", Cond.methodLink RX0 28 yX1_holds, Cond.instanceMethod yX1_holds, Cond.selects RX1 yX1_holds yX1_holds]
def wsX0_lineUp_r2 : List Cond := [Cond.code yX1_holds cX1_holds 2 (some .boolean), Cond.methodLink RX0 74 yX0_appendChain, Cond.instanceMethod yX0_appendChain, Cond.selects RX0 yX0_appendChain yX0_appendChain, Cond.code yX0_appendChain cX0_appendChain 5 none, Cond.fieldLink RX0 15 "BlockRows$Chains" "next" "[I", Cond.methodLink RX0 85 yX1_append, Cond.instanceMethod yX1_append, Cond.selects RX1 yX1_append yX1_append, Cond.code yX1_append cX1_append 2 none, Cond.fieldLink RX1 9 "BlockRows$Line" "members" "[I", Cond.methodLink RX0 78 yX0_pullTowards, Cond.instanceMethod yX0_pullTowards, Cond.selects RX0 yX0_pullTowards yX0_pullTowards, Cond.code yX0_pullTowards cX0_pullTowards 6 none]
def wsX0_lineUp : List Cond := .code yX0_lineUp cX0_lineUp 6 none :: ((wsX0_lineUp_r1 ++ wsX0_lineUp_r2) ++ wsX00 ++ wsX10 ++ wsX20)
def wsX1_init : List Cond := .code yX1_init cX1_init 1 none :: ([.methodLink RX1 3 objectInit, .instanceMethod objectInit, .code objectInit ⟨#[0xb1]⟩ 1 none, .arrayClass .int, .fieldLink RX1 9 "BlockRows$Line" "members" "[I", .fieldLink RX1 15 "BlockRows$Line" "places" "[I"] ++ wsX10)
def wsX1_blockAt : List Cond := .code yX1_blockAt cX1_blockAt 2 (some .int) :: ([.fieldLink RX1 18 "BlockRows$Line" "filled" "I", .fieldLink RX1 9 "BlockRows$Line" "members" "[I"] ++ wsX10)
def wsX1_goesOn : List Cond := .code yX1_goesOn cX1_goesOn 3 (some .boolean) :: ([.fieldLink RX1 15 "BlockRows$Line" "places" "[I", .methodLink RX1 28 yX1_holds, .instanceMethod yX1_holds, .selects RX1 yX1_holds yX1_holds, .initialized RX1, .code yX1_holds cX1_holds 2 (some .boolean)] ++ wsX10)
def wsX2_init : List Cond := .code yX2_init cX2_init 1 none :: ([.methodLink RX2 3 objectInit, .instanceMethod objectInit, .code objectInit ⟨#[0xb1]⟩ 1 none, .arrayClass .int, .fieldLink RX2 9 "BlockRows$Ways" "from" "[I", .fieldLink RX2 15 "BlockRows$Ways" "to" "[I", .arrayClass .long, .fieldLink RX2 18 "BlockRows$Ways" "counts" "[J", .arrayClass .boolean, .fieldLink RX2 22 "BlockRows$Ways" "falling" "[Z"] ++ wsX20)
def wsX2_forget : List Cond := .code yX2_forget cX2_forget 1 none :: ([.fieldLink RX2 26 "BlockRows$Ways" "known" "I"] ++ wsX20)
def wsX2_find : List Cond := .code yX2_find cX2_find 4 (some .int) :: ([.fieldLink RX2 26 "BlockRows$Ways" "known" "I", .fieldLink RX2 9 "BlockRows$Ways" "from" "[I", .fieldLink RX2 15 "BlockRows$Ways" "to" "[I"] ++ wsX20)
def wsX2_told : List Cond := .code yX2_told cX2_told 4 (some .long) :: ([.fieldLink RX2 18 "BlockRows$Ways" "counts" "[J", .methodLink RX2 30 yX2_find, .instanceMethod yX2_find, .selects RX2 yX2_find yX2_find, .initialized RX2, .code yX2_find cX2_find 4 (some .int), .fieldLink RX2 26 "BlockRows$Ways" "known" "I", .fieldLink RX2 9 "BlockRows$Ways" "from" "[I", .fieldLink RX2 15 "BlockRows$Ways" "to" "[I"] ++ wsX20)
def wsX2_add : List Cond := .code yX2_add cX2_add 4 (some .int) :: ([.fieldLink RX2 26 "BlockRows$Ways" "known" "I", .fieldLink RX2 9 "BlockRows$Ways" "from" "[I", .fieldLink RX2 15 "BlockRows$Ways" "to" "[I", .fieldLink RX2 18 "BlockRows$Ways" "counts" "[J"] ++ wsX20)
def wsX2_isBefore : List Cond := .code yX2_isBefore cX2_isBefore 3 (some .boolean) :: ([.fieldLink RX2 18 "BlockRows$Ways" "counts" "[J", .fieldLink RX2 9 "BlockRows$Ways" "from" "[I", .fieldLink RX2 15 "BlockRows$Ways" "to" "[I"] ++ wsX20)
def wsX2_swap : List Cond := .code yX2_swap cX2_swap 8 none :: ([.fieldLink RX2 9 "BlockRows$Ways" "from" "[I", .fieldLink RX2 15 "BlockRows$Ways" "to" "[I", .fieldLink RX2 18 "BlockRows$Ways" "counts" "[J", .fieldLink RX2 22 "BlockRows$Ways" "falling" "[Z"] ++ wsX20)
def wsX2_moveForward : List Cond := .code yX2_moveForward cX2_moveForward 3 none :: ([.methodLink RX2 57 yX2_isBefore, .instanceMethod yX2_isBefore, .selects RX2 yX2_isBefore yX2_isBefore, .initialized RX2, .code yX2_isBefore cX2_isBefore 3 (some .boolean), .fieldLink RX2 18 "BlockRows$Ways" "counts" "[J", .fieldLink RX2 9 "BlockRows$Ways" "from" "[I", .fieldLink RX2 15 "BlockRows$Ways" "to" "[I", .methodLink RX2 60 yX2_swap, .instanceMethod yX2_swap, .selects RX2 yX2_swap yX2_swap, .code yX2_swap cX2_swap 8 none, .fieldLink RX2 22 "BlockRows$Ways" "falling" "[Z"] ++ wsX20)
def wsX2_tell_r1 : List Cond := [Cond.constantLong RX2 37 (-3), Cond.constantLong RX2 39 (1000000000000000), Cond.fieldLink RX2 18 "BlockRows$Ways" "counts" "[J", Cond.methodLink RX2 41 Lib.MathLoose.min_long.x, Cond.static Lib.MathLoose.min_long.x, Cond.initialized "java/lang/Math", Cond.code Lib.MathLoose.min_long.x Lib.MathLoose.min_long.code 4 (some .long), Cond.fieldLink RX2 22 "BlockRows$Ways" "falling" "[Z", Cond.methodLink RX2 30 yX2_find, Cond.instanceMethod yX2_find, Cond.selects RX2 yX2_find yX2_find, Cond.initialized RX2, Cond.code yX2_find cX2_find 4 (some .int), Cond.fieldLink RX2 26 "BlockRows$Ways" "known" "I", Cond.fieldLink RX2 9 "BlockRows$Ways" "from" "[I", Cond.fieldLink RX2 15 "BlockRows$Ways" "to" "[I", Cond.methodLink RX2 34 yX2_add, Cond.instanceMethod yX2_add, Cond.selects RX2 yX2_add yX2_add, Cond.code yX2_add cX2_add 4 (some .int), Cond.methodLink RX2 47 yX2_moveForward, Cond.instanceMethod yX2_moveForward, Cond.selects RX2 yX2_moveForward yX2_moveForward, Cond.code yX2_moveForward cX2_moveForward 3 none]
def wsX2_tell_r2 : List Cond := [Cond.methodLink RX2 57 yX2_isBefore, Cond.instanceMethod yX2_isBefore, Cond.selects RX2 yX2_isBefore yX2_isBefore, Cond.code yX2_isBefore cX2_isBefore 3 (some .boolean), Cond.methodLink RX2 60 yX2_swap, Cond.instanceMethod yX2_swap, Cond.selects RX2 yX2_swap yX2_swap, Cond.code yX2_swap cX2_swap 8 none]
def wsX2_tell : List Cond := .code yX2_tell cX2_tell 8 (some .long) :: ((wsX2_tell_r1 ++ wsX2_tell_r2) ++ wsX20)
def wsX2_weigh : List Cond := .code yX2_weigh cX2_weigh 5 (some .long) :: ([.fieldLink RX2 26 "BlockRows$Ways" "known" "I", .fieldLink RX2 22 "BlockRows$Ways" "falling" "[Z", .fieldLink RX2 9 "BlockRows$Ways" "from" "[I", .fieldLink RX2 15 "BlockRows$Ways" "to" "[I", .fieldLink RX2 18 "BlockRows$Ways" "counts" "[J", .methodLink RX2 51 yX1_goesOn, .instanceMethod yX1_goesOn, .selects RX1 yX1_goesOn yX1_goesOn, .initialized RX1, .code yX1_goesOn cX1_goesOn 3 (some .boolean), .fieldLink RX1 15 "BlockRows$Line" "places" "[I", .methodLink RX1 28 yX1_holds, .instanceMethod yX1_holds, .selects RX1 yX1_holds yX1_holds, .code yX1_holds cX1_holds 2 (some .boolean)] ++ wsX20 ++ wsX10)
def wsX3_init_r1 : List Cond := [Cond.methodLink RX3 1 objectInit, Cond.instanceMethod objectInit, Cond.code objectInit ⟨#[0xb1]⟩ 1 none, Cond.arrayClass .boolean, Cond.fieldLink RX3 9 "BlockRows" "hot" "[Z", Cond.classLink RX3 13 RX2, Cond.instantiable RX2 5, Cond.initialized RX2, Cond.fieldLink RX3 16 "BlockRows" "ways" "LBlockRows$Ways;", Cond.classLink RX3 20 RX0, Cond.instantiable RX0 3, Cond.initialized RX0, Cond.fieldLink RX3 23 "BlockRows" "chains" "LBlockRows$Chains;", Cond.classLink RX3 27 RX1, Cond.instantiable RX1 3, Cond.initialized RX1, Cond.fieldLink RX3 30 "BlockRows" "allByNumber" "LBlockRows$Line;", Cond.fieldLink RX3 34 "BlockRows" "hotByNumber" "LBlockRows$Line;", Cond.fieldLink RX3 37 "BlockRows" "hotByChains" "LBlockRows$Line;", Cond.fieldLink RX3 40 "BlockRows" "blocks" "I", Cond.fieldLink RX3 44 "BlockRows" "stale" "Z", Cond.instanceMethod yX2_init, Cond.code yX2_init cX2_init 1 none, Cond.methodLink RX2 3 objectInit]
def wsX3_init_r2 : List Cond := [Cond.arrayClass .int, Cond.fieldLink RX2 9 "BlockRows$Ways" "from" "[I", Cond.fieldLink RX2 15 "BlockRows$Ways" "to" "[I", Cond.arrayClass .long, Cond.fieldLink RX2 18 "BlockRows$Ways" "counts" "[J", Cond.fieldLink RX2 22 "BlockRows$Ways" "falling" "[Z", Cond.instanceMethod yX0_init, Cond.code yX0_init cX0_init 1 none, Cond.methodLink RX0 3 objectInit, Cond.fieldLink RX0 9 "BlockRows$Chains" "first" "[I", Cond.fieldLink RX0 15 "BlockRows$Chains" "next" "[I", Cond.fieldLink RX0 18 "BlockRows$Chains" "pulls" "[J", Cond.instanceMethod yX1_init, Cond.code yX1_init cX1_init 1 none, Cond.methodLink RX1 3 objectInit, Cond.fieldLink RX1 9 "BlockRows$Line" "members" "[I", Cond.fieldLink RX1 15 "BlockRows$Line" "places" "[I"]
def wsX3_init : List Cond := .code yX3_init cX3_init 1 none :: ((wsX3_init_r1 ++ wsX3_init_r2) ++ wsX30 ++ wsX20 ++ wsX00 ++ wsX10)
def wsX3_size : List Cond := .code yX3_size cX3_size 3 (some .boolean) :: ([.fieldLink RX3 40 "BlockRows" "blocks" "I", .fieldLink RX3 9 "BlockRows" "hot" "[Z", .fieldLink RX3 16 "BlockRows" "ways" "LBlockRows$Ways;", .fieldLink RX3 44 "BlockRows" "stale" "Z", .methodLink RX3 48 yX2_forget, .instanceMethod yX2_forget, .selects RX2 yX2_forget yX2_forget, .initialized RX2, .code yX2_forget cX2_forget 1 none, .fieldLink RX2 26 "BlockRows$Ways" "known" "I"] ++ wsX30 ++ wsX20)
def wsX3_isBlock : List Cond := .code yX3_isBlock cX3_isBlock 2 (some .boolean) :: ([.fieldLink RX3 40 "BlockRows" "blocks" "I"] ++ wsX30)
def wsX3_heat : List Cond := .code yX3_heat cX3_heat 3 (some .boolean) :: ([.fieldLink RX3 9 "BlockRows" "hot" "[Z", .fieldLink RX3 44 "BlockRows" "stale" "Z", .methodLink RX3 51 yX3_isBlock, .instanceMethod yX3_isBlock, .selects RX3 yX3_isBlock yX3_isBlock, .initialized RX3, .code yX3_isBlock cX3_isBlock 2 (some .boolean), .fieldLink RX3 40 "BlockRows" "blocks" "I"] ++ wsX30)
def wsX3_way_r1 : List Cond := [Cond.constantLong RX3 55 (-1), Cond.constant RX3 57 (1000000000), Cond.constantLong RX3 58 (-2), Cond.fieldLink RX3 44 "BlockRows" "stale" "Z", Cond.fieldLink RX3 16 "BlockRows" "ways" "LBlockRows$Ways;", Cond.methodLink RX3 51 yX3_isBlock, Cond.instanceMethod yX3_isBlock, Cond.selects RX3 yX3_isBlock yX3_isBlock, Cond.initialized RX3, Cond.code yX3_isBlock cX3_isBlock 2 (some .boolean), Cond.fieldLink RX3 40 "BlockRows" "blocks" "I", Cond.methodLink RX3 60 yX2_tell, Cond.instanceMethod yX2_tell, Cond.selects RX2 yX2_tell yX2_tell, Cond.initialized RX2, Cond.code yX2_tell cX2_tell 8 (some .long), Cond.constantLong RX2 37 (-3), Cond.constantLong RX2 39 (1000000000000000), Cond.fieldLink RX2 18 "BlockRows$Ways" "counts" "[J", Cond.methodLink RX2 41 Lib.MathLoose.min_long.x, Cond.static Lib.MathLoose.min_long.x, Cond.initialized "java/lang/Math", Cond.code Lib.MathLoose.min_long.x Lib.MathLoose.min_long.code 4 (some .long), Cond.fieldLink RX2 22 "BlockRows$Ways" "falling" "[Z"]
def wsX3_way_r2 : List Cond := [Cond.methodLink RX2 30 yX2_find, Cond.instanceMethod yX2_find, Cond.selects RX2 yX2_find yX2_find, Cond.code yX2_find cX2_find 4 (some .int), Cond.fieldLink RX2 26 "BlockRows$Ways" "known" "I", Cond.fieldLink RX2 9 "BlockRows$Ways" "from" "[I", Cond.fieldLink RX2 15 "BlockRows$Ways" "to" "[I", Cond.methodLink RX2 34 yX2_add, Cond.instanceMethod yX2_add, Cond.selects RX2 yX2_add yX2_add, Cond.code yX2_add cX2_add 4 (some .int), Cond.methodLink RX2 47 yX2_moveForward, Cond.instanceMethod yX2_moveForward, Cond.selects RX2 yX2_moveForward yX2_moveForward, Cond.code yX2_moveForward cX2_moveForward 3 none, Cond.methodLink RX2 57 yX2_isBefore, Cond.instanceMethod yX2_isBefore, Cond.selects RX2 yX2_isBefore yX2_isBefore, Cond.code yX2_isBefore cX2_isBefore 3 (some .boolean), Cond.methodLink RX2 60 yX2_swap, Cond.instanceMethod yX2_swap, Cond.selects RX2 yX2_swap yX2_swap, Cond.code yX2_swap cX2_swap 8 none]
def wsX3_way : List Cond := .code yX3_way cX3_way 5 (some .long) :: ((wsX3_way_r1 ++ wsX3_way_r2) ++ wsX30 ++ wsX20)
def wsX3_count : List Cond := .code yX3_count cX3_count 3 (some .long) :: ([.fieldLink RX3 16 "BlockRows" "ways" "LBlockRows$Ways;", .methodLink RX3 64 yX2_told, .instanceMethod yX2_told, .selects RX2 yX2_told yX2_told, .initialized RX2, .code yX2_told cX2_told 4 (some .long), .fieldLink RX2 18 "BlockRows$Ways" "counts" "[J", .methodLink RX2 30 yX2_find, .instanceMethod yX2_find, .selects RX2 yX2_find yX2_find, .code yX2_find cX2_find 4 (some .int), .fieldLink RX2 26 "BlockRows$Ways" "known" "I", .fieldLink RX2 9 "BlockRows$Ways" "from" "[I", .fieldLink RX2 15 "BlockRows$Ways" "to" "[I"] ++ wsX30 ++ wsX20)
def wsX3_lineUpByNumber : List Cond := .code yX3_lineUpByNumber cX3_lineUpByNumber 2 none :: ([.fieldLink RX3 30 "BlockRows" "allByNumber" "LBlockRows$Line;", .fieldLink RX3 34 "BlockRows" "hotByNumber" "LBlockRows$Line;", .fieldLink RX3 40 "BlockRows" "blocks" "I", .fieldLink RX3 9 "BlockRows" "hot" "[Z", .methodLink RX3 115 yX1_empty, .instanceMethod yX1_empty, .selects RX1 yX1_empty yX1_empty, .initialized RX1, .code yX1_empty cX1_empty 1 none, .fieldLink RX1 18 "BlockRows$Line" "filled" "I", .fieldLink RX1 15 "BlockRows$Line" "places" "[I", .methodLink RX1 22 yJ7_fill_53178, .static yJ7_fill_53178, .initialized RJ7, .code yJ7_fill_53178 cJ7_fill_53178 4 none, .methodLink RX3 118 yX1_append, .instanceMethod yX1_append, .selects RX1 yX1_append yX1_append, .code yX1_append cX1_append 2 none, .fieldLink RX1 9 "BlockRows$Line" "members" "[I"] ++ wsX30 ++ wsX10)
def wsX3_refresh_r1 : List Cond := [Cond.fieldLink RX3 44 "BlockRows" "stale" "Z", Cond.fieldLink RX3 23 "BlockRows" "chains" "LBlockRows$Chains;", Cond.fieldLink RX3 34 "BlockRows" "hotByNumber" "LBlockRows$Line;", Cond.fieldLink RX3 16 "BlockRows" "ways" "LBlockRows$Ways;", Cond.fieldLink RX3 37 "BlockRows" "hotByChains" "LBlockRows$Line;", Cond.fieldLink RX3 30 "BlockRows" "allByNumber" "LBlockRows$Line;", Cond.fieldLink RX3 89 "BlockRows" "allWeight" "J", Cond.fieldLink RX3 86 "BlockRows" "hotWeight" "J", Cond.fieldLink RX3 82 "BlockRows" "chainsWeight" "J", Cond.methodLink RX3 96 yX3_lineUpByNumber, Cond.instanceMethod yX3_lineUpByNumber, Cond.selects RX3 yX3_lineUpByNumber yX3_lineUpByNumber, Cond.initialized RX3, Cond.code yX3_lineUpByNumber cX3_lineUpByNumber 2 none, Cond.fieldLink RX3 40 "BlockRows" "blocks" "I", Cond.fieldLink RX3 9 "BlockRows" "hot" "[Z", Cond.methodLink RX3 115 yX1_empty, Cond.instanceMethod yX1_empty, Cond.selects RX1 yX1_empty yX1_empty, Cond.initialized RX1, Cond.code yX1_empty cX1_empty 1 none, Cond.fieldLink RX1 18 "BlockRows$Line" "filled" "I", Cond.fieldLink RX1 15 "BlockRows$Line" "places" "[I", Cond.methodLink RX1 22 yJ7_fill_53178]
def wsX3_refresh_r2 : List Cond := [Cond.static yJ7_fill_53178, Cond.initialized RJ7, Cond.code yJ7_fill_53178 cJ7_fill_53178 4 none, Cond.methodLink RX3 118 yX1_append, Cond.instanceMethod yX1_append, Cond.selects RX1 yX1_append yX1_append, Cond.code yX1_append cX1_append 2 none, Cond.fieldLink RX1 9 "BlockRows$Line" "members" "[I", Cond.methodLink RX3 99 yX0_start, Cond.instanceMethod yX0_start, Cond.selects RX0 yX0_start yX0_start, Cond.initialized RX0, Cond.code yX0_start cX0_start 3 none, Cond.fieldLink RX0 15 "BlockRows$Chains" "next" "[I", Cond.fieldLink RX0 9 "BlockRows$Chains" "first" "[I", Cond.methodLink RX0 22 yJ7_fill_53178, Cond.methodLink RX0 28 yX1_holds, Cond.instanceMethod yX1_holds, Cond.selects RX1 yX1_holds yX1_holds, Cond.code yX1_holds cX1_holds 2 (some .boolean), Cond.methodLink RX3 103 yX0_joinAlong, Cond.instanceMethod yX0_joinAlong, Cond.selects RX0 yX0_joinAlong yX0_joinAlong, Cond.code yX0_joinAlong cX0_joinAlong 5 none]
def wsX3_refresh_r3 : List Cond := [Cond.methodLink RX0 53 yX0_mayJoin, Cond.instanceMethod yX0_mayJoin, Cond.selects RX0 yX0_mayJoin yX0_mayJoin, Cond.code yX0_mayJoin cX0_mayJoin 5 (some .boolean), Cond.methodLink RX0 57 yX0_join, Cond.instanceMethod yX0_join, Cond.selects RX0 yX0_join yX0_join, Cond.code yX0_join cX0_join 5 none, Cond.methodLink RX3 107 yX0_lineUp, Cond.instanceMethod yX0_lineUp, Cond.selects RX0 yX0_lineUp yX0_lineUp, Cond.code yX0_lineUp cX0_lineUp 6 none, Cond.fieldLink RX0 18 "BlockRows$Chains" "pulls" "[J", Cond.methodLink RX0 61 yX1_empty, Cond.methodLink RX0 64 yJ7_fill_d0a16, Cond.static yJ7_fill_d0a16, Cond.code yJ7_fill_d0a16 cJ7_fill_d0a16 5 none, Cond.methodLink RX0 70 yX0_mostPulled, Cond.instanceMethod yX0_mostPulled, Cond.selects RX0 yX0_mostPulled yX0_mostPulled, Cond.code yX0_mostPulled cX0_mostPulled 6 (some .int), Cond.methodLink RX0 74 yX0_appendChain, Cond.instanceMethod yX0_appendChain, Cond.selects RX0 yX0_appendChain yX0_appendChain]
def wsX3_refresh_r4 : List Cond := [Cond.code yX0_appendChain cX0_appendChain 5 none, Cond.methodLink RX0 85 yX1_append, Cond.methodLink RX0 78 yX0_pullTowards, Cond.instanceMethod yX0_pullTowards, Cond.selects RX0 yX0_pullTowards yX0_pullTowards, Cond.code yX0_pullTowards cX0_pullTowards 6 none, Cond.methodLink RX3 111 yX2_weigh, Cond.instanceMethod yX2_weigh, Cond.selects RX2 yX2_weigh yX2_weigh, Cond.initialized RX2, Cond.code yX2_weigh cX2_weigh 5 (some .long), Cond.fieldLink RX2 26 "BlockRows$Ways" "known" "I", Cond.fieldLink RX2 22 "BlockRows$Ways" "falling" "[Z", Cond.fieldLink RX2 9 "BlockRows$Ways" "from" "[I", Cond.fieldLink RX2 15 "BlockRows$Ways" "to" "[I", Cond.fieldLink RX2 18 "BlockRows$Ways" "counts" "[J", Cond.methodLink RX2 51 yX1_goesOn, Cond.instanceMethod yX1_goesOn, Cond.selects RX1 yX1_goesOn yX1_goesOn, Cond.code yX1_goesOn cX1_goesOn 3 (some .boolean), Cond.methodLink RX1 28 yX1_holds]
def wsX3_refresh : List Cond := .code yX3_refresh cX3_refresh 1 none :: ((wsX3_refresh_r1 ++ (wsX3_refresh_r2 ++ (wsX3_refresh_r3 ++ wsX3_refresh_r4))) ++ wsX30 ++ wsX10 ++ wsX00 ++ wsX20)
def wsX3_length_r1 : List Cond := [Cond.fieldLink RX3 34 "BlockRows" "hotByNumber" "LBlockRows$Line;", Cond.methodLink RX3 68 yX3_refresh, Cond.instanceMethod yX3_refresh, Cond.selects RX3 yX3_refresh yX3_refresh, Cond.initialized RX3, Cond.code yX3_refresh cX3_refresh 1 none, Cond.fieldLink RX3 44 "BlockRows" "stale" "Z", Cond.fieldLink RX3 23 "BlockRows" "chains" "LBlockRows$Chains;", Cond.fieldLink RX3 16 "BlockRows" "ways" "LBlockRows$Ways;", Cond.fieldLink RX3 37 "BlockRows" "hotByChains" "LBlockRows$Line;", Cond.fieldLink RX3 30 "BlockRows" "allByNumber" "LBlockRows$Line;", Cond.fieldLink RX3 89 "BlockRows" "allWeight" "J", Cond.fieldLink RX3 86 "BlockRows" "hotWeight" "J", Cond.fieldLink RX3 82 "BlockRows" "chainsWeight" "J", Cond.methodLink RX3 96 yX3_lineUpByNumber, Cond.instanceMethod yX3_lineUpByNumber, Cond.selects RX3 yX3_lineUpByNumber yX3_lineUpByNumber, Cond.code yX3_lineUpByNumber cX3_lineUpByNumber 2 none, Cond.fieldLink RX3 40 "BlockRows" "blocks" "I", Cond.fieldLink RX3 9 "BlockRows" "hot" "[Z", Cond.methodLink RX3 115 yX1_empty, Cond.instanceMethod yX1_empty, Cond.selects RX1 yX1_empty yX1_empty, Cond.initialized RX1]
def wsX3_length_r2 : List Cond := [Cond.code yX1_empty cX1_empty 1 none, Cond.fieldLink RX1 18 "BlockRows$Line" "filled" "I", Cond.fieldLink RX1 15 "BlockRows$Line" "places" "[I", Cond.methodLink RX1 22 yJ7_fill_53178, Cond.static yJ7_fill_53178, Cond.initialized RJ7, Cond.code yJ7_fill_53178 cJ7_fill_53178 4 none, Cond.methodLink RX3 118 yX1_append, Cond.instanceMethod yX1_append, Cond.selects RX1 yX1_append yX1_append, Cond.code yX1_append cX1_append 2 none, Cond.fieldLink RX1 9 "BlockRows$Line" "members" "[I", Cond.methodLink RX3 99 yX0_start, Cond.instanceMethod yX0_start, Cond.selects RX0 yX0_start yX0_start, Cond.initialized RX0, Cond.code yX0_start cX0_start 3 none, Cond.fieldLink RX0 15 "BlockRows$Chains" "next" "[I", Cond.fieldLink RX0 9 "BlockRows$Chains" "first" "[I", Cond.methodLink RX0 22 yJ7_fill_53178, Cond.methodLink RX0 28 yX1_holds, Cond.instanceMethod yX1_holds, Cond.selects RX1 yX1_holds yX1_holds, Cond.code yX1_holds cX1_holds 2 (some .boolean)]
def wsX3_length_r3 : List Cond := [Cond.methodLink RX3 103 yX0_joinAlong, Cond.instanceMethod yX0_joinAlong, Cond.selects RX0 yX0_joinAlong yX0_joinAlong, Cond.code yX0_joinAlong cX0_joinAlong 5 none, Cond.methodLink RX0 53 yX0_mayJoin, Cond.instanceMethod yX0_mayJoin, Cond.selects RX0 yX0_mayJoin yX0_mayJoin, Cond.code yX0_mayJoin cX0_mayJoin 5 (some .boolean), Cond.methodLink RX0 57 yX0_join, Cond.instanceMethod yX0_join, Cond.selects RX0 yX0_join yX0_join, Cond.code yX0_join cX0_join 5 none, Cond.methodLink RX3 107 yX0_lineUp, Cond.instanceMethod yX0_lineUp, Cond.selects RX0 yX0_lineUp yX0_lineUp, Cond.code yX0_lineUp cX0_lineUp 6 none, Cond.fieldLink RX0 18 "BlockRows$Chains" "pulls" "[J", Cond.methodLink RX0 61 yX1_empty, Cond.methodLink RX0 64 yJ7_fill_d0a16, Cond.static yJ7_fill_d0a16, Cond.code yJ7_fill_d0a16 cJ7_fill_d0a16 5 none, Cond.methodLink RX0 70 yX0_mostPulled, Cond.instanceMethod yX0_mostPulled, Cond.selects RX0 yX0_mostPulled yX0_mostPulled]
def wsX3_length_r4 : List Cond := [Cond.code yX0_mostPulled cX0_mostPulled 6 (some .int), Cond.methodLink RX0 74 yX0_appendChain, Cond.instanceMethod yX0_appendChain, Cond.selects RX0 yX0_appendChain yX0_appendChain, Cond.code yX0_appendChain cX0_appendChain 5 none, Cond.methodLink RX0 85 yX1_append, Cond.methodLink RX0 78 yX0_pullTowards, Cond.instanceMethod yX0_pullTowards, Cond.selects RX0 yX0_pullTowards yX0_pullTowards, Cond.code yX0_pullTowards cX0_pullTowards 6 none, Cond.methodLink RX3 111 yX2_weigh, Cond.instanceMethod yX2_weigh, Cond.selects RX2 yX2_weigh yX2_weigh, Cond.initialized RX2, Cond.code yX2_weigh cX2_weigh 5 (some .long), Cond.fieldLink RX2 26 "BlockRows$Ways" "known" "I", Cond.fieldLink RX2 22 "BlockRows$Ways" "falling" "[Z", Cond.fieldLink RX2 9 "BlockRows$Ways" "from" "[I", Cond.fieldLink RX2 15 "BlockRows$Ways" "to" "[I", Cond.fieldLink RX2 18 "BlockRows$Ways" "counts" "[J", Cond.methodLink RX2 51 yX1_goesOn, Cond.instanceMethod yX1_goesOn, Cond.selects RX1 yX1_goesOn yX1_goesOn, Cond.code yX1_goesOn cX1_goesOn 3 (some .boolean)]
def wsX3_length_r5 : List Cond := [Cond.methodLink RX1 28 yX1_holds]
def wsX3_length : List Cond := .code yX3_length cX3_length 1 (some .int) :: ((wsX3_length_r1 ++ (wsX3_length_r2 ++ (wsX3_length_r3 ++ (wsX3_length_r4 ++ wsX3_length_r5)))) ++ wsX30 ++ wsX10 ++ wsX00 ++ wsX20)
def wsX3_chainsAreBetter : List Cond := .code yX3_chainsAreBetter cX3_chainsAreBetter 1 (some .boolean) :: ([.fieldLink RX3 82 "BlockRows" "chainsWeight" "J", .fieldLink RX3 86 "BlockRows" "hotWeight" "J"] ++ wsX30)
def wsX3_row_r1 : List Cond := [Cond.fieldLink RX3 37 "BlockRows" "hotByChains" "LBlockRows$Line;", Cond.fieldLink RX3 34 "BlockRows" "hotByNumber" "LBlockRows$Line;", Cond.methodLink RX3 68 yX3_refresh, Cond.instanceMethod yX3_refresh, Cond.selects RX3 yX3_refresh yX3_refresh, Cond.initialized RX3, Cond.code yX3_refresh cX3_refresh 1 none, Cond.fieldLink RX3 44 "BlockRows" "stale" "Z", Cond.fieldLink RX3 23 "BlockRows" "chains" "LBlockRows$Chains;", Cond.fieldLink RX3 16 "BlockRows" "ways" "LBlockRows$Ways;", Cond.fieldLink RX3 30 "BlockRows" "allByNumber" "LBlockRows$Line;", Cond.fieldLink RX3 89 "BlockRows" "allWeight" "J", Cond.fieldLink RX3 86 "BlockRows" "hotWeight" "J", Cond.fieldLink RX3 82 "BlockRows" "chainsWeight" "J", Cond.methodLink RX3 96 yX3_lineUpByNumber, Cond.instanceMethod yX3_lineUpByNumber, Cond.selects RX3 yX3_lineUpByNumber yX3_lineUpByNumber, Cond.code yX3_lineUpByNumber cX3_lineUpByNumber 2 none, Cond.fieldLink RX3 40 "BlockRows" "blocks" "I", Cond.fieldLink RX3 9 "BlockRows" "hot" "[Z", Cond.methodLink RX3 115 yX1_empty, Cond.instanceMethod yX1_empty, Cond.selects RX1 yX1_empty yX1_empty, Cond.initialized RX1]
def wsX3_row_r2 : List Cond := [Cond.code yX1_empty cX1_empty 1 none, Cond.fieldLink RX1 18 "BlockRows$Line" "filled" "I", Cond.fieldLink RX1 15 "BlockRows$Line" "places" "[I", Cond.methodLink RX1 22 yJ7_fill_53178, Cond.static yJ7_fill_53178, Cond.initialized RJ7, Cond.code yJ7_fill_53178 cJ7_fill_53178 4 none, Cond.methodLink RX3 118 yX1_append, Cond.instanceMethod yX1_append, Cond.selects RX1 yX1_append yX1_append, Cond.code yX1_append cX1_append 2 none, Cond.fieldLink RX1 9 "BlockRows$Line" "members" "[I", Cond.methodLink RX3 99 yX0_start, Cond.instanceMethod yX0_start, Cond.selects RX0 yX0_start yX0_start, Cond.initialized RX0, Cond.code yX0_start cX0_start 3 none, Cond.fieldLink RX0 15 "BlockRows$Chains" "next" "[I", Cond.fieldLink RX0 9 "BlockRows$Chains" "first" "[I", Cond.methodLink RX0 22 yJ7_fill_53178, Cond.methodLink RX0 28 yX1_holds, Cond.instanceMethod yX1_holds, Cond.selects RX1 yX1_holds yX1_holds, Cond.code yX1_holds cX1_holds 2 (some .boolean)]
def wsX3_row_r3 : List Cond := [Cond.methodLink RX3 103 yX0_joinAlong, Cond.instanceMethod yX0_joinAlong, Cond.selects RX0 yX0_joinAlong yX0_joinAlong, Cond.code yX0_joinAlong cX0_joinAlong 5 none, Cond.methodLink RX0 53 yX0_mayJoin, Cond.instanceMethod yX0_mayJoin, Cond.selects RX0 yX0_mayJoin yX0_mayJoin, Cond.code yX0_mayJoin cX0_mayJoin 5 (some .boolean), Cond.methodLink RX0 57 yX0_join, Cond.instanceMethod yX0_join, Cond.selects RX0 yX0_join yX0_join, Cond.code yX0_join cX0_join 5 none, Cond.methodLink RX3 107 yX0_lineUp, Cond.instanceMethod yX0_lineUp, Cond.selects RX0 yX0_lineUp yX0_lineUp, Cond.code yX0_lineUp cX0_lineUp 6 none, Cond.fieldLink RX0 18 "BlockRows$Chains" "pulls" "[J", Cond.methodLink RX0 61 yX1_empty, Cond.methodLink RX0 64 yJ7_fill_d0a16, Cond.static yJ7_fill_d0a16, Cond.code yJ7_fill_d0a16 cJ7_fill_d0a16 5 none, Cond.methodLink RX0 70 yX0_mostPulled, Cond.instanceMethod yX0_mostPulled, Cond.selects RX0 yX0_mostPulled yX0_mostPulled]
def wsX3_row_r4 : List Cond := [Cond.code yX0_mostPulled cX0_mostPulled 6 (some .int), Cond.methodLink RX0 74 yX0_appendChain, Cond.instanceMethod yX0_appendChain, Cond.selects RX0 yX0_appendChain yX0_appendChain, Cond.code yX0_appendChain cX0_appendChain 5 none, Cond.methodLink RX0 85 yX1_append, Cond.methodLink RX0 78 yX0_pullTowards, Cond.instanceMethod yX0_pullTowards, Cond.selects RX0 yX0_pullTowards yX0_pullTowards, Cond.code yX0_pullTowards cX0_pullTowards 6 none, Cond.methodLink RX3 111 yX2_weigh, Cond.instanceMethod yX2_weigh, Cond.selects RX2 yX2_weigh yX2_weigh, Cond.initialized RX2, Cond.code yX2_weigh cX2_weigh 5 (some .long), Cond.fieldLink RX2 26 "BlockRows$Ways" "known" "I", Cond.fieldLink RX2 22 "BlockRows$Ways" "falling" "[Z", Cond.fieldLink RX2 9 "BlockRows$Ways" "from" "[I", Cond.fieldLink RX2 15 "BlockRows$Ways" "to" "[I", Cond.fieldLink RX2 18 "BlockRows$Ways" "counts" "[J", Cond.methodLink RX2 51 yX1_goesOn, Cond.instanceMethod yX1_goesOn, Cond.selects RX1 yX1_goesOn yX1_goesOn, Cond.code yX1_goesOn cX1_goesOn 3 (some .boolean)]
def wsX3_row_r5 : List Cond := [Cond.methodLink RX1 28 yX1_holds, Cond.methodLink RX3 74 yX3_chainsAreBetter, Cond.instanceMethod yX3_chainsAreBetter, Cond.selects RX3 yX3_chainsAreBetter yX3_chainsAreBetter, Cond.code yX3_chainsAreBetter cX3_chainsAreBetter 1 (some .boolean), Cond.methodLink RX3 78 yX1_blockAt, Cond.instanceMethod yX1_blockAt, Cond.selects RX1 yX1_blockAt yX1_blockAt, Cond.code yX1_blockAt cX1_blockAt 2 (some .int)]
def wsX3_row : List Cond := .code yX3_row cX3_row 2 (some .int) :: ((wsX3_row_r1 ++ (wsX3_row_r2 ++ (wsX3_row_r3 ++ (wsX3_row_r4 ++ wsX3_row_r5)))) ++ wsX30 ++ wsX10 ++ wsX00 ++ wsX20)
def wsX3_weight_r1 : List Cond := [Cond.fieldLink RX3 82 "BlockRows" "chainsWeight" "J", Cond.fieldLink RX3 86 "BlockRows" "hotWeight" "J", Cond.fieldLink RX3 89 "BlockRows" "allWeight" "J", Cond.constantLong RX3 55 (-1), Cond.methodLink RX3 68 yX3_refresh, Cond.instanceMethod yX3_refresh, Cond.selects RX3 yX3_refresh yX3_refresh, Cond.initialized RX3, Cond.code yX3_refresh cX3_refresh 1 none, Cond.fieldLink RX3 44 "BlockRows" "stale" "Z", Cond.fieldLink RX3 23 "BlockRows" "chains" "LBlockRows$Chains;", Cond.fieldLink RX3 34 "BlockRows" "hotByNumber" "LBlockRows$Line;", Cond.fieldLink RX3 16 "BlockRows" "ways" "LBlockRows$Ways;", Cond.fieldLink RX3 37 "BlockRows" "hotByChains" "LBlockRows$Line;", Cond.fieldLink RX3 30 "BlockRows" "allByNumber" "LBlockRows$Line;", Cond.methodLink RX3 96 yX3_lineUpByNumber, Cond.instanceMethod yX3_lineUpByNumber, Cond.selects RX3 yX3_lineUpByNumber yX3_lineUpByNumber, Cond.code yX3_lineUpByNumber cX3_lineUpByNumber 2 none, Cond.fieldLink RX3 40 "BlockRows" "blocks" "I", Cond.fieldLink RX3 9 "BlockRows" "hot" "[Z", Cond.methodLink RX3 115 yX1_empty, Cond.instanceMethod yX1_empty, Cond.selects RX1 yX1_empty yX1_empty]
def wsX3_weight_r2 : List Cond := [Cond.initialized RX1, Cond.code yX1_empty cX1_empty 1 none, Cond.fieldLink RX1 18 "BlockRows$Line" "filled" "I", Cond.fieldLink RX1 15 "BlockRows$Line" "places" "[I", Cond.methodLink RX1 22 yJ7_fill_53178, Cond.static yJ7_fill_53178, Cond.initialized RJ7, Cond.code yJ7_fill_53178 cJ7_fill_53178 4 none, Cond.methodLink RX3 118 yX1_append, Cond.instanceMethod yX1_append, Cond.selects RX1 yX1_append yX1_append, Cond.code yX1_append cX1_append 2 none, Cond.fieldLink RX1 9 "BlockRows$Line" "members" "[I", Cond.methodLink RX3 99 yX0_start, Cond.instanceMethod yX0_start, Cond.selects RX0 yX0_start yX0_start, Cond.initialized RX0, Cond.code yX0_start cX0_start 3 none, Cond.fieldLink RX0 15 "BlockRows$Chains" "next" "[I", Cond.fieldLink RX0 9 "BlockRows$Chains" "first" "[I", Cond.methodLink RX0 22 yJ7_fill_53178, Cond.methodLink RX0 28 yX1_holds, Cond.instanceMethod yX1_holds, Cond.selects RX1 yX1_holds yX1_holds]
def wsX3_weight_r3 : List Cond := [Cond.code yX1_holds cX1_holds 2 (some .boolean), Cond.methodLink RX3 103 yX0_joinAlong, Cond.instanceMethod yX0_joinAlong, Cond.selects RX0 yX0_joinAlong yX0_joinAlong, Cond.code yX0_joinAlong cX0_joinAlong 5 none, Cond.methodLink RX0 53 yX0_mayJoin, Cond.instanceMethod yX0_mayJoin, Cond.selects RX0 yX0_mayJoin yX0_mayJoin, Cond.code yX0_mayJoin cX0_mayJoin 5 (some .boolean), Cond.methodLink RX0 57 yX0_join, Cond.instanceMethod yX0_join, Cond.selects RX0 yX0_join yX0_join, Cond.code yX0_join cX0_join 5 none, Cond.methodLink RX3 107 yX0_lineUp, Cond.instanceMethod yX0_lineUp, Cond.selects RX0 yX0_lineUp yX0_lineUp, Cond.code yX0_lineUp cX0_lineUp 6 none, Cond.fieldLink RX0 18 "BlockRows$Chains" "pulls" "[J", Cond.methodLink RX0 61 yX1_empty, Cond.methodLink RX0 64 yJ7_fill_d0a16, Cond.static yJ7_fill_d0a16, Cond.code yJ7_fill_d0a16 cJ7_fill_d0a16 5 none, Cond.methodLink RX0 70 yX0_mostPulled, Cond.instanceMethod yX0_mostPulled]
def wsX3_weight_r4 : List Cond := [Cond.selects RX0 yX0_mostPulled yX0_mostPulled, Cond.code yX0_mostPulled cX0_mostPulled 6 (some .int), Cond.methodLink RX0 74 yX0_appendChain, Cond.instanceMethod yX0_appendChain, Cond.selects RX0 yX0_appendChain yX0_appendChain, Cond.code yX0_appendChain cX0_appendChain 5 none, Cond.methodLink RX0 85 yX1_append, Cond.methodLink RX0 78 yX0_pullTowards, Cond.instanceMethod yX0_pullTowards, Cond.selects RX0 yX0_pullTowards yX0_pullTowards, Cond.code yX0_pullTowards cX0_pullTowards 6 none, Cond.methodLink RX3 111 yX2_weigh, Cond.instanceMethod yX2_weigh, Cond.selects RX2 yX2_weigh yX2_weigh, Cond.initialized RX2, Cond.code yX2_weigh cX2_weigh 5 (some .long), Cond.fieldLink RX2 26 "BlockRows$Ways" "known" "I", Cond.fieldLink RX2 22 "BlockRows$Ways" "falling" "[Z", Cond.fieldLink RX2 9 "BlockRows$Ways" "from" "[I", Cond.fieldLink RX2 15 "BlockRows$Ways" "to" "[I", Cond.fieldLink RX2 18 "BlockRows$Ways" "counts" "[J", Cond.methodLink RX2 51 yX1_goesOn, Cond.instanceMethod yX1_goesOn, Cond.selects RX1 yX1_goesOn yX1_goesOn]
def wsX3_weight_r5 : List Cond := [Cond.code yX1_goesOn cX1_goesOn 3 (some .boolean), Cond.methodLink RX1 28 yX1_holds, Cond.methodLink RX3 74 yX3_chainsAreBetter, Cond.instanceMethod yX3_chainsAreBetter, Cond.selects RX3 yX3_chainsAreBetter yX3_chainsAreBetter, Cond.code yX3_chainsAreBetter cX3_chainsAreBetter 1 (some .boolean)]
def wsX3_weight : List Cond := .code yX3_weight cX3_weight 2 (some .long) :: ((wsX3_weight_r1 ++ (wsX3_weight_r2 ++ (wsX3_weight_r3 ++ (wsX3_weight_r4 ++ wsX3_weight_r5)))) ++ wsX30 ++ wsX10 ++ wsX00 ++ wsX20)
def wsX3_chain_r1 : List Cond := [Cond.fieldLink RX3 23 "BlockRows" "chains" "LBlockRows$Chains;", Cond.methodLink RX3 68 yX3_refresh, Cond.instanceMethod yX3_refresh, Cond.selects RX3 yX3_refresh yX3_refresh, Cond.initialized RX3, Cond.code yX3_refresh cX3_refresh 1 none, Cond.fieldLink RX3 44 "BlockRows" "stale" "Z", Cond.fieldLink RX3 34 "BlockRows" "hotByNumber" "LBlockRows$Line;", Cond.fieldLink RX3 16 "BlockRows" "ways" "LBlockRows$Ways;", Cond.fieldLink RX3 37 "BlockRows" "hotByChains" "LBlockRows$Line;", Cond.fieldLink RX3 30 "BlockRows" "allByNumber" "LBlockRows$Line;", Cond.fieldLink RX3 89 "BlockRows" "allWeight" "J", Cond.fieldLink RX3 86 "BlockRows" "hotWeight" "J", Cond.fieldLink RX3 82 "BlockRows" "chainsWeight" "J", Cond.methodLink RX3 96 yX3_lineUpByNumber, Cond.instanceMethod yX3_lineUpByNumber, Cond.selects RX3 yX3_lineUpByNumber yX3_lineUpByNumber, Cond.code yX3_lineUpByNumber cX3_lineUpByNumber 2 none, Cond.fieldLink RX3 40 "BlockRows" "blocks" "I", Cond.fieldLink RX3 9 "BlockRows" "hot" "[Z", Cond.methodLink RX3 115 yX1_empty, Cond.instanceMethod yX1_empty, Cond.selects RX1 yX1_empty yX1_empty, Cond.initialized RX1]
def wsX3_chain_r2 : List Cond := [Cond.code yX1_empty cX1_empty 1 none, Cond.fieldLink RX1 18 "BlockRows$Line" "filled" "I", Cond.fieldLink RX1 15 "BlockRows$Line" "places" "[I", Cond.methodLink RX1 22 yJ7_fill_53178, Cond.static yJ7_fill_53178, Cond.initialized RJ7, Cond.code yJ7_fill_53178 cJ7_fill_53178 4 none, Cond.methodLink RX3 118 yX1_append, Cond.instanceMethod yX1_append, Cond.selects RX1 yX1_append yX1_append, Cond.code yX1_append cX1_append 2 none, Cond.fieldLink RX1 9 "BlockRows$Line" "members" "[I", Cond.methodLink RX3 99 yX0_start, Cond.instanceMethod yX0_start, Cond.selects RX0 yX0_start yX0_start, Cond.initialized RX0, Cond.code yX0_start cX0_start 3 none, Cond.fieldLink RX0 15 "BlockRows$Chains" "next" "[I", Cond.fieldLink RX0 9 "BlockRows$Chains" "first" "[I", Cond.methodLink RX0 22 yJ7_fill_53178, Cond.methodLink RX0 28 yX1_holds, Cond.instanceMethod yX1_holds, Cond.selects RX1 yX1_holds yX1_holds, Cond.code yX1_holds cX1_holds 2 (some .boolean)]
def wsX3_chain_r3 : List Cond := [Cond.methodLink RX3 103 yX0_joinAlong, Cond.instanceMethod yX0_joinAlong, Cond.selects RX0 yX0_joinAlong yX0_joinAlong, Cond.code yX0_joinAlong cX0_joinAlong 5 none, Cond.methodLink RX0 53 yX0_mayJoin, Cond.instanceMethod yX0_mayJoin, Cond.selects RX0 yX0_mayJoin yX0_mayJoin, Cond.code yX0_mayJoin cX0_mayJoin 5 (some .boolean), Cond.methodLink RX0 57 yX0_join, Cond.instanceMethod yX0_join, Cond.selects RX0 yX0_join yX0_join, Cond.code yX0_join cX0_join 5 none, Cond.methodLink RX3 107 yX0_lineUp, Cond.instanceMethod yX0_lineUp, Cond.selects RX0 yX0_lineUp yX0_lineUp, Cond.code yX0_lineUp cX0_lineUp 6 none, Cond.fieldLink RX0 18 "BlockRows$Chains" "pulls" "[J", Cond.methodLink RX0 61 yX1_empty, Cond.methodLink RX0 64 yJ7_fill_d0a16, Cond.static yJ7_fill_d0a16, Cond.code yJ7_fill_d0a16 cJ7_fill_d0a16 5 none, Cond.methodLink RX0 70 yX0_mostPulled, Cond.instanceMethod yX0_mostPulled, Cond.selects RX0 yX0_mostPulled yX0_mostPulled]
def wsX3_chain_r4 : List Cond := [Cond.code yX0_mostPulled cX0_mostPulled 6 (some .int), Cond.methodLink RX0 74 yX0_appendChain, Cond.instanceMethod yX0_appendChain, Cond.selects RX0 yX0_appendChain yX0_appendChain, Cond.code yX0_appendChain cX0_appendChain 5 none, Cond.methodLink RX0 85 yX1_append, Cond.methodLink RX0 78 yX0_pullTowards, Cond.instanceMethod yX0_pullTowards, Cond.selects RX0 yX0_pullTowards yX0_pullTowards, Cond.code yX0_pullTowards cX0_pullTowards 6 none, Cond.methodLink RX3 111 yX2_weigh, Cond.instanceMethod yX2_weigh, Cond.selects RX2 yX2_weigh yX2_weigh, Cond.initialized RX2, Cond.code yX2_weigh cX2_weigh 5 (some .long), Cond.fieldLink RX2 26 "BlockRows$Ways" "known" "I", Cond.fieldLink RX2 22 "BlockRows$Ways" "falling" "[Z", Cond.fieldLink RX2 9 "BlockRows$Ways" "from" "[I", Cond.fieldLink RX2 15 "BlockRows$Ways" "to" "[I", Cond.fieldLink RX2 18 "BlockRows$Ways" "counts" "[J", Cond.methodLink RX2 51 yX1_goesOn, Cond.instanceMethod yX1_goesOn, Cond.selects RX1 yX1_goesOn yX1_goesOn, Cond.code yX1_goesOn cX1_goesOn 3 (some .boolean)]
def wsX3_chain_r5 : List Cond := [Cond.methodLink RX1 28 yX1_holds, Cond.methodLink RX3 51 yX3_isBlock, Cond.instanceMethod yX3_isBlock, Cond.selects RX3 yX3_isBlock yX3_isBlock, Cond.code yX3_isBlock cX3_isBlock 2 (some .boolean)]
def wsX3_chain : List Cond := .code yX3_chain cX3_chain 2 (some .int) :: ((wsX3_chain_r1 ++ (wsX3_chain_r2 ++ (wsX3_chain_r3 ++ (wsX3_chain_r4 ++ wsX3_chain_r5)))) ++ wsX30 ++ wsX00 ++ wsX10 ++ wsX20)
def wsX4_init : List Cond := .code yX4_init cX4_init 1 none :: ([.methodLink RX4 1 objectInit, .instanceMethod objectInit, .code objectInit ⟨#[0xb1]⟩ 1 none, .fieldLink RX4 7 "BlockRowsModel" "blocks" "I", .arrayClass .boolean, .fieldLink RX4 13 "BlockRowsModel" "hot" "[Z", .arrayClass .int, .fieldLink RX4 17 "BlockRowsModel" "from" "[I", .fieldLink RX4 21 "BlockRowsModel" "to" "[I", .arrayClass .long, .fieldLink RX4 24 "BlockRowsModel" "counts" "[J", .fieldLink RX4 28 "BlockRowsModel" "fall" "[Z", .constant RX4 31 (40000), .fieldLink RX4 32 "BlockRowsModel" "table" "[I", .fieldLink RX4 35 "BlockRowsModel" "many" "[I", .fieldLink RX4 38 "BlockRowsModel" "chainOf" "[I", .fieldLink RX4 41 "BlockRowsModel" "byChains" "[I", .fieldLink RX4 44 "BlockRowsModel" "byNumber" "[I", .fieldLink RX4 47 "BlockRowsModel" "looked" "[Z", .fieldLink RX4 50 "BlockRowsModel" "isPlaced" "[Z", .fieldLink RX4 53 "BlockRowsModel" "all" "[I"] ++ wsX40)
def wsX4_isBlock : List Cond := .code yX4_isBlock cX4_isBlock 2 (some .boolean) :: ([.fieldLink RX4 7 "BlockRowsModel" "blocks" "I"] ++ wsX40)
def wsX4_size : List Cond := .code yX4_size cX4_size 3 (some .boolean) :: ([.fieldLink RX4 7 "BlockRowsModel" "blocks" "I", .fieldLink RX4 56 "BlockRowsModel" "ways" "I", .fieldLink RX4 13 "BlockRowsModel" "hot" "[Z", .fieldLink RX4 59 "BlockRowsModel" "isKnown" "Z"] ++ wsX40)
def wsX4_heat : List Cond := .code yX4_heat cX4_heat 3 (some .boolean) :: ([.fieldLink RX4 13 "BlockRowsModel" "hot" "[Z", .fieldLink RX4 59 "BlockRowsModel" "isKnown" "Z", .methodLink RX4 63 yX4_isBlock, .instanceMethod yX4_isBlock, .selects RX4 yX4_isBlock yX4_isBlock, .initialized RX4, .code yX4_isBlock cX4_isBlock 2 (some .boolean), .fieldLink RX4 7 "BlockRowsModel" "blocks" "I"] ++ wsX40)
def wsX4_find : List Cond := .code yX4_find cX4_find 4 (some .int) :: ([.fieldLink RX4 56 "BlockRowsModel" "ways" "I", .fieldLink RX4 17 "BlockRowsModel" "from" "[I", .fieldLink RX4 21 "BlockRowsModel" "to" "[I"] ++ wsX40)
def wsX4_way_r1 : List Cond := [Cond.constantLong RX4 67 (-1), Cond.constant RX4 69 (1000000000), Cond.constantLong RX4 70 (-2), Cond.fieldLink RX4 56 "BlockRowsModel" "ways" "I", Cond.constantLong RX4 76 (-3), Cond.fieldLink RX4 17 "BlockRowsModel" "from" "[I", Cond.fieldLink RX4 21 "BlockRowsModel" "to" "[I", Cond.fieldLink RX4 24 "BlockRowsModel" "counts" "[J", Cond.constantLong RX4 78 (1000000000000000), Cond.methodLink RX4 80 Lib.MathLoose.min_long.x, Cond.static Lib.MathLoose.min_long.x, Cond.initialized "java/lang/Math", Cond.code Lib.MathLoose.min_long.x Lib.MathLoose.min_long.code 4 (some .long), Cond.fieldLink RX4 28 "BlockRowsModel" "fall" "[Z", Cond.fieldLink RX4 59 "BlockRowsModel" "isKnown" "Z", Cond.methodLink RX4 63 yX4_isBlock, Cond.instanceMethod yX4_isBlock, Cond.selects RX4 yX4_isBlock yX4_isBlock, Cond.initialized RX4, Cond.code yX4_isBlock cX4_isBlock 2 (some .boolean), Cond.fieldLink RX4 7 "BlockRowsModel" "blocks" "I", Cond.methodLink RX4 72 yX4_find, Cond.instanceMethod yX4_find, Cond.selects RX4 yX4_find yX4_find]
def wsX4_way_r2 : List Cond := [Cond.code yX4_find cX4_find 4 (some .int)]
def wsX4_way : List Cond := .code yX4_way cX4_way 6 (some .long) :: ((wsX4_way_r1 ++ wsX4_way_r2) ++ wsX40)
def wsX4_count : List Cond := .code yX4_count cX4_count 4 (some .long) :: ([.fieldLink RX4 24 "BlockRowsModel" "counts" "[J", .methodLink RX4 72 yX4_find, .instanceMethod yX4_find, .selects RX4 yX4_find yX4_find, .initialized RX4, .code yX4_find cX4_find 4 (some .int), .fieldLink RX4 56 "BlockRowsModel" "ways" "I", .fieldLink RX4 17 "BlockRowsModel" "from" "[I", .fieldLink RX4 21 "BlockRowsModel" "to" "[I"] ++ wsX40)
def wsX4_comesBefore : List Cond := .code yX4_comesBefore cX4_comesBefore 3 (some .boolean) :: ([.fieldLink RX4 24 "BlockRowsModel" "counts" "[J", .fieldLink RX4 17 "BlockRowsModel" "from" "[I", .fieldLink RX4 21 "BlockRowsModel" "to" "[I"] ++ wsX40)
def wsX4_chains : List Cond := .code yX4_chains cX4_chains 7 none :: ([.fieldLink RX4 56 "BlockRowsModel" "ways" "I", .fieldLink RX4 47 "BlockRowsModel" "looked" "[Z", .fieldLink RX4 28 "BlockRowsModel" "fall" "[Z", .fieldLink RX4 24 "BlockRowsModel" "counts" "[J", .fieldLink RX4 13 "BlockRowsModel" "hot" "[Z", .fieldLink RX4 17 "BlockRowsModel" "from" "[I", .fieldLink RX4 21 "BlockRowsModel" "to" "[I", .fieldLink RX4 38 "BlockRowsModel" "chainOf" "[I", .fieldLink RX4 32 "BlockRowsModel" "table" "[I", .fieldLink RX4 35 "BlockRowsModel" "many" "[I", .methodLink RX4 102 yX4_comesBefore, .instanceMethod yX4_comesBefore, .selects RX4 yX4_comesBefore yX4_comesBefore, .initialized RX4, .code yX4_comesBefore cX4_comesBefore 3 (some .boolean)] ++ wsX40)
def wsX4_sum : List Cond := .code yX4_sum cX4_sum 7 (some .long) :: ([.fieldLink RX4 56 "BlockRowsModel" "ways" "I", .fieldLink RX4 17 "BlockRowsModel" "from" "[I", .fieldLink RX4 21 "BlockRowsModel" "to" "[I", .fieldLink RX4 38 "BlockRowsModel" "chainOf" "[I", .fieldLink RX4 50 "BlockRowsModel" "isPlaced" "[Z", .fieldLink RX4 24 "BlockRowsModel" "counts" "[J"] ++ wsX40)
def wsX4_place : List Cond := .code yX4_place cX4_place 8 none :: ([.fieldLink RX4 7 "BlockRowsModel" "blocks" "I", .fieldLink RX4 50 "BlockRowsModel" "isPlaced" "[Z", .fieldLink RX4 86 "BlockRowsModel" "hots" "I", .constantLong RX4 67 (-1), .fieldLink RX4 13 "BlockRowsModel" "hot" "[Z", .fieldLink RX4 38 "BlockRowsModel" "chainOf" "[I", .fieldLink RX4 35 "BlockRowsModel" "many" "[I", .fieldLink RX4 41 "BlockRowsModel" "byChains" "[I", .fieldLink RX4 32 "BlockRowsModel" "table" "[I", .methodLink RX4 106 yX4_sum, .instanceMethod yX4_sum, .selects RX4 yX4_sum yX4_sum, .initialized RX4, .code yX4_sum cX4_sum 7 (some .long), .fieldLink RX4 56 "BlockRowsModel" "ways" "I", .fieldLink RX4 17 "BlockRowsModel" "from" "[I", .fieldLink RX4 21 "BlockRowsModel" "to" "[I", .fieldLink RX4 24 "BlockRowsModel" "counts" "[J"] ++ wsX40)
def wsX4_weightOf : List Cond := .code yX4_weightOf cX4_weightOf 7 (some .long) :: ([.fieldLink RX4 28 "BlockRowsModel" "fall" "[Z", .fieldLink RX4 24 "BlockRowsModel" "counts" "[J", .methodLink RX4 72 yX4_find, .instanceMethod yX4_find, .selects RX4 yX4_find yX4_find, .initialized RX4, .code yX4_find cX4_find 4 (some .int), .fieldLink RX4 56 "BlockRowsModel" "ways" "I", .fieldLink RX4 17 "BlockRowsModel" "from" "[I", .fieldLink RX4 21 "BlockRowsModel" "to" "[I"] ++ wsX40)
def wsX4_know_r1 : List Cond := [Cond.fieldLink RX4 59 "BlockRowsModel" "isKnown" "Z", Cond.fieldLink RX4 86 "BlockRowsModel" "hots" "I", Cond.fieldLink RX4 7 "BlockRowsModel" "blocks" "I", Cond.fieldLink RX4 38 "BlockRowsModel" "chainOf" "[I", Cond.fieldLink RX4 13 "BlockRowsModel" "hot" "[Z", Cond.fieldLink RX4 35 "BlockRowsModel" "many" "[I", Cond.fieldLink RX4 32 "BlockRowsModel" "table" "[I", Cond.fieldLink RX4 44 "BlockRowsModel" "byNumber" "[I", Cond.fieldLink RX4 41 "BlockRowsModel" "byChains" "[I", Cond.fieldLink RX4 99 "BlockRowsModel" "isBetter" "Z", Cond.methodLink RX4 89 yX4_chains, Cond.instanceMethod yX4_chains, Cond.selects RX4 yX4_chains yX4_chains, Cond.initialized RX4, Cond.code yX4_chains cX4_chains 7 none, Cond.fieldLink RX4 56 "BlockRowsModel" "ways" "I", Cond.fieldLink RX4 47 "BlockRowsModel" "looked" "[Z", Cond.fieldLink RX4 28 "BlockRowsModel" "fall" "[Z", Cond.fieldLink RX4 24 "BlockRowsModel" "counts" "[J", Cond.fieldLink RX4 17 "BlockRowsModel" "from" "[I", Cond.fieldLink RX4 21 "BlockRowsModel" "to" "[I", Cond.methodLink RX4 102 yX4_comesBefore, Cond.instanceMethod yX4_comesBefore, Cond.selects RX4 yX4_comesBefore yX4_comesBefore]
def wsX4_know_r2 : List Cond := [Cond.code yX4_comesBefore cX4_comesBefore 3 (some .boolean), Cond.methodLink RX4 92 yX4_place, Cond.instanceMethod yX4_place, Cond.selects RX4 yX4_place yX4_place, Cond.code yX4_place cX4_place 8 none, Cond.fieldLink RX4 50 "BlockRowsModel" "isPlaced" "[Z", Cond.constantLong RX4 67 (-1), Cond.methodLink RX4 106 yX4_sum, Cond.instanceMethod yX4_sum, Cond.selects RX4 yX4_sum yX4_sum, Cond.code yX4_sum cX4_sum 7 (some .long), Cond.methodLink RX4 95 yX4_weightOf, Cond.instanceMethod yX4_weightOf, Cond.selects RX4 yX4_weightOf yX4_weightOf, Cond.code yX4_weightOf cX4_weightOf 7 (some .long), Cond.methodLink RX4 72 yX4_find, Cond.instanceMethod yX4_find, Cond.selects RX4 yX4_find yX4_find, Cond.code yX4_find cX4_find 4 (some .int)]
def wsX4_know : List Cond := .code yX4_know cX4_know 2 none :: ((wsX4_know_r1 ++ wsX4_know_r2) ++ wsX40)
def wsX4_length_r1 : List Cond := [Cond.fieldLink RX4 86 "BlockRowsModel" "hots" "I", Cond.methodLink RX4 110 yX4_know, Cond.instanceMethod yX4_know, Cond.selects RX4 yX4_know yX4_know, Cond.initialized RX4, Cond.code yX4_know cX4_know 2 none, Cond.fieldLink RX4 59 "BlockRowsModel" "isKnown" "Z", Cond.fieldLink RX4 7 "BlockRowsModel" "blocks" "I", Cond.fieldLink RX4 38 "BlockRowsModel" "chainOf" "[I", Cond.fieldLink RX4 13 "BlockRowsModel" "hot" "[Z", Cond.fieldLink RX4 35 "BlockRowsModel" "many" "[I", Cond.fieldLink RX4 32 "BlockRowsModel" "table" "[I", Cond.fieldLink RX4 44 "BlockRowsModel" "byNumber" "[I", Cond.fieldLink RX4 41 "BlockRowsModel" "byChains" "[I", Cond.fieldLink RX4 99 "BlockRowsModel" "isBetter" "Z", Cond.methodLink RX4 89 yX4_chains, Cond.instanceMethod yX4_chains, Cond.selects RX4 yX4_chains yX4_chains, Cond.code yX4_chains cX4_chains 7 none, Cond.fieldLink RX4 56 "BlockRowsModel" "ways" "I", Cond.fieldLink RX4 47 "BlockRowsModel" "looked" "[Z", Cond.fieldLink RX4 28 "BlockRowsModel" "fall" "[Z", Cond.fieldLink RX4 24 "BlockRowsModel" "counts" "[J", Cond.fieldLink RX4 17 "BlockRowsModel" "from" "[I"]
def wsX4_length_r2 : List Cond := [Cond.fieldLink RX4 21 "BlockRowsModel" "to" "[I", Cond.methodLink RX4 102 yX4_comesBefore, Cond.instanceMethod yX4_comesBefore, Cond.selects RX4 yX4_comesBefore yX4_comesBefore, Cond.code yX4_comesBefore cX4_comesBefore 3 (some .boolean), Cond.methodLink RX4 92 yX4_place, Cond.instanceMethod yX4_place, Cond.selects RX4 yX4_place yX4_place, Cond.code yX4_place cX4_place 8 none, Cond.fieldLink RX4 50 "BlockRowsModel" "isPlaced" "[Z", Cond.constantLong RX4 67 (-1), Cond.methodLink RX4 106 yX4_sum, Cond.instanceMethod yX4_sum, Cond.selects RX4 yX4_sum yX4_sum, Cond.code yX4_sum cX4_sum 7 (some .long), Cond.methodLink RX4 95 yX4_weightOf, Cond.instanceMethod yX4_weightOf, Cond.selects RX4 yX4_weightOf yX4_weightOf, Cond.code yX4_weightOf cX4_weightOf 7 (some .long), Cond.methodLink RX4 72 yX4_find, Cond.instanceMethod yX4_find, Cond.selects RX4 yX4_find yX4_find, Cond.code yX4_find cX4_find 4 (some .int)]
def wsX4_length : List Cond := .code yX4_length cX4_length 1 (some .int) :: ((wsX4_length_r1 ++ wsX4_length_r2) ++ wsX40)
def wsX4_row_r1 : List Cond := [Cond.fieldLink RX4 86 "BlockRowsModel" "hots" "I", Cond.fieldLink RX4 99 "BlockRowsModel" "isBetter" "Z", Cond.fieldLink RX4 41 "BlockRowsModel" "byChains" "[I", Cond.fieldLink RX4 44 "BlockRowsModel" "byNumber" "[I", Cond.methodLink RX4 110 yX4_know, Cond.instanceMethod yX4_know, Cond.selects RX4 yX4_know yX4_know, Cond.initialized RX4, Cond.code yX4_know cX4_know 2 none, Cond.fieldLink RX4 59 "BlockRowsModel" "isKnown" "Z", Cond.fieldLink RX4 7 "BlockRowsModel" "blocks" "I", Cond.fieldLink RX4 38 "BlockRowsModel" "chainOf" "[I", Cond.fieldLink RX4 13 "BlockRowsModel" "hot" "[Z", Cond.fieldLink RX4 35 "BlockRowsModel" "many" "[I", Cond.fieldLink RX4 32 "BlockRowsModel" "table" "[I", Cond.methodLink RX4 89 yX4_chains, Cond.instanceMethod yX4_chains, Cond.selects RX4 yX4_chains yX4_chains, Cond.code yX4_chains cX4_chains 7 none, Cond.fieldLink RX4 56 "BlockRowsModel" "ways" "I", Cond.fieldLink RX4 47 "BlockRowsModel" "looked" "[Z", Cond.fieldLink RX4 28 "BlockRowsModel" "fall" "[Z", Cond.fieldLink RX4 24 "BlockRowsModel" "counts" "[J", Cond.fieldLink RX4 17 "BlockRowsModel" "from" "[I"]
def wsX4_row_r2 : List Cond := [Cond.fieldLink RX4 21 "BlockRowsModel" "to" "[I", Cond.methodLink RX4 102 yX4_comesBefore, Cond.instanceMethod yX4_comesBefore, Cond.selects RX4 yX4_comesBefore yX4_comesBefore, Cond.code yX4_comesBefore cX4_comesBefore 3 (some .boolean), Cond.methodLink RX4 92 yX4_place, Cond.instanceMethod yX4_place, Cond.selects RX4 yX4_place yX4_place, Cond.code yX4_place cX4_place 8 none, Cond.fieldLink RX4 50 "BlockRowsModel" "isPlaced" "[Z", Cond.constantLong RX4 67 (-1), Cond.methodLink RX4 106 yX4_sum, Cond.instanceMethod yX4_sum, Cond.selects RX4 yX4_sum yX4_sum, Cond.code yX4_sum cX4_sum 7 (some .long), Cond.methodLink RX4 95 yX4_weightOf, Cond.instanceMethod yX4_weightOf, Cond.selects RX4 yX4_weightOf yX4_weightOf, Cond.code yX4_weightOf cX4_weightOf 7 (some .long), Cond.methodLink RX4 72 yX4_find, Cond.instanceMethod yX4_find, Cond.selects RX4 yX4_find yX4_find, Cond.code yX4_find cX4_find 4 (some .int)]
def wsX4_row : List Cond := .code yX4_row cX4_row 2 (some .int) :: ((wsX4_row_r1 ++ wsX4_row_r2) ++ wsX40)
def wsX4_weight_r1 : List Cond := [Cond.constantLong RX4 67 (-1), Cond.fieldLink RX4 7 "BlockRowsModel" "blocks" "I", Cond.fieldLink RX4 53 "BlockRowsModel" "all" "[I", Cond.fieldLink RX4 99 "BlockRowsModel" "isBetter" "Z", Cond.fieldLink RX4 41 "BlockRowsModel" "byChains" "[I", Cond.fieldLink RX4 44 "BlockRowsModel" "byNumber" "[I", Cond.fieldLink RX4 86 "BlockRowsModel" "hots" "I", Cond.methodLink RX4 110 yX4_know, Cond.instanceMethod yX4_know, Cond.selects RX4 yX4_know yX4_know, Cond.initialized RX4, Cond.code yX4_know cX4_know 2 none, Cond.fieldLink RX4 59 "BlockRowsModel" "isKnown" "Z", Cond.fieldLink RX4 38 "BlockRowsModel" "chainOf" "[I", Cond.fieldLink RX4 13 "BlockRowsModel" "hot" "[Z", Cond.fieldLink RX4 35 "BlockRowsModel" "many" "[I", Cond.fieldLink RX4 32 "BlockRowsModel" "table" "[I", Cond.methodLink RX4 89 yX4_chains, Cond.instanceMethod yX4_chains, Cond.selects RX4 yX4_chains yX4_chains, Cond.code yX4_chains cX4_chains 7 none, Cond.fieldLink RX4 56 "BlockRowsModel" "ways" "I", Cond.fieldLink RX4 47 "BlockRowsModel" "looked" "[Z", Cond.fieldLink RX4 28 "BlockRowsModel" "fall" "[Z"]
def wsX4_weight_r2 : List Cond := [Cond.fieldLink RX4 24 "BlockRowsModel" "counts" "[J", Cond.fieldLink RX4 17 "BlockRowsModel" "from" "[I", Cond.fieldLink RX4 21 "BlockRowsModel" "to" "[I", Cond.methodLink RX4 102 yX4_comesBefore, Cond.instanceMethod yX4_comesBefore, Cond.selects RX4 yX4_comesBefore yX4_comesBefore, Cond.code yX4_comesBefore cX4_comesBefore 3 (some .boolean), Cond.methodLink RX4 92 yX4_place, Cond.instanceMethod yX4_place, Cond.selects RX4 yX4_place yX4_place, Cond.code yX4_place cX4_place 8 none, Cond.fieldLink RX4 50 "BlockRowsModel" "isPlaced" "[Z", Cond.methodLink RX4 106 yX4_sum, Cond.instanceMethod yX4_sum, Cond.selects RX4 yX4_sum yX4_sum, Cond.code yX4_sum cX4_sum 7 (some .long), Cond.methodLink RX4 95 yX4_weightOf, Cond.instanceMethod yX4_weightOf, Cond.selects RX4 yX4_weightOf yX4_weightOf, Cond.code yX4_weightOf cX4_weightOf 7 (some .long), Cond.methodLink RX4 72 yX4_find, Cond.instanceMethod yX4_find, Cond.selects RX4 yX4_find yX4_find, Cond.code yX4_find cX4_find 4 (some .int)]
def wsX4_weight : List Cond := .code yX4_weight cX4_weight 3 (some .long) :: ((wsX4_weight_r1 ++ wsX4_weight_r2) ++ wsX40)
def wsX4_chain_r1 : List Cond := [Cond.fieldLink RX4 13 "BlockRowsModel" "hot" "[Z", Cond.fieldLink RX4 32 "BlockRowsModel" "table" "[I", Cond.fieldLink RX4 38 "BlockRowsModel" "chainOf" "[I", Cond.methodLink RX4 110 yX4_know, Cond.instanceMethod yX4_know, Cond.selects RX4 yX4_know yX4_know, Cond.initialized RX4, Cond.code yX4_know cX4_know 2 none, Cond.fieldLink RX4 59 "BlockRowsModel" "isKnown" "Z", Cond.fieldLink RX4 86 "BlockRowsModel" "hots" "I", Cond.fieldLink RX4 7 "BlockRowsModel" "blocks" "I", Cond.fieldLink RX4 35 "BlockRowsModel" "many" "[I", Cond.fieldLink RX4 44 "BlockRowsModel" "byNumber" "[I", Cond.fieldLink RX4 41 "BlockRowsModel" "byChains" "[I", Cond.fieldLink RX4 99 "BlockRowsModel" "isBetter" "Z", Cond.methodLink RX4 89 yX4_chains, Cond.instanceMethod yX4_chains, Cond.selects RX4 yX4_chains yX4_chains, Cond.code yX4_chains cX4_chains 7 none, Cond.fieldLink RX4 56 "BlockRowsModel" "ways" "I", Cond.fieldLink RX4 47 "BlockRowsModel" "looked" "[Z", Cond.fieldLink RX4 28 "BlockRowsModel" "fall" "[Z", Cond.fieldLink RX4 24 "BlockRowsModel" "counts" "[J", Cond.fieldLink RX4 17 "BlockRowsModel" "from" "[I"]
def wsX4_chain_r2 : List Cond := [Cond.fieldLink RX4 21 "BlockRowsModel" "to" "[I", Cond.methodLink RX4 102 yX4_comesBefore, Cond.instanceMethod yX4_comesBefore, Cond.selects RX4 yX4_comesBefore yX4_comesBefore, Cond.code yX4_comesBefore cX4_comesBefore 3 (some .boolean), Cond.methodLink RX4 92 yX4_place, Cond.instanceMethod yX4_place, Cond.selects RX4 yX4_place yX4_place, Cond.code yX4_place cX4_place 8 none, Cond.fieldLink RX4 50 "BlockRowsModel" "isPlaced" "[Z", Cond.constantLong RX4 67 (-1), Cond.methodLink RX4 106 yX4_sum, Cond.instanceMethod yX4_sum, Cond.selects RX4 yX4_sum yX4_sum, Cond.code yX4_sum cX4_sum 7 (some .long), Cond.methodLink RX4 95 yX4_weightOf, Cond.instanceMethod yX4_weightOf, Cond.selects RX4 yX4_weightOf yX4_weightOf, Cond.code yX4_weightOf cX4_weightOf 7 (some .long), Cond.methodLink RX4 72 yX4_find, Cond.instanceMethod yX4_find, Cond.selects RX4 yX4_find yX4_find, Cond.code yX4_find cX4_find 4 (some .int), Cond.methodLink RX4 63 yX4_isBlock]
def wsX4_chain_r3 : List Cond := [Cond.instanceMethod yX4_isBlock, Cond.selects RX4 yX4_isBlock yX4_isBlock, Cond.code yX4_isBlock cX4_isBlock 2 (some .boolean)]
def wsX4_chain : List Cond := .code yX4_chain cX4_chain 2 (some .int) :: ((wsX4_chain_r1 ++ (wsX4_chain_r2 ++ wsX4_chain_r3)) ++ wsX40)
def wsJ9_min_f86c9 : List Cond := .code yJ9_min_f86c9 cJ9_min_f86c9 4 (some .long) :: ([])
def wsL_law_r1 : List Cond := [Cond.classLink RL 7 RX3, Cond.instantiable RX3 11, Cond.initialized RX3, Cond.classLink RL 10 RX4, Cond.instantiable RX4 18, Cond.initialized RX4, Cond.methodLink RL 9 yX3_init, Cond.instanceMethod yX3_init, Cond.code yX3_init cX3_init 1 none, Cond.methodLink RX3 1 objectInit, Cond.instanceMethod objectInit, Cond.code objectInit ⟨#[0xb1]⟩ 1 none, Cond.arrayClass .boolean, Cond.fieldLink RX3 9 "BlockRows" "hot" "[Z", Cond.classLink RX3 13 RX2, Cond.instantiable RX2 5, Cond.initialized RX2, Cond.fieldLink RX3 16 "BlockRows" "ways" "LBlockRows$Ways;", Cond.classLink RX3 20 RX0, Cond.instantiable RX0 3, Cond.initialized RX0, Cond.fieldLink RX3 23 "BlockRows" "chains" "LBlockRows$Chains;", Cond.classLink RX3 27 RX1, Cond.instantiable RX1 3]
def wsL_law_r2 : List Cond := [Cond.initialized RX1, Cond.fieldLink RX3 30 "BlockRows" "allByNumber" "LBlockRows$Line;", Cond.fieldLink RX3 34 "BlockRows" "hotByNumber" "LBlockRows$Line;", Cond.fieldLink RX3 37 "BlockRows" "hotByChains" "LBlockRows$Line;", Cond.fieldLink RX3 40 "BlockRows" "blocks" "I", Cond.fieldLink RX3 44 "BlockRows" "stale" "Z", Cond.instanceMethod yX2_init, Cond.code yX2_init cX2_init 1 none, Cond.methodLink RX2 3 objectInit, Cond.arrayClass .int, Cond.fieldLink RX2 9 "BlockRows$Ways" "from" "[I", Cond.fieldLink RX2 15 "BlockRows$Ways" "to" "[I", Cond.arrayClass .long, Cond.fieldLink RX2 18 "BlockRows$Ways" "counts" "[J", Cond.fieldLink RX2 22 "BlockRows$Ways" "falling" "[Z", Cond.instanceMethod yX0_init, Cond.code yX0_init cX0_init 1 none, Cond.methodLink RX0 3 objectInit, Cond.fieldLink RX0 9 "BlockRows$Chains" "first" "[I", Cond.fieldLink RX0 15 "BlockRows$Chains" "next" "[I", Cond.fieldLink RX0 18 "BlockRows$Chains" "pulls" "[J", Cond.instanceMethod yX1_init, Cond.code yX1_init cX1_init 1 none, Cond.methodLink RX1 3 objectInit]
def wsL_law_r3 : List Cond := [Cond.fieldLink RX1 9 "BlockRows$Line" "members" "[I", Cond.fieldLink RX1 15 "BlockRows$Line" "places" "[I", Cond.methodLink RL 12 yX4_init, Cond.instanceMethod yX4_init, Cond.code yX4_init cX4_init 1 none, Cond.methodLink RX4 1 objectInit, Cond.fieldLink RX4 7 "BlockRowsModel" "blocks" "I", Cond.fieldLink RX4 13 "BlockRowsModel" "hot" "[Z", Cond.fieldLink RX4 17 "BlockRowsModel" "from" "[I", Cond.fieldLink RX4 21 "BlockRowsModel" "to" "[I", Cond.fieldLink RX4 24 "BlockRowsModel" "counts" "[J", Cond.fieldLink RX4 28 "BlockRowsModel" "fall" "[Z", Cond.constant RX4 31 (40000), Cond.fieldLink RX4 32 "BlockRowsModel" "table" "[I", Cond.fieldLink RX4 35 "BlockRowsModel" "many" "[I", Cond.fieldLink RX4 38 "BlockRowsModel" "chainOf" "[I", Cond.fieldLink RX4 41 "BlockRowsModel" "byChains" "[I", Cond.fieldLink RX4 44 "BlockRowsModel" "byNumber" "[I", Cond.fieldLink RX4 47 "BlockRowsModel" "looked" "[Z", Cond.fieldLink RX4 50 "BlockRowsModel" "isPlaced" "[Z", Cond.fieldLink RX4 53 "BlockRowsModel" "all" "[I", Cond.methodLink RL 13 yX3_size, Cond.instanceMethod yX3_size, Cond.selects RX3 yX3_size yX3_size]
def wsL_law_r4 : List Cond := [Cond.code yX3_size cX3_size 3 (some .boolean), Cond.methodLink RX3 48 yX2_forget, Cond.instanceMethod yX2_forget, Cond.selects RX2 yX2_forget yX2_forget, Cond.code yX2_forget cX2_forget 1 none, Cond.fieldLink RX2 26 "BlockRows$Ways" "known" "I", Cond.methodLink RL 17 yX4_size, Cond.instanceMethod yX4_size, Cond.selects RX4 yX4_size yX4_size, Cond.code yX4_size cX4_size 3 (some .boolean), Cond.fieldLink RX4 56 "BlockRowsModel" "ways" "I", Cond.fieldLink RX4 59 "BlockRowsModel" "isKnown" "Z", Cond.methodLink RL 18 yX3_heat, Cond.instanceMethod yX3_heat, Cond.selects RX3 yX3_heat yX3_heat, Cond.code yX3_heat cX3_heat 3 (some .boolean), Cond.methodLink RX3 51 yX3_isBlock, Cond.instanceMethod yX3_isBlock, Cond.selects RX3 yX3_isBlock yX3_isBlock, Cond.code yX3_isBlock cX3_isBlock 2 (some .boolean), Cond.methodLink RL 22 yX4_heat, Cond.instanceMethod yX4_heat, Cond.selects RX4 yX4_heat yX4_heat, Cond.code yX4_heat cX4_heat 3 (some .boolean)]
def wsL_law_r5 : List Cond := [Cond.methodLink RX4 63 yX4_isBlock, Cond.instanceMethod yX4_isBlock, Cond.selects RX4 yX4_isBlock yX4_isBlock, Cond.code yX4_isBlock cX4_isBlock 2 (some .boolean), Cond.methodLink RL 23 yX3_way, Cond.instanceMethod yX3_way, Cond.selects RX3 yX3_way yX3_way, Cond.code yX3_way cX3_way 5 (some .long), Cond.constantLong RX3 55 (-1), Cond.constant RX3 57 (1000000000), Cond.constantLong RX3 58 (-2), Cond.methodLink RX3 60 yX2_tell, Cond.instanceMethod yX2_tell, Cond.selects RX2 yX2_tell yX2_tell, Cond.code yX2_tell cX2_tell 8 (some .long), Cond.constantLong RX2 37 (-3), Cond.constantLong RX2 39 (1000000000000000), Cond.methodLink RX2 41 Lib.MathLoose.min_long.x, Cond.static Lib.MathLoose.min_long.x, Cond.initialized "java/lang/Math", Cond.code Lib.MathLoose.min_long.x Lib.MathLoose.min_long.code 4 (some .long), Cond.methodLink RX2 30 yX2_find, Cond.instanceMethod yX2_find, Cond.selects RX2 yX2_find yX2_find]
def wsL_law_r6 : List Cond := [Cond.code yX2_find cX2_find 4 (some .int), Cond.methodLink RX2 34 yX2_add, Cond.instanceMethod yX2_add, Cond.selects RX2 yX2_add yX2_add, Cond.code yX2_add cX2_add 4 (some .int), Cond.methodLink RX2 47 yX2_moveForward, Cond.instanceMethod yX2_moveForward, Cond.selects RX2 yX2_moveForward yX2_moveForward, Cond.code yX2_moveForward cX2_moveForward 3 none, Cond.methodLink RX2 57 yX2_isBefore, Cond.instanceMethod yX2_isBefore, Cond.selects RX2 yX2_isBefore yX2_isBefore, Cond.code yX2_isBefore cX2_isBefore 3 (some .boolean), Cond.methodLink RX2 60 yX2_swap, Cond.instanceMethod yX2_swap, Cond.selects RX2 yX2_swap yX2_swap, Cond.code yX2_swap cX2_swap 8 none, Cond.methodLink RL 27 yX4_way, Cond.instanceMethod yX4_way, Cond.selects RX4 yX4_way yX4_way, Cond.code yX4_way cX4_way 6 (some .long), Cond.constantLong RX4 67 (-1), Cond.constant RX4 69 (1000000000), Cond.constantLong RX4 70 (-2)]
def wsL_law_r7 : List Cond := [Cond.constantLong RX4 76 (-3), Cond.constantLong RX4 78 (1000000000000000), Cond.methodLink RX4 80 Lib.MathLoose.min_long.x, Cond.methodLink RX4 72 yX4_find, Cond.instanceMethod yX4_find, Cond.selects RX4 yX4_find yX4_find, Cond.code yX4_find cX4_find 4 (some .int), Cond.methodLink RL 28 yX3_count, Cond.instanceMethod yX3_count, Cond.selects RX3 yX3_count yX3_count, Cond.code yX3_count cX3_count 3 (some .long), Cond.methodLink RX3 64 yX2_told, Cond.instanceMethod yX2_told, Cond.selects RX2 yX2_told yX2_told, Cond.code yX2_told cX2_told 4 (some .long), Cond.methodLink RL 32 yX4_count, Cond.instanceMethod yX4_count, Cond.selects RX4 yX4_count yX4_count, Cond.code yX4_count cX4_count 4 (some .long), Cond.methodLink RL 33 yX3_length, Cond.instanceMethod yX3_length, Cond.selects RX3 yX3_length yX3_length, Cond.code yX3_length cX3_length 1 (some .int), Cond.methodLink RX3 68 yX3_refresh]
def wsL_law_r8 : List Cond := [Cond.instanceMethod yX3_refresh, Cond.selects RX3 yX3_refresh yX3_refresh, Cond.code yX3_refresh cX3_refresh 1 none, Cond.fieldLink RX3 89 "BlockRows" "allWeight" "J", Cond.fieldLink RX3 86 "BlockRows" "hotWeight" "J", Cond.fieldLink RX3 82 "BlockRows" "chainsWeight" "J", Cond.methodLink RX3 96 yX3_lineUpByNumber, Cond.instanceMethod yX3_lineUpByNumber, Cond.selects RX3 yX3_lineUpByNumber yX3_lineUpByNumber, Cond.code yX3_lineUpByNumber cX3_lineUpByNumber 2 none, Cond.methodLink RX3 115 yX1_empty, Cond.instanceMethod yX1_empty, Cond.selects RX1 yX1_empty yX1_empty, Cond.code yX1_empty cX1_empty 1 none, Cond.fieldLink RX1 18 "BlockRows$Line" "filled" "I", Cond.methodLink RX1 22 yJ7_fill_53178, Cond.static yJ7_fill_53178, Cond.initialized RJ7, Cond.code yJ7_fill_53178 cJ7_fill_53178 4 none, Cond.methodLink RX3 118 yX1_append, Cond.instanceMethod yX1_append, Cond.selects RX1 yX1_append yX1_append, Cond.code yX1_append cX1_append 2 none, Cond.methodLink RX3 99 yX0_start]
def wsL_law_r9 : List Cond := [Cond.instanceMethod yX0_start, Cond.selects RX0 yX0_start yX0_start, Cond.code yX0_start cX0_start 3 none, Cond.methodLink RX0 22 yJ7_fill_53178, Cond.methodLink RX0 28 yX1_holds, Cond.instanceMethod yX1_holds, Cond.selects RX1 yX1_holds yX1_holds, Cond.code yX1_holds cX1_holds 2 (some .boolean), Cond.methodLink RX3 103 yX0_joinAlong, Cond.instanceMethod yX0_joinAlong, Cond.selects RX0 yX0_joinAlong yX0_joinAlong, Cond.code yX0_joinAlong cX0_joinAlong 5 none, Cond.methodLink RX0 53 yX0_mayJoin, Cond.instanceMethod yX0_mayJoin, Cond.selects RX0 yX0_mayJoin yX0_mayJoin, Cond.code yX0_mayJoin cX0_mayJoin 5 (some .boolean), Cond.methodLink RX0 57 yX0_join, Cond.instanceMethod yX0_join, Cond.selects RX0 yX0_join yX0_join, Cond.code yX0_join cX0_join 5 none, Cond.methodLink RX3 107 yX0_lineUp, Cond.instanceMethod yX0_lineUp, Cond.selects RX0 yX0_lineUp yX0_lineUp, Cond.code yX0_lineUp cX0_lineUp 6 none]
def wsL_law_r10 : List Cond := [Cond.methodLink RX0 61 yX1_empty, Cond.methodLink RX0 64 yJ7_fill_d0a16, Cond.static yJ7_fill_d0a16, Cond.code yJ7_fill_d0a16 cJ7_fill_d0a16 5 none, Cond.methodLink RX0 70 yX0_mostPulled, Cond.instanceMethod yX0_mostPulled, Cond.selects RX0 yX0_mostPulled yX0_mostPulled, Cond.code yX0_mostPulled cX0_mostPulled 6 (some .int), Cond.methodLink RX0 74 yX0_appendChain, Cond.instanceMethod yX0_appendChain, Cond.selects RX0 yX0_appendChain yX0_appendChain, Cond.code yX0_appendChain cX0_appendChain 5 none, Cond.methodLink RX0 85 yX1_append, Cond.methodLink RX0 78 yX0_pullTowards, Cond.instanceMethod yX0_pullTowards, Cond.selects RX0 yX0_pullTowards yX0_pullTowards, Cond.code yX0_pullTowards cX0_pullTowards 6 none, Cond.methodLink RX3 111 yX2_weigh, Cond.instanceMethod yX2_weigh, Cond.selects RX2 yX2_weigh yX2_weigh, Cond.code yX2_weigh cX2_weigh 5 (some .long), Cond.methodLink RX2 51 yX1_goesOn, Cond.instanceMethod yX1_goesOn, Cond.selects RX1 yX1_goesOn yX1_goesOn]
def wsL_law_r11 : List Cond := [Cond.code yX1_goesOn cX1_goesOn 3 (some .boolean), Cond.methodLink RX1 28 yX1_holds, Cond.methodLink RL 37 yX4_length, Cond.instanceMethod yX4_length, Cond.selects RX4 yX4_length yX4_length, Cond.code yX4_length cX4_length 1 (some .int), Cond.fieldLink RX4 86 "BlockRowsModel" "hots" "I", Cond.methodLink RX4 110 yX4_know, Cond.instanceMethod yX4_know, Cond.selects RX4 yX4_know yX4_know, Cond.code yX4_know cX4_know 2 none, Cond.fieldLink RX4 99 "BlockRowsModel" "isBetter" "Z", Cond.methodLink RX4 89 yX4_chains, Cond.instanceMethod yX4_chains, Cond.selects RX4 yX4_chains yX4_chains, Cond.code yX4_chains cX4_chains 7 none, Cond.methodLink RX4 102 yX4_comesBefore, Cond.instanceMethod yX4_comesBefore, Cond.selects RX4 yX4_comesBefore yX4_comesBefore, Cond.code yX4_comesBefore cX4_comesBefore 3 (some .boolean), Cond.methodLink RX4 92 yX4_place, Cond.instanceMethod yX4_place, Cond.selects RX4 yX4_place yX4_place, Cond.code yX4_place cX4_place 8 none]
def wsL_law_r12 : List Cond := [Cond.methodLink RX4 106 yX4_sum, Cond.instanceMethod yX4_sum, Cond.selects RX4 yX4_sum yX4_sum, Cond.code yX4_sum cX4_sum 7 (some .long), Cond.methodLink RX4 95 yX4_weightOf, Cond.instanceMethod yX4_weightOf, Cond.selects RX4 yX4_weightOf yX4_weightOf, Cond.code yX4_weightOf cX4_weightOf 7 (some .long), Cond.methodLink RL 38 yX3_row, Cond.instanceMethod yX3_row, Cond.selects RX3 yX3_row yX3_row, Cond.code yX3_row cX3_row 2 (some .int), Cond.methodLink RX3 74 yX3_chainsAreBetter, Cond.instanceMethod yX3_chainsAreBetter, Cond.selects RX3 yX3_chainsAreBetter yX3_chainsAreBetter, Cond.code yX3_chainsAreBetter cX3_chainsAreBetter 1 (some .boolean), Cond.methodLink RX3 78 yX1_blockAt, Cond.instanceMethod yX1_blockAt, Cond.selects RX1 yX1_blockAt yX1_blockAt, Cond.code yX1_blockAt cX1_blockAt 2 (some .int), Cond.methodLink RL 42 yX4_row, Cond.instanceMethod yX4_row, Cond.selects RX4 yX4_row yX4_row, Cond.code yX4_row cX4_row 2 (some .int)]
def wsL_law_r13 : List Cond := [Cond.methodLink RL 43 yX3_weight, Cond.instanceMethod yX3_weight, Cond.selects RX3 yX3_weight yX3_weight, Cond.code yX3_weight cX3_weight 2 (some .long), Cond.methodLink RL 47 yX4_weight, Cond.instanceMethod yX4_weight, Cond.selects RX4 yX4_weight yX4_weight, Cond.code yX4_weight cX4_weight 3 (some .long), Cond.methodLink RL 48 yX3_chain, Cond.instanceMethod yX3_chain, Cond.selects RX3 yX3_chain yX3_chain, Cond.code yX3_chain cX3_chain 2 (some .int), Cond.methodLink RL 51 yX4_chain, Cond.instanceMethod yX4_chain, Cond.selects RX4 yX4_chain yX4_chain, Cond.code yX4_chain cX4_chain 2 (some .int)]
def wsL_law : List Cond := (wsL_law_r1 ++ (wsL_law_r2 ++ (wsL_law_r3 ++ (wsL_law_r4 ++ (wsL_law_r5 ++ (wsL_law_r6 ++ (wsL_law_r7 ++ (wsL_law_r8 ++ (wsL_law_r9 ++ (wsL_law_r10 ++ (wsL_law_r11 ++ (wsL_law_r12 ++ wsL_law_r13)))))))))))) ++ wsX30 ++ wsX40 ++ wsX20 ++ wsX00 ++ wsX10 ++ ([] : List Cond)
abbrev vwCl : List vw_C := [(RX0, TX0, 3), (RX1, TX1, 3), (RX2, TX2, 5), (RX3, TX3, 11), (RX4, TX4, 18)]
end
section
set_option maxRecDepth 20000 in
theorem wsL_law_r1_in : GoodIn lw_tbl wsL_law_r1 := goodIn_p _ [34, 37] rfl (by decide +kernel)
set_option maxRecDepth 20000 in
theorem wsL_law_r2_in : GoodIn lw_tbl wsL_law_r2 := goodIn_p _ [42, 72, 89] rfl (by decide +kernel)
set_option maxRecDepth 20000 in
theorem wsL_law_r3_in : GoodIn lw_tbl wsL_law_r3 := goodIn_p _ [296] rfl (by decide +kernel)
set_option maxRecDepth 20000 in
theorem wsL_law_r4_in : GoodIn lw_tbl wsL_law_r4 := goodIn_p _ [141, 145, 357, 149, 153, 361] rfl (by decide +kernel)
set_option maxRecDepth 20000 in
theorem wsL_law_r5_in : GoodIn lw_tbl wsL_law_r5 := goodIn_p _ [365, 157, 164, 177] rfl (by decide +kernel)
set_option maxRecDepth 20000 in
theorem wsL_law_r6_in : GoodIn lw_tbl wsL_law_r6 := goodIn_p _ [168, 172, 181, 185, 189, 369] rfl (by decide +kernel)
set_option maxRecDepth 20000 in
theorem wsL_law_r7_in : GoodIn lw_tbl wsL_law_r7 := goodIn_p _ [376, 193, 197, 383, 201] rfl (by decide +kernel)
set_option maxRecDepth 20000 in
theorem wsL_law_r8_in : GoodIn lw_tbl wsL_law_r8 := goodIn_p _ [205, 209, 213, 216, 220] rfl (by decide +kernel)
set_option maxRecDepth 20000 in
theorem wsL_law_r9_in : GoodIn lw_tbl wsL_law_r9 := goodIn_p _ [224, 229, 233, 237, 241, 245] rfl (by decide +kernel)
set_option maxRecDepth 20000 in
theorem wsL_law_r10_in : GoodIn lw_tbl wsL_law_r10 := goodIn_p _ [249, 253, 257, 262, 266] rfl (by decide +kernel)
set_option maxRecDepth 20000 in
theorem wsL_law_r11_in : GoodIn lw_tbl wsL_law_r11 := goodIn_p _ [270, 387, 391, 395, 399, 403] rfl (by decide +kernel)
set_option maxRecDepth 20000 in
theorem wsL_law_r12_in : GoodIn lw_tbl wsL_law_r12 := goodIn_p _ [407, 411, 275, 279, 283, 415] rfl (by decide +kernel)
set_option maxRecDepth 20000 in
theorem wsL_law_r13_in : GoodIn lw_tbl wsL_law_r13 := goodIn_p _ [287, 419, 291, 423] rfl (by decide +kernel)
set_option maxRecDepth 20000 in
theorem wsX30_lin : GoodIn lw_tbl wsX30 := goodIn_p _ [] rfl (by decide +kernel)
set_option maxRecDepth 20000 in
theorem wsX40_lin : GoodIn lw_tbl wsX40 := goodIn_p _ [] rfl (by decide +kernel)
set_option maxRecDepth 20000 in
theorem wsX20_lin : GoodIn lw_tbl wsX20 := goodIn_p _ [] rfl (by decide +kernel)
set_option maxRecDepth 20000 in
theorem wsX00_lin : GoodIn lw_tbl wsX00 := goodIn_p _ [] rfl (by decide +kernel)
set_option maxRecDepth 20000 in
theorem wsX10_lin : GoodIn lw_tbl wsX10 := goodIn_p _ [] rfl (by decide +kernel)
theorem wsL_law_good : GoodIn lw_tbl wsL_law := goodIn_app (goodIn_app (goodIn_app (goodIn_app (goodIn_app (goodIn_app (goodIn_app wsL_law_r1_in (goodIn_app wsL_law_r2_in (goodIn_app wsL_law_r3_in (goodIn_app wsL_law_r4_in (goodIn_app wsL_law_r5_in (goodIn_app wsL_law_r6_in (goodIn_app wsL_law_r7_in (goodIn_app wsL_law_r8_in (goodIn_app wsL_law_r9_in (goodIn_app wsL_law_r10_in (goodIn_app wsL_law_r11_in (goodIn_app wsL_law_r12_in (wsL_law_r13_in))))))))))))) wsX30_lin) wsX40_lin) wsX20_lin) wsX00_lin) wsX10_lin) (fun w h => absurd h List.not_mem_nil)
theorem wsL_law_in : ∀ w ∈ wsL_law, w ∈ lw_tbl := fun w h => (wsL_law_good w h).1
theorem inlX0 : ∀ w ∈ wsX00, w ∈ wsL_law := fun _ h => List.mem_append_left _ (List.mem_append_left _ (List.mem_append_right _ h))
theorem inX0 : ∀ w ∈ wsX00, w ∈ lw_tbl := fun w h => wsL_law_in w (inlX0 w h)
theorem inlX1 : ∀ w ∈ wsX10, w ∈ wsL_law := fun _ h => List.mem_append_left _ (List.mem_append_right _ h)
theorem inX1 : ∀ w ∈ wsX10, w ∈ lw_tbl := fun w h => wsL_law_in w (inlX1 w h)
theorem inlX2 : ∀ w ∈ wsX20, w ∈ wsL_law := fun _ h => List.mem_append_left _ (List.mem_append_left _ (List.mem_append_left _ (List.mem_append_right _ h)))
theorem inX2 : ∀ w ∈ wsX20, w ∈ lw_tbl := fun w h => wsL_law_in w (inlX2 w h)
theorem inlX3 : ∀ w ∈ wsX30, w ∈ wsL_law := fun _ h => List.mem_append_left _ (List.mem_append_left _ (List.mem_append_left _ (List.mem_append_left _ (List.mem_append_left _ (List.mem_append_right _ h)))))
theorem inX3 : ∀ w ∈ wsX30, w ∈ lw_tbl := fun w h => wsL_law_in w (inlX3 w h)
theorem inlX4 : ∀ w ∈ wsX40, w ∈ wsL_law := fun _ h => List.mem_append_left _ (List.mem_append_left _ (List.mem_append_left _ (List.mem_append_left _ (List.mem_append_right _ h))))
theorem inX4 : ∀ w ∈ wsX40, w ∈ lw_tbl := fun w h => wsL_law_in w (inlX4 w h)
theorem inJ9 : ∀ w ∈ wsJ90, w ∈ lw_tbl := by decide +kernel
theorem inJ7 : ∀ w ∈ wsJ70, w ∈ lw_tbl := by decide +kernel
end
section
theorem dX0_init_0 : decode cX0_init 0 = .ok (.aload_n 0, 1) := by decide +kernel
theorem dX0_init_1 : decode cX0_init 1 = .ok (.invokespecial 3, 3) := by decide +kernel
theorem dX0_init_4 : decode cX0_init 4 = .ok (.aload_n 0, 1) := by decide +kernel
theorem dX0_init_5 : decode cX0_init 5 = .ok (.sipush 200, 3) := by decide +kernel
theorem dX0_init_8 : decode cX0_init 8 = .ok (.newarray .int, 2) := by decide +kernel
theorem dX0_init_10 : decode cX0_init 10 = .ok (.putfield 9, 3) := by decide +kernel
theorem dX0_init_13 : decode cX0_init 13 = .ok (.aload_n 0, 1) := by decide +kernel
theorem dX0_init_14 : decode cX0_init 14 = .ok (.sipush 200, 3) := by decide +kernel
theorem dX0_init_17 : decode cX0_init 17 = .ok (.newarray .int, 2) := by decide +kernel
theorem dX0_init_19 : decode cX0_init 19 = .ok (.putfield 15, 3) := by decide +kernel
theorem dX0_init_22 : decode cX0_init 22 = .ok (.aload_n 0, 1) := by decide +kernel
theorem dX0_init_23 : decode cX0_init 23 = .ok (.sipush 200, 3) := by decide +kernel
theorem dX0_init_26 : decode cX0_init 26 = .ok (.newarray .long, 2) := by decide +kernel
theorem dX0_init_28 : decode cX0_init 28 = .ok (.putfield 18, 3) := by decide +kernel
theorem dX0_init_31 : decode cX0_init 31 = .ok (.return_, 1) := by decide +kernel
set_option maxRecDepth 20000 in
theorem ggX0_start_J7_fill_53178 : GoodIn wsX0_start wsJ7_fill_53178 := goodIn_r _ [6] (by decide +kernel) (by decide +kernel)
set_option maxRecDepth 20000 in
theorem gX0_start_J7_fill_53178 : GoodIn wsX0_start (va_wsS RX0 22 yJ7_fill_53178 wsJ7_fill_53178) := goodIn_app (goodIn_of _ (by decide +kernel)) ggX0_start_J7_fill_53178
set_option maxRecDepth 20000 in
theorem ggX0_start_X1_holds : GoodIn wsX0_start wsX1_holds := goodIn_r _ [11, 12, 16, 17, 18] (by decide +kernel) (by decide +kernel)
set_option maxRecDepth 20000 in
theorem gX0_start_X1_holds : GoodIn wsX0_start (wsV RX0 28 RX1 yX1_holds wsX1_holds) := goodIn_app (goodIn_of _ (by decide +kernel)) ggX0_start_X1_holds
theorem dX0_start_0 : decode cX0_start 0 = .ok (.aload_n 0, 1) := by decide +kernel
theorem dX0_start_1 : decode cX0_start 1 = .ok (.getfield 15, 3) := by decide +kernel
theorem dX0_start_4 : decode cX0_start 4 = .ok (.iconst (-1), 1) := by decide +kernel
theorem dX0_start_5 : decode cX0_start 5 = .ok (.invokestatic 22, 3) := by decide +kernel
theorem dX0_start_8 : decode cX0_start 8 = .ok (.iconst 0, 1) := by decide +kernel
theorem dX0_start_9 : decode cX0_start 9 = .ok (.istore_n 2, 1) := by decide +kernel
theorem dX0_start_10 : decode cX0_start 10 = .ok (.iload_n 2, 1) := by decide +kernel
theorem dX0_start_11 : decode cX0_start 11 = .ok (.sipush 200, 3) := by decide +kernel
theorem dX0_start_14 : decode cX0_start 14 = .ok (.if_icmp .ge 28, 3) := by decide +kernel
theorem dX0_start_17 : decode cX0_start 17 = .ok (.aload_n 0, 1) := by decide +kernel
theorem dX0_start_18 : decode cX0_start 18 = .ok (.getfield 9, 3) := by decide +kernel
theorem dX0_start_21 : decode cX0_start 21 = .ok (.iload_n 2, 1) := by decide +kernel
theorem dX0_start_22 : decode cX0_start 22 = .ok (.aload_n 1, 1) := by decide +kernel
theorem dX0_start_23 : decode cX0_start 23 = .ok (.iload_n 2, 1) := by decide +kernel
theorem dX0_start_24 : decode cX0_start 24 = .ok (.invokevirtual 28, 3) := by decide +kernel
theorem dX0_start_27 : decode cX0_start 27 = .ok (.ifCond .eq 7, 3) := by decide +kernel
theorem dX0_start_30 : decode cX0_start 30 = .ok (.iload_n 2, 1) := by decide +kernel
theorem dX0_start_31 : decode cX0_start 31 = .ok (.goto 4, 3) := by decide +kernel
theorem dX0_start_34 : decode cX0_start 34 = .ok (.iconst (-1), 1) := by decide +kernel
theorem dX0_start_35 : decode cX0_start 35 = .ok (.iastore, 1) := by decide +kernel
theorem dX0_start_36 : decode cX0_start 36 = .ok (.iinc 2 1, 3) := by decide +kernel
theorem dX0_start_39 : decode cX0_start 39 = .ok (.goto (-29), 3) := by decide +kernel
theorem dX0_start_42 : decode cX0_start 42 = .ok (.return_, 1) := by decide +kernel
set_option maxRecDepth 20000 in
theorem ggX0_joinAlong_X0_mayJoin : GoodIn wsX0_joinAlong wsX0_mayJoin := goodIn_r _ [5, 6, 7, 17, 18, 19] (by decide +kernel) (by decide +kernel)
set_option maxRecDepth 20000 in
theorem gX0_joinAlong_X0_mayJoin : GoodIn wsX0_joinAlong (wsV RX0 53 RX0 yX0_mayJoin wsX0_mayJoin) := goodIn_app (goodIn_of _ (by decide +kernel)) ggX0_joinAlong_X0_mayJoin
set_option maxRecDepth 20000 in
theorem ggX0_joinAlong_X0_join : GoodIn wsX0_joinAlong wsX0_join := goodIn_r _ [11, 7, 6, 17, 18, 19] (by decide +kernel) (by decide +kernel)
set_option maxRecDepth 20000 in
theorem gX0_joinAlong_X0_join : GoodIn wsX0_joinAlong (wsV RX0 57 RX0 yX0_join wsX0_join) := goodIn_app (goodIn_of _ (by decide +kernel)) ggX0_joinAlong_X0_join
theorem dX0_joinAlong_0 : decode cX0_joinAlong 0 = .ok (.iconst 0, 1) := by decide +kernel
theorem dX0_joinAlong_1 : decode cX0_joinAlong 1 = .ok (.istore_n 2, 1) := by decide +kernel
theorem dX0_joinAlong_2 : decode cX0_joinAlong 2 = .ok (.iload_n 2, 1) := by decide +kernel
theorem dX0_joinAlong_3 : decode cX0_joinAlong 3 = .ok (.aload_n 1, 1) := by decide +kernel
theorem dX0_joinAlong_4 : decode cX0_joinAlong 4 = .ok (.getfield 34, 3) := by decide +kernel
theorem dX0_joinAlong_7 : decode cX0_joinAlong 7 = .ok (.if_icmp .ge 61, 3) := by decide +kernel
theorem dX0_joinAlong_10 : decode cX0_joinAlong 10 = .ok (.aload_n 1, 1) := by decide +kernel
theorem dX0_joinAlong_11 : decode cX0_joinAlong 11 = .ok (.getfield 40, 3) := by decide +kernel
theorem dX0_joinAlong_14 : decode cX0_joinAlong 14 = .ok (.iload_n 2, 1) := by decide +kernel
theorem dX0_joinAlong_15 : decode cX0_joinAlong 15 = .ok (.iaload, 1) := by decide +kernel
theorem dX0_joinAlong_16 : decode cX0_joinAlong 16 = .ok (.istore_n 3, 1) := by decide +kernel
theorem dX0_joinAlong_17 : decode cX0_joinAlong 17 = .ok (.aload_n 1, 1) := by decide +kernel
theorem dX0_joinAlong_18 : decode cX0_joinAlong 18 = .ok (.getfield 43, 3) := by decide +kernel
theorem dX0_joinAlong_21 : decode cX0_joinAlong 21 = .ok (.iload_n 2, 1) := by decide +kernel
theorem dX0_joinAlong_22 : decode cX0_joinAlong 22 = .ok (.iaload, 1) := by decide +kernel
theorem dX0_joinAlong_23 : decode cX0_joinAlong 23 = .ok (.istore 4, 2) := by decide +kernel
theorem dX0_joinAlong_25 : decode cX0_joinAlong 25 = .ok (.aload_n 1, 1) := by decide +kernel
theorem dX0_joinAlong_26 : decode cX0_joinAlong 26 = .ok (.getfield 46, 3) := by decide +kernel
theorem dX0_joinAlong_29 : decode cX0_joinAlong 29 = .ok (.iload_n 2, 1) := by decide +kernel
theorem dX0_joinAlong_30 : decode cX0_joinAlong 30 = .ok (.baload, 1) := by decide +kernel
theorem dX0_joinAlong_31 : decode cX0_joinAlong 31 = .ok (.ifCond .eq 31, 3) := by decide +kernel
theorem dX0_joinAlong_34 : decode cX0_joinAlong 34 = .ok (.aload_n 1, 1) := by decide +kernel
theorem dX0_joinAlong_35 : decode cX0_joinAlong 35 = .ok (.getfield 50, 3) := by decide +kernel
theorem dX0_joinAlong_38 : decode cX0_joinAlong 38 = .ok (.iload_n 2, 1) := by decide +kernel
theorem dX0_joinAlong_39 : decode cX0_joinAlong 39 = .ok (.laload, 1) := by decide +kernel
theorem dX0_joinAlong_40 : decode cX0_joinAlong 40 = .ok (.lconst 0, 1) := by decide +kernel
theorem dX0_joinAlong_41 : decode cX0_joinAlong 41 = .ok (.lcmp, 1) := by decide +kernel
theorem dX0_joinAlong_42 : decode cX0_joinAlong 42 = .ok (.ifCond .le 20, 3) := by decide +kernel
theorem dX0_joinAlong_45 : decode cX0_joinAlong 45 = .ok (.aload_n 0, 1) := by decide +kernel
theorem dX0_joinAlong_46 : decode cX0_joinAlong 46 = .ok (.iload_n 3, 1) := by decide +kernel
theorem dX0_joinAlong_47 : decode cX0_joinAlong 47 = .ok (.iload 4, 2) := by decide +kernel
theorem dX0_joinAlong_49 : decode cX0_joinAlong 49 = .ok (.invokevirtual 53, 3) := by decide +kernel
theorem dX0_joinAlong_52 : decode cX0_joinAlong 52 = .ok (.ifCond .eq 10, 3) := by decide +kernel
theorem dX0_joinAlong_55 : decode cX0_joinAlong 55 = .ok (.aload_n 0, 1) := by decide +kernel
theorem dX0_joinAlong_56 : decode cX0_joinAlong 56 = .ok (.iload_n 3, 1) := by decide +kernel
theorem dX0_joinAlong_57 : decode cX0_joinAlong 57 = .ok (.iload 4, 2) := by decide +kernel
theorem dX0_joinAlong_59 : decode cX0_joinAlong 59 = .ok (.invokevirtual 57, 3) := by decide +kernel
theorem dX0_joinAlong_62 : decode cX0_joinAlong 62 = .ok (.iinc 2 1, 3) := by decide +kernel
theorem dX0_joinAlong_65 : decode cX0_joinAlong 65 = .ok (.goto (-63), 3) := by decide +kernel
theorem dX0_joinAlong_68 : decode cX0_joinAlong 68 = .ok (.return_, 1) := by decide +kernel
set_option maxRecDepth 20000 in
theorem ggX0_lineUp_X1_empty : GoodIn wsX0_lineUp wsX1_empty := goodIn_r _ [6, 7, 8, 9, 10, 11, 12, 43, 44, 45] (by decide +kernel) (by decide +kernel)
set_option maxRecDepth 20000 in
theorem gX0_lineUp_X1_empty : GoodIn wsX0_lineUp (wsV RX0 61 RX1 yX1_empty wsX1_empty) := goodIn_app (goodIn_of _ (by decide +kernel)) ggX0_lineUp_X1_empty
set_option maxRecDepth 20000 in
theorem ggX0_lineUp_J7_fill_d0a16 : GoodIn wsX0_lineUp wsJ7_fill_d0a16 := goodIn_r _ [15] (by decide +kernel) (by decide +kernel)
set_option maxRecDepth 20000 in
theorem gX0_lineUp_J7_fill_d0a16 : GoodIn wsX0_lineUp (va_wsS RX0 64 yJ7_fill_d0a16 wsJ7_fill_d0a16) := goodIn_app (goodIn_of _ (by decide +kernel)) ggX0_lineUp_J7_fill_d0a16
set_option maxRecDepth 20000 in
theorem ggX0_lineUp_X0_mostPulled : GoodIn wsX0_lineUp wsX0_mostPulled := goodIn_r _ [20, 1, 21, 22, 23, 24, 5, 25, 8, 43, 44, 45, 40, 41, 42] (by decide +kernel) (by decide +kernel)
set_option maxRecDepth 20000 in
theorem gX0_lineUp_X0_mostPulled : GoodIn wsX0_lineUp (wsV RX0 70 RX0 yX0_mostPulled wsX0_mostPulled) := goodIn_app (goodIn_of _ (by decide +kernel)) ggX0_lineUp_X0_mostPulled
set_option maxRecDepth 20000 in
theorem ggX0_lineUp_X0_appendChain : GoodIn wsX0_lineUp wsX0_appendChain := goodIn_r _ [29, 30, 31, 32, 33, 5, 34, 7, 35, 8, 40, 41, 42, 43, 44, 45] (by decide +kernel) (by decide +kernel)
set_option maxRecDepth 20000 in
theorem gX0_lineUp_X0_appendChain : GoodIn wsX0_lineUp (wsV RX0 74 RX0 yX0_appendChain wsX0_appendChain) := goodIn_app (goodIn_of _ (by decide +kernel)) ggX0_lineUp_X0_appendChain
set_option maxRecDepth 20000 in
theorem ggX0_lineUp_X0_pullTowards : GoodIn wsX0_lineUp wsX0_pullTowards := goodIn_r _ [39, 21, 1, 46, 47, 48, 49, 50, 40, 41, 42] (by decide +kernel) (by decide +kernel)
set_option maxRecDepth 20000 in
theorem gX0_lineUp_X0_pullTowards : GoodIn wsX0_lineUp (wsV RX0 78 RX0 yX0_pullTowards wsX0_pullTowards) := goodIn_app (goodIn_of _ (by decide +kernel)) ggX0_lineUp_X0_pullTowards
theorem dX0_lineUp_0 : decode cX0_lineUp 0 = .ok (.aload_n 3, 1) := by decide +kernel
theorem dX0_lineUp_1 : decode cX0_lineUp 1 = .ok (.invokevirtual 61, 3) := by decide +kernel
theorem dX0_lineUp_4 : decode cX0_lineUp 4 = .ok (.aload_n 0, 1) := by decide +kernel
theorem dX0_lineUp_5 : decode cX0_lineUp 5 = .ok (.getfield 18, 3) := by decide +kernel
theorem dX0_lineUp_8 : decode cX0_lineUp 8 = .ok (.lconst 0, 1) := by decide +kernel
theorem dX0_lineUp_9 : decode cX0_lineUp 9 = .ok (.invokestatic 64, 3) := by decide +kernel
theorem dX0_lineUp_12 : decode cX0_lineUp 12 = .ok (.iconst 0, 1) := by decide +kernel
theorem dX0_lineUp_13 : decode cX0_lineUp 13 = .ok (.istore 4, 2) := by decide +kernel
theorem dX0_lineUp_15 : decode cX0_lineUp 15 = .ok (.iload 4, 2) := by decide +kernel
theorem dX0_lineUp_17 : decode cX0_lineUp 17 = .ok (.sipush 200, 3) := by decide +kernel
theorem dX0_lineUp_20 : decode cX0_lineUp 20 = .ok (.if_icmp .ge 49, 3) := by decide +kernel
theorem dX0_lineUp_23 : decode cX0_lineUp 23 = .ok (.aload_n 3, 1) := by decide +kernel
theorem dX0_lineUp_24 : decode cX0_lineUp 24 = .ok (.getfield 67, 3) := by decide +kernel
theorem dX0_lineUp_27 : decode cX0_lineUp 27 = .ok (.aload_n 1, 1) := by decide +kernel
theorem dX0_lineUp_28 : decode cX0_lineUp 28 = .ok (.getfield 67, 3) := by decide +kernel
theorem dX0_lineUp_31 : decode cX0_lineUp 31 = .ok (.if_icmp .ge 38, 3) := by decide +kernel
theorem dX0_lineUp_34 : decode cX0_lineUp 34 = .ok (.aload_n 0, 1) := by decide +kernel
theorem dX0_lineUp_35 : decode cX0_lineUp 35 = .ok (.aload_n 1, 1) := by decide +kernel
theorem dX0_lineUp_36 : decode cX0_lineUp 36 = .ok (.aload_n 3, 1) := by decide +kernel
theorem dX0_lineUp_37 : decode cX0_lineUp 37 = .ok (.invokevirtual 70, 3) := by decide +kernel
theorem dX0_lineUp_40 : decode cX0_lineUp 40 = .ok (.istore 5, 2) := by decide +kernel
theorem dX0_lineUp_42 : decode cX0_lineUp 42 = .ok (.iload 5, 2) := by decide +kernel
theorem dX0_lineUp_44 : decode cX0_lineUp 44 = .ok (.iconst (-1), 1) := by decide +kernel
theorem dX0_lineUp_45 : decode cX0_lineUp 45 = .ok (.if_icmp .ne 4, 3) := by decide +kernel
theorem dX0_lineUp_48 : decode cX0_lineUp 48 = .ok (.return_, 1) := by decide +kernel
theorem dX0_lineUp_49 : decode cX0_lineUp 49 = .ok (.aload_n 0, 1) := by decide +kernel
theorem dX0_lineUp_50 : decode cX0_lineUp 50 = .ok (.iload 5, 2) := by decide +kernel
theorem dX0_lineUp_52 : decode cX0_lineUp 52 = .ok (.aload_n 3, 1) := by decide +kernel
theorem dX0_lineUp_53 : decode cX0_lineUp 53 = .ok (.invokevirtual 74, 3) := by decide +kernel
theorem dX0_lineUp_56 : decode cX0_lineUp 56 = .ok (.aload_n 0, 1) := by decide +kernel
theorem dX0_lineUp_57 : decode cX0_lineUp 57 = .ok (.iload 5, 2) := by decide +kernel
theorem dX0_lineUp_59 : decode cX0_lineUp 59 = .ok (.aload_n 2, 1) := by decide +kernel
theorem dX0_lineUp_60 : decode cX0_lineUp 60 = .ok (.invokevirtual 78, 3) := by decide +kernel
theorem dX0_lineUp_63 : decode cX0_lineUp 63 = .ok (.iinc 4 1, 3) := by decide +kernel
theorem dX0_lineUp_66 : decode cX0_lineUp 66 = .ok (.goto (-51), 3) := by decide +kernel
theorem dX0_lineUp_69 : decode cX0_lineUp 69 = .ok (.return_, 1) := by decide +kernel
theorem dX0_mayJoin_0 : decode cX0_mayJoin 0 = .ok (.aload_n 0, 1) := by decide +kernel
theorem dX0_mayJoin_1 : decode cX0_mayJoin 1 = .ok (.getfield 9, 3) := by decide +kernel
theorem dX0_mayJoin_4 : decode cX0_mayJoin 4 = .ok (.iload_n 1, 1) := by decide +kernel
theorem dX0_mayJoin_5 : decode cX0_mayJoin 5 = .ok (.iaload, 1) := by decide +kernel
theorem dX0_mayJoin_6 : decode cX0_mayJoin 6 = .ok (.iconst (-1), 1) := by decide +kernel
theorem dX0_mayJoin_7 : decode cX0_mayJoin 7 = .ok (.if_icmp .eq 17, 3) := by decide +kernel
theorem dX0_mayJoin_10 : decode cX0_mayJoin 10 = .ok (.aload_n 0, 1) := by decide +kernel
theorem dX0_mayJoin_11 : decode cX0_mayJoin 11 = .ok (.getfield 15, 3) := by decide +kernel
theorem dX0_mayJoin_14 : decode cX0_mayJoin 14 = .ok (.iload_n 1, 1) := by decide +kernel
theorem dX0_mayJoin_15 : decode cX0_mayJoin 15 = .ok (.iaload, 1) := by decide +kernel
theorem dX0_mayJoin_16 : decode cX0_mayJoin 16 = .ok (.iconst (-1), 1) := by decide +kernel
theorem dX0_mayJoin_17 : decode cX0_mayJoin 17 = .ok (.if_icmp .ne 7, 3) := by decide +kernel
theorem dX0_mayJoin_20 : decode cX0_mayJoin 20 = .ok (.iconst 1, 1) := by decide +kernel
theorem dX0_mayJoin_21 : decode cX0_mayJoin 21 = .ok (.goto 4, 3) := by decide +kernel
theorem dX0_mayJoin_24 : decode cX0_mayJoin 24 = .ok (.iconst 0, 1) := by decide +kernel
theorem dX0_mayJoin_25 : decode cX0_mayJoin 25 = .ok (.istore_n 3, 1) := by decide +kernel
theorem dX0_mayJoin_26 : decode cX0_mayJoin 26 = .ok (.aload_n 0, 1) := by decide +kernel
theorem dX0_mayJoin_27 : decode cX0_mayJoin 27 = .ok (.getfield 9, 3) := by decide +kernel
theorem dX0_mayJoin_30 : decode cX0_mayJoin 30 = .ok (.iload_n 2, 1) := by decide +kernel
theorem dX0_mayJoin_31 : decode cX0_mayJoin 31 = .ok (.iaload, 1) := by decide +kernel
theorem dX0_mayJoin_32 : decode cX0_mayJoin 32 = .ok (.iload_n 2, 1) := by decide +kernel
theorem dX0_mayJoin_33 : decode cX0_mayJoin 33 = .ok (.if_icmp .ne 7, 3) := by decide +kernel
theorem dX0_mayJoin_36 : decode cX0_mayJoin 36 = .ok (.iconst 1, 1) := by decide +kernel
theorem dX0_mayJoin_37 : decode cX0_mayJoin 37 = .ok (.goto 4, 3) := by decide +kernel
theorem dX0_mayJoin_40 : decode cX0_mayJoin 40 = .ok (.iconst 0, 1) := by decide +kernel
theorem dX0_mayJoin_41 : decode cX0_mayJoin 41 = .ok (.istore 4, 2) := by decide +kernel
theorem dX0_mayJoin_43 : decode cX0_mayJoin 43 = .ok (.iload_n 3, 1) := by decide +kernel
theorem dX0_mayJoin_44 : decode cX0_mayJoin 44 = .ok (.ifCond .eq 26, 3) := by decide +kernel
theorem dX0_mayJoin_47 : decode cX0_mayJoin 47 = .ok (.iload 4, 2) := by decide +kernel
theorem dX0_mayJoin_49 : decode cX0_mayJoin 49 = .ok (.ifCond .eq 21, 3) := by decide +kernel
theorem dX0_mayJoin_52 : decode cX0_mayJoin 52 = .ok (.aload_n 0, 1) := by decide +kernel
theorem dX0_mayJoin_53 : decode cX0_mayJoin 53 = .ok (.getfield 9, 3) := by decide +kernel
theorem dX0_mayJoin_56 : decode cX0_mayJoin 56 = .ok (.iload_n 1, 1) := by decide +kernel
theorem dX0_mayJoin_57 : decode cX0_mayJoin 57 = .ok (.iaload, 1) := by decide +kernel
theorem dX0_mayJoin_58 : decode cX0_mayJoin 58 = .ok (.iload_n 2, 1) := by decide +kernel
theorem dX0_mayJoin_59 : decode cX0_mayJoin 59 = .ok (.if_icmp .eq 11, 3) := by decide +kernel
theorem dX0_mayJoin_62 : decode cX0_mayJoin 62 = .ok (.iload_n 2, 1) := by decide +kernel
theorem dX0_mayJoin_63 : decode cX0_mayJoin 63 = .ok (.ifCond .eq 7, 3) := by decide +kernel
theorem dX0_mayJoin_66 : decode cX0_mayJoin 66 = .ok (.iconst 1, 1) := by decide +kernel
theorem dX0_mayJoin_67 : decode cX0_mayJoin 67 = .ok (.goto 4, 3) := by decide +kernel
theorem dX0_mayJoin_70 : decode cX0_mayJoin 70 = .ok (.iconst 0, 1) := by decide +kernel
theorem dX0_mayJoin_71 : decode cX0_mayJoin 71 = .ok (.ireturn, 1) := by decide +kernel
theorem dX0_join_0 : decode cX0_join 0 = .ok (.aload_n 0, 1) := by decide +kernel
theorem dX0_join_1 : decode cX0_join 1 = .ok (.getfield 15, 3) := by decide +kernel
theorem dX0_join_4 : decode cX0_join 4 = .ok (.iload_n 1, 1) := by decide +kernel
theorem dX0_join_5 : decode cX0_join 5 = .ok (.iload_n 2, 1) := by decide +kernel
theorem dX0_join_6 : decode cX0_join 6 = .ok (.iastore, 1) := by decide +kernel
theorem dX0_join_7 : decode cX0_join 7 = .ok (.iload_n 2, 1) := by decide +kernel
theorem dX0_join_8 : decode cX0_join 8 = .ok (.istore_n 3, 1) := by decide +kernel
theorem dX0_join_9 : decode cX0_join 9 = .ok (.iconst 0, 1) := by decide +kernel
theorem dX0_join_10 : decode cX0_join 10 = .ok (.istore 4, 2) := by decide +kernel
theorem dX0_join_12 : decode cX0_join 12 = .ok (.iload 4, 2) := by decide +kernel
theorem dX0_join_14 : decode cX0_join 14 = .ok (.sipush 200, 3) := by decide +kernel
theorem dX0_join_17 : decode cX0_join 17 = .ok (.if_icmp .ge 33, 3) := by decide +kernel
theorem dX0_join_20 : decode cX0_join 20 = .ok (.iload_n 3, 1) := by decide +kernel
theorem dX0_join_21 : decode cX0_join 21 = .ok (.iconst (-1), 1) := by decide +kernel
theorem dX0_join_22 : decode cX0_join 22 = .ok (.if_icmp .eq 28, 3) := by decide +kernel
theorem dX0_join_25 : decode cX0_join 25 = .ok (.aload_n 0, 1) := by decide +kernel
theorem dX0_join_26 : decode cX0_join 26 = .ok (.getfield 9, 3) := by decide +kernel
theorem dX0_join_29 : decode cX0_join 29 = .ok (.iload_n 3, 1) := by decide +kernel
theorem dX0_join_30 : decode cX0_join 30 = .ok (.aload_n 0, 1) := by decide +kernel
theorem dX0_join_31 : decode cX0_join 31 = .ok (.getfield 9, 3) := by decide +kernel
theorem dX0_join_34 : decode cX0_join 34 = .ok (.iload_n 1, 1) := by decide +kernel
theorem dX0_join_35 : decode cX0_join 35 = .ok (.iaload, 1) := by decide +kernel
theorem dX0_join_36 : decode cX0_join 36 = .ok (.iastore, 1) := by decide +kernel
theorem dX0_join_37 : decode cX0_join 37 = .ok (.aload_n 0, 1) := by decide +kernel
theorem dX0_join_38 : decode cX0_join 38 = .ok (.getfield 15, 3) := by decide +kernel
theorem dX0_join_41 : decode cX0_join 41 = .ok (.iload_n 3, 1) := by decide +kernel
theorem dX0_join_42 : decode cX0_join 42 = .ok (.iaload, 1) := by decide +kernel
theorem dX0_join_43 : decode cX0_join 43 = .ok (.istore_n 3, 1) := by decide +kernel
theorem dX0_join_44 : decode cX0_join 44 = .ok (.iinc 4 1, 3) := by decide +kernel
theorem dX0_join_47 : decode cX0_join 47 = .ok (.goto (-35), 3) := by decide +kernel
theorem dX0_join_50 : decode cX0_join 50 = .ok (.return_, 1) := by decide +kernel
set_option maxRecDepth 20000 in
theorem ggX0_mostPulled_X1_holds : GoodIn wsX0_mostPulled wsX1_holds := goodIn_r _ [7, 8, 9, 10, 11] (by decide +kernel) (by decide +kernel)
set_option maxRecDepth 20000 in
theorem gX0_mostPulled_X1_holds : GoodIn wsX0_mostPulled (wsV RX0 28 RX1 yX1_holds wsX1_holds) := goodIn_app (goodIn_of _ (by decide +kernel)) ggX0_mostPulled_X1_holds
theorem dX0_mostPulled_0 : decode cX0_mostPulled 0 = .ok (.iconst (-1), 1) := by decide +kernel
theorem dX0_mostPulled_1 : decode cX0_mostPulled 1 = .ok (.istore_n 3, 1) := by decide +kernel
theorem dX0_mostPulled_2 : decode cX0_mostPulled 2 = .ok (.iconst 0, 1) := by decide +kernel
theorem dX0_mostPulled_3 : decode cX0_mostPulled 3 = .ok (.istore 4, 2) := by decide +kernel
theorem dX0_mostPulled_5 : decode cX0_mostPulled 5 = .ok (.iload 4, 2) := by decide +kernel
theorem dX0_mostPulled_7 : decode cX0_mostPulled 7 = .ok (.aload_n 1, 1) := by decide +kernel
theorem dX0_mostPulled_8 : decode cX0_mostPulled 8 = .ok (.getfield 67, 3) := by decide +kernel
theorem dX0_mostPulled_11 : decode cX0_mostPulled 11 = .ok (.if_icmp .ge 65, 3) := by decide +kernel
theorem dX0_mostPulled_14 : decode cX0_mostPulled 14 = .ok (.aload_n 1, 1) := by decide +kernel
theorem dX0_mostPulled_15 : decode cX0_mostPulled 15 = .ok (.getfield 82, 3) := by decide +kernel
theorem dX0_mostPulled_18 : decode cX0_mostPulled 18 = .ok (.iload 4, 2) := by decide +kernel
theorem dX0_mostPulled_20 : decode cX0_mostPulled 20 = .ok (.iaload, 1) := by decide +kernel
theorem dX0_mostPulled_21 : decode cX0_mostPulled 21 = .ok (.istore 5, 2) := by decide +kernel
theorem dX0_mostPulled_23 : decode cX0_mostPulled 23 = .ok (.aload_n 2, 1) := by decide +kernel
theorem dX0_mostPulled_24 : decode cX0_mostPulled 24 = .ok (.iload 5, 2) := by decide +kernel
theorem dX0_mostPulled_26 : decode cX0_mostPulled 26 = .ok (.invokevirtual 28, 3) := by decide +kernel
theorem dX0_mostPulled_29 : decode cX0_mostPulled 29 = .ok (.ifCond .eq 6, 3) := by decide +kernel
theorem dX0_mostPulled_32 : decode cX0_mostPulled 32 = .ok (.goto 38, 3) := by decide +kernel
theorem dX0_mostPulled_35 : decode cX0_mostPulled 35 = .ok (.iload_n 3, 1) := by decide +kernel
theorem dX0_mostPulled_36 : decode cX0_mostPulled 36 = .ok (.iconst (-1), 1) := by decide +kernel
theorem dX0_mostPulled_37 : decode cX0_mostPulled 37 = .ok (.if_icmp .eq 25, 3) := by decide +kernel
theorem dX0_mostPulled_40 : decode cX0_mostPulled 40 = .ok (.aload_n 0, 1) := by decide +kernel
theorem dX0_mostPulled_41 : decode cX0_mostPulled 41 = .ok (.getfield 18, 3) := by decide +kernel
theorem dX0_mostPulled_44 : decode cX0_mostPulled 44 = .ok (.aload_n 0, 1) := by decide +kernel
theorem dX0_mostPulled_45 : decode cX0_mostPulled 45 = .ok (.getfield 9, 3) := by decide +kernel
theorem dX0_mostPulled_48 : decode cX0_mostPulled 48 = .ok (.iload 5, 2) := by decide +kernel
theorem dX0_mostPulled_50 : decode cX0_mostPulled 50 = .ok (.iaload, 1) := by decide +kernel
theorem dX0_mostPulled_51 : decode cX0_mostPulled 51 = .ok (.laload, 1) := by decide +kernel
theorem dX0_mostPulled_52 : decode cX0_mostPulled 52 = .ok (.aload_n 0, 1) := by decide +kernel
theorem dX0_mostPulled_53 : decode cX0_mostPulled 53 = .ok (.getfield 18, 3) := by decide +kernel
theorem dX0_mostPulled_56 : decode cX0_mostPulled 56 = .ok (.iload_n 3, 1) := by decide +kernel
theorem dX0_mostPulled_57 : decode cX0_mostPulled 57 = .ok (.laload, 1) := by decide +kernel
theorem dX0_mostPulled_58 : decode cX0_mostPulled 58 = .ok (.lcmp, 1) := by decide +kernel
theorem dX0_mostPulled_59 : decode cX0_mostPulled 59 = .ok (.ifCond .le 11, 3) := by decide +kernel
theorem dX0_mostPulled_62 : decode cX0_mostPulled 62 = .ok (.aload_n 0, 1) := by decide +kernel
theorem dX0_mostPulled_63 : decode cX0_mostPulled 63 = .ok (.getfield 9, 3) := by decide +kernel
theorem dX0_mostPulled_66 : decode cX0_mostPulled 66 = .ok (.iload 5, 2) := by decide +kernel
theorem dX0_mostPulled_68 : decode cX0_mostPulled 68 = .ok (.iaload, 1) := by decide +kernel
theorem dX0_mostPulled_69 : decode cX0_mostPulled 69 = .ok (.istore_n 3, 1) := by decide +kernel
theorem dX0_mostPulled_70 : decode cX0_mostPulled 70 = .ok (.iinc 4 1, 3) := by decide +kernel
theorem dX0_mostPulled_73 : decode cX0_mostPulled 73 = .ok (.goto (-68), 3) := by decide +kernel
theorem dX0_mostPulled_76 : decode cX0_mostPulled 76 = .ok (.iload_n 3, 1) := by decide +kernel
theorem dX0_mostPulled_77 : decode cX0_mostPulled 77 = .ok (.ireturn, 1) := by decide +kernel
set_option maxRecDepth 20000 in
theorem ggX0_appendChain_X1_append : GoodIn wsX0_appendChain wsX1_append := goodIn_r _ [6, 7, 8, 9, 13, 14, 15] (by decide +kernel) (by decide +kernel)
set_option maxRecDepth 20000 in
theorem gX0_appendChain_X1_append : GoodIn wsX0_appendChain (wsV RX0 85 RX1 yX1_append wsX1_append) := goodIn_app (goodIn_of _ (by decide +kernel)) ggX0_appendChain_X1_append
theorem dX0_appendChain_0 : decode cX0_appendChain 0 = .ok (.iload_n 1, 1) := by decide +kernel
theorem dX0_appendChain_1 : decode cX0_appendChain 1 = .ok (.istore_n 3, 1) := by decide +kernel
theorem dX0_appendChain_2 : decode cX0_appendChain 2 = .ok (.iconst 0, 1) := by decide +kernel
theorem dX0_appendChain_3 : decode cX0_appendChain 3 = .ok (.istore 4, 2) := by decide +kernel
theorem dX0_appendChain_5 : decode cX0_appendChain 5 = .ok (.iload 4, 2) := by decide +kernel
theorem dX0_appendChain_7 : decode cX0_appendChain 7 = .ok (.sipush 200, 3) := by decide +kernel
theorem dX0_appendChain_10 : decode cX0_appendChain 10 = .ok (.if_icmp .ge 26, 3) := by decide +kernel
theorem dX0_appendChain_13 : decode cX0_appendChain 13 = .ok (.iload_n 3, 1) := by decide +kernel
theorem dX0_appendChain_14 : decode cX0_appendChain 14 = .ok (.iconst (-1), 1) := by decide +kernel
theorem dX0_appendChain_15 : decode cX0_appendChain 15 = .ok (.if_icmp .eq 21, 3) := by decide +kernel
theorem dX0_appendChain_18 : decode cX0_appendChain 18 = .ok (.aload_n 2, 1) := by decide +kernel
theorem dX0_appendChain_19 : decode cX0_appendChain 19 = .ok (.iload_n 3, 1) := by decide +kernel
theorem dX0_appendChain_20 : decode cX0_appendChain 20 = .ok (.invokevirtual 85, 3) := by decide +kernel
theorem dX0_appendChain_23 : decode cX0_appendChain 23 = .ok (.aload_n 0, 1) := by decide +kernel
theorem dX0_appendChain_24 : decode cX0_appendChain 24 = .ok (.getfield 15, 3) := by decide +kernel
theorem dX0_appendChain_27 : decode cX0_appendChain 27 = .ok (.iload_n 3, 1) := by decide +kernel
theorem dX0_appendChain_28 : decode cX0_appendChain 28 = .ok (.iaload, 1) := by decide +kernel
theorem dX0_appendChain_29 : decode cX0_appendChain 29 = .ok (.istore_n 3, 1) := by decide +kernel
theorem dX0_appendChain_30 : decode cX0_appendChain 30 = .ok (.iinc 4 1, 3) := by decide +kernel
theorem dX0_appendChain_33 : decode cX0_appendChain 33 = .ok (.goto (-28), 3) := by decide +kernel
theorem dX0_appendChain_36 : decode cX0_appendChain 36 = .ok (.return_, 1) := by decide +kernel
theorem dX0_pullTowards_0 : decode cX0_pullTowards 0 = .ok (.iconst 0, 1) := by decide +kernel
theorem dX0_pullTowards_1 : decode cX0_pullTowards 1 = .ok (.istore_n 3, 1) := by decide +kernel
theorem dX0_pullTowards_2 : decode cX0_pullTowards 2 = .ok (.iload_n 3, 1) := by decide +kernel
theorem dX0_pullTowards_3 : decode cX0_pullTowards 3 = .ok (.aload_n 2, 1) := by decide +kernel
theorem dX0_pullTowards_4 : decode cX0_pullTowards 4 = .ok (.getfield 34, 3) := by decide +kernel
theorem dX0_pullTowards_7 : decode cX0_pullTowards 7 = .ok (.if_icmp .ge 91, 3) := by decide +kernel
theorem dX0_pullTowards_10 : decode cX0_pullTowards 10 = .ok (.aload_n 0, 1) := by decide +kernel
theorem dX0_pullTowards_11 : decode cX0_pullTowards 11 = .ok (.getfield 9, 3) := by decide +kernel
theorem dX0_pullTowards_14 : decode cX0_pullTowards 14 = .ok (.aload_n 2, 1) := by decide +kernel
theorem dX0_pullTowards_15 : decode cX0_pullTowards 15 = .ok (.getfield 40, 3) := by decide +kernel
theorem dX0_pullTowards_18 : decode cX0_pullTowards 18 = .ok (.iload_n 3, 1) := by decide +kernel
theorem dX0_pullTowards_19 : decode cX0_pullTowards 19 = .ok (.iaload, 1) := by decide +kernel
theorem dX0_pullTowards_20 : decode cX0_pullTowards 20 = .ok (.iaload, 1) := by decide +kernel
theorem dX0_pullTowards_21 : decode cX0_pullTowards 21 = .ok (.istore 4, 2) := by decide +kernel
theorem dX0_pullTowards_23 : decode cX0_pullTowards 23 = .ok (.aload_n 0, 1) := by decide +kernel
theorem dX0_pullTowards_24 : decode cX0_pullTowards 24 = .ok (.getfield 9, 3) := by decide +kernel
theorem dX0_pullTowards_27 : decode cX0_pullTowards 27 = .ok (.aload_n 2, 1) := by decide +kernel
theorem dX0_pullTowards_28 : decode cX0_pullTowards 28 = .ok (.getfield 43, 3) := by decide +kernel
theorem dX0_pullTowards_31 : decode cX0_pullTowards 31 = .ok (.iload_n 3, 1) := by decide +kernel
theorem dX0_pullTowards_32 : decode cX0_pullTowards 32 = .ok (.iaload, 1) := by decide +kernel
theorem dX0_pullTowards_33 : decode cX0_pullTowards 33 = .ok (.iaload, 1) := by decide +kernel
theorem dX0_pullTowards_34 : decode cX0_pullTowards 34 = .ok (.istore 5, 2) := by decide +kernel
theorem dX0_pullTowards_36 : decode cX0_pullTowards 36 = .ok (.iload 4, 2) := by decide +kernel
theorem dX0_pullTowards_38 : decode cX0_pullTowards 38 = .ok (.iload_n 1, 1) := by decide +kernel
theorem dX0_pullTowards_39 : decode cX0_pullTowards 39 = .ok (.if_icmp .ne 25, 3) := by decide +kernel
theorem dX0_pullTowards_42 : decode cX0_pullTowards 42 = .ok (.iload 5, 2) := by decide +kernel
theorem dX0_pullTowards_44 : decode cX0_pullTowards 44 = .ok (.iconst (-1), 1) := by decide +kernel
theorem dX0_pullTowards_45 : decode cX0_pullTowards 45 = .ok (.if_icmp .eq 19, 3) := by decide +kernel
theorem dX0_pullTowards_48 : decode cX0_pullTowards 48 = .ok (.aload_n 0, 1) := by decide +kernel
theorem dX0_pullTowards_49 : decode cX0_pullTowards 49 = .ok (.getfield 18, 3) := by decide +kernel
theorem dX0_pullTowards_52 : decode cX0_pullTowards 52 = .ok (.iload 5, 2) := by decide +kernel
theorem dX0_pullTowards_54 : decode cX0_pullTowards 54 = .ok (.dup2, 1) := by decide +kernel
theorem dX0_pullTowards_55 : decode cX0_pullTowards 55 = .ok (.laload, 1) := by decide +kernel
theorem dX0_pullTowards_56 : decode cX0_pullTowards 56 = .ok (.aload_n 2, 1) := by decide +kernel
theorem dX0_pullTowards_57 : decode cX0_pullTowards 57 = .ok (.getfield 50, 3) := by decide +kernel
theorem dX0_pullTowards_60 : decode cX0_pullTowards 60 = .ok (.iload_n 3, 1) := by decide +kernel
theorem dX0_pullTowards_61 : decode cX0_pullTowards 61 = .ok (.laload, 1) := by decide +kernel
theorem dX0_pullTowards_62 : decode cX0_pullTowards 62 = .ok (.ladd, 1) := by decide +kernel
theorem dX0_pullTowards_63 : decode cX0_pullTowards 63 = .ok (.lastore, 1) := by decide +kernel
theorem dX0_pullTowards_64 : decode cX0_pullTowards 64 = .ok (.iload 5, 2) := by decide +kernel
theorem dX0_pullTowards_66 : decode cX0_pullTowards 66 = .ok (.iload_n 1, 1) := by decide +kernel
theorem dX0_pullTowards_67 : decode cX0_pullTowards 67 = .ok (.if_icmp .ne 25, 3) := by decide +kernel
theorem dX0_pullTowards_70 : decode cX0_pullTowards 70 = .ok (.iload 4, 2) := by decide +kernel
theorem dX0_pullTowards_72 : decode cX0_pullTowards 72 = .ok (.iconst (-1), 1) := by decide +kernel
theorem dX0_pullTowards_73 : decode cX0_pullTowards 73 = .ok (.if_icmp .eq 19, 3) := by decide +kernel
theorem dX0_pullTowards_76 : decode cX0_pullTowards 76 = .ok (.aload_n 0, 1) := by decide +kernel
theorem dX0_pullTowards_77 : decode cX0_pullTowards 77 = .ok (.getfield 18, 3) := by decide +kernel
theorem dX0_pullTowards_80 : decode cX0_pullTowards 80 = .ok (.iload 4, 2) := by decide +kernel
theorem dX0_pullTowards_82 : decode cX0_pullTowards 82 = .ok (.dup2, 1) := by decide +kernel
theorem dX0_pullTowards_83 : decode cX0_pullTowards 83 = .ok (.laload, 1) := by decide +kernel
theorem dX0_pullTowards_84 : decode cX0_pullTowards 84 = .ok (.aload_n 2, 1) := by decide +kernel
theorem dX0_pullTowards_85 : decode cX0_pullTowards 85 = .ok (.getfield 50, 3) := by decide +kernel
theorem dX0_pullTowards_88 : decode cX0_pullTowards 88 = .ok (.iload_n 3, 1) := by decide +kernel
theorem dX0_pullTowards_89 : decode cX0_pullTowards 89 = .ok (.laload, 1) := by decide +kernel
theorem dX0_pullTowards_90 : decode cX0_pullTowards 90 = .ok (.ladd, 1) := by decide +kernel
theorem dX0_pullTowards_91 : decode cX0_pullTowards 91 = .ok (.lastore, 1) := by decide +kernel
theorem dX0_pullTowards_92 : decode cX0_pullTowards 92 = .ok (.iinc 3 1, 3) := by decide +kernel
theorem dX0_pullTowards_95 : decode cX0_pullTowards 95 = .ok (.goto (-93), 3) := by decide +kernel
theorem dX0_pullTowards_98 : decode cX0_pullTowards 98 = .ok (.return_, 1) := by decide +kernel
theorem dX1_init_0 : decode cX1_init 0 = .ok (.aload_n 0, 1) := by decide +kernel
theorem dX1_init_1 : decode cX1_init 1 = .ok (.invokespecial 3, 3) := by decide +kernel
theorem dX1_init_4 : decode cX1_init 4 = .ok (.aload_n 0, 1) := by decide +kernel
theorem dX1_init_5 : decode cX1_init 5 = .ok (.sipush 200, 3) := by decide +kernel
theorem dX1_init_8 : decode cX1_init 8 = .ok (.newarray .int, 2) := by decide +kernel
theorem dX1_init_10 : decode cX1_init 10 = .ok (.putfield 9, 3) := by decide +kernel
theorem dX1_init_13 : decode cX1_init 13 = .ok (.aload_n 0, 1) := by decide +kernel
theorem dX1_init_14 : decode cX1_init 14 = .ok (.sipush 200, 3) := by decide +kernel
theorem dX1_init_17 : decode cX1_init 17 = .ok (.newarray .int, 2) := by decide +kernel
theorem dX1_init_19 : decode cX1_init 19 = .ok (.putfield 15, 3) := by decide +kernel
theorem dX1_init_22 : decode cX1_init 22 = .ok (.return_, 1) := by decide +kernel
set_option maxRecDepth 20000 in
theorem ggX1_empty_J7_fill_53178 : GoodIn wsX1_empty wsJ7_fill_53178 := goodIn_r _ [6] (by decide +kernel) (by decide +kernel)
set_option maxRecDepth 20000 in
theorem gX1_empty_J7_fill_53178 : GoodIn wsX1_empty (va_wsS RX1 22 yJ7_fill_53178 wsJ7_fill_53178) := goodIn_app (goodIn_of _ (by decide +kernel)) ggX1_empty_J7_fill_53178
theorem dX1_empty_0 : decode cX1_empty 0 = .ok (.aload_n 0, 1) := by decide +kernel
theorem dX1_empty_1 : decode cX1_empty 1 = .ok (.iconst 0, 1) := by decide +kernel
theorem dX1_empty_2 : decode cX1_empty 2 = .ok (.putfield 18, 3) := by decide +kernel
theorem dX1_empty_5 : decode cX1_empty 5 = .ok (.aload_n 0, 1) := by decide +kernel
theorem dX1_empty_6 : decode cX1_empty 6 = .ok (.getfield 15, 3) := by decide +kernel
theorem dX1_empty_9 : decode cX1_empty 9 = .ok (.iconst (-1), 1) := by decide +kernel
theorem dX1_empty_10 : decode cX1_empty 10 = .ok (.invokestatic 22, 3) := by decide +kernel
theorem dX1_empty_13 : decode cX1_empty 13 = .ok (.return_, 1) := by decide +kernel
theorem dX1_append_0 : decode cX1_append 0 = .ok (.aload_n 0, 1) := by decide +kernel
theorem dX1_append_1 : decode cX1_append 1 = .ok (.getfield 18, 3) := by decide +kernel
theorem dX1_append_4 : decode cX1_append 4 = .ok (.sipush 200, 3) := by decide +kernel
theorem dX1_append_7 : decode cX1_append 7 = .ok (.if_icmp .ge 14, 3) := by decide +kernel
theorem dX1_append_10 : decode cX1_append 10 = .ok (.iload_n 1, 1) := by decide +kernel
theorem dX1_append_11 : decode cX1_append 11 = .ok (.ifCond .lt 10, 3) := by decide +kernel
theorem dX1_append_14 : decode cX1_append 14 = .ok (.iload_n 1, 1) := by decide +kernel
theorem dX1_append_15 : decode cX1_append 15 = .ok (.sipush 200, 3) := by decide +kernel
theorem dX1_append_18 : decode cX1_append 18 = .ok (.if_icmp .lt 4, 3) := by decide +kernel
theorem dX1_append_21 : decode cX1_append 21 = .ok (.return_, 1) := by decide +kernel
theorem dX1_append_22 : decode cX1_append 22 = .ok (.aload_n 0, 1) := by decide +kernel
theorem dX1_append_23 : decode cX1_append 23 = .ok (.getfield 9, 3) := by decide +kernel
theorem dX1_append_26 : decode cX1_append 26 = .ok (.aload_n 0, 1) := by decide +kernel
theorem dX1_append_27 : decode cX1_append 27 = .ok (.getfield 18, 3) := by decide +kernel
theorem dX1_append_30 : decode cX1_append 30 = .ok (.iload_n 1, 1) := by decide +kernel
theorem dX1_append_31 : decode cX1_append 31 = .ok (.iastore, 1) := by decide +kernel
theorem dX1_append_32 : decode cX1_append 32 = .ok (.aload_n 0, 1) := by decide +kernel
theorem dX1_append_33 : decode cX1_append 33 = .ok (.getfield 15, 3) := by decide +kernel
theorem dX1_append_36 : decode cX1_append 36 = .ok (.iload_n 1, 1) := by decide +kernel
theorem dX1_append_37 : decode cX1_append 37 = .ok (.aload_n 0, 1) := by decide +kernel
theorem dX1_append_38 : decode cX1_append 38 = .ok (.getfield 18, 3) := by decide +kernel
theorem dX1_append_41 : decode cX1_append 41 = .ok (.iastore, 1) := by decide +kernel
theorem dX1_append_42 : decode cX1_append 42 = .ok (.aload_n 0, 1) := by decide +kernel
theorem dX1_append_43 : decode cX1_append 43 = .ok (.dup, 1) := by decide +kernel
theorem dX1_append_44 : decode cX1_append 44 = .ok (.getfield 18, 3) := by decide +kernel
theorem dX1_append_47 : decode cX1_append 47 = .ok (.iconst 1, 1) := by decide +kernel
theorem dX1_append_48 : decode cX1_append 48 = .ok (.iadd, 1) := by decide +kernel
theorem dX1_append_49 : decode cX1_append 49 = .ok (.putfield 18, 3) := by decide +kernel
theorem dX1_append_52 : decode cX1_append 52 = .ok (.return_, 1) := by decide +kernel
theorem dX1_blockAt_0 : decode cX1_blockAt 0 = .ok (.iload_n 1, 1) := by decide +kernel
theorem dX1_blockAt_1 : decode cX1_blockAt 1 = .ok (.ifCond .lt 20, 3) := by decide +kernel
theorem dX1_blockAt_4 : decode cX1_blockAt 4 = .ok (.iload_n 1, 1) := by decide +kernel
theorem dX1_blockAt_5 : decode cX1_blockAt 5 = .ok (.aload_n 0, 1) := by decide +kernel
theorem dX1_blockAt_6 : decode cX1_blockAt 6 = .ok (.getfield 18, 3) := by decide +kernel
theorem dX1_blockAt_9 : decode cX1_blockAt 9 = .ok (.if_icmp .ge 12, 3) := by decide +kernel
theorem dX1_blockAt_12 : decode cX1_blockAt 12 = .ok (.aload_n 0, 1) := by decide +kernel
theorem dX1_blockAt_13 : decode cX1_blockAt 13 = .ok (.getfield 9, 3) := by decide +kernel
theorem dX1_blockAt_16 : decode cX1_blockAt 16 = .ok (.iload_n 1, 1) := by decide +kernel
theorem dX1_blockAt_17 : decode cX1_blockAt 17 = .ok (.iaload, 1) := by decide +kernel
theorem dX1_blockAt_18 : decode cX1_blockAt 18 = .ok (.goto 4, 3) := by decide +kernel
theorem dX1_blockAt_21 : decode cX1_blockAt 21 = .ok (.iconst (-1), 1) := by decide +kernel
theorem dX1_blockAt_22 : decode cX1_blockAt 22 = .ok (.ireturn, 1) := by decide +kernel
theorem dX1_holds_0 : decode cX1_holds 0 = .ok (.aload_n 0, 1) := by decide +kernel
theorem dX1_holds_1 : decode cX1_holds 1 = .ok (.getfield 15, 3) := by decide +kernel
theorem dX1_holds_4 : decode cX1_holds 4 = .ok (.iload_n 1, 1) := by decide +kernel
theorem dX1_holds_5 : decode cX1_holds 5 = .ok (.iaload, 1) := by decide +kernel
theorem dX1_holds_6 : decode cX1_holds 6 = .ok (.iconst (-1), 1) := by decide +kernel
theorem dX1_holds_7 : decode cX1_holds 7 = .ok (.if_icmp .eq 7, 3) := by decide +kernel
theorem dX1_holds_10 : decode cX1_holds 10 = .ok (.iconst 1, 1) := by decide +kernel
theorem dX1_holds_11 : decode cX1_holds 11 = .ok (.goto 4, 3) := by decide +kernel
theorem dX1_holds_14 : decode cX1_holds 14 = .ok (.iconst 0, 1) := by decide +kernel
theorem dX1_holds_15 : decode cX1_holds 15 = .ok (.ireturn, 1) := by decide +kernel
set_option maxRecDepth 20000 in
theorem ggX1_goesOn_X1_holds : GoodIn wsX1_goesOn wsX1_holds := goodIn_r _ [6, 1, 7, 8, 9] (by decide +kernel) (by decide +kernel)
set_option maxRecDepth 20000 in
theorem gX1_goesOn_X1_holds : GoodIn wsX1_goesOn (wsV RX1 28 RX1 yX1_holds wsX1_holds) := goodIn_app (goodIn_of _ (by decide +kernel)) ggX1_goesOn_X1_holds
theorem dX1_goesOn_0 : decode cX1_goesOn 0 = .ok (.aload_n 0, 1) := by decide +kernel
theorem dX1_goesOn_1 : decode cX1_goesOn 1 = .ok (.iload_n 1, 1) := by decide +kernel
theorem dX1_goesOn_2 : decode cX1_goesOn 2 = .ok (.invokevirtual 28, 3) := by decide +kernel
theorem dX1_goesOn_5 : decode cX1_goesOn 5 = .ok (.ifCond .eq 24, 3) := by decide +kernel
theorem dX1_goesOn_8 : decode cX1_goesOn 8 = .ok (.aload_n 0, 1) := by decide +kernel
theorem dX1_goesOn_9 : decode cX1_goesOn 9 = .ok (.getfield 15, 3) := by decide +kernel
theorem dX1_goesOn_12 : decode cX1_goesOn 12 = .ok (.iload_n 2, 1) := by decide +kernel
theorem dX1_goesOn_13 : decode cX1_goesOn 13 = .ok (.iaload, 1) := by decide +kernel
theorem dX1_goesOn_14 : decode cX1_goesOn 14 = .ok (.aload_n 0, 1) := by decide +kernel
theorem dX1_goesOn_15 : decode cX1_goesOn 15 = .ok (.getfield 15, 3) := by decide +kernel
theorem dX1_goesOn_18 : decode cX1_goesOn 18 = .ok (.iload_n 1, 1) := by decide +kernel
theorem dX1_goesOn_19 : decode cX1_goesOn 19 = .ok (.iaload, 1) := by decide +kernel
theorem dX1_goesOn_20 : decode cX1_goesOn 20 = .ok (.iconst 1, 1) := by decide +kernel
theorem dX1_goesOn_21 : decode cX1_goesOn 21 = .ok (.iadd, 1) := by decide +kernel
theorem dX1_goesOn_22 : decode cX1_goesOn 22 = .ok (.if_icmp .ne 7, 3) := by decide +kernel
theorem dX1_goesOn_25 : decode cX1_goesOn 25 = .ok (.iconst 1, 1) := by decide +kernel
theorem dX1_goesOn_26 : decode cX1_goesOn 26 = .ok (.goto 4, 3) := by decide +kernel
theorem dX1_goesOn_29 : decode cX1_goesOn 29 = .ok (.iconst 0, 1) := by decide +kernel
theorem dX1_goesOn_30 : decode cX1_goesOn 30 = .ok (.ireturn, 1) := by decide +kernel
theorem dX2_init_0 : decode cX2_init 0 = .ok (.aload_n 0, 1) := by decide +kernel
theorem dX2_init_1 : decode cX2_init 1 = .ok (.invokespecial 3, 3) := by decide +kernel
theorem dX2_init_4 : decode cX2_init 4 = .ok (.aload_n 0, 1) := by decide +kernel
theorem dX2_init_5 : decode cX2_init 5 = .ok (.sipush 1000, 3) := by decide +kernel
theorem dX2_init_8 : decode cX2_init 8 = .ok (.newarray .int, 2) := by decide +kernel
theorem dX2_init_10 : decode cX2_init 10 = .ok (.putfield 9, 3) := by decide +kernel
theorem dX2_init_13 : decode cX2_init 13 = .ok (.aload_n 0, 1) := by decide +kernel
theorem dX2_init_14 : decode cX2_init 14 = .ok (.sipush 1000, 3) := by decide +kernel
theorem dX2_init_17 : decode cX2_init 17 = .ok (.newarray .int, 2) := by decide +kernel
theorem dX2_init_19 : decode cX2_init 19 = .ok (.putfield 15, 3) := by decide +kernel
theorem dX2_init_22 : decode cX2_init 22 = .ok (.aload_n 0, 1) := by decide +kernel
theorem dX2_init_23 : decode cX2_init 23 = .ok (.sipush 1000, 3) := by decide +kernel
theorem dX2_init_26 : decode cX2_init 26 = .ok (.newarray .long, 2) := by decide +kernel
theorem dX2_init_28 : decode cX2_init 28 = .ok (.putfield 18, 3) := by decide +kernel
theorem dX2_init_31 : decode cX2_init 31 = .ok (.aload_n 0, 1) := by decide +kernel
theorem dX2_init_32 : decode cX2_init 32 = .ok (.sipush 1000, 3) := by decide +kernel
theorem dX2_init_35 : decode cX2_init 35 = .ok (.newarray .boolean, 2) := by decide +kernel
theorem dX2_init_37 : decode cX2_init 37 = .ok (.putfield 22, 3) := by decide +kernel
theorem dX2_init_40 : decode cX2_init 40 = .ok (.return_, 1) := by decide +kernel
theorem dX2_forget_0 : decode cX2_forget 0 = .ok (.aload_n 0, 1) := by decide +kernel
theorem dX2_forget_1 : decode cX2_forget 1 = .ok (.iconst 0, 1) := by decide +kernel
theorem dX2_forget_2 : decode cX2_forget 2 = .ok (.putfield 26, 3) := by decide +kernel
theorem dX2_forget_5 : decode cX2_forget 5 = .ok (.return_, 1) := by decide +kernel
set_option maxRecDepth 20000 in
theorem ggX2_told_X2_find : GoodIn wsX2_told wsX2_find := goodIn_r _ [6, 7, 8, 9, 10, 11, 12, 13, 14] (by decide +kernel) (by decide +kernel)
set_option maxRecDepth 20000 in
theorem gX2_told_X2_find : GoodIn wsX2_told (wsV RX2 30 RX2 yX2_find wsX2_find) := goodIn_app (goodIn_of _ (by decide +kernel)) ggX2_told_X2_find
theorem dX2_told_0 : decode cX2_told 0 = .ok (.aload_n 0, 1) := by decide +kernel
theorem dX2_told_1 : decode cX2_told 1 = .ok (.iload_n 1, 1) := by decide +kernel
theorem dX2_told_2 : decode cX2_told 2 = .ok (.iload_n 2, 1) := by decide +kernel
theorem dX2_told_3 : decode cX2_told 3 = .ok (.invokevirtual 30, 3) := by decide +kernel
theorem dX2_told_6 : decode cX2_told 6 = .ok (.istore_n 3, 1) := by decide +kernel
theorem dX2_told_7 : decode cX2_told 7 = .ok (.iload_n 3, 1) := by decide +kernel
theorem dX2_told_8 : decode cX2_told 8 = .ok (.iconst (-1), 1) := by decide +kernel
theorem dX2_told_9 : decode cX2_told 9 = .ok (.if_icmp .ne 7, 3) := by decide +kernel
theorem dX2_told_12 : decode cX2_told 12 = .ok (.lconst 0, 1) := by decide +kernel
theorem dX2_told_13 : decode cX2_told 13 = .ok (.goto 9, 3) := by decide +kernel
theorem dX2_told_16 : decode cX2_told 16 = .ok (.aload_n 0, 1) := by decide +kernel
theorem dX2_told_17 : decode cX2_told 17 = .ok (.getfield 18, 3) := by decide +kernel
theorem dX2_told_20 : decode cX2_told 20 = .ok (.iload_n 3, 1) := by decide +kernel
theorem dX2_told_21 : decode cX2_told 21 = .ok (.laload, 1) := by decide +kernel
theorem dX2_told_22 : decode cX2_told 22 = .ok (.lreturn, 1) := by decide +kernel
set_option maxRecDepth 20000 in
theorem ggX2_tell_X2_find : GoodIn wsX2_tell wsX2_find := goodIn_r _ [13, 14, 15, 16, 33, 34, 35, 36, 37] (by decide +kernel) (by decide +kernel)
set_option maxRecDepth 20000 in
theorem gX2_tell_X2_find : GoodIn wsX2_tell (wsV RX2 30 RX2 yX2_find wsX2_find) := goodIn_app (goodIn_of _ (by decide +kernel)) ggX2_tell_X2_find
set_option maxRecDepth 20000 in
theorem ggX2_tell_X2_add : GoodIn wsX2_tell wsX2_add := goodIn_r _ [20, 14, 15, 16, 3, 33, 34, 35, 36, 37] (by decide +kernel) (by decide +kernel)
set_option maxRecDepth 20000 in
theorem gX2_tell_X2_add : GoodIn wsX2_tell (wsV RX2 34 RX2 yX2_add wsX2_add) := goodIn_app (goodIn_of _ (by decide +kernel)) ggX2_tell_X2_add
set_option maxRecDepth 20000 in
theorem ggX2_tell_X2_moveForward : GoodIn wsX2_tell wsX2_moveForward := goodIn_r _ [24, 25, 26, 27, 12, 28, 3, 15, 16, 29, 30, 31, 32, 8, 33, 34, 35, 36, 37] (by decide +kernel) (by decide +kernel)
set_option maxRecDepth 20000 in
theorem gX2_tell_X2_moveForward : GoodIn wsX2_tell (wsV RX2 47 RX2 yX2_moveForward wsX2_moveForward) := goodIn_app (goodIn_of _ (by decide +kernel)) ggX2_tell_X2_moveForward
theorem dX2_tell_0 : decode cX2_tell 0 = .ok (.aload_n 0, 1) := by decide +kernel
theorem dX2_tell_1 : decode cX2_tell 1 = .ok (.iload_n 1, 1) := by decide +kernel
theorem dX2_tell_2 : decode cX2_tell 2 = .ok (.iload_n 2, 1) := by decide +kernel
theorem dX2_tell_3 : decode cX2_tell 3 = .ok (.invokevirtual 30, 3) := by decide +kernel
theorem dX2_tell_6 : decode cX2_tell 6 = .ok (.istore 5, 2) := by decide +kernel
theorem dX2_tell_8 : decode cX2_tell 8 = .ok (.iload 5, 2) := by decide +kernel
theorem dX2_tell_10 : decode cX2_tell 10 = .ok (.iconst (-1), 1) := by decide +kernel
theorem dX2_tell_11 : decode cX2_tell 11 = .ok (.if_icmp .ne 11, 3) := by decide +kernel
theorem dX2_tell_14 : decode cX2_tell 14 = .ok (.aload_n 0, 1) := by decide +kernel
theorem dX2_tell_15 : decode cX2_tell 15 = .ok (.iload_n 1, 1) := by decide +kernel
theorem dX2_tell_16 : decode cX2_tell 16 = .ok (.iload_n 2, 1) := by decide +kernel
theorem dX2_tell_17 : decode cX2_tell 17 = .ok (.invokevirtual 34, 3) := by decide +kernel
theorem dX2_tell_20 : decode cX2_tell 20 = .ok (.istore 5, 2) := by decide +kernel
theorem dX2_tell_22 : decode cX2_tell 22 = .ok (.iload 5, 2) := by decide +kernel
theorem dX2_tell_24 : decode cX2_tell 24 = .ok (.iconst (-1), 1) := by decide +kernel
theorem dX2_tell_25 : decode cX2_tell 25 = .ok (.if_icmp .ne 7, 3) := by decide +kernel
theorem dX2_tell_28 : decode cX2_tell 28 = .ok (.ldc2_w 37, 3) := by decide +kernel
theorem dX2_tell_31 : decode cX2_tell 31 = .ok (.lreturn, 1) := by decide +kernel
theorem dX2_tell_32 : decode cX2_tell 32 = .ok (.ldc2_w 39, 3) := by decide +kernel
theorem dX2_tell_35 : decode cX2_tell 35 = .ok (.aload_n 0, 1) := by decide +kernel
theorem dX2_tell_36 : decode cX2_tell 36 = .ok (.getfield 18, 3) := by decide +kernel
theorem dX2_tell_39 : decode cX2_tell 39 = .ok (.iload 5, 2) := by decide +kernel
theorem dX2_tell_41 : decode cX2_tell 41 = .ok (.laload, 1) := by decide +kernel
theorem dX2_tell_42 : decode cX2_tell 42 = .ok (.iload_n 3, 1) := by decide +kernel
theorem dX2_tell_43 : decode cX2_tell 43 = .ok (.i2l, 1) := by decide +kernel
theorem dX2_tell_44 : decode cX2_tell 44 = .ok (.ladd, 1) := by decide +kernel
theorem dX2_tell_45 : decode cX2_tell 45 = .ok (.invokestatic 41, 3) := by decide +kernel
theorem dX2_tell_48 : decode cX2_tell 48 = .ok (.lstore 6, 2) := by decide +kernel
theorem dX2_tell_50 : decode cX2_tell 50 = .ok (.aload_n 0, 1) := by decide +kernel
theorem dX2_tell_51 : decode cX2_tell 51 = .ok (.getfield 18, 3) := by decide +kernel
theorem dX2_tell_54 : decode cX2_tell 54 = .ok (.iload 5, 2) := by decide +kernel
theorem dX2_tell_56 : decode cX2_tell 56 = .ok (.lload 6, 2) := by decide +kernel
theorem dX2_tell_58 : decode cX2_tell 58 = .ok (.lastore, 1) := by decide +kernel
theorem dX2_tell_59 : decode cX2_tell 59 = .ok (.aload_n 0, 1) := by decide +kernel
theorem dX2_tell_60 : decode cX2_tell 60 = .ok (.getfield 22, 3) := by decide +kernel
theorem dX2_tell_63 : decode cX2_tell 63 = .ok (.iload 5, 2) := by decide +kernel
theorem dX2_tell_65 : decode cX2_tell 65 = .ok (.iload 4, 2) := by decide +kernel
theorem dX2_tell_67 : decode cX2_tell 67 = .ok (.bastore, 1) := by decide +kernel
theorem dX2_tell_68 : decode cX2_tell 68 = .ok (.aload_n 0, 1) := by decide +kernel
theorem dX2_tell_69 : decode cX2_tell 69 = .ok (.iload 5, 2) := by decide +kernel
theorem dX2_tell_71 : decode cX2_tell 71 = .ok (.invokevirtual 47, 3) := by decide +kernel
theorem dX2_tell_74 : decode cX2_tell 74 = .ok (.lload 6, 2) := by decide +kernel
theorem dX2_tell_76 : decode cX2_tell 76 = .ok (.lreturn, 1) := by decide +kernel
set_option maxRecDepth 20000 in
theorem ggX2_weigh_X1_goesOn : GoodIn wsX2_weigh wsX1_goesOn := goodIn_r _ [10, 11, 12, 13, 14, 9, 15, 21, 22, 23] (by decide +kernel) (by decide +kernel)
set_option maxRecDepth 20000 in
theorem gX2_weigh_X1_goesOn : GoodIn wsX2_weigh (wsV RX2 51 RX1 yX1_goesOn wsX1_goesOn) := goodIn_app (goodIn_of _ (by decide +kernel)) ggX2_weigh_X1_goesOn
theorem dX2_weigh_0 : decode cX2_weigh 0 = .ok (.lconst 0, 1) := by decide +kernel
theorem dX2_weigh_1 : decode cX2_weigh 1 = .ok (.lstore_n 2, 1) := by decide +kernel
theorem dX2_weigh_2 : decode cX2_weigh 2 = .ok (.iconst 0, 1) := by decide +kernel
theorem dX2_weigh_3 : decode cX2_weigh 3 = .ok (.istore 4, 2) := by decide +kernel
theorem dX2_weigh_5 : decode cX2_weigh 5 = .ok (.iload 4, 2) := by decide +kernel
theorem dX2_weigh_7 : decode cX2_weigh 7 = .ok (.aload_n 0, 1) := by decide +kernel
theorem dX2_weigh_8 : decode cX2_weigh 8 = .ok (.getfield 26, 3) := by decide +kernel
theorem dX2_weigh_11 : decode cX2_weigh 11 = .ok (.if_icmp .ge 50, 3) := by decide +kernel
theorem dX2_weigh_14 : decode cX2_weigh 14 = .ok (.aload_n 0, 1) := by decide +kernel
theorem dX2_weigh_15 : decode cX2_weigh 15 = .ok (.getfield 22, 3) := by decide +kernel
theorem dX2_weigh_18 : decode cX2_weigh 18 = .ok (.iload 4, 2) := by decide +kernel
theorem dX2_weigh_20 : decode cX2_weigh 20 = .ok (.baload, 1) := by decide +kernel
theorem dX2_weigh_21 : decode cX2_weigh 21 = .ok (.ifCond .eq 34, 3) := by decide +kernel
theorem dX2_weigh_24 : decode cX2_weigh 24 = .ok (.aload_n 1, 1) := by decide +kernel
theorem dX2_weigh_25 : decode cX2_weigh 25 = .ok (.aload_n 0, 1) := by decide +kernel
theorem dX2_weigh_26 : decode cX2_weigh 26 = .ok (.getfield 9, 3) := by decide +kernel
theorem dX2_weigh_29 : decode cX2_weigh 29 = .ok (.iload 4, 2) := by decide +kernel
theorem dX2_weigh_31 : decode cX2_weigh 31 = .ok (.iaload, 1) := by decide +kernel
theorem dX2_weigh_32 : decode cX2_weigh 32 = .ok (.aload_n 0, 1) := by decide +kernel
theorem dX2_weigh_33 : decode cX2_weigh 33 = .ok (.getfield 15, 3) := by decide +kernel
theorem dX2_weigh_36 : decode cX2_weigh 36 = .ok (.iload 4, 2) := by decide +kernel
theorem dX2_weigh_38 : decode cX2_weigh 38 = .ok (.iaload, 1) := by decide +kernel
theorem dX2_weigh_39 : decode cX2_weigh 39 = .ok (.invokevirtual 51, 3) := by decide +kernel
theorem dX2_weigh_42 : decode cX2_weigh 42 = .ok (.ifCond .eq 13, 3) := by decide +kernel
theorem dX2_weigh_45 : decode cX2_weigh 45 = .ok (.lload_n 2, 1) := by decide +kernel
theorem dX2_weigh_46 : decode cX2_weigh 46 = .ok (.aload_n 0, 1) := by decide +kernel
theorem dX2_weigh_47 : decode cX2_weigh 47 = .ok (.getfield 18, 3) := by decide +kernel
theorem dX2_weigh_50 : decode cX2_weigh 50 = .ok (.iload 4, 2) := by decide +kernel
theorem dX2_weigh_52 : decode cX2_weigh 52 = .ok (.laload, 1) := by decide +kernel
theorem dX2_weigh_53 : decode cX2_weigh 53 = .ok (.ladd, 1) := by decide +kernel
theorem dX2_weigh_54 : decode cX2_weigh 54 = .ok (.lstore_n 2, 1) := by decide +kernel
theorem dX2_weigh_55 : decode cX2_weigh 55 = .ok (.iinc 4 1, 3) := by decide +kernel
theorem dX2_weigh_58 : decode cX2_weigh 58 = .ok (.goto (-53), 3) := by decide +kernel
theorem dX2_weigh_61 : decode cX2_weigh 61 = .ok (.lload_n 2, 1) := by decide +kernel
theorem dX2_weigh_62 : decode cX2_weigh 62 = .ok (.lreturn, 1) := by decide +kernel
theorem dX2_find_0 : decode cX2_find 0 = .ok (.iconst 0, 1) := by decide +kernel
theorem dX2_find_1 : decode cX2_find 1 = .ok (.istore_n 3, 1) := by decide +kernel
theorem dX2_find_2 : decode cX2_find 2 = .ok (.iload_n 3, 1) := by decide +kernel
theorem dX2_find_3 : decode cX2_find 3 = .ok (.aload_n 0, 1) := by decide +kernel
theorem dX2_find_4 : decode cX2_find 4 = .ok (.getfield 26, 3) := by decide +kernel
theorem dX2_find_7 : decode cX2_find 7 = .ok (.if_icmp .ge 31, 3) := by decide +kernel
theorem dX2_find_10 : decode cX2_find 10 = .ok (.aload_n 0, 1) := by decide +kernel
theorem dX2_find_11 : decode cX2_find 11 = .ok (.getfield 9, 3) := by decide +kernel
theorem dX2_find_14 : decode cX2_find 14 = .ok (.iload_n 3, 1) := by decide +kernel
theorem dX2_find_15 : decode cX2_find 15 = .ok (.iaload, 1) := by decide +kernel
theorem dX2_find_16 : decode cX2_find 16 = .ok (.iload_n 1, 1) := by decide +kernel
theorem dX2_find_17 : decode cX2_find 17 = .ok (.if_icmp .ne 15, 3) := by decide +kernel
theorem dX2_find_20 : decode cX2_find 20 = .ok (.aload_n 0, 1) := by decide +kernel
theorem dX2_find_21 : decode cX2_find 21 = .ok (.getfield 15, 3) := by decide +kernel
theorem dX2_find_24 : decode cX2_find 24 = .ok (.iload_n 3, 1) := by decide +kernel
theorem dX2_find_25 : decode cX2_find 25 = .ok (.iaload, 1) := by decide +kernel
theorem dX2_find_26 : decode cX2_find 26 = .ok (.iload_n 2, 1) := by decide +kernel
theorem dX2_find_27 : decode cX2_find 27 = .ok (.if_icmp .ne 5, 3) := by decide +kernel
theorem dX2_find_30 : decode cX2_find 30 = .ok (.iload_n 3, 1) := by decide +kernel
theorem dX2_find_31 : decode cX2_find 31 = .ok (.ireturn, 1) := by decide +kernel
theorem dX2_find_32 : decode cX2_find 32 = .ok (.iinc 3 1, 3) := by decide +kernel
theorem dX2_find_35 : decode cX2_find 35 = .ok (.goto (-33), 3) := by decide +kernel
theorem dX2_find_38 : decode cX2_find 38 = .ok (.iconst (-1), 1) := by decide +kernel
theorem dX2_find_39 : decode cX2_find 39 = .ok (.ireturn, 1) := by decide +kernel
theorem dX2_add_0 : decode cX2_add 0 = .ok (.aload_n 0, 1) := by decide +kernel
theorem dX2_add_1 : decode cX2_add 1 = .ok (.getfield 26, 3) := by decide +kernel
theorem dX2_add_4 : decode cX2_add 4 = .ok (.sipush 1000, 3) := by decide +kernel
theorem dX2_add_7 : decode cX2_add 7 = .ok (.if_icmp .lt 5, 3) := by decide +kernel
theorem dX2_add_10 : decode cX2_add 10 = .ok (.iconst (-1), 1) := by decide +kernel
theorem dX2_add_11 : decode cX2_add 11 = .ok (.ireturn, 1) := by decide +kernel
theorem dX2_add_12 : decode cX2_add 12 = .ok (.aload_n 0, 1) := by decide +kernel
theorem dX2_add_13 : decode cX2_add 13 = .ok (.getfield 26, 3) := by decide +kernel
theorem dX2_add_16 : decode cX2_add 16 = .ok (.istore_n 3, 1) := by decide +kernel
theorem dX2_add_17 : decode cX2_add 17 = .ok (.aload_n 0, 1) := by decide +kernel
theorem dX2_add_18 : decode cX2_add 18 = .ok (.getfield 9, 3) := by decide +kernel
theorem dX2_add_21 : decode cX2_add 21 = .ok (.iload_n 3, 1) := by decide +kernel
theorem dX2_add_22 : decode cX2_add 22 = .ok (.iload_n 1, 1) := by decide +kernel
theorem dX2_add_23 : decode cX2_add 23 = .ok (.iastore, 1) := by decide +kernel
theorem dX2_add_24 : decode cX2_add 24 = .ok (.aload_n 0, 1) := by decide +kernel
theorem dX2_add_25 : decode cX2_add 25 = .ok (.getfield 15, 3) := by decide +kernel
theorem dX2_add_28 : decode cX2_add 28 = .ok (.iload_n 3, 1) := by decide +kernel
theorem dX2_add_29 : decode cX2_add 29 = .ok (.iload_n 2, 1) := by decide +kernel
theorem dX2_add_30 : decode cX2_add 30 = .ok (.iastore, 1) := by decide +kernel
theorem dX2_add_31 : decode cX2_add 31 = .ok (.aload_n 0, 1) := by decide +kernel
theorem dX2_add_32 : decode cX2_add 32 = .ok (.getfield 18, 3) := by decide +kernel
theorem dX2_add_35 : decode cX2_add 35 = .ok (.iload_n 3, 1) := by decide +kernel
theorem dX2_add_36 : decode cX2_add 36 = .ok (.lconst 0, 1) := by decide +kernel
theorem dX2_add_37 : decode cX2_add 37 = .ok (.lastore, 1) := by decide +kernel
theorem dX2_add_38 : decode cX2_add 38 = .ok (.aload_n 0, 1) := by decide +kernel
theorem dX2_add_39 : decode cX2_add 39 = .ok (.dup, 1) := by decide +kernel
theorem dX2_add_40 : decode cX2_add 40 = .ok (.getfield 26, 3) := by decide +kernel
theorem dX2_add_43 : decode cX2_add 43 = .ok (.iconst 1, 1) := by decide +kernel
theorem dX2_add_44 : decode cX2_add 44 = .ok (.iadd, 1) := by decide +kernel
theorem dX2_add_45 : decode cX2_add 45 = .ok (.putfield 26, 3) := by decide +kernel
theorem dX2_add_48 : decode cX2_add 48 = .ok (.iload_n 3, 1) := by decide +kernel
theorem dX2_add_49 : decode cX2_add 49 = .ok (.ireturn, 1) := by decide +kernel
set_option maxRecDepth 20000 in
theorem ggX2_moveForward_X2_isBefore : GoodIn wsX2_moveForward wsX2_isBefore := goodIn_r _ [5, 6, 7, 8, 14, 15, 16, 17, 18] (by decide +kernel) (by decide +kernel)
set_option maxRecDepth 20000 in
theorem gX2_moveForward_X2_isBefore : GoodIn wsX2_moveForward (wsV RX2 57 RX2 yX2_isBefore wsX2_isBefore) := goodIn_app (goodIn_of _ (by decide +kernel)) ggX2_moveForward_X2_isBefore
set_option maxRecDepth 20000 in
theorem ggX2_moveForward_X2_swap : GoodIn wsX2_moveForward wsX2_swap := goodIn_r _ [12, 7, 8, 6, 13, 14, 15, 16, 17, 18] (by decide +kernel) (by decide +kernel)
set_option maxRecDepth 20000 in
theorem gX2_moveForward_X2_swap : GoodIn wsX2_moveForward (wsV RX2 60 RX2 yX2_swap wsX2_swap) := goodIn_app (goodIn_of _ (by decide +kernel)) ggX2_moveForward_X2_swap
theorem dX2_moveForward_0 : decode cX2_moveForward 0 = .ok (.iload_n 1, 1) := by decide +kernel
theorem dX2_moveForward_1 : decode cX2_moveForward 1 = .ok (.istore_n 2, 1) := by decide +kernel
theorem dX2_moveForward_2 : decode cX2_moveForward 2 = .ok (.iload_n 2, 1) := by decide +kernel
theorem dX2_moveForward_3 : decode cX2_moveForward 3 = .ok (.ifCond .le 28, 3) := by decide +kernel
theorem dX2_moveForward_6 : decode cX2_moveForward 6 = .ok (.aload_n 0, 1) := by decide +kernel
theorem dX2_moveForward_7 : decode cX2_moveForward 7 = .ok (.iload_n 2, 1) := by decide +kernel
theorem dX2_moveForward_8 : decode cX2_moveForward 8 = .ok (.iload_n 2, 1) := by decide +kernel
theorem dX2_moveForward_9 : decode cX2_moveForward 9 = .ok (.iconst 1, 1) := by decide +kernel
theorem dX2_moveForward_10 : decode cX2_moveForward 10 = .ok (.isub, 1) := by decide +kernel
theorem dX2_moveForward_11 : decode cX2_moveForward 11 = .ok (.invokevirtual 57, 3) := by decide +kernel
theorem dX2_moveForward_14 : decode cX2_moveForward 14 = .ok (.ifCond .eq 17, 3) := by decide +kernel
theorem dX2_moveForward_17 : decode cX2_moveForward 17 = .ok (.aload_n 0, 1) := by decide +kernel
theorem dX2_moveForward_18 : decode cX2_moveForward 18 = .ok (.iload_n 2, 1) := by decide +kernel
theorem dX2_moveForward_19 : decode cX2_moveForward 19 = .ok (.iload_n 2, 1) := by decide +kernel
theorem dX2_moveForward_20 : decode cX2_moveForward 20 = .ok (.iconst 1, 1) := by decide +kernel
theorem dX2_moveForward_21 : decode cX2_moveForward 21 = .ok (.isub, 1) := by decide +kernel
theorem dX2_moveForward_22 : decode cX2_moveForward 22 = .ok (.invokevirtual 60, 3) := by decide +kernel
theorem dX2_moveForward_25 : decode cX2_moveForward 25 = .ok (.iinc 2 (-1), 3) := by decide +kernel
theorem dX2_moveForward_28 : decode cX2_moveForward 28 = .ok (.goto (-26), 3) := by decide +kernel
theorem dX2_moveForward_31 : decode cX2_moveForward 31 = .ok (.return_, 1) := by decide +kernel
theorem dX2_isBefore_0 : decode cX2_isBefore 0 = .ok (.aload_n 0, 1) := by decide +kernel
theorem dX2_isBefore_1 : decode cX2_isBefore 1 = .ok (.getfield 18, 3) := by decide +kernel
theorem dX2_isBefore_4 : decode cX2_isBefore 4 = .ok (.iload_n 1, 1) := by decide +kernel
theorem dX2_isBefore_5 : decode cX2_isBefore 5 = .ok (.laload, 1) := by decide +kernel
theorem dX2_isBefore_6 : decode cX2_isBefore 6 = .ok (.aload_n 0, 1) := by decide +kernel
theorem dX2_isBefore_7 : decode cX2_isBefore 7 = .ok (.getfield 18, 3) := by decide +kernel
theorem dX2_isBefore_10 : decode cX2_isBefore 10 = .ok (.iload_n 2, 1) := by decide +kernel
theorem dX2_isBefore_11 : decode cX2_isBefore 11 = .ok (.laload, 1) := by decide +kernel
theorem dX2_isBefore_12 : decode cX2_isBefore 12 = .ok (.lcmp, 1) := by decide +kernel
theorem dX2_isBefore_13 : decode cX2_isBefore 13 = .ok (.ifCond .eq 25, 3) := by decide +kernel
theorem dX2_isBefore_16 : decode cX2_isBefore 16 = .ok (.aload_n 0, 1) := by decide +kernel
theorem dX2_isBefore_17 : decode cX2_isBefore 17 = .ok (.getfield 18, 3) := by decide +kernel
theorem dX2_isBefore_20 : decode cX2_isBefore 20 = .ok (.iload_n 1, 1) := by decide +kernel
theorem dX2_isBefore_21 : decode cX2_isBefore 21 = .ok (.laload, 1) := by decide +kernel
theorem dX2_isBefore_22 : decode cX2_isBefore 22 = .ok (.aload_n 0, 1) := by decide +kernel
theorem dX2_isBefore_23 : decode cX2_isBefore 23 = .ok (.getfield 18, 3) := by decide +kernel
theorem dX2_isBefore_26 : decode cX2_isBefore 26 = .ok (.iload_n 2, 1) := by decide +kernel
theorem dX2_isBefore_27 : decode cX2_isBefore 27 = .ok (.laload, 1) := by decide +kernel
theorem dX2_isBefore_28 : decode cX2_isBefore 28 = .ok (.lcmp, 1) := by decide +kernel
theorem dX2_isBefore_29 : decode cX2_isBefore 29 = .ok (.ifCond .le 7, 3) := by decide +kernel
theorem dX2_isBefore_32 : decode cX2_isBefore 32 = .ok (.iconst 1, 1) := by decide +kernel
theorem dX2_isBefore_33 : decode cX2_isBefore 33 = .ok (.goto 4, 3) := by decide +kernel
theorem dX2_isBefore_36 : decode cX2_isBefore 36 = .ok (.iconst 0, 1) := by decide +kernel
theorem dX2_isBefore_37 : decode cX2_isBefore 37 = .ok (.ireturn, 1) := by decide +kernel
theorem dX2_isBefore_38 : decode cX2_isBefore 38 = .ok (.aload_n 0, 1) := by decide +kernel
theorem dX2_isBefore_39 : decode cX2_isBefore 39 = .ok (.getfield 9, 3) := by decide +kernel
theorem dX2_isBefore_42 : decode cX2_isBefore 42 = .ok (.iload_n 1, 1) := by decide +kernel
theorem dX2_isBefore_43 : decode cX2_isBefore 43 = .ok (.iaload, 1) := by decide +kernel
end
section
theorem dX2_isBefore_44 : decode cX2_isBefore 44 = .ok (.aload_n 0, 1) := by decide +kernel
theorem dX2_isBefore_45 : decode cX2_isBefore 45 = .ok (.getfield 9, 3) := by decide +kernel
theorem dX2_isBefore_48 : decode cX2_isBefore 48 = .ok (.iload_n 2, 1) := by decide +kernel
theorem dX2_isBefore_49 : decode cX2_isBefore 49 = .ok (.iaload, 1) := by decide +kernel
theorem dX2_isBefore_50 : decode cX2_isBefore 50 = .ok (.if_icmp .eq 24, 3) := by decide +kernel
theorem dX2_isBefore_53 : decode cX2_isBefore 53 = .ok (.aload_n 0, 1) := by decide +kernel
theorem dX2_isBefore_54 : decode cX2_isBefore 54 = .ok (.getfield 9, 3) := by decide +kernel
theorem dX2_isBefore_57 : decode cX2_isBefore 57 = .ok (.iload_n 1, 1) := by decide +kernel
theorem dX2_isBefore_58 : decode cX2_isBefore 58 = .ok (.iaload, 1) := by decide +kernel
theorem dX2_isBefore_59 : decode cX2_isBefore 59 = .ok (.aload_n 0, 1) := by decide +kernel
theorem dX2_isBefore_60 : decode cX2_isBefore 60 = .ok (.getfield 9, 3) := by decide +kernel
theorem dX2_isBefore_63 : decode cX2_isBefore 63 = .ok (.iload_n 2, 1) := by decide +kernel
theorem dX2_isBefore_64 : decode cX2_isBefore 64 = .ok (.iaload, 1) := by decide +kernel
theorem dX2_isBefore_65 : decode cX2_isBefore 65 = .ok (.if_icmp .ge 7, 3) := by decide +kernel
theorem dX2_isBefore_68 : decode cX2_isBefore 68 = .ok (.iconst 1, 1) := by decide +kernel
theorem dX2_isBefore_69 : decode cX2_isBefore 69 = .ok (.goto 4, 3) := by decide +kernel
theorem dX2_isBefore_72 : decode cX2_isBefore 72 = .ok (.iconst 0, 1) := by decide +kernel
theorem dX2_isBefore_73 : decode cX2_isBefore 73 = .ok (.ireturn, 1) := by decide +kernel
theorem dX2_isBefore_74 : decode cX2_isBefore 74 = .ok (.aload_n 0, 1) := by decide +kernel
theorem dX2_isBefore_75 : decode cX2_isBefore 75 = .ok (.getfield 15, 3) := by decide +kernel
theorem dX2_isBefore_78 : decode cX2_isBefore 78 = .ok (.iload_n 1, 1) := by decide +kernel
theorem dX2_isBefore_79 : decode cX2_isBefore 79 = .ok (.iaload, 1) := by decide +kernel
theorem dX2_isBefore_80 : decode cX2_isBefore 80 = .ok (.aload_n 0, 1) := by decide +kernel
theorem dX2_isBefore_81 : decode cX2_isBefore 81 = .ok (.getfield 15, 3) := by decide +kernel
theorem dX2_isBefore_84 : decode cX2_isBefore 84 = .ok (.iload_n 2, 1) := by decide +kernel
theorem dX2_isBefore_85 : decode cX2_isBefore 85 = .ok (.iaload, 1) := by decide +kernel
theorem dX2_isBefore_86 : decode cX2_isBefore 86 = .ok (.if_icmp .ge 7, 3) := by decide +kernel
theorem dX2_isBefore_89 : decode cX2_isBefore 89 = .ok (.iconst 1, 1) := by decide +kernel
theorem dX2_isBefore_90 : decode cX2_isBefore 90 = .ok (.goto 4, 3) := by decide +kernel
theorem dX2_isBefore_93 : decode cX2_isBefore 93 = .ok (.iconst 0, 1) := by decide +kernel
theorem dX2_isBefore_94 : decode cX2_isBefore 94 = .ok (.ireturn, 1) := by decide +kernel
theorem dX2_swap_0 : decode cX2_swap 0 = .ok (.aload_n 0, 1) := by decide +kernel
theorem dX2_swap_1 : decode cX2_swap 1 = .ok (.getfield 9, 3) := by decide +kernel
theorem dX2_swap_4 : decode cX2_swap 4 = .ok (.iload_n 1, 1) := by decide +kernel
theorem dX2_swap_5 : decode cX2_swap 5 = .ok (.iaload, 1) := by decide +kernel
theorem dX2_swap_6 : decode cX2_swap 6 = .ok (.istore_n 3, 1) := by decide +kernel
theorem dX2_swap_7 : decode cX2_swap 7 = .ok (.aload_n 0, 1) := by decide +kernel
theorem dX2_swap_8 : decode cX2_swap 8 = .ok (.getfield 15, 3) := by decide +kernel
theorem dX2_swap_11 : decode cX2_swap 11 = .ok (.iload_n 1, 1) := by decide +kernel
theorem dX2_swap_12 : decode cX2_swap 12 = .ok (.iaload, 1) := by decide +kernel
theorem dX2_swap_13 : decode cX2_swap 13 = .ok (.istore 4, 2) := by decide +kernel
theorem dX2_swap_15 : decode cX2_swap 15 = .ok (.aload_n 0, 1) := by decide +kernel
theorem dX2_swap_16 : decode cX2_swap 16 = .ok (.getfield 18, 3) := by decide +kernel
theorem dX2_swap_19 : decode cX2_swap 19 = .ok (.iload_n 1, 1) := by decide +kernel
theorem dX2_swap_20 : decode cX2_swap 20 = .ok (.laload, 1) := by decide +kernel
theorem dX2_swap_21 : decode cX2_swap 21 = .ok (.lstore 5, 2) := by decide +kernel
theorem dX2_swap_23 : decode cX2_swap 23 = .ok (.aload_n 0, 1) := by decide +kernel
theorem dX2_swap_24 : decode cX2_swap 24 = .ok (.getfield 22, 3) := by decide +kernel
theorem dX2_swap_27 : decode cX2_swap 27 = .ok (.iload_n 1, 1) := by decide +kernel
theorem dX2_swap_28 : decode cX2_swap 28 = .ok (.baload, 1) := by decide +kernel
theorem dX2_swap_29 : decode cX2_swap 29 = .ok (.istore 7, 2) := by decide +kernel
theorem dX2_swap_31 : decode cX2_swap 31 = .ok (.aload_n 0, 1) := by decide +kernel
theorem dX2_swap_32 : decode cX2_swap 32 = .ok (.getfield 9, 3) := by decide +kernel
theorem dX2_swap_35 : decode cX2_swap 35 = .ok (.iload_n 1, 1) := by decide +kernel
theorem dX2_swap_36 : decode cX2_swap 36 = .ok (.aload_n 0, 1) := by decide +kernel
theorem dX2_swap_37 : decode cX2_swap 37 = .ok (.getfield 9, 3) := by decide +kernel
theorem dX2_swap_40 : decode cX2_swap 40 = .ok (.iload_n 2, 1) := by decide +kernel
theorem dX2_swap_41 : decode cX2_swap 41 = .ok (.iaload, 1) := by decide +kernel
theorem dX2_swap_42 : decode cX2_swap 42 = .ok (.iastore, 1) := by decide +kernel
theorem dX2_swap_43 : decode cX2_swap 43 = .ok (.aload_n 0, 1) := by decide +kernel
theorem dX2_swap_44 : decode cX2_swap 44 = .ok (.getfield 15, 3) := by decide +kernel
theorem dX2_swap_47 : decode cX2_swap 47 = .ok (.iload_n 1, 1) := by decide +kernel
theorem dX2_swap_48 : decode cX2_swap 48 = .ok (.aload_n 0, 1) := by decide +kernel
theorem dX2_swap_49 : decode cX2_swap 49 = .ok (.getfield 15, 3) := by decide +kernel
theorem dX2_swap_52 : decode cX2_swap 52 = .ok (.iload_n 2, 1) := by decide +kernel
theorem dX2_swap_53 : decode cX2_swap 53 = .ok (.iaload, 1) := by decide +kernel
theorem dX2_swap_54 : decode cX2_swap 54 = .ok (.iastore, 1) := by decide +kernel
theorem dX2_swap_55 : decode cX2_swap 55 = .ok (.aload_n 0, 1) := by decide +kernel
theorem dX2_swap_56 : decode cX2_swap 56 = .ok (.getfield 18, 3) := by decide +kernel
theorem dX2_swap_59 : decode cX2_swap 59 = .ok (.iload_n 1, 1) := by decide +kernel
theorem dX2_swap_60 : decode cX2_swap 60 = .ok (.aload_n 0, 1) := by decide +kernel
theorem dX2_swap_61 : decode cX2_swap 61 = .ok (.getfield 18, 3) := by decide +kernel
theorem dX2_swap_64 : decode cX2_swap 64 = .ok (.iload_n 2, 1) := by decide +kernel
theorem dX2_swap_65 : decode cX2_swap 65 = .ok (.laload, 1) := by decide +kernel
theorem dX2_swap_66 : decode cX2_swap 66 = .ok (.lastore, 1) := by decide +kernel
theorem dX2_swap_67 : decode cX2_swap 67 = .ok (.aload_n 0, 1) := by decide +kernel
theorem dX2_swap_68 : decode cX2_swap 68 = .ok (.getfield 22, 3) := by decide +kernel
theorem dX2_swap_71 : decode cX2_swap 71 = .ok (.iload_n 1, 1) := by decide +kernel
theorem dX2_swap_72 : decode cX2_swap 72 = .ok (.aload_n 0, 1) := by decide +kernel
theorem dX2_swap_73 : decode cX2_swap 73 = .ok (.getfield 22, 3) := by decide +kernel
theorem dX2_swap_76 : decode cX2_swap 76 = .ok (.iload_n 2, 1) := by decide +kernel
theorem dX2_swap_77 : decode cX2_swap 77 = .ok (.baload, 1) := by decide +kernel
theorem dX2_swap_78 : decode cX2_swap 78 = .ok (.bastore, 1) := by decide +kernel
theorem dX2_swap_79 : decode cX2_swap 79 = .ok (.aload_n 0, 1) := by decide +kernel
theorem dX2_swap_80 : decode cX2_swap 80 = .ok (.getfield 9, 3) := by decide +kernel
theorem dX2_swap_83 : decode cX2_swap 83 = .ok (.iload_n 2, 1) := by decide +kernel
theorem dX2_swap_84 : decode cX2_swap 84 = .ok (.iload_n 3, 1) := by decide +kernel
theorem dX2_swap_85 : decode cX2_swap 85 = .ok (.iastore, 1) := by decide +kernel
theorem dX2_swap_86 : decode cX2_swap 86 = .ok (.aload_n 0, 1) := by decide +kernel
theorem dX2_swap_87 : decode cX2_swap 87 = .ok (.getfield 15, 3) := by decide +kernel
theorem dX2_swap_90 : decode cX2_swap 90 = .ok (.iload_n 2, 1) := by decide +kernel
theorem dX2_swap_91 : decode cX2_swap 91 = .ok (.iload 4, 2) := by decide +kernel
theorem dX2_swap_93 : decode cX2_swap 93 = .ok (.iastore, 1) := by decide +kernel
theorem dX2_swap_94 : decode cX2_swap 94 = .ok (.aload_n 0, 1) := by decide +kernel
theorem dX2_swap_95 : decode cX2_swap 95 = .ok (.getfield 18, 3) := by decide +kernel
theorem dX2_swap_98 : decode cX2_swap 98 = .ok (.iload_n 2, 1) := by decide +kernel
theorem dX2_swap_99 : decode cX2_swap 99 = .ok (.lload 5, 2) := by decide +kernel
theorem dX2_swap_101 : decode cX2_swap 101 = .ok (.lastore, 1) := by decide +kernel
theorem dX2_swap_102 : decode cX2_swap 102 = .ok (.aload_n 0, 1) := by decide +kernel
theorem dX2_swap_103 : decode cX2_swap 103 = .ok (.getfield 22, 3) := by decide +kernel
theorem dX2_swap_106 : decode cX2_swap 106 = .ok (.iload_n 2, 1) := by decide +kernel
theorem dX2_swap_107 : decode cX2_swap 107 = .ok (.iload 7, 2) := by decide +kernel
theorem dX2_swap_109 : decode cX2_swap 109 = .ok (.bastore, 1) := by decide +kernel
theorem dX2_swap_110 : decode cX2_swap 110 = .ok (.return_, 1) := by decide +kernel
set_option maxRecDepth 20000 in
theorem ggX3_init_X2_init : GoodIn wsX3_init wsX2_init := goodIn_r _ [23, 24, 2, 3, 25, 26, 27, 28, 29, 4, 30, 53, 54, 55, 56, 57] (by decide +kernel) (by decide +kernel)
set_option maxRecDepth 20000 in
theorem gX3_init_X2_init_n15 : GoodIn wsX3_init (wsX2_init) := ggX3_init_X2_init
set_option maxRecDepth 20000 in
theorem ggX3_init_X0_init : GoodIn wsX3_init wsX0_init := goodIn_r _ [32, 33, 2, 3, 25, 34, 35, 28, 36, 58, 59, 60] (by decide +kernel) (by decide +kernel)
set_option maxRecDepth 20000 in
theorem gX3_init_X0_init_n22 : GoodIn wsX3_init (wsX0_init) := ggX3_init_X0_init
set_option maxRecDepth 20000 in
theorem ggX3_init_X1_init : GoodIn wsX3_init wsX1_init := goodIn_r _ [38, 39, 2, 3, 25, 40, 41, 61, 62, 63] (by decide +kernel) (by decide +kernel)
set_option maxRecDepth 20000 in
theorem gX3_init_X1_init_n29 : GoodIn wsX3_init (wsX1_init) := ggX3_init_X1_init
theorem dX3_init_0 : decode cX3_init 0 = .ok (.aload_n 0, 1) := by decide +kernel
theorem dX3_init_1 : decode cX3_init 1 = .ok (.invokespecial 1, 3) := by decide +kernel
theorem dX3_init_4 : decode cX3_init 4 = .ok (.aload_n 0, 1) := by decide +kernel
theorem dX3_init_5 : decode cX3_init 5 = .ok (.sipush 200, 3) := by decide +kernel
theorem dX3_init_8 : decode cX3_init 8 = .ok (.newarray .boolean, 2) := by decide +kernel
theorem dX3_init_10 : decode cX3_init 10 = .ok (.putfield 9, 3) := by decide +kernel
theorem dX3_init_13 : decode cX3_init 13 = .ok (.aload_n 0, 1) := by decide +kernel
theorem dX3_init_14 : decode cX3_init 14 = .ok (.new 13, 3) := by decide +kernel
theorem dX3_init_17 : decode cX3_init 17 = .ok (.dup, 1) := by decide +kernel
theorem dX3_init_18 : decode cX3_init 18 = .ok (.invokespecial 15, 3) := by decide +kernel
theorem dX3_init_21 : decode cX3_init 21 = .ok (.putfield 16, 3) := by decide +kernel
theorem dX3_init_24 : decode cX3_init 24 = .ok (.aload_n 0, 1) := by decide +kernel
theorem dX3_init_25 : decode cX3_init 25 = .ok (.new 20, 3) := by decide +kernel
theorem dX3_init_28 : decode cX3_init 28 = .ok (.dup, 1) := by decide +kernel
theorem dX3_init_29 : decode cX3_init 29 = .ok (.invokespecial 22, 3) := by decide +kernel
theorem dX3_init_32 : decode cX3_init 32 = .ok (.putfield 23, 3) := by decide +kernel
theorem dX3_init_35 : decode cX3_init 35 = .ok (.aload_n 0, 1) := by decide +kernel
theorem dX3_init_36 : decode cX3_init 36 = .ok (.new 27, 3) := by decide +kernel
theorem dX3_init_39 : decode cX3_init 39 = .ok (.dup, 1) := by decide +kernel
theorem dX3_init_40 : decode cX3_init 40 = .ok (.invokespecial 29, 3) := by decide +kernel
theorem dX3_init_43 : decode cX3_init 43 = .ok (.putfield 30, 3) := by decide +kernel
theorem dX3_init_46 : decode cX3_init 46 = .ok (.aload_n 0, 1) := by decide +kernel
theorem dX3_init_47 : decode cX3_init 47 = .ok (.new 27, 3) := by decide +kernel
theorem dX3_init_50 : decode cX3_init 50 = .ok (.dup, 1) := by decide +kernel
theorem dX3_init_51 : decode cX3_init 51 = .ok (.invokespecial 29, 3) := by decide +kernel
theorem dX3_init_54 : decode cX3_init 54 = .ok (.putfield 34, 3) := by decide +kernel
theorem dX3_init_57 : decode cX3_init 57 = .ok (.aload_n 0, 1) := by decide +kernel
theorem dX3_init_58 : decode cX3_init 58 = .ok (.new 27, 3) := by decide +kernel
theorem dX3_init_61 : decode cX3_init 61 = .ok (.dup, 1) := by decide +kernel
theorem dX3_init_62 : decode cX3_init 62 = .ok (.invokespecial 29, 3) := by decide +kernel
theorem dX3_init_65 : decode cX3_init 65 = .ok (.putfield 37, 3) := by decide +kernel
theorem dX3_init_68 : decode cX3_init 68 = .ok (.aload_n 0, 1) := by decide +kernel
theorem dX3_init_69 : decode cX3_init 69 = .ok (.iconst 1, 1) := by decide +kernel
theorem dX3_init_70 : decode cX3_init 70 = .ok (.putfield 40, 3) := by decide +kernel
theorem dX3_init_73 : decode cX3_init 73 = .ok (.aload_n 0, 1) := by decide +kernel
theorem dX3_init_74 : decode cX3_init 74 = .ok (.iconst 1, 1) := by decide +kernel
theorem dX3_init_75 : decode cX3_init 75 = .ok (.putfield 44, 3) := by decide +kernel
theorem dX3_init_78 : decode cX3_init 78 = .ok (.return_, 1) := by decide +kernel
set_option maxRecDepth 20000 in
theorem ggX3_size_X2_forget : GoodIn wsX3_size wsX2_forget := goodIn_r _ [9, 10, 22, 23, 24, 25, 26] (by decide +kernel) (by decide +kernel)
set_option maxRecDepth 20000 in
theorem gX3_size_X2_forget : GoodIn wsX3_size (wsV RX3 48 RX2 yX2_forget wsX2_forget) := goodIn_app (goodIn_of _ (by decide +kernel)) ggX3_size_X2_forget
theorem dX3_size_0 : decode cX3_size 0 = .ok (.iload_n 1, 1) := by decide +kernel
theorem dX3_size_1 : decode cX3_size 1 = .ok (.iconst 1, 1) := by decide +kernel
theorem dX3_size_2 : decode cX3_size 2 = .ok (.if_icmp .lt 10, 3) := by decide +kernel
theorem dX3_size_5 : decode cX3_size 5 = .ok (.iload_n 1, 1) := by decide +kernel
theorem dX3_size_6 : decode cX3_size 6 = .ok (.sipush 200, 3) := by decide +kernel
theorem dX3_size_9 : decode cX3_size 9 = .ok (.if_icmp .le 5, 3) := by decide +kernel
theorem dX3_size_12 : decode cX3_size 12 = .ok (.iconst 0, 1) := by decide +kernel
theorem dX3_size_13 : decode cX3_size 13 = .ok (.ireturn, 1) := by decide +kernel
theorem dX3_size_14 : decode cX3_size 14 = .ok (.aload_n 0, 1) := by decide +kernel
theorem dX3_size_15 : decode cX3_size 15 = .ok (.iload_n 1, 1) := by decide +kernel
theorem dX3_size_16 : decode cX3_size 16 = .ok (.putfield 40, 3) := by decide +kernel
theorem dX3_size_19 : decode cX3_size 19 = .ok (.iconst 0, 1) := by decide +kernel
theorem dX3_size_20 : decode cX3_size 20 = .ok (.istore_n 2, 1) := by decide +kernel
theorem dX3_size_21 : decode cX3_size 21 = .ok (.iload_n 2, 1) := by decide +kernel
theorem dX3_size_22 : decode cX3_size 22 = .ok (.sipush 200, 3) := by decide +kernel
theorem dX3_size_25 : decode cX3_size 25 = .ok (.if_icmp .ge 16, 3) := by decide +kernel
theorem dX3_size_28 : decode cX3_size 28 = .ok (.aload_n 0, 1) := by decide +kernel
theorem dX3_size_29 : decode cX3_size 29 = .ok (.getfield 9, 3) := by decide +kernel
theorem dX3_size_32 : decode cX3_size 32 = .ok (.iload_n 2, 1) := by decide +kernel
theorem dX3_size_33 : decode cX3_size 33 = .ok (.iconst 0, 1) := by decide +kernel
theorem dX3_size_34 : decode cX3_size 34 = .ok (.bastore, 1) := by decide +kernel
theorem dX3_size_35 : decode cX3_size 35 = .ok (.iinc 2 1, 3) := by decide +kernel
theorem dX3_size_38 : decode cX3_size 38 = .ok (.goto (-17), 3) := by decide +kernel
theorem dX3_size_41 : decode cX3_size 41 = .ok (.aload_n 0, 1) := by decide +kernel
theorem dX3_size_42 : decode cX3_size 42 = .ok (.getfield 16, 3) := by decide +kernel
theorem dX3_size_45 : decode cX3_size 45 = .ok (.invokevirtual 48, 3) := by decide +kernel
theorem dX3_size_48 : decode cX3_size 48 = .ok (.aload_n 0, 1) := by decide +kernel
theorem dX3_size_49 : decode cX3_size 49 = .ok (.iconst 1, 1) := by decide +kernel
theorem dX3_size_50 : decode cX3_size 50 = .ok (.putfield 44, 3) := by decide +kernel
theorem dX3_size_53 : decode cX3_size 53 = .ok (.iconst 1, 1) := by decide +kernel
theorem dX3_size_54 : decode cX3_size 54 = .ok (.ireturn, 1) := by decide +kernel
set_option maxRecDepth 20000 in
theorem ggX3_heat_X3_isBlock : GoodIn wsX3_heat wsX3_isBlock := goodIn_r _ [7, 8, 9, 10, 11, 12, 13, 14, 15, 16, 17, 18, 19] (by decide +kernel) (by decide +kernel)
set_option maxRecDepth 20000 in
theorem gX3_heat_X3_isBlock : GoodIn wsX3_heat (wsV RX3 51 RX3 yX3_isBlock wsX3_isBlock) := goodIn_app (goodIn_of _ (by decide +kernel)) ggX3_heat_X3_isBlock
theorem dX3_heat_0 : decode cX3_heat 0 = .ok (.aload_n 0, 1) := by decide +kernel
theorem dX3_heat_1 : decode cX3_heat 1 = .ok (.iload_n 1, 1) := by decide +kernel
theorem dX3_heat_2 : decode cX3_heat 2 = .ok (.invokevirtual 51, 3) := by decide +kernel
theorem dX3_heat_5 : decode cX3_heat 5 = .ok (.ifCond .ne 5, 3) := by decide +kernel
theorem dX3_heat_8 : decode cX3_heat 8 = .ok (.iconst 0, 1) := by decide +kernel
theorem dX3_heat_9 : decode cX3_heat 9 = .ok (.ireturn, 1) := by decide +kernel
theorem dX3_heat_10 : decode cX3_heat 10 = .ok (.aload_n 0, 1) := by decide +kernel
theorem dX3_heat_11 : decode cX3_heat 11 = .ok (.getfield 9, 3) := by decide +kernel
theorem dX3_heat_14 : decode cX3_heat 14 = .ok (.iload_n 1, 1) := by decide +kernel
theorem dX3_heat_15 : decode cX3_heat 15 = .ok (.iload_n 2, 1) := by decide +kernel
theorem dX3_heat_16 : decode cX3_heat 16 = .ok (.bastore, 1) := by decide +kernel
theorem dX3_heat_17 : decode cX3_heat 17 = .ok (.aload_n 0, 1) := by decide +kernel
theorem dX3_heat_18 : decode cX3_heat 18 = .ok (.iconst 1, 1) := by decide +kernel
theorem dX3_heat_19 : decode cX3_heat 19 = .ok (.putfield 44, 3) := by decide +kernel
theorem dX3_heat_22 : decode cX3_heat 22 = .ok (.iconst 1, 1) := by decide +kernel
theorem dX3_heat_23 : decode cX3_heat 23 = .ok (.ireturn, 1) := by decide +kernel
set_option maxRecDepth 20000 in
theorem ggX3_way_X3_isBlock : GoodIn wsX3_way wsX3_isBlock := goodIn_r _ [10, 11, 48, 49, 50, 51, 52, 53, 54, 55, 56, 57, 58] (by decide +kernel) (by decide +kernel)
set_option maxRecDepth 20000 in
theorem gX3_way_X3_isBlock : GoodIn wsX3_way (wsV RX3 51 RX3 yX3_isBlock wsX3_isBlock) := goodIn_app (goodIn_of _ (by decide +kernel)) ggX3_way_X3_isBlock
set_option maxRecDepth 20000 in
theorem ggX3_way_X2_tell : GoodIn wsX3_way wsX2_tell := goodIn_r _ [16, 17, 18, 19, 20, 21, 22, 23, 24, 25, 26, 27, 15, 28, 29, 30, 31, 32, 33, 34, 35, 36, 37, 38, 39, 40, 41, 42, 43, 44, 45, 46, 47, 59, 60, 61, 62, 63] (by decide +kernel) (by decide +kernel)
set_option maxRecDepth 20000 in
theorem gX3_way_X2_tell : GoodIn wsX3_way (wsV RX3 60 RX2 yX2_tell wsX2_tell) := goodIn_app (goodIn_of _ (by decide +kernel)) ggX3_way_X2_tell
theorem dX3_way_0 : decode cX3_way 0 = .ok (.aload_n 0, 1) := by decide +kernel
theorem dX3_way_1 : decode cX3_way 1 = .ok (.iload_n 1, 1) := by decide +kernel
theorem dX3_way_2 : decode cX3_way 2 = .ok (.invokevirtual 51, 3) := by decide +kernel
theorem dX3_way_5 : decode cX3_way 5 = .ok (.ifCond .eq 11, 3) := by decide +kernel
theorem dX3_way_8 : decode cX3_way 8 = .ok (.aload_n 0, 1) := by decide +kernel
theorem dX3_way_9 : decode cX3_way 9 = .ok (.iload_n 2, 1) := by decide +kernel
theorem dX3_way_10 : decode cX3_way 10 = .ok (.invokevirtual 51, 3) := by decide +kernel
theorem dX3_way_13 : decode cX3_way 13 = .ok (.ifCond .ne 7, 3) := by decide +kernel
theorem dX3_way_16 : decode cX3_way 16 = .ok (.ldc2_w 55, 3) := by decide +kernel
theorem dX3_way_19 : decode cX3_way 19 = .ok (.lreturn, 1) := by decide +kernel
theorem dX3_way_20 : decode cX3_way 20 = .ok (.iload_n 3, 1) := by decide +kernel
theorem dX3_way_21 : decode cX3_way 21 = .ok (.ifCond .lt 9, 3) := by decide +kernel
theorem dX3_way_24 : decode cX3_way 24 = .ok (.iload_n 3, 1) := by decide +kernel
theorem dX3_way_25 : decode cX3_way 25 = .ok (.ldc 57, 2) := by decide +kernel
theorem dX3_way_27 : decode cX3_way 27 = .ok (.if_icmp .le 7, 3) := by decide +kernel
theorem dX3_way_30 : decode cX3_way 30 = .ok (.ldc2_w 58, 3) := by decide +kernel
theorem dX3_way_33 : decode cX3_way 33 = .ok (.lreturn, 1) := by decide +kernel
theorem dX3_way_34 : decode cX3_way 34 = .ok (.aload_n 0, 1) := by decide +kernel
theorem dX3_way_35 : decode cX3_way 35 = .ok (.iconst 1, 1) := by decide +kernel
theorem dX3_way_36 : decode cX3_way 36 = .ok (.putfield 44, 3) := by decide +kernel
theorem dX3_way_39 : decode cX3_way 39 = .ok (.aload_n 0, 1) := by decide +kernel
theorem dX3_way_40 : decode cX3_way 40 = .ok (.getfield 16, 3) := by decide +kernel
theorem dX3_way_43 : decode cX3_way 43 = .ok (.iload_n 1, 1) := by decide +kernel
theorem dX3_way_44 : decode cX3_way 44 = .ok (.iload_n 2, 1) := by decide +kernel
theorem dX3_way_45 : decode cX3_way 45 = .ok (.iload_n 3, 1) := by decide +kernel
theorem dX3_way_46 : decode cX3_way 46 = .ok (.iload 4, 2) := by decide +kernel
theorem dX3_way_48 : decode cX3_way 48 = .ok (.invokevirtual 60, 3) := by decide +kernel
theorem dX3_way_51 : decode cX3_way 51 = .ok (.lreturn, 1) := by decide +kernel
set_option maxRecDepth 20000 in
theorem ggX3_count_X2_told : GoodIn wsX3_count wsX2_told := goodIn_r _ [6, 7, 8, 9, 10, 5, 11, 12, 13, 14, 26, 27, 28, 29, 30] (by decide +kernel) (by decide +kernel)
set_option maxRecDepth 20000 in
theorem gX3_count_X2_told : GoodIn wsX3_count (wsV RX3 64 RX2 yX2_told wsX2_told) := goodIn_app (goodIn_of _ (by decide +kernel)) ggX3_count_X2_told
theorem dX3_count_0 : decode cX3_count 0 = .ok (.aload_n 0, 1) := by decide +kernel
theorem dX3_count_1 : decode cX3_count 1 = .ok (.getfield 16, 3) := by decide +kernel
theorem dX3_count_4 : decode cX3_count 4 = .ok (.iload_n 1, 1) := by decide +kernel
theorem dX3_count_5 : decode cX3_count 5 = .ok (.iload_n 2, 1) := by decide +kernel
theorem dX3_count_6 : decode cX3_count 6 = .ok (.invokevirtual 64, 3) := by decide +kernel
theorem dX3_count_9 : decode cX3_count 9 = .ok (.lreturn, 1) := by decide +kernel
set_option maxRecDepth 20000 in
theorem ggX3_length_X3_refresh : GoodIn wsX3_length wsX3_refresh := goodIn_r _ [6, 7, 8, 1, 9, 10, 11, 12, 13, 14, 15, 16, 17, 5, 18, 19, 20, 21, 22, 23, 24, 25, 26, 27, 28, 29, 30, 31, 32, 33, 34, 35, 36, 37, 38, 39, 40, 41, 42, 43, 44, 45, 46, 47, 48, 49, 50, 51, 52, 53, 54, 55, 56, 57, 58, 59, 60, 61, 62, 63, 64, 65, 66, 67, 68, 69, 70, 71, 72, 73, 74, 75, 76, 77, 78, 79, 80, 81, 82, 83, 84, 85, 86, 87, 88, 89, 90, 91, 92, 93, 94, 95, 96, 97, 98, 99, 100, 101, 102, 103, 104, 105, 106, 107, 108, 109, 110, 111, 112, 113, 114, 115, 116, 117, 118, 119] (by decide +kernel) (by decide +kernel)
set_option maxRecDepth 20000 in
theorem gX3_length_X3_refresh : GoodIn wsX3_length (wsV RX3 68 RX3 yX3_refresh wsX3_refresh) := goodIn_app (goodIn_of _ (by decide +kernel)) ggX3_length_X3_refresh
theorem dX3_length_0 : decode cX3_length 0 = .ok (.aload_n 0, 1) := by decide +kernel
theorem dX3_length_1 : decode cX3_length 1 = .ok (.invokevirtual 68, 3) := by decide +kernel
theorem dX3_length_4 : decode cX3_length 4 = .ok (.aload_n 0, 1) := by decide +kernel
theorem dX3_length_5 : decode cX3_length 5 = .ok (.getfield 34, 3) := by decide +kernel
theorem dX3_length_8 : decode cX3_length 8 = .ok (.getfield 71, 3) := by decide +kernel
theorem dX3_length_11 : decode cX3_length 11 = .ok (.ireturn, 1) := by decide +kernel
set_option maxRecDepth 20000 in
theorem ggX3_row_X3_refresh : GoodIn wsX3_row wsX3_refresh := goodIn_r _ [7, 8, 9, 2, 10, 1, 11, 12, 13, 14, 15, 16, 17, 6, 18, 19, 20, 21, 22, 23, 24, 25, 26, 27, 28, 29, 30, 31, 32, 33, 34, 35, 36, 37, 38, 39, 40, 41, 42, 43, 44, 45, 46, 47, 48, 49, 50, 51, 52, 53, 54, 55, 56, 57, 58, 59, 60, 61, 62, 63, 64, 65, 66, 67, 68, 69, 70, 71, 72, 73, 74, 75, 76, 77, 78, 79, 80, 81, 82, 83, 84, 85, 86, 87, 88, 89, 90, 91, 92, 93, 94, 95, 96, 97, 106, 107, 108, 109, 110, 111, 112, 113, 114, 115, 116, 117, 118, 119, 120, 121, 122, 123, 124, 125, 126, 127] (by decide +kernel) (by decide +kernel)
set_option maxRecDepth 20000 in
theorem gX3_row_X3_refresh : GoodIn wsX3_row (wsV RX3 68 RX3 yX3_refresh wsX3_refresh) := goodIn_app (goodIn_of _ (by decide +kernel)) ggX3_row_X3_refresh
set_option maxRecDepth 20000 in
theorem ggX3_row_X3_chainsAreBetter : GoodIn wsX3_row wsX3_chainsAreBetter := goodIn_r _ [101, 14, 13, 106, 107, 108, 109, 110, 111, 112, 113, 114, 115, 116] (by decide +kernel) (by decide +kernel)
set_option maxRecDepth 20000 in
theorem gX3_row_X3_chainsAreBetter : GoodIn wsX3_row (wsV RX3 74 RX3 yX3_chainsAreBetter wsX3_chainsAreBetter) := goodIn_app (goodIn_of _ (by decide +kernel)) ggX3_row_X3_chainsAreBetter
set_option maxRecDepth 20000 in
theorem ggX3_row_X1_blockAt : GoodIn wsX3_row wsX1_blockAt := goodIn_r _ [105, 26, 36, 117, 118, 119] (by decide +kernel) (by decide +kernel)
set_option maxRecDepth 20000 in
theorem gX3_row_X1_blockAt : GoodIn wsX3_row (wsV RX3 78 RX1 yX1_blockAt wsX1_blockAt) := goodIn_app (goodIn_of _ (by decide +kernel)) ggX3_row_X1_blockAt
theorem dX3_row_0 : decode cX3_row 0 = .ok (.aload_n 0, 1) := by decide +kernel
theorem dX3_row_1 : decode cX3_row 1 = .ok (.invokevirtual 68, 3) := by decide +kernel
theorem dX3_row_4 : decode cX3_row 4 = .ok (.aload_n 0, 1) := by decide +kernel
theorem dX3_row_5 : decode cX3_row 5 = .ok (.invokevirtual 74, 3) := by decide +kernel
theorem dX3_row_8 : decode cX3_row 8 = .ok (.ifCond .eq 14, 3) := by decide +kernel
theorem dX3_row_11 : decode cX3_row 11 = .ok (.aload_n 0, 1) := by decide +kernel
theorem dX3_row_12 : decode cX3_row 12 = .ok (.getfield 37, 3) := by decide +kernel
theorem dX3_row_15 : decode cX3_row 15 = .ok (.iload_n 1, 1) := by decide +kernel
theorem dX3_row_16 : decode cX3_row 16 = .ok (.invokevirtual 78, 3) := by decide +kernel
theorem dX3_row_19 : decode cX3_row 19 = .ok (.goto 11, 3) := by decide +kernel
theorem dX3_row_22 : decode cX3_row 22 = .ok (.aload_n 0, 1) := by decide +kernel
theorem dX3_row_23 : decode cX3_row 23 = .ok (.getfield 34, 3) := by decide +kernel
theorem dX3_row_26 : decode cX3_row 26 = .ok (.iload_n 1, 1) := by decide +kernel
theorem dX3_row_27 : decode cX3_row 27 = .ok (.invokevirtual 78, 3) := by decide +kernel
theorem dX3_row_30 : decode cX3_row 30 = .ok (.ireturn, 1) := by decide +kernel
set_option maxRecDepth 20000 in
theorem ggX3_weight_X3_refresh : GoodIn wsX3_weight wsX3_refresh := goodIn_r _ [9, 10, 11, 12, 13, 14, 15, 3, 2, 1, 16, 17, 18, 8, 19, 20, 21, 22, 23, 24, 25, 26, 27, 28, 29, 30, 31, 32, 33, 34, 35, 36, 37, 38, 39, 40, 41, 42, 43, 44, 45, 46, 47, 48, 49, 50, 51, 52, 53, 54, 55, 56, 57, 58, 59, 60, 61, 62, 63, 64, 65, 66, 67, 68, 69, 70, 71, 72, 73, 74, 75, 76, 77, 78, 79, 80, 81, 82, 83, 84, 85, 86, 87, 88, 89, 90, 91, 92, 93, 94, 95, 96, 97, 98, 103, 104, 105, 106, 107, 108, 109, 110, 111, 112, 113, 114, 115, 116, 117, 118, 119, 120, 121, 122, 123, 124] (by decide +kernel) (by decide +kernel)
set_option maxRecDepth 20000 in
theorem gX3_weight_X3_refresh : GoodIn wsX3_weight (wsV RX3 68 RX3 yX3_refresh wsX3_refresh) := goodIn_app (goodIn_of _ (by decide +kernel)) ggX3_weight_X3_refresh
set_option maxRecDepth 20000 in
theorem ggX3_weight_X3_chainsAreBetter : GoodIn wsX3_weight wsX3_chainsAreBetter := goodIn_r _ [102, 1, 2, 103, 104, 105, 106, 107, 108, 109, 110, 111, 112, 113] (by decide +kernel) (by decide +kernel)
set_option maxRecDepth 20000 in
theorem gX3_weight_X3_chainsAreBetter : GoodIn wsX3_weight (wsV RX3 74 RX3 yX3_chainsAreBetter wsX3_chainsAreBetter) := goodIn_app (goodIn_of _ (by decide +kernel)) ggX3_weight_X3_chainsAreBetter
theorem dX3_weight_0 : decode cX3_weight 0 = .ok (.aload_n 0, 1) := by decide +kernel
theorem dX3_weight_1 : decode cX3_weight 1 = .ok (.invokevirtual 68, 3) := by decide +kernel
theorem dX3_weight_4 : decode cX3_weight 4 = .ok (.iload_n 1, 1) := by decide +kernel
theorem dX3_weight_5 : decode cX3_weight 5 = .ok (.tableswitch 65 0 3 #[31, 50, 55, 60], 31) := by decide +kernel
theorem dX3_weight_36 : decode cX3_weight 36 = .ok (.aload_n 0, 1) := by decide +kernel
theorem dX3_weight_37 : decode cX3_weight 37 = .ok (.invokevirtual 74, 3) := by decide +kernel
theorem dX3_weight_40 : decode cX3_weight 40 = .ok (.ifCond .eq 10, 3) := by decide +kernel
theorem dX3_weight_43 : decode cX3_weight 43 = .ok (.aload_n 0, 1) := by decide +kernel
theorem dX3_weight_44 : decode cX3_weight 44 = .ok (.getfield 82, 3) := by decide +kernel
theorem dX3_weight_47 : decode cX3_weight 47 = .ok (.goto 7, 3) := by decide +kernel
theorem dX3_weight_50 : decode cX3_weight 50 = .ok (.aload_n 0, 1) := by decide +kernel
theorem dX3_weight_51 : decode cX3_weight 51 = .ok (.getfield 86, 3) := by decide +kernel
theorem dX3_weight_54 : decode cX3_weight 54 = .ok (.lreturn, 1) := by decide +kernel
theorem dX3_weight_55 : decode cX3_weight 55 = .ok (.aload_n 0, 1) := by decide +kernel
theorem dX3_weight_56 : decode cX3_weight 56 = .ok (.getfield 86, 3) := by decide +kernel
theorem dX3_weight_59 : decode cX3_weight 59 = .ok (.lreturn, 1) := by decide +kernel
theorem dX3_weight_60 : decode cX3_weight 60 = .ok (.aload_n 0, 1) := by decide +kernel
theorem dX3_weight_61 : decode cX3_weight 61 = .ok (.getfield 89, 3) := by decide +kernel
theorem dX3_weight_64 : decode cX3_weight 64 = .ok (.lreturn, 1) := by decide +kernel
theorem dX3_weight_65 : decode cX3_weight 65 = .ok (.aload_n 0, 1) := by decide +kernel
theorem dX3_weight_66 : decode cX3_weight 66 = .ok (.getfield 82, 3) := by decide +kernel
theorem dX3_weight_69 : decode cX3_weight 69 = .ok (.lreturn, 1) := by decide +kernel
theorem dX3_weight_70 : decode cX3_weight 70 = .ok (.ldc2_w 55, 3) := by decide +kernel
theorem dX3_weight_73 : decode cX3_weight 73 = .ok (.lreturn, 1) := by decide +kernel
set_option maxRecDepth 20000 in
theorem ggX3_chain_X3_refresh : GoodIn wsX3_chain wsX3_refresh := goodIn_r _ [6, 7, 1, 8, 9, 10, 11, 12, 13, 14, 15, 16, 17, 5, 18, 19, 20, 21, 22, 23, 24, 25, 26, 27, 28, 29, 30, 31, 32, 33, 34, 35, 36, 37, 38, 39, 40, 41, 42, 43, 44, 45, 46, 47, 48, 49, 50, 51, 52, 53, 54, 55, 56, 57, 58, 59, 60, 61, 62, 63, 64, 65, 66, 67, 68, 69, 70, 71, 72, 73, 74, 75, 76, 77, 78, 79, 80, 81, 82, 83, 84, 85, 86, 87, 88, 89, 90, 91, 92, 93, 94, 95, 96, 97, 102, 103, 104, 105, 106, 107, 108, 109, 110, 111, 112, 116, 117, 118, 113, 114, 115, 119, 120, 121, 122, 123] (by decide +kernel) (by decide +kernel)
set_option maxRecDepth 20000 in
theorem gX3_chain_X3_refresh : GoodIn wsX3_chain (wsV RX3 68 RX3 yX3_refresh wsX3_refresh) := goodIn_app (goodIn_of _ (by decide +kernel)) ggX3_chain_X3_refresh
set_option maxRecDepth 20000 in
theorem ggX3_chain_X3_isBlock : GoodIn wsX3_chain wsX3_isBlock := goodIn_r _ [101, 19, 102, 103, 104, 105, 106, 107, 108, 109, 110, 111, 112] (by decide +kernel) (by decide +kernel)
set_option maxRecDepth 20000 in
theorem gX3_chain_X3_isBlock : GoodIn wsX3_chain (wsV RX3 51 RX3 yX3_isBlock wsX3_isBlock) := goodIn_app (goodIn_of _ (by decide +kernel)) ggX3_chain_X3_isBlock
theorem dX3_chain_0 : decode cX3_chain 0 = .ok (.aload_n 0, 1) := by decide +kernel
theorem dX3_chain_1 : decode cX3_chain 1 = .ok (.invokevirtual 68, 3) := by decide +kernel
theorem dX3_chain_4 : decode cX3_chain 4 = .ok (.aload_n 0, 1) := by decide +kernel
theorem dX3_chain_5 : decode cX3_chain 5 = .ok (.iload_n 1, 1) := by decide +kernel
theorem dX3_chain_6 : decode cX3_chain 6 = .ok (.invokevirtual 51, 3) := by decide +kernel
theorem dX3_chain_9 : decode cX3_chain 9 = .ok (.ifCond .eq 15, 3) := by decide +kernel
theorem dX3_chain_12 : decode cX3_chain 12 = .ok (.aload_n 0, 1) := by decide +kernel
theorem dX3_chain_13 : decode cX3_chain 13 = .ok (.getfield 23, 3) := by decide +kernel
theorem dX3_chain_16 : decode cX3_chain 16 = .ok (.getfield 92, 3) := by decide +kernel
theorem dX3_chain_19 : decode cX3_chain 19 = .ok (.iload_n 1, 1) := by decide +kernel
theorem dX3_chain_20 : decode cX3_chain 20 = .ok (.iaload, 1) := by decide +kernel
theorem dX3_chain_21 : decode cX3_chain 21 = .ok (.goto 4, 3) := by decide +kernel
theorem dX3_chain_24 : decode cX3_chain 24 = .ok (.iconst (-1), 1) := by decide +kernel
theorem dX3_chain_25 : decode cX3_chain 25 = .ok (.ireturn, 1) := by decide +kernel
theorem dX3_isBlock_0 : decode cX3_isBlock 0 = .ok (.iload_n 1, 1) := by decide +kernel
theorem dX3_isBlock_1 : decode cX3_isBlock 1 = .ok (.ifCond .lt 15, 3) := by decide +kernel
theorem dX3_isBlock_4 : decode cX3_isBlock 4 = .ok (.iload_n 1, 1) := by decide +kernel
theorem dX3_isBlock_5 : decode cX3_isBlock 5 = .ok (.aload_n 0, 1) := by decide +kernel
theorem dX3_isBlock_6 : decode cX3_isBlock 6 = .ok (.getfield 40, 3) := by decide +kernel
theorem dX3_isBlock_9 : decode cX3_isBlock 9 = .ok (.if_icmp .ge 7, 3) := by decide +kernel
theorem dX3_isBlock_12 : decode cX3_isBlock 12 = .ok (.iconst 1, 1) := by decide +kernel
theorem dX3_isBlock_13 : decode cX3_isBlock 13 = .ok (.goto 4, 3) := by decide +kernel
theorem dX3_isBlock_16 : decode cX3_isBlock 16 = .ok (.iconst 0, 1) := by decide +kernel
theorem dX3_isBlock_17 : decode cX3_isBlock 17 = .ok (.ireturn, 1) := by decide +kernel
theorem dX3_chainsAreBetter_0 : decode cX3_chainsAreBetter 0 = .ok (.aload_n 0, 1) := by decide +kernel
theorem dX3_chainsAreBetter_1 : decode cX3_chainsAreBetter 1 = .ok (.getfield 82, 3) := by decide +kernel
theorem dX3_chainsAreBetter_4 : decode cX3_chainsAreBetter 4 = .ok (.aload_n 0, 1) := by decide +kernel
theorem dX3_chainsAreBetter_5 : decode cX3_chainsAreBetter 5 = .ok (.getfield 86, 3) := by decide +kernel
theorem dX3_chainsAreBetter_8 : decode cX3_chainsAreBetter 8 = .ok (.lcmp, 1) := by decide +kernel
theorem dX3_chainsAreBetter_9 : decode cX3_chainsAreBetter 9 = .ok (.ifCond .le 7, 3) := by decide +kernel
theorem dX3_chainsAreBetter_12 : decode cX3_chainsAreBetter 12 = .ok (.iconst 1, 1) := by decide +kernel
theorem dX3_chainsAreBetter_13 : decode cX3_chainsAreBetter 13 = .ok (.goto 4, 3) := by decide +kernel
theorem dX3_chainsAreBetter_16 : decode cX3_chainsAreBetter 16 = .ok (.iconst 0, 1) := by decide +kernel
theorem dX3_chainsAreBetter_17 : decode cX3_chainsAreBetter 17 = .ok (.ireturn, 1) := by decide +kernel
set_option maxRecDepth 20000 in
theorem ggX3_refresh_X3_lineUpByNumber : GoodIn wsX3_refresh wsX3_lineUpByNumber := goodIn_r _ [14, 6, 3, 15, 16, 17, 18, 19, 20, 21, 22, 23, 24, 25, 26, 27, 28, 29, 30, 31, 32, 94, 95, 96, 97, 98, 99, 100, 101, 102, 103, 104, 105, 106, 107] (by decide +kernel) (by decide +kernel)
set_option maxRecDepth 20000 in
theorem gX3_refresh_X3_lineUpByNumber : GoodIn wsX3_refresh (wsV RX3 96 RX3 yX3_lineUpByNumber wsX3_lineUpByNumber) := goodIn_app (goodIn_of _ (by decide +kernel)) ggX3_refresh_X3_lineUpByNumber
set_option maxRecDepth 20000 in
theorem ggX3_refresh_X0_start : GoodIn wsX3_refresh wsX0_start := goodIn_r _ [37, 38, 39, 40, 25, 26, 27, 41, 42, 43, 20, 44, 23, 108, 109, 110, 105, 106, 107] (by decide +kernel) (by decide +kernel)
set_option maxRecDepth 20000 in
theorem gX3_refresh_X0_start : GoodIn wsX3_refresh (wsV RX3 99 RX0 yX0_start wsX0_start) := goodIn_app (goodIn_of _ (by decide +kernel)) ggX3_refresh_X0_start
set_option maxRecDepth 20000 in
theorem ggX3_refresh_X0_joinAlong : GoodIn wsX3_refresh wsX0_joinAlong := goodIn_r _ [48, 49, 50, 51, 36, 52, 39, 38, 53, 54, 55, 56, 111, 112, 113, 114, 115, 108, 109, 110] (by decide +kernel) (by decide +kernel)
set_option maxRecDepth 20000 in
theorem gX3_refresh_X0_joinAlong : GoodIn wsX3_refresh (wsV RX3 103 RX0 yX0_joinAlong wsX0_joinAlong) := goodIn_app (goodIn_of _ (by decide +kernel)) ggX3_refresh_X0_joinAlong
set_option maxRecDepth 20000 in
theorem ggX3_refresh_X0_lineUp : GoodIn wsX3_refresh wsX0_lineUp := goodIn_r _ [60, 61, 62, 18, 19, 20, 21, 22, 23, 24, 25, 26, 27, 63, 64, 65, 66, 67, 68, 36, 69, 39, 41, 42, 43, 44, 70, 71, 72, 73, 38, 74, 29, 30, 31, 32, 75, 76, 77, 78, 108, 109, 110, 105, 106, 107, 111, 112, 113, 114, 115] (by decide +kernel) (by decide +kernel)
set_option maxRecDepth 20000 in
theorem gX3_refresh_X0_lineUp : GoodIn wsX3_refresh (wsV RX3 107 RX0 yX0_lineUp wsX0_lineUp) := goodIn_app (goodIn_of _ (by decide +kernel)) ggX3_refresh_X0_lineUp
set_option maxRecDepth 20000 in
theorem ggX3_refresh_X2_weigh : GoodIn wsX3_refresh wsX2_weigh := goodIn_r _ [83, 84, 85, 86, 87, 88, 89, 90, 91, 20, 92, 23, 93, 42, 43, 44, 111, 112, 113, 114, 115, 105, 106, 107] (by decide +kernel) (by decide +kernel)
set_option maxRecDepth 20000 in
theorem gX3_refresh_X2_weigh : GoodIn wsX3_refresh (wsV RX3 111 RX2 yX2_weigh wsX2_weigh) := goodIn_app (goodIn_of _ (by decide +kernel)) ggX3_refresh_X2_weigh
theorem dX3_refresh_0 : decode cX3_refresh 0 = .ok (.aload_n 0, 1) := by decide +kernel
theorem dX3_refresh_1 : decode cX3_refresh 1 = .ok (.getfield 44, 3) := by decide +kernel
theorem dX3_refresh_4 : decode cX3_refresh 4 = .ok (.ifCond .ne 4, 3) := by decide +kernel
theorem dX3_refresh_7 : decode cX3_refresh 7 = .ok (.return_, 1) := by decide +kernel
theorem dX3_refresh_8 : decode cX3_refresh 8 = .ok (.aload_n 0, 1) := by decide +kernel
theorem dX3_refresh_9 : decode cX3_refresh 9 = .ok (.invokevirtual 96, 3) := by decide +kernel
theorem dX3_refresh_12 : decode cX3_refresh 12 = .ok (.aload_n 0, 1) := by decide +kernel
theorem dX3_refresh_13 : decode cX3_refresh 13 = .ok (.getfield 23, 3) := by decide +kernel
theorem dX3_refresh_16 : decode cX3_refresh 16 = .ok (.aload_n 0, 1) := by decide +kernel
theorem dX3_refresh_17 : decode cX3_refresh 17 = .ok (.getfield 34, 3) := by decide +kernel
theorem dX3_refresh_20 : decode cX3_refresh 20 = .ok (.invokevirtual 99, 3) := by decide +kernel
theorem dX3_refresh_23 : decode cX3_refresh 23 = .ok (.aload_n 0, 1) := by decide +kernel
theorem dX3_refresh_24 : decode cX3_refresh 24 = .ok (.getfield 23, 3) := by decide +kernel
theorem dX3_refresh_27 : decode cX3_refresh 27 = .ok (.aload_n 0, 1) := by decide +kernel
theorem dX3_refresh_28 : decode cX3_refresh 28 = .ok (.getfield 16, 3) := by decide +kernel
theorem dX3_refresh_31 : decode cX3_refresh 31 = .ok (.invokevirtual 103, 3) := by decide +kernel
theorem dX3_refresh_34 : decode cX3_refresh 34 = .ok (.aload_n 0, 1) := by decide +kernel
theorem dX3_refresh_35 : decode cX3_refresh 35 = .ok (.getfield 23, 3) := by decide +kernel
theorem dX3_refresh_38 : decode cX3_refresh 38 = .ok (.aload_n 0, 1) := by decide +kernel
theorem dX3_refresh_39 : decode cX3_refresh 39 = .ok (.getfield 34, 3) := by decide +kernel
theorem dX3_refresh_42 : decode cX3_refresh 42 = .ok (.aload_n 0, 1) := by decide +kernel
theorem dX3_refresh_43 : decode cX3_refresh 43 = .ok (.getfield 16, 3) := by decide +kernel
theorem dX3_refresh_46 : decode cX3_refresh 46 = .ok (.aload_n 0, 1) := by decide +kernel
theorem dX3_refresh_47 : decode cX3_refresh 47 = .ok (.getfield 37, 3) := by decide +kernel
theorem dX3_refresh_50 : decode cX3_refresh 50 = .ok (.invokevirtual 107, 3) := by decide +kernel
theorem dX3_refresh_53 : decode cX3_refresh 53 = .ok (.aload_n 0, 1) := by decide +kernel
theorem dX3_refresh_54 : decode cX3_refresh 54 = .ok (.aload_n 0, 1) := by decide +kernel
theorem dX3_refresh_55 : decode cX3_refresh 55 = .ok (.getfield 16, 3) := by decide +kernel
theorem dX3_refresh_58 : decode cX3_refresh 58 = .ok (.aload_n 0, 1) := by decide +kernel
theorem dX3_refresh_59 : decode cX3_refresh 59 = .ok (.getfield 30, 3) := by decide +kernel
theorem dX3_refresh_62 : decode cX3_refresh 62 = .ok (.invokevirtual 111, 3) := by decide +kernel
theorem dX3_refresh_65 : decode cX3_refresh 65 = .ok (.putfield 89, 3) := by decide +kernel
theorem dX3_refresh_68 : decode cX3_refresh 68 = .ok (.aload_n 0, 1) := by decide +kernel
theorem dX3_refresh_69 : decode cX3_refresh 69 = .ok (.aload_n 0, 1) := by decide +kernel
theorem dX3_refresh_70 : decode cX3_refresh 70 = .ok (.getfield 16, 3) := by decide +kernel
theorem dX3_refresh_73 : decode cX3_refresh 73 = .ok (.aload_n 0, 1) := by decide +kernel
theorem dX3_refresh_74 : decode cX3_refresh 74 = .ok (.getfield 34, 3) := by decide +kernel
theorem dX3_refresh_77 : decode cX3_refresh 77 = .ok (.invokevirtual 111, 3) := by decide +kernel
theorem dX3_refresh_80 : decode cX3_refresh 80 = .ok (.putfield 86, 3) := by decide +kernel
theorem dX3_refresh_83 : decode cX3_refresh 83 = .ok (.aload_n 0, 1) := by decide +kernel
theorem dX3_refresh_84 : decode cX3_refresh 84 = .ok (.aload_n 0, 1) := by decide +kernel
theorem dX3_refresh_85 : decode cX3_refresh 85 = .ok (.getfield 16, 3) := by decide +kernel
theorem dX3_refresh_88 : decode cX3_refresh 88 = .ok (.aload_n 0, 1) := by decide +kernel
theorem dX3_refresh_89 : decode cX3_refresh 89 = .ok (.getfield 37, 3) := by decide +kernel
theorem dX3_refresh_92 : decode cX3_refresh 92 = .ok (.invokevirtual 111, 3) := by decide +kernel
theorem dX3_refresh_95 : decode cX3_refresh 95 = .ok (.putfield 82, 3) := by decide +kernel
theorem dX3_refresh_98 : decode cX3_refresh 98 = .ok (.aload_n 0, 1) := by decide +kernel
theorem dX3_refresh_99 : decode cX3_refresh 99 = .ok (.iconst 0, 1) := by decide +kernel
theorem dX3_refresh_100 : decode cX3_refresh 100 = .ok (.putfield 44, 3) := by decide +kernel
theorem dX3_refresh_103 : decode cX3_refresh 103 = .ok (.return_, 1) := by decide +kernel
set_option maxRecDepth 20000 in
theorem ggX3_lineUpByNumber_X1_empty : GoodIn wsX3_lineUpByNumber wsX1_empty := goodIn_r _ [9, 10, 11, 12, 13, 14, 15, 32, 33, 34] (by decide +kernel) (by decide +kernel)
set_option maxRecDepth 20000 in
theorem gX3_lineUpByNumber_X1_empty : GoodIn wsX3_lineUpByNumber (wsV RX3 115 RX1 yX1_empty wsX1_empty) := goodIn_app (goodIn_of _ (by decide +kernel)) ggX3_lineUpByNumber_X1_empty
set_option maxRecDepth 20000 in
theorem ggX3_lineUpByNumber_X1_append : GoodIn wsX3_lineUpByNumber wsX1_append := goodIn_r _ [19, 10, 20, 11, 32, 33, 34] (by decide +kernel) (by decide +kernel)
set_option maxRecDepth 20000 in
theorem gX3_lineUpByNumber_X1_append : GoodIn wsX3_lineUpByNumber (wsV RX3 118 RX1 yX1_append wsX1_append) := goodIn_app (goodIn_of _ (by decide +kernel)) ggX3_lineUpByNumber_X1_append
theorem dX3_lineUpByNumber_0 : decode cX3_lineUpByNumber 0 = .ok (.aload_n 0, 1) := by decide +kernel
theorem dX3_lineUpByNumber_1 : decode cX3_lineUpByNumber 1 = .ok (.getfield 30, 3) := by decide +kernel
theorem dX3_lineUpByNumber_4 : decode cX3_lineUpByNumber 4 = .ok (.invokevirtual 115, 3) := by decide +kernel
theorem dX3_lineUpByNumber_7 : decode cX3_lineUpByNumber 7 = .ok (.aload_n 0, 1) := by decide +kernel
theorem dX3_lineUpByNumber_8 : decode cX3_lineUpByNumber 8 = .ok (.getfield 34, 3) := by decide +kernel
theorem dX3_lineUpByNumber_11 : decode cX3_lineUpByNumber 11 = .ok (.invokevirtual 115, 3) := by decide +kernel
theorem dX3_lineUpByNumber_14 : decode cX3_lineUpByNumber 14 = .ok (.iconst 0, 1) := by decide +kernel
theorem dX3_lineUpByNumber_15 : decode cX3_lineUpByNumber 15 = .ok (.istore_n 1, 1) := by decide +kernel
theorem dX3_lineUpByNumber_16 : decode cX3_lineUpByNumber 16 = .ok (.iload_n 1, 1) := by decide +kernel
theorem dX3_lineUpByNumber_17 : decode cX3_lineUpByNumber 17 = .ok (.aload_n 0, 1) := by decide +kernel
theorem dX3_lineUpByNumber_18 : decode cX3_lineUpByNumber 18 = .ok (.getfield 40, 3) := by decide +kernel
theorem dX3_lineUpByNumber_21 : decode cX3_lineUpByNumber 21 = .ok (.if_icmp .ge 34, 3) := by decide +kernel
theorem dX3_lineUpByNumber_24 : decode cX3_lineUpByNumber 24 = .ok (.aload_n 0, 1) := by decide +kernel
theorem dX3_lineUpByNumber_25 : decode cX3_lineUpByNumber 25 = .ok (.getfield 30, 3) := by decide +kernel
theorem dX3_lineUpByNumber_28 : decode cX3_lineUpByNumber 28 = .ok (.iload_n 1, 1) := by decide +kernel
theorem dX3_lineUpByNumber_29 : decode cX3_lineUpByNumber 29 = .ok (.invokevirtual 118, 3) := by decide +kernel
theorem dX3_lineUpByNumber_32 : decode cX3_lineUpByNumber 32 = .ok (.aload_n 0, 1) := by decide +kernel
theorem dX3_lineUpByNumber_33 : decode cX3_lineUpByNumber 33 = .ok (.getfield 9, 3) := by decide +kernel
theorem dX3_lineUpByNumber_36 : decode cX3_lineUpByNumber 36 = .ok (.iload_n 1, 1) := by decide +kernel
theorem dX3_lineUpByNumber_37 : decode cX3_lineUpByNumber 37 = .ok (.baload, 1) := by decide +kernel
theorem dX3_lineUpByNumber_38 : decode cX3_lineUpByNumber 38 = .ok (.ifCond .eq 11, 3) := by decide +kernel
theorem dX3_lineUpByNumber_41 : decode cX3_lineUpByNumber 41 = .ok (.aload_n 0, 1) := by decide +kernel
theorem dX3_lineUpByNumber_42 : decode cX3_lineUpByNumber 42 = .ok (.getfield 34, 3) := by decide +kernel
theorem dX3_lineUpByNumber_45 : decode cX3_lineUpByNumber 45 = .ok (.iload_n 1, 1) := by decide +kernel
theorem dX3_lineUpByNumber_46 : decode cX3_lineUpByNumber 46 = .ok (.invokevirtual 118, 3) := by decide +kernel
theorem dX3_lineUpByNumber_49 : decode cX3_lineUpByNumber 49 = .ok (.iinc 1 1, 3) := by decide +kernel
theorem dX3_lineUpByNumber_52 : decode cX3_lineUpByNumber 52 = .ok (.goto (-36), 3) := by decide +kernel
theorem dX3_lineUpByNumber_55 : decode cX3_lineUpByNumber 55 = .ok (.return_, 1) := by decide +kernel
theorem dX4_init_0 : decode cX4_init 0 = .ok (.aload_n 0, 1) := by decide +kernel
theorem dX4_init_1 : decode cX4_init 1 = .ok (.invokespecial 1, 3) := by decide +kernel
theorem dX4_init_4 : decode cX4_init 4 = .ok (.aload_n 0, 1) := by decide +kernel
theorem dX4_init_5 : decode cX4_init 5 = .ok (.iconst 1, 1) := by decide +kernel
theorem dX4_init_6 : decode cX4_init 6 = .ok (.putfield 7, 3) := by decide +kernel
theorem dX4_init_9 : decode cX4_init 9 = .ok (.aload_n 0, 1) := by decide +kernel
theorem dX4_init_10 : decode cX4_init 10 = .ok (.sipush 200, 3) := by decide +kernel
theorem dX4_init_13 : decode cX4_init 13 = .ok (.newarray .boolean, 2) := by decide +kernel
theorem dX4_init_15 : decode cX4_init 15 = .ok (.putfield 13, 3) := by decide +kernel
theorem dX4_init_18 : decode cX4_init 18 = .ok (.aload_n 0, 1) := by decide +kernel
theorem dX4_init_19 : decode cX4_init 19 = .ok (.sipush 1000, 3) := by decide +kernel
theorem dX4_init_22 : decode cX4_init 22 = .ok (.newarray .int, 2) := by decide +kernel
theorem dX4_init_24 : decode cX4_init 24 = .ok (.putfield 17, 3) := by decide +kernel
theorem dX4_init_27 : decode cX4_init 27 = .ok (.aload_n 0, 1) := by decide +kernel
theorem dX4_init_28 : decode cX4_init 28 = .ok (.sipush 1000, 3) := by decide +kernel
theorem dX4_init_31 : decode cX4_init 31 = .ok (.newarray .int, 2) := by decide +kernel
theorem dX4_init_33 : decode cX4_init 33 = .ok (.putfield 21, 3) := by decide +kernel
theorem dX4_init_36 : decode cX4_init 36 = .ok (.aload_n 0, 1) := by decide +kernel
theorem dX4_init_37 : decode cX4_init 37 = .ok (.sipush 1000, 3) := by decide +kernel
theorem dX4_init_40 : decode cX4_init 40 = .ok (.newarray .long, 2) := by decide +kernel
theorem dX4_init_42 : decode cX4_init 42 = .ok (.putfield 24, 3) := by decide +kernel
theorem dX4_init_45 : decode cX4_init 45 = .ok (.aload_n 0, 1) := by decide +kernel
theorem dX4_init_46 : decode cX4_init 46 = .ok (.sipush 1000, 3) := by decide +kernel
theorem dX4_init_49 : decode cX4_init 49 = .ok (.newarray .boolean, 2) := by decide +kernel
theorem dX4_init_51 : decode cX4_init 51 = .ok (.putfield 28, 3) := by decide +kernel
theorem dX4_init_54 : decode cX4_init 54 = .ok (.aload_n 0, 1) := by decide +kernel
theorem dX4_init_55 : decode cX4_init 55 = .ok (.ldc 31, 2) := by decide +kernel
theorem dX4_init_57 : decode cX4_init 57 = .ok (.newarray .int, 2) := by decide +kernel
theorem dX4_init_59 : decode cX4_init 59 = .ok (.putfield 32, 3) := by decide +kernel
theorem dX4_init_62 : decode cX4_init 62 = .ok (.aload_n 0, 1) := by decide +kernel
theorem dX4_init_63 : decode cX4_init 63 = .ok (.sipush 200, 3) := by decide +kernel
theorem dX4_init_66 : decode cX4_init 66 = .ok (.newarray .int, 2) := by decide +kernel
theorem dX4_init_68 : decode cX4_init 68 = .ok (.putfield 35, 3) := by decide +kernel
theorem dX4_init_71 : decode cX4_init 71 = .ok (.aload_n 0, 1) := by decide +kernel
theorem dX4_init_72 : decode cX4_init 72 = .ok (.sipush 200, 3) := by decide +kernel
theorem dX4_init_75 : decode cX4_init 75 = .ok (.newarray .int, 2) := by decide +kernel
theorem dX4_init_77 : decode cX4_init 77 = .ok (.putfield 38, 3) := by decide +kernel
theorem dX4_init_80 : decode cX4_init 80 = .ok (.aload_n 0, 1) := by decide +kernel
theorem dX4_init_81 : decode cX4_init 81 = .ok (.sipush 200, 3) := by decide +kernel
theorem dX4_init_84 : decode cX4_init 84 = .ok (.newarray .int, 2) := by decide +kernel
theorem dX4_init_86 : decode cX4_init 86 = .ok (.putfield 41, 3) := by decide +kernel
theorem dX4_init_89 : decode cX4_init 89 = .ok (.aload_n 0, 1) := by decide +kernel
theorem dX4_init_90 : decode cX4_init 90 = .ok (.sipush 200, 3) := by decide +kernel
theorem dX4_init_93 : decode cX4_init 93 = .ok (.newarray .int, 2) := by decide +kernel
theorem dX4_init_95 : decode cX4_init 95 = .ok (.putfield 44, 3) := by decide +kernel
theorem dX4_init_98 : decode cX4_init 98 = .ok (.aload_n 0, 1) := by decide +kernel
theorem dX4_init_99 : decode cX4_init 99 = .ok (.sipush 1000, 3) := by decide +kernel
theorem dX4_init_102 : decode cX4_init 102 = .ok (.newarray .boolean, 2) := by decide +kernel
theorem dX4_init_104 : decode cX4_init 104 = .ok (.putfield 47, 3) := by decide +kernel
theorem dX4_init_107 : decode cX4_init 107 = .ok (.aload_n 0, 1) := by decide +kernel
theorem dX4_init_108 : decode cX4_init 108 = .ok (.sipush 200, 3) := by decide +kernel
theorem dX4_init_111 : decode cX4_init 111 = .ok (.newarray .boolean, 2) := by decide +kernel
theorem dX4_init_113 : decode cX4_init 113 = .ok (.putfield 50, 3) := by decide +kernel
theorem dX4_init_116 : decode cX4_init 116 = .ok (.aload_n 0, 1) := by decide +kernel
theorem dX4_init_117 : decode cX4_init 117 = .ok (.sipush 200, 3) := by decide +kernel
theorem dX4_init_120 : decode cX4_init 120 = .ok (.newarray .int, 2) := by decide +kernel
theorem dX4_init_122 : decode cX4_init 122 = .ok (.putfield 53, 3) := by decide +kernel
theorem dX4_init_125 : decode cX4_init 125 = .ok (.return_, 1) := by decide +kernel
theorem dX4_isBlock_0 : decode cX4_isBlock 0 = .ok (.iload_n 1, 1) := by decide +kernel
theorem dX4_isBlock_1 : decode cX4_isBlock 1 = .ok (.ifCond .lt 15, 3) := by decide +kernel
theorem dX4_isBlock_4 : decode cX4_isBlock 4 = .ok (.iload_n 1, 1) := by decide +kernel
theorem dX4_isBlock_5 : decode cX4_isBlock 5 = .ok (.aload_n 0, 1) := by decide +kernel
theorem dX4_isBlock_6 : decode cX4_isBlock 6 = .ok (.getfield 7, 3) := by decide +kernel
theorem dX4_isBlock_9 : decode cX4_isBlock 9 = .ok (.if_icmp .ge 7, 3) := by decide +kernel
theorem dX4_isBlock_12 : decode cX4_isBlock 12 = .ok (.iconst 1, 1) := by decide +kernel
theorem dX4_isBlock_13 : decode cX4_isBlock 13 = .ok (.goto 4, 3) := by decide +kernel
theorem dX4_isBlock_16 : decode cX4_isBlock 16 = .ok (.iconst 0, 1) := by decide +kernel
theorem dX4_isBlock_17 : decode cX4_isBlock 17 = .ok (.ireturn, 1) := by decide +kernel
theorem dX4_size_0 : decode cX4_size 0 = .ok (.iload_n 1, 1) := by decide +kernel
theorem dX4_size_1 : decode cX4_size 1 = .ok (.iconst 1, 1) := by decide +kernel
theorem dX4_size_2 : decode cX4_size 2 = .ok (.if_icmp .lt 10, 3) := by decide +kernel
theorem dX4_size_5 : decode cX4_size 5 = .ok (.iload_n 1, 1) := by decide +kernel
theorem dX4_size_6 : decode cX4_size 6 = .ok (.sipush 200, 3) := by decide +kernel
theorem dX4_size_9 : decode cX4_size 9 = .ok (.if_icmp .le 5, 3) := by decide +kernel
theorem dX4_size_12 : decode cX4_size 12 = .ok (.iconst 0, 1) := by decide +kernel
theorem dX4_size_13 : decode cX4_size 13 = .ok (.ireturn, 1) := by decide +kernel
theorem dX4_size_14 : decode cX4_size 14 = .ok (.aload_n 0, 1) := by decide +kernel
theorem dX4_size_15 : decode cX4_size 15 = .ok (.iload_n 1, 1) := by decide +kernel
theorem dX4_size_16 : decode cX4_size 16 = .ok (.putfield 7, 3) := by decide +kernel
theorem dX4_size_19 : decode cX4_size 19 = .ok (.aload_n 0, 1) := by decide +kernel
theorem dX4_size_20 : decode cX4_size 20 = .ok (.iconst 0, 1) := by decide +kernel
theorem dX4_size_21 : decode cX4_size 21 = .ok (.putfield 56, 3) := by decide +kernel
theorem dX4_size_24 : decode cX4_size 24 = .ok (.iconst 0, 1) := by decide +kernel
theorem dX4_size_25 : decode cX4_size 25 = .ok (.istore_n 2, 1) := by decide +kernel
theorem dX4_size_26 : decode cX4_size 26 = .ok (.iload_n 2, 1) := by decide +kernel
theorem dX4_size_27 : decode cX4_size 27 = .ok (.sipush 200, 3) := by decide +kernel
theorem dX4_size_30 : decode cX4_size 30 = .ok (.if_icmp .ge 16, 3) := by decide +kernel
theorem dX4_size_33 : decode cX4_size 33 = .ok (.aload_n 0, 1) := by decide +kernel
theorem dX4_size_34 : decode cX4_size 34 = .ok (.getfield 13, 3) := by decide +kernel
theorem dX4_size_37 : decode cX4_size 37 = .ok (.iload_n 2, 1) := by decide +kernel
theorem dX4_size_38 : decode cX4_size 38 = .ok (.iconst 0, 1) := by decide +kernel
theorem dX4_size_39 : decode cX4_size 39 = .ok (.bastore, 1) := by decide +kernel
theorem dX4_size_40 : decode cX4_size 40 = .ok (.iinc 2 1, 3) := by decide +kernel
theorem dX4_size_43 : decode cX4_size 43 = .ok (.goto (-17), 3) := by decide +kernel
theorem dX4_size_46 : decode cX4_size 46 = .ok (.aload_n 0, 1) := by decide +kernel
theorem dX4_size_47 : decode cX4_size 47 = .ok (.iconst 0, 1) := by decide +kernel
theorem dX4_size_48 : decode cX4_size 48 = .ok (.putfield 59, 3) := by decide +kernel
theorem dX4_size_51 : decode cX4_size 51 = .ok (.iconst 1, 1) := by decide +kernel
theorem dX4_size_52 : decode cX4_size 52 = .ok (.ireturn, 1) := by decide +kernel
set_option maxRecDepth 20000 in
theorem ggX4_heat_X4_isBlock : GoodIn wsX4_heat wsX4_isBlock := goodIn_r _ [7, 8, 9, 10, 11, 12, 13, 14, 15, 16, 17, 18, 19, 20, 21, 22, 23, 24, 25, 26] (by decide +kernel) (by decide +kernel)
set_option maxRecDepth 20000 in
theorem gX4_heat_X4_isBlock : GoodIn wsX4_heat (wsV RX4 63 RX4 yX4_isBlock wsX4_isBlock) := goodIn_app (goodIn_of _ (by decide +kernel)) ggX4_heat_X4_isBlock
theorem dX4_heat_0 : decode cX4_heat 0 = .ok (.aload_n 0, 1) := by decide +kernel
theorem dX4_heat_1 : decode cX4_heat 1 = .ok (.iload_n 1, 1) := by decide +kernel
theorem dX4_heat_2 : decode cX4_heat 2 = .ok (.invokevirtual 63, 3) := by decide +kernel
theorem dX4_heat_5 : decode cX4_heat 5 = .ok (.ifCond .ne 5, 3) := by decide +kernel
theorem dX4_heat_8 : decode cX4_heat 8 = .ok (.iconst 0, 1) := by decide +kernel
theorem dX4_heat_9 : decode cX4_heat 9 = .ok (.ireturn, 1) := by decide +kernel
theorem dX4_heat_10 : decode cX4_heat 10 = .ok (.aload_n 0, 1) := by decide +kernel
theorem dX4_heat_11 : decode cX4_heat 11 = .ok (.getfield 13, 3) := by decide +kernel
theorem dX4_heat_14 : decode cX4_heat 14 = .ok (.iload_n 1, 1) := by decide +kernel
theorem dX4_heat_15 : decode cX4_heat 15 = .ok (.iload_n 2, 1) := by decide +kernel
theorem dX4_heat_16 : decode cX4_heat 16 = .ok (.bastore, 1) := by decide +kernel
theorem dX4_heat_17 : decode cX4_heat 17 = .ok (.aload_n 0, 1) := by decide +kernel
theorem dX4_heat_18 : decode cX4_heat 18 = .ok (.iconst 0, 1) := by decide +kernel
theorem dX4_heat_19 : decode cX4_heat 19 = .ok (.putfield 59, 3) := by decide +kernel
theorem dX4_heat_22 : decode cX4_heat 22 = .ok (.iconst 1, 1) := by decide +kernel
theorem dX4_heat_23 : decode cX4_heat 23 = .ok (.ireturn, 1) := by decide +kernel
theorem dX4_find_0 : decode cX4_find 0 = .ok (.iconst 0, 1) := by decide +kernel
theorem dX4_find_1 : decode cX4_find 1 = .ok (.istore_n 3, 1) := by decide +kernel
theorem dX4_find_2 : decode cX4_find 2 = .ok (.iload_n 3, 1) := by decide +kernel
theorem dX4_find_3 : decode cX4_find 3 = .ok (.aload_n 0, 1) := by decide +kernel
theorem dX4_find_4 : decode cX4_find 4 = .ok (.getfield 56, 3) := by decide +kernel
theorem dX4_find_7 : decode cX4_find 7 = .ok (.if_icmp .ge 31, 3) := by decide +kernel
theorem dX4_find_10 : decode cX4_find 10 = .ok (.aload_n 0, 1) := by decide +kernel
theorem dX4_find_11 : decode cX4_find 11 = .ok (.getfield 17, 3) := by decide +kernel
theorem dX4_find_14 : decode cX4_find 14 = .ok (.iload_n 3, 1) := by decide +kernel
theorem dX4_find_15 : decode cX4_find 15 = .ok (.iaload, 1) := by decide +kernel
theorem dX4_find_16 : decode cX4_find 16 = .ok (.iload_n 1, 1) := by decide +kernel
theorem dX4_find_17 : decode cX4_find 17 = .ok (.if_icmp .ne 15, 3) := by decide +kernel
theorem dX4_find_20 : decode cX4_find 20 = .ok (.aload_n 0, 1) := by decide +kernel
theorem dX4_find_21 : decode cX4_find 21 = .ok (.getfield 21, 3) := by decide +kernel
theorem dX4_find_24 : decode cX4_find 24 = .ok (.iload_n 3, 1) := by decide +kernel
theorem dX4_find_25 : decode cX4_find 25 = .ok (.iaload, 1) := by decide +kernel
theorem dX4_find_26 : decode cX4_find 26 = .ok (.iload_n 2, 1) := by decide +kernel
theorem dX4_find_27 : decode cX4_find 27 = .ok (.if_icmp .ne 5, 3) := by decide +kernel
theorem dX4_find_30 : decode cX4_find 30 = .ok (.iload_n 3, 1) := by decide +kernel
theorem dX4_find_31 : decode cX4_find 31 = .ok (.ireturn, 1) := by decide +kernel
theorem dX4_find_32 : decode cX4_find 32 = .ok (.iinc 3 1, 3) := by decide +kernel
theorem dX4_find_35 : decode cX4_find 35 = .ok (.goto (-33), 3) := by decide +kernel
theorem dX4_find_38 : decode cX4_find 38 = .ok (.iconst (-1), 1) := by decide +kernel
theorem dX4_find_39 : decode cX4_find 39 = .ok (.ireturn, 1) := by decide +kernel
set_option maxRecDepth 20000 in
theorem ggX4_way_X4_isBlock : GoodIn wsX4_way wsX4_isBlock := goodIn_r _ [20, 21, 26, 27, 28, 29, 30, 31, 32, 33, 34, 35, 36, 37, 38, 39, 40, 41, 42, 43] (by decide +kernel) (by decide +kernel)
set_option maxRecDepth 20000 in
theorem gX4_way_X4_isBlock : GoodIn wsX4_way (wsV RX4 63 RX4 yX4_isBlock wsX4_isBlock) := goodIn_app (goodIn_of _ (by decide +kernel)) ggX4_way_X4_isBlock
set_option maxRecDepth 20000 in
theorem ggX4_way_X4_find : GoodIn wsX4_way wsX4_find := goodIn_r _ [25, 4, 6, 7, 26, 27, 28, 29, 30, 31, 32, 33, 34, 35, 36, 37, 38, 39, 40, 41, 42, 43] (by decide +kernel) (by decide +kernel)
set_option maxRecDepth 20000 in
theorem gX4_way_X4_find : GoodIn wsX4_way (wsV RX4 72 RX4 yX4_find wsX4_find) := goodIn_app (goodIn_of _ (by decide +kernel)) ggX4_way_X4_find
theorem dX4_way_0 : decode cX4_way 0 = .ok (.aload_n 0, 1) := by decide +kernel
theorem dX4_way_1 : decode cX4_way 1 = .ok (.iload_n 1, 1) := by decide +kernel
theorem dX4_way_2 : decode cX4_way 2 = .ok (.invokevirtual 63, 3) := by decide +kernel
theorem dX4_way_5 : decode cX4_way 5 = .ok (.ifCond .eq 11, 3) := by decide +kernel
theorem dX4_way_8 : decode cX4_way 8 = .ok (.aload_n 0, 1) := by decide +kernel
theorem dX4_way_9 : decode cX4_way 9 = .ok (.iload_n 2, 1) := by decide +kernel
theorem dX4_way_10 : decode cX4_way 10 = .ok (.invokevirtual 63, 3) := by decide +kernel
theorem dX4_way_13 : decode cX4_way 13 = .ok (.ifCond .ne 7, 3) := by decide +kernel
theorem dX4_way_16 : decode cX4_way 16 = .ok (.ldc2_w 67, 3) := by decide +kernel
theorem dX4_way_19 : decode cX4_way 19 = .ok (.lreturn, 1) := by decide +kernel
theorem dX4_way_20 : decode cX4_way 20 = .ok (.iload_n 3, 1) := by decide +kernel
theorem dX4_way_21 : decode cX4_way 21 = .ok (.ifCond .lt 9, 3) := by decide +kernel
theorem dX4_way_24 : decode cX4_way 24 = .ok (.iload_n 3, 1) := by decide +kernel
theorem dX4_way_25 : decode cX4_way 25 = .ok (.ldc 69, 2) := by decide +kernel
theorem dX4_way_27 : decode cX4_way 27 = .ok (.if_icmp .le 7, 3) := by decide +kernel
theorem dX4_way_30 : decode cX4_way 30 = .ok (.ldc2_w 70, 3) := by decide +kernel
theorem dX4_way_33 : decode cX4_way 33 = .ok (.lreturn, 1) := by decide +kernel
theorem dX4_way_34 : decode cX4_way 34 = .ok (.aload_n 0, 1) := by decide +kernel
theorem dX4_way_35 : decode cX4_way 35 = .ok (.iload_n 1, 1) := by decide +kernel
theorem dX4_way_36 : decode cX4_way 36 = .ok (.iload_n 2, 1) := by decide +kernel
theorem dX4_way_37 : decode cX4_way 37 = .ok (.invokevirtual 72, 3) := by decide +kernel
theorem dX4_way_40 : decode cX4_way 40 = .ok (.istore 5, 2) := by decide +kernel
theorem dX4_way_42 : decode cX4_way 42 = .ok (.iload 5, 2) := by decide +kernel
theorem dX4_way_44 : decode cX4_way 44 = .ok (.ifCond .ge 57, 3) := by decide +kernel
theorem dX4_way_47 : decode cX4_way 47 = .ok (.aload_n 0, 1) := by decide +kernel
theorem dX4_way_48 : decode cX4_way 48 = .ok (.getfield 56, 3) := by decide +kernel
theorem dX4_way_51 : decode cX4_way 51 = .ok (.sipush 1000, 3) := by decide +kernel
theorem dX4_way_54 : decode cX4_way 54 = .ok (.if_icmp .ne 7, 3) := by decide +kernel
theorem dX4_way_57 : decode cX4_way 57 = .ok (.ldc2_w 76, 3) := by decide +kernel
theorem dX4_way_60 : decode cX4_way 60 = .ok (.lreturn, 1) := by decide +kernel
theorem dX4_way_61 : decode cX4_way 61 = .ok (.aload_n 0, 1) := by decide +kernel
theorem dX4_way_62 : decode cX4_way 62 = .ok (.getfield 56, 3) := by decide +kernel
theorem dX4_way_65 : decode cX4_way 65 = .ok (.istore 5, 2) := by decide +kernel
theorem dX4_way_67 : decode cX4_way 67 = .ok (.aload_n 0, 1) := by decide +kernel
theorem dX4_way_68 : decode cX4_way 68 = .ok (.dup, 1) := by decide +kernel
theorem dX4_way_69 : decode cX4_way 69 = .ok (.getfield 56, 3) := by decide +kernel
theorem dX4_way_72 : decode cX4_way 72 = .ok (.iconst 1, 1) := by decide +kernel
theorem dX4_way_73 : decode cX4_way 73 = .ok (.iadd, 1) := by decide +kernel
theorem dX4_way_74 : decode cX4_way 74 = .ok (.putfield 56, 3) := by decide +kernel
theorem dX4_way_77 : decode cX4_way 77 = .ok (.aload_n 0, 1) := by decide +kernel
theorem dX4_way_78 : decode cX4_way 78 = .ok (.getfield 17, 3) := by decide +kernel
theorem dX4_way_81 : decode cX4_way 81 = .ok (.iload 5, 2) := by decide +kernel
theorem dX4_way_83 : decode cX4_way 83 = .ok (.iload_n 1, 1) := by decide +kernel
theorem dX4_way_84 : decode cX4_way 84 = .ok (.iastore, 1) := by decide +kernel
theorem dX4_way_85 : decode cX4_way 85 = .ok (.aload_n 0, 1) := by decide +kernel
theorem dX4_way_86 : decode cX4_way 86 = .ok (.getfield 21, 3) := by decide +kernel
theorem dX4_way_89 : decode cX4_way 89 = .ok (.iload 5, 2) := by decide +kernel
theorem dX4_way_91 : decode cX4_way 91 = .ok (.iload_n 2, 1) := by decide +kernel
theorem dX4_way_92 : decode cX4_way 92 = .ok (.iastore, 1) := by decide +kernel
theorem dX4_way_93 : decode cX4_way 93 = .ok (.aload_n 0, 1) := by decide +kernel
theorem dX4_way_94 : decode cX4_way 94 = .ok (.getfield 24, 3) := by decide +kernel
theorem dX4_way_97 : decode cX4_way 97 = .ok (.iload 5, 2) := by decide +kernel
theorem dX4_way_99 : decode cX4_way 99 = .ok (.lconst 0, 1) := by decide +kernel
theorem dX4_way_100 : decode cX4_way 100 = .ok (.lastore, 1) := by decide +kernel
theorem dX4_way_101 : decode cX4_way 101 = .ok (.aload_n 0, 1) := by decide +kernel
theorem dX4_way_102 : decode cX4_way 102 = .ok (.getfield 24, 3) := by decide +kernel
theorem dX4_way_105 : decode cX4_way 105 = .ok (.iload 5, 2) := by decide +kernel
theorem dX4_way_107 : decode cX4_way 107 = .ok (.aload_n 0, 1) := by decide +kernel
theorem dX4_way_108 : decode cX4_way 108 = .ok (.getfield 24, 3) := by decide +kernel
theorem dX4_way_111 : decode cX4_way 111 = .ok (.iload 5, 2) := by decide +kernel
theorem dX4_way_113 : decode cX4_way 113 = .ok (.laload, 1) := by decide +kernel
theorem dX4_way_114 : decode cX4_way 114 = .ok (.iload_n 3, 1) := by decide +kernel
theorem dX4_way_115 : decode cX4_way 115 = .ok (.i2l, 1) := by decide +kernel
theorem dX4_way_116 : decode cX4_way 116 = .ok (.ladd, 1) := by decide +kernel
theorem dX4_way_117 : decode cX4_way 117 = .ok (.ldc2_w 78, 3) := by decide +kernel
theorem dX4_way_120 : decode cX4_way 120 = .ok (.invokestatic 80, 3) := by decide +kernel
theorem dX4_way_123 : decode cX4_way 123 = .ok (.lastore, 1) := by decide +kernel
theorem dX4_way_124 : decode cX4_way 124 = .ok (.aload_n 0, 1) := by decide +kernel
theorem dX4_way_125 : decode cX4_way 125 = .ok (.getfield 28, 3) := by decide +kernel
theorem dX4_way_128 : decode cX4_way 128 = .ok (.iload 5, 2) := by decide +kernel
theorem dX4_way_130 : decode cX4_way 130 = .ok (.iload 4, 2) := by decide +kernel
theorem dX4_way_132 : decode cX4_way 132 = .ok (.bastore, 1) := by decide +kernel
theorem dX4_way_133 : decode cX4_way 133 = .ok (.aload_n 0, 1) := by decide +kernel
theorem dX4_way_134 : decode cX4_way 134 = .ok (.iconst 0, 1) := by decide +kernel
theorem dX4_way_135 : decode cX4_way 135 = .ok (.putfield 59, 3) := by decide +kernel
theorem dX4_way_138 : decode cX4_way 138 = .ok (.aload_n 0, 1) := by decide +kernel
theorem dX4_way_139 : decode cX4_way 139 = .ok (.getfield 24, 3) := by decide +kernel
end
section
theorem dX4_way_142 : decode cX4_way 142 = .ok (.iload 5, 2) := by decide +kernel
theorem dX4_way_144 : decode cX4_way 144 = .ok (.laload, 1) := by decide +kernel
theorem dX4_way_145 : decode cX4_way 145 = .ok (.lreturn, 1) := by decide +kernel
set_option maxRecDepth 20000 in
theorem ggX4_count_X4_find : GoodIn wsX4_count wsX4_find := goodIn_r _ [6, 7, 8, 9, 10, 11, 12, 13, 14, 15, 16, 17, 18, 19, 20, 21, 22, 23, 24, 25, 26, 27] (by decide +kernel) (by decide +kernel)
set_option maxRecDepth 20000 in
theorem gX4_count_X4_find : GoodIn wsX4_count (wsV RX4 72 RX4 yX4_find wsX4_find) := goodIn_app (goodIn_of _ (by decide +kernel)) ggX4_count_X4_find
theorem dX4_count_0 : decode cX4_count 0 = .ok (.aload_n 0, 1) := by decide +kernel
theorem dX4_count_1 : decode cX4_count 1 = .ok (.iload_n 1, 1) := by decide +kernel
theorem dX4_count_2 : decode cX4_count 2 = .ok (.iload_n 2, 1) := by decide +kernel
theorem dX4_count_3 : decode cX4_count 3 = .ok (.invokevirtual 72, 3) := by decide +kernel
theorem dX4_count_6 : decode cX4_count 6 = .ok (.istore_n 3, 1) := by decide +kernel
theorem dX4_count_7 : decode cX4_count 7 = .ok (.iload_n 3, 1) := by decide +kernel
theorem dX4_count_8 : decode cX4_count 8 = .ok (.ifCond .ge 7, 3) := by decide +kernel
theorem dX4_count_11 : decode cX4_count 11 = .ok (.lconst 0, 1) := by decide +kernel
theorem dX4_count_12 : decode cX4_count 12 = .ok (.goto 9, 3) := by decide +kernel
theorem dX4_count_15 : decode cX4_count 15 = .ok (.aload_n 0, 1) := by decide +kernel
theorem dX4_count_16 : decode cX4_count 16 = .ok (.getfield 24, 3) := by decide +kernel
theorem dX4_count_19 : decode cX4_count 19 = .ok (.iload_n 3, 1) := by decide +kernel
theorem dX4_count_20 : decode cX4_count 20 = .ok (.laload, 1) := by decide +kernel
theorem dX4_count_21 : decode cX4_count 21 = .ok (.lreturn, 1) := by decide +kernel
set_option maxRecDepth 20000 in
theorem ggX4_know_X4_chains : GoodIn wsX4_know wsX4_chains := goodIn_r _ [15, 16, 17, 18, 19, 5, 20, 21, 4, 7, 6, 22, 23, 24, 14, 25, 44, 45, 46, 47, 48, 49, 50, 51, 52, 53, 54, 55, 56, 57, 58, 59, 60, 61] (by decide +kernel) (by decide +kernel)
set_option maxRecDepth 20000 in
theorem gX4_know_X4_chains : GoodIn wsX4_know (wsV RX4 89 RX4 yX4_chains wsX4_chains) := goodIn_app (goodIn_of _ (by decide +kernel)) ggX4_know_X4_chains
set_option maxRecDepth 20000 in
theorem ggX4_know_X4_place : GoodIn wsX4_know wsX4_place := goodIn_r _ [29, 3, 30, 2, 31, 5, 4, 6, 9, 7, 32, 33, 34, 14, 35, 16, 20, 21, 19, 44, 45, 46, 47, 48, 49, 50, 51, 52, 53, 54, 55, 56, 57, 58, 59, 60, 61] (by decide +kernel) (by decide +kernel)
set_option maxRecDepth 20000 in
theorem gX4_know_X4_place : GoodIn wsX4_know (wsV RX4 92 RX4 yX4_place wsX4_place) := goodIn_app (goodIn_of _ (by decide +kernel)) ggX4_know_X4_place
set_option maxRecDepth 20000 in
theorem ggX4_know_X4_weightOf : GoodIn wsX4_know wsX4_weightOf := goodIn_r _ [39, 18, 19, 40, 41, 42, 14, 43, 16, 20, 21, 44, 45, 46, 47, 48, 49, 50, 51, 52, 53, 54, 55, 56, 57, 58, 59, 60, 61] (by decide +kernel) (by decide +kernel)
set_option maxRecDepth 20000 in
theorem gX4_know_X4_weightOf : GoodIn wsX4_know (wsV RX4 95 RX4 yX4_weightOf wsX4_weightOf) := goodIn_app (goodIn_of _ (by decide +kernel)) ggX4_know_X4_weightOf
theorem dX4_know_0 : decode cX4_know 0 = .ok (.aload_n 0, 1) := by decide +kernel
theorem dX4_know_1 : decode cX4_know 1 = .ok (.getfield 59, 3) := by decide +kernel
theorem dX4_know_4 : decode cX4_know 4 = .ok (.ifCond .eq 4, 3) := by decide +kernel
theorem dX4_know_7 : decode cX4_know 7 = .ok (.return_, 1) := by decide +kernel
theorem dX4_know_8 : decode cX4_know 8 = .ok (.aload_n 0, 1) := by decide +kernel
theorem dX4_know_9 : decode cX4_know 9 = .ok (.iconst 1, 1) := by decide +kernel
theorem dX4_know_10 : decode cX4_know 10 = .ok (.putfield 59, 3) := by decide +kernel
theorem dX4_know_13 : decode cX4_know 13 = .ok (.aload_n 0, 1) := by decide +kernel
theorem dX4_know_14 : decode cX4_know 14 = .ok (.iconst 0, 1) := by decide +kernel
theorem dX4_know_15 : decode cX4_know 15 = .ok (.putfield 86, 3) := by decide +kernel
theorem dX4_know_18 : decode cX4_know 18 = .ok (.iconst 0, 1) := by decide +kernel
theorem dX4_know_19 : decode cX4_know 19 = .ok (.istore_n 1, 1) := by decide +kernel
theorem dX4_know_20 : decode cX4_know 20 = .ok (.iload_n 1, 1) := by decide +kernel
theorem dX4_know_21 : decode cX4_know 21 = .ok (.aload_n 0, 1) := by decide +kernel
theorem dX4_know_22 : decode cX4_know 22 = .ok (.getfield 7, 3) := by decide +kernel
theorem dX4_know_25 : decode cX4_know 25 = .ok (.if_icmp .ge 92, 3) := by decide +kernel
theorem dX4_know_28 : decode cX4_know 28 = .ok (.aload_n 0, 1) := by decide +kernel
theorem dX4_know_29 : decode cX4_know 29 = .ok (.getfield 38, 3) := by decide +kernel
theorem dX4_know_32 : decode cX4_know 32 = .ok (.iload_n 1, 1) := by decide +kernel
theorem dX4_know_33 : decode cX4_know 33 = .ok (.aload_n 0, 1) := by decide +kernel
theorem dX4_know_34 : decode cX4_know 34 = .ok (.getfield 13, 3) := by decide +kernel
theorem dX4_know_37 : decode cX4_know 37 = .ok (.iload_n 1, 1) := by decide +kernel
theorem dX4_know_38 : decode cX4_know 38 = .ok (.baload, 1) := by decide +kernel
theorem dX4_know_39 : decode cX4_know 39 = .ok (.ifCond .eq 7, 3) := by decide +kernel
theorem dX4_know_42 : decode cX4_know 42 = .ok (.iload_n 1, 1) := by decide +kernel
theorem dX4_know_43 : decode cX4_know 43 = .ok (.goto 4, 3) := by decide +kernel
theorem dX4_know_46 : decode cX4_know 46 = .ok (.iconst (-1), 1) := by decide +kernel
theorem dX4_know_47 : decode cX4_know 47 = .ok (.iastore, 1) := by decide +kernel
theorem dX4_know_48 : decode cX4_know 48 = .ok (.aload_n 0, 1) := by decide +kernel
theorem dX4_know_49 : decode cX4_know 49 = .ok (.getfield 35, 3) := by decide +kernel
theorem dX4_know_52 : decode cX4_know 52 = .ok (.iload_n 1, 1) := by decide +kernel
theorem dX4_know_53 : decode cX4_know 53 = .ok (.aload_n 0, 1) := by decide +kernel
theorem dX4_know_54 : decode cX4_know 54 = .ok (.getfield 13, 3) := by decide +kernel
theorem dX4_know_57 : decode cX4_know 57 = .ok (.iload_n 1, 1) := by decide +kernel
theorem dX4_know_58 : decode cX4_know 58 = .ok (.baload, 1) := by decide +kernel
theorem dX4_know_59 : decode cX4_know 59 = .ok (.ifCond .eq 7, 3) := by decide +kernel
theorem dX4_know_62 : decode cX4_know 62 = .ok (.iconst 1, 1) := by decide +kernel
theorem dX4_know_63 : decode cX4_know 63 = .ok (.goto 4, 3) := by decide +kernel
theorem dX4_know_66 : decode cX4_know 66 = .ok (.iconst 0, 1) := by decide +kernel
theorem dX4_know_67 : decode cX4_know 67 = .ok (.iastore, 1) := by decide +kernel
theorem dX4_know_68 : decode cX4_know 68 = .ok (.aload_n 0, 1) := by decide +kernel
theorem dX4_know_69 : decode cX4_know 69 = .ok (.getfield 32, 3) := by decide +kernel
theorem dX4_know_72 : decode cX4_know 72 = .ok (.sipush 200, 3) := by decide +kernel
theorem dX4_know_75 : decode cX4_know 75 = .ok (.iload_n 1, 1) := by decide +kernel
theorem dX4_know_76 : decode cX4_know 76 = .ok (.imul, 1) := by decide +kernel
theorem dX4_know_77 : decode cX4_know 77 = .ok (.iload_n 1, 1) := by decide +kernel
theorem dX4_know_78 : decode cX4_know 78 = .ok (.iastore, 1) := by decide +kernel
theorem dX4_know_79 : decode cX4_know 79 = .ok (.aload_n 0, 1) := by decide +kernel
theorem dX4_know_80 : decode cX4_know 80 = .ok (.getfield 13, 3) := by decide +kernel
theorem dX4_know_83 : decode cX4_know 83 = .ok (.iload_n 1, 1) := by decide +kernel
theorem dX4_know_84 : decode cX4_know 84 = .ok (.baload, 1) := by decide +kernel
theorem dX4_know_85 : decode cX4_know 85 = .ok (.ifCond .ne 6, 3) := by decide +kernel
theorem dX4_know_88 : decode cX4_know 88 = .ok (.goto 23, 3) := by decide +kernel
theorem dX4_know_91 : decode cX4_know 91 = .ok (.aload_n 0, 1) := by decide +kernel
theorem dX4_know_92 : decode cX4_know 92 = .ok (.getfield 44, 3) := by decide +kernel
theorem dX4_know_95 : decode cX4_know 95 = .ok (.aload_n 0, 1) := by decide +kernel
theorem dX4_know_96 : decode cX4_know 96 = .ok (.getfield 86, 3) := by decide +kernel
theorem dX4_know_99 : decode cX4_know 99 = .ok (.iload_n 1, 1) := by decide +kernel
theorem dX4_know_100 : decode cX4_know 100 = .ok (.iastore, 1) := by decide +kernel
theorem dX4_know_101 : decode cX4_know 101 = .ok (.aload_n 0, 1) := by decide +kernel
theorem dX4_know_102 : decode cX4_know 102 = .ok (.dup, 1) := by decide +kernel
theorem dX4_know_103 : decode cX4_know 103 = .ok (.getfield 86, 3) := by decide +kernel
theorem dX4_know_106 : decode cX4_know 106 = .ok (.iconst 1, 1) := by decide +kernel
theorem dX4_know_107 : decode cX4_know 107 = .ok (.iadd, 1) := by decide +kernel
theorem dX4_know_108 : decode cX4_know 108 = .ok (.putfield 86, 3) := by decide +kernel
theorem dX4_know_111 : decode cX4_know 111 = .ok (.iinc 1 1, 3) := by decide +kernel
theorem dX4_know_114 : decode cX4_know 114 = .ok (.goto (-94), 3) := by decide +kernel
theorem dX4_know_117 : decode cX4_know 117 = .ok (.aload_n 0, 1) := by decide +kernel
theorem dX4_know_118 : decode cX4_know 118 = .ok (.invokevirtual 89, 3) := by decide +kernel
theorem dX4_know_121 : decode cX4_know 121 = .ok (.aload_n 0, 1) := by decide +kernel
theorem dX4_know_122 : decode cX4_know 122 = .ok (.invokevirtual 92, 3) := by decide +kernel
theorem dX4_know_125 : decode cX4_know 125 = .ok (.aload_n 0, 1) := by decide +kernel
theorem dX4_know_126 : decode cX4_know 126 = .ok (.aload_n 0, 1) := by decide +kernel
theorem dX4_know_127 : decode cX4_know 127 = .ok (.aload_n 0, 1) := by decide +kernel
theorem dX4_know_128 : decode cX4_know 128 = .ok (.getfield 41, 3) := by decide +kernel
theorem dX4_know_131 : decode cX4_know 131 = .ok (.aload_n 0, 1) := by decide +kernel
theorem dX4_know_132 : decode cX4_know 132 = .ok (.getfield 86, 3) := by decide +kernel
theorem dX4_know_135 : decode cX4_know 135 = .ok (.invokevirtual 95, 3) := by decide +kernel
theorem dX4_know_138 : decode cX4_know 138 = .ok (.aload_n 0, 1) := by decide +kernel
theorem dX4_know_139 : decode cX4_know 139 = .ok (.aload_n 0, 1) := by decide +kernel
theorem dX4_know_140 : decode cX4_know 140 = .ok (.getfield 44, 3) := by decide +kernel
theorem dX4_know_143 : decode cX4_know 143 = .ok (.aload_n 0, 1) := by decide +kernel
theorem dX4_know_144 : decode cX4_know 144 = .ok (.getfield 86, 3) := by decide +kernel
theorem dX4_know_147 : decode cX4_know 147 = .ok (.invokevirtual 95, 3) := by decide +kernel
theorem dX4_know_150 : decode cX4_know 150 = .ok (.lcmp, 1) := by decide +kernel
theorem dX4_know_151 : decode cX4_know 151 = .ok (.ifCond .le 7, 3) := by decide +kernel
theorem dX4_know_154 : decode cX4_know 154 = .ok (.iconst 1, 1) := by decide +kernel
theorem dX4_know_155 : decode cX4_know 155 = .ok (.goto 4, 3) := by decide +kernel
theorem dX4_know_158 : decode cX4_know 158 = .ok (.iconst 0, 1) := by decide +kernel
theorem dX4_know_159 : decode cX4_know 159 = .ok (.putfield 99, 3) := by decide +kernel
theorem dX4_know_162 : decode cX4_know 162 = .ok (.return_, 1) := by decide +kernel
theorem dX4_comesBefore_0 : decode cX4_comesBefore 0 = .ok (.aload_n 0, 1) := by decide +kernel
theorem dX4_comesBefore_1 : decode cX4_comesBefore 1 = .ok (.getfield 24, 3) := by decide +kernel
theorem dX4_comesBefore_4 : decode cX4_comesBefore 4 = .ok (.iload_n 1, 1) := by decide +kernel
theorem dX4_comesBefore_5 : decode cX4_comesBefore 5 = .ok (.laload, 1) := by decide +kernel
theorem dX4_comesBefore_6 : decode cX4_comesBefore 6 = .ok (.aload_n 0, 1) := by decide +kernel
theorem dX4_comesBefore_7 : decode cX4_comesBefore 7 = .ok (.getfield 24, 3) := by decide +kernel
theorem dX4_comesBefore_10 : decode cX4_comesBefore 10 = .ok (.iload_n 2, 1) := by decide +kernel
theorem dX4_comesBefore_11 : decode cX4_comesBefore 11 = .ok (.laload, 1) := by decide +kernel
theorem dX4_comesBefore_12 : decode cX4_comesBefore 12 = .ok (.lcmp, 1) := by decide +kernel
theorem dX4_comesBefore_13 : decode cX4_comesBefore 13 = .ok (.ifCond .eq 25, 3) := by decide +kernel
theorem dX4_comesBefore_16 : decode cX4_comesBefore 16 = .ok (.aload_n 0, 1) := by decide +kernel
theorem dX4_comesBefore_17 : decode cX4_comesBefore 17 = .ok (.getfield 24, 3) := by decide +kernel
theorem dX4_comesBefore_20 : decode cX4_comesBefore 20 = .ok (.iload_n 1, 1) := by decide +kernel
theorem dX4_comesBefore_21 : decode cX4_comesBefore 21 = .ok (.laload, 1) := by decide +kernel
theorem dX4_comesBefore_22 : decode cX4_comesBefore 22 = .ok (.aload_n 0, 1) := by decide +kernel
theorem dX4_comesBefore_23 : decode cX4_comesBefore 23 = .ok (.getfield 24, 3) := by decide +kernel
theorem dX4_comesBefore_26 : decode cX4_comesBefore 26 = .ok (.iload_n 2, 1) := by decide +kernel
theorem dX4_comesBefore_27 : decode cX4_comesBefore 27 = .ok (.laload, 1) := by decide +kernel
theorem dX4_comesBefore_28 : decode cX4_comesBefore 28 = .ok (.lcmp, 1) := by decide +kernel
theorem dX4_comesBefore_29 : decode cX4_comesBefore 29 = .ok (.ifCond .le 7, 3) := by decide +kernel
theorem dX4_comesBefore_32 : decode cX4_comesBefore 32 = .ok (.iconst 1, 1) := by decide +kernel
theorem dX4_comesBefore_33 : decode cX4_comesBefore 33 = .ok (.goto 4, 3) := by decide +kernel
theorem dX4_comesBefore_36 : decode cX4_comesBefore 36 = .ok (.iconst 0, 1) := by decide +kernel
theorem dX4_comesBefore_37 : decode cX4_comesBefore 37 = .ok (.ireturn, 1) := by decide +kernel
theorem dX4_comesBefore_38 : decode cX4_comesBefore 38 = .ok (.aload_n 0, 1) := by decide +kernel
theorem dX4_comesBefore_39 : decode cX4_comesBefore 39 = .ok (.getfield 17, 3) := by decide +kernel
theorem dX4_comesBefore_42 : decode cX4_comesBefore 42 = .ok (.iload_n 1, 1) := by decide +kernel
theorem dX4_comesBefore_43 : decode cX4_comesBefore 43 = .ok (.iaload, 1) := by decide +kernel
theorem dX4_comesBefore_44 : decode cX4_comesBefore 44 = .ok (.aload_n 0, 1) := by decide +kernel
theorem dX4_comesBefore_45 : decode cX4_comesBefore 45 = .ok (.getfield 17, 3) := by decide +kernel
theorem dX4_comesBefore_48 : decode cX4_comesBefore 48 = .ok (.iload_n 2, 1) := by decide +kernel
theorem dX4_comesBefore_49 : decode cX4_comesBefore 49 = .ok (.iaload, 1) := by decide +kernel
theorem dX4_comesBefore_50 : decode cX4_comesBefore 50 = .ok (.if_icmp .eq 26, 3) := by decide +kernel
theorem dX4_comesBefore_53 : decode cX4_comesBefore 53 = .ok (.aload_n 0, 1) := by decide +kernel
theorem dX4_comesBefore_54 : decode cX4_comesBefore 54 = .ok (.getfield 17, 3) := by decide +kernel
theorem dX4_comesBefore_57 : decode cX4_comesBefore 57 = .ok (.iload_n 1, 1) := by decide +kernel
theorem dX4_comesBefore_58 : decode cX4_comesBefore 58 = .ok (.iaload, 1) := by decide +kernel
theorem dX4_comesBefore_59 : decode cX4_comesBefore 59 = .ok (.aload_n 0, 1) := by decide +kernel
theorem dX4_comesBefore_60 : decode cX4_comesBefore 60 = .ok (.getfield 17, 3) := by decide +kernel
theorem dX4_comesBefore_63 : decode cX4_comesBefore 63 = .ok (.iload_n 2, 1) := by decide +kernel
theorem dX4_comesBefore_64 : decode cX4_comesBefore 64 = .ok (.iaload, 1) := by decide +kernel
theorem dX4_comesBefore_65 : decode cX4_comesBefore 65 = .ok (.if_icmp .ge 7, 3) := by decide +kernel
theorem dX4_comesBefore_68 : decode cX4_comesBefore 68 = .ok (.iconst 1, 1) := by decide +kernel
theorem dX4_comesBefore_69 : decode cX4_comesBefore 69 = .ok (.goto 27, 3) := by decide +kernel
theorem dX4_comesBefore_72 : decode cX4_comesBefore 72 = .ok (.iconst 0, 1) := by decide +kernel
theorem dX4_comesBefore_73 : decode cX4_comesBefore 73 = .ok (.goto 23, 3) := by decide +kernel
theorem dX4_comesBefore_76 : decode cX4_comesBefore 76 = .ok (.aload_n 0, 1) := by decide +kernel
theorem dX4_comesBefore_77 : decode cX4_comesBefore 77 = .ok (.getfield 21, 3) := by decide +kernel
theorem dX4_comesBefore_80 : decode cX4_comesBefore 80 = .ok (.iload_n 1, 1) := by decide +kernel
theorem dX4_comesBefore_81 : decode cX4_comesBefore 81 = .ok (.iaload, 1) := by decide +kernel
theorem dX4_comesBefore_82 : decode cX4_comesBefore 82 = .ok (.aload_n 0, 1) := by decide +kernel
theorem dX4_comesBefore_83 : decode cX4_comesBefore 83 = .ok (.getfield 21, 3) := by decide +kernel
theorem dX4_comesBefore_86 : decode cX4_comesBefore 86 = .ok (.iload_n 2, 1) := by decide +kernel
theorem dX4_comesBefore_87 : decode cX4_comesBefore 87 = .ok (.iaload, 1) := by decide +kernel
theorem dX4_comesBefore_88 : decode cX4_comesBefore 88 = .ok (.if_icmp .ge 7, 3) := by decide +kernel
theorem dX4_comesBefore_91 : decode cX4_comesBefore 91 = .ok (.iconst 1, 1) := by decide +kernel
theorem dX4_comesBefore_92 : decode cX4_comesBefore 92 = .ok (.goto 4, 3) := by decide +kernel
theorem dX4_comesBefore_95 : decode cX4_comesBefore 95 = .ok (.iconst 0, 1) := by decide +kernel
theorem dX4_comesBefore_96 : decode cX4_comesBefore 96 = .ok (.ireturn, 1) := by decide +kernel
set_option maxRecDepth 20000 in
theorem ggX4_chains_X4_comesBefore : GoodIn wsX4_chains wsX4_comesBefore := goodIn_r _ [15, 4, 6, 7, 16, 17, 18, 19, 20, 21, 22, 23, 24, 25, 26, 27, 28, 29, 30, 31, 32, 33] (by decide +kernel) (by decide +kernel)
set_option maxRecDepth 20000 in
theorem gX4_chains_X4_comesBefore : GoodIn wsX4_chains (wsV RX4 102 RX4 yX4_comesBefore wsX4_comesBefore) := goodIn_app (goodIn_of _ (by decide +kernel)) ggX4_chains_X4_comesBefore
theorem dX4_chains_0 : decode cX4_chains 0 = .ok (.iconst 0, 1) := by decide +kernel
theorem dX4_chains_1 : decode cX4_chains 1 = .ok (.istore_n 1, 1) := by decide +kernel
theorem dX4_chains_2 : decode cX4_chains 2 = .ok (.iload_n 1, 1) := by decide +kernel
theorem dX4_chains_3 : decode cX4_chains 3 = .ok (.aload_n 0, 1) := by decide +kernel
theorem dX4_chains_4 : decode cX4_chains 4 = .ok (.getfield 56, 3) := by decide +kernel
theorem dX4_chains_7 : decode cX4_chains 7 = .ok (.if_icmp .ge 68, 3) := by decide +kernel
theorem dX4_chains_10 : decode cX4_chains 10 = .ok (.aload_n 0, 1) := by decide +kernel
theorem dX4_chains_11 : decode cX4_chains 11 = .ok (.getfield 47, 3) := by decide +kernel
theorem dX4_chains_14 : decode cX4_chains 14 = .ok (.iload_n 1, 1) := by decide +kernel
theorem dX4_chains_15 : decode cX4_chains 15 = .ok (.aload_n 0, 1) := by decide +kernel
theorem dX4_chains_16 : decode cX4_chains 16 = .ok (.getfield 28, 3) := by decide +kernel
theorem dX4_chains_19 : decode cX4_chains 19 = .ok (.iload_n 1, 1) := by decide +kernel
theorem dX4_chains_20 : decode cX4_chains 20 = .ok (.baload, 1) := by decide +kernel
theorem dX4_chains_21 : decode cX4_chains 21 = .ok (.ifCond .eq 42, 3) := by decide +kernel
theorem dX4_chains_24 : decode cX4_chains 24 = .ok (.aload_n 0, 1) := by decide +kernel
theorem dX4_chains_25 : decode cX4_chains 25 = .ok (.getfield 24, 3) := by decide +kernel
theorem dX4_chains_28 : decode cX4_chains 28 = .ok (.iload_n 1, 1) := by decide +kernel
theorem dX4_chains_29 : decode cX4_chains 29 = .ok (.laload, 1) := by decide +kernel
theorem dX4_chains_30 : decode cX4_chains 30 = .ok (.lconst 0, 1) := by decide +kernel
theorem dX4_chains_31 : decode cX4_chains 31 = .ok (.lcmp, 1) := by decide +kernel
theorem dX4_chains_32 : decode cX4_chains 32 = .ok (.ifCond .eq 31, 3) := by decide +kernel
theorem dX4_chains_35 : decode cX4_chains 35 = .ok (.aload_n 0, 1) := by decide +kernel
theorem dX4_chains_36 : decode cX4_chains 36 = .ok (.getfield 13, 3) := by decide +kernel
theorem dX4_chains_39 : decode cX4_chains 39 = .ok (.aload_n 0, 1) := by decide +kernel
theorem dX4_chains_40 : decode cX4_chains 40 = .ok (.getfield 17, 3) := by decide +kernel
theorem dX4_chains_43 : decode cX4_chains 43 = .ok (.iload_n 1, 1) := by decide +kernel
theorem dX4_chains_44 : decode cX4_chains 44 = .ok (.iaload, 1) := by decide +kernel
theorem dX4_chains_45 : decode cX4_chains 45 = .ok (.baload, 1) := by decide +kernel
theorem dX4_chains_46 : decode cX4_chains 46 = .ok (.ifCond .eq 17, 3) := by decide +kernel
theorem dX4_chains_49 : decode cX4_chains 49 = .ok (.aload_n 0, 1) := by decide +kernel
theorem dX4_chains_50 : decode cX4_chains 50 = .ok (.getfield 13, 3) := by decide +kernel
theorem dX4_chains_53 : decode cX4_chains 53 = .ok (.aload_n 0, 1) := by decide +kernel
theorem dX4_chains_54 : decode cX4_chains 54 = .ok (.getfield 21, 3) := by decide +kernel
theorem dX4_chains_57 : decode cX4_chains 57 = .ok (.iload_n 1, 1) := by decide +kernel
theorem dX4_chains_58 : decode cX4_chains 58 = .ok (.iaload, 1) := by decide +kernel
theorem dX4_chains_59 : decode cX4_chains 59 = .ok (.baload, 1) := by decide +kernel
theorem dX4_chains_60 : decode cX4_chains 60 = .ok (.ifCond .ne 7, 3) := by decide +kernel
theorem dX4_chains_63 : decode cX4_chains 63 = .ok (.iconst 1, 1) := by decide +kernel
theorem dX4_chains_64 : decode cX4_chains 64 = .ok (.goto 4, 3) := by decide +kernel
theorem dX4_chains_67 : decode cX4_chains 67 = .ok (.iconst 0, 1) := by decide +kernel
theorem dX4_chains_68 : decode cX4_chains 68 = .ok (.bastore, 1) := by decide +kernel
theorem dX4_chains_69 : decode cX4_chains 69 = .ok (.iinc 1 1, 3) := by decide +kernel
theorem dX4_chains_72 : decode cX4_chains 72 = .ok (.goto (-70), 3) := by decide +kernel
theorem dX4_chains_75 : decode cX4_chains 75 = .ok (.iconst 0, 1) := by decide +kernel
theorem dX4_chains_76 : decode cX4_chains 76 = .ok (.istore_n 1, 1) := by decide +kernel
theorem dX4_chains_77 : decode cX4_chains 77 = .ok (.iload_n 1, 1) := by decide +kernel
theorem dX4_chains_78 : decode cX4_chains 78 = .ok (.ifCond .lt 247, 3) := by decide +kernel
theorem dX4_chains_81 : decode cX4_chains 81 = .ok (.iconst (-1), 1) := by decide +kernel
theorem dX4_chains_82 : decode cX4_chains 82 = .ok (.istore_n 1, 1) := by decide +kernel
theorem dX4_chains_83 : decode cX4_chains 83 = .ok (.iconst 0, 1) := by decide +kernel
theorem dX4_chains_84 : decode cX4_chains 84 = .ok (.istore_n 2, 1) := by decide +kernel
theorem dX4_chains_85 : decode cX4_chains 85 = .ok (.iload_n 2, 1) := by decide +kernel
theorem dX4_chains_86 : decode cX4_chains 86 = .ok (.aload_n 0, 1) := by decide +kernel
theorem dX4_chains_87 : decode cX4_chains 87 = .ok (.getfield 56, 3) := by decide +kernel
theorem dX4_chains_90 : decode cX4_chains 90 = .ok (.if_icmp .ge 33, 3) := by decide +kernel
theorem dX4_chains_93 : decode cX4_chains 93 = .ok (.aload_n 0, 1) := by decide +kernel
theorem dX4_chains_94 : decode cX4_chains 94 = .ok (.getfield 47, 3) := by decide +kernel
theorem dX4_chains_97 : decode cX4_chains 97 = .ok (.iload_n 2, 1) := by decide +kernel
theorem dX4_chains_98 : decode cX4_chains 98 = .ok (.baload, 1) := by decide +kernel
theorem dX4_chains_99 : decode cX4_chains 99 = .ok (.ifCond .ne 18, 3) := by decide +kernel
theorem dX4_chains_102 : decode cX4_chains 102 = .ok (.iload_n 1, 1) := by decide +kernel
theorem dX4_chains_103 : decode cX4_chains 103 = .ok (.ifCond .lt 12, 3) := by decide +kernel
theorem dX4_chains_106 : decode cX4_chains 106 = .ok (.aload_n 0, 1) := by decide +kernel
theorem dX4_chains_107 : decode cX4_chains 107 = .ok (.iload_n 2, 1) := by decide +kernel
theorem dX4_chains_108 : decode cX4_chains 108 = .ok (.iload_n 1, 1) := by decide +kernel
theorem dX4_chains_109 : decode cX4_chains 109 = .ok (.invokevirtual 102, 3) := by decide +kernel
theorem dX4_chains_112 : decode cX4_chains 112 = .ok (.ifCond .eq 5, 3) := by decide +kernel
theorem dX4_chains_115 : decode cX4_chains 115 = .ok (.iload_n 2, 1) := by decide +kernel
theorem dX4_chains_116 : decode cX4_chains 116 = .ok (.istore_n 1, 1) := by decide +kernel
theorem dX4_chains_117 : decode cX4_chains 117 = .ok (.iinc 2 1, 3) := by decide +kernel
theorem dX4_chains_120 : decode cX4_chains 120 = .ok (.goto (-35), 3) := by decide +kernel
theorem dX4_chains_123 : decode cX4_chains 123 = .ok (.iload_n 1, 1) := by decide +kernel
theorem dX4_chains_124 : decode cX4_chains 124 = .ok (.ifCond .ge 4, 3) := by decide +kernel
theorem dX4_chains_127 : decode cX4_chains 127 = .ok (.return_, 1) := by decide +kernel
theorem dX4_chains_128 : decode cX4_chains 128 = .ok (.aload_n 0, 1) := by decide +kernel
theorem dX4_chains_129 : decode cX4_chains 129 = .ok (.getfield 47, 3) := by decide +kernel
theorem dX4_chains_132 : decode cX4_chains 132 = .ok (.iload_n 1, 1) := by decide +kernel
theorem dX4_chains_133 : decode cX4_chains 133 = .ok (.iconst 1, 1) := by decide +kernel
theorem dX4_chains_134 : decode cX4_chains 134 = .ok (.bastore, 1) := by decide +kernel
theorem dX4_chains_135 : decode cX4_chains 135 = .ok (.aload_n 0, 1) := by decide +kernel
theorem dX4_chains_136 : decode cX4_chains 136 = .ok (.getfield 38, 3) := by decide +kernel
theorem dX4_chains_139 : decode cX4_chains 139 = .ok (.aload_n 0, 1) := by decide +kernel
theorem dX4_chains_140 : decode cX4_chains 140 = .ok (.getfield 17, 3) := by decide +kernel
theorem dX4_chains_143 : decode cX4_chains 143 = .ok (.iload_n 1, 1) := by decide +kernel
theorem dX4_chains_144 : decode cX4_chains 144 = .ok (.iaload, 1) := by decide +kernel
theorem dX4_chains_145 : decode cX4_chains 145 = .ok (.iaload, 1) := by decide +kernel
theorem dX4_chains_146 : decode cX4_chains 146 = .ok (.istore_n 2, 1) := by decide +kernel
theorem dX4_chains_147 : decode cX4_chains 147 = .ok (.aload_n 0, 1) := by decide +kernel
theorem dX4_chains_148 : decode cX4_chains 148 = .ok (.getfield 38, 3) := by decide +kernel
theorem dX4_chains_151 : decode cX4_chains 151 = .ok (.aload_n 0, 1) := by decide +kernel
theorem dX4_chains_152 : decode cX4_chains 152 = .ok (.getfield 21, 3) := by decide +kernel
theorem dX4_chains_155 : decode cX4_chains 155 = .ok (.iload_n 1, 1) := by decide +kernel
theorem dX4_chains_156 : decode cX4_chains 156 = .ok (.iaload, 1) := by decide +kernel
theorem dX4_chains_157 : decode cX4_chains 157 = .ok (.iaload, 1) := by decide +kernel
theorem dX4_chains_158 : decode cX4_chains 158 = .ok (.istore_n 3, 1) := by decide +kernel
theorem dX4_chains_159 : decode cX4_chains 159 = .ok (.iload_n 2, 1) := by decide +kernel
theorem dX4_chains_160 : decode cX4_chains 160 = .ok (.iload_n 3, 1) := by decide +kernel
theorem dX4_chains_161 : decode cX4_chains 161 = .ok (.if_icmp .eq 63, 3) := by decide +kernel
theorem dX4_chains_164 : decode cX4_chains 164 = .ok (.aload_n 0, 1) := by decide +kernel
theorem dX4_chains_165 : decode cX4_chains 165 = .ok (.getfield 32, 3) := by decide +kernel
theorem dX4_chains_168 : decode cX4_chains 168 = .ok (.sipush 200, 3) := by decide +kernel
theorem dX4_chains_171 : decode cX4_chains 171 = .ok (.iload_n 2, 1) := by decide +kernel
theorem dX4_chains_172 : decode cX4_chains 172 = .ok (.imul, 1) := by decide +kernel
theorem dX4_chains_173 : decode cX4_chains 173 = .ok (.aload_n 0, 1) := by decide +kernel
theorem dX4_chains_174 : decode cX4_chains 174 = .ok (.getfield 35, 3) := by decide +kernel
theorem dX4_chains_177 : decode cX4_chains 177 = .ok (.iload_n 2, 1) := by decide +kernel
theorem dX4_chains_178 : decode cX4_chains 178 = .ok (.iaload, 1) := by decide +kernel
theorem dX4_chains_179 : decode cX4_chains 179 = .ok (.iadd, 1) := by decide +kernel
theorem dX4_chains_180 : decode cX4_chains 180 = .ok (.iconst 1, 1) := by decide +kernel
theorem dX4_chains_181 : decode cX4_chains 181 = .ok (.isub, 1) := by decide +kernel
theorem dX4_chains_182 : decode cX4_chains 182 = .ok (.iaload, 1) := by decide +kernel
theorem dX4_chains_183 : decode cX4_chains 183 = .ok (.aload_n 0, 1) := by decide +kernel
theorem dX4_chains_184 : decode cX4_chains 184 = .ok (.getfield 17, 3) := by decide +kernel
theorem dX4_chains_187 : decode cX4_chains 187 = .ok (.iload_n 1, 1) := by decide +kernel
theorem dX4_chains_188 : decode cX4_chains 188 = .ok (.iaload, 1) := by decide +kernel
theorem dX4_chains_189 : decode cX4_chains 189 = .ok (.if_icmp .ne 35, 3) := by decide +kernel
theorem dX4_chains_192 : decode cX4_chains 192 = .ok (.aload_n 0, 1) := by decide +kernel
theorem dX4_chains_193 : decode cX4_chains 193 = .ok (.getfield 32, 3) := by decide +kernel
theorem dX4_chains_196 : decode cX4_chains 196 = .ok (.sipush 200, 3) := by decide +kernel
theorem dX4_chains_199 : decode cX4_chains 199 = .ok (.iload_n 3, 1) := by decide +kernel
theorem dX4_chains_200 : decode cX4_chains 200 = .ok (.imul, 1) := by decide +kernel
theorem dX4_chains_201 : decode cX4_chains 201 = .ok (.iaload, 1) := by decide +kernel
theorem dX4_chains_202 : decode cX4_chains 202 = .ok (.aload_n 0, 1) := by decide +kernel
theorem dX4_chains_203 : decode cX4_chains 203 = .ok (.getfield 21, 3) := by decide +kernel
theorem dX4_chains_206 : decode cX4_chains 206 = .ok (.iload_n 1, 1) := by decide +kernel
theorem dX4_chains_207 : decode cX4_chains 207 = .ok (.iaload, 1) := by decide +kernel
theorem dX4_chains_208 : decode cX4_chains 208 = .ok (.if_icmp .ne 16, 3) := by decide +kernel
theorem dX4_chains_211 : decode cX4_chains 211 = .ok (.aload_n 0, 1) := by decide +kernel
theorem dX4_chains_212 : decode cX4_chains 212 = .ok (.getfield 21, 3) := by decide +kernel
theorem dX4_chains_215 : decode cX4_chains 215 = .ok (.iload_n 1, 1) := by decide +kernel
theorem dX4_chains_216 : decode cX4_chains 216 = .ok (.iaload, 1) := by decide +kernel
theorem dX4_chains_217 : decode cX4_chains 217 = .ok (.ifCond .eq 7, 3) := by decide +kernel
theorem dX4_chains_220 : decode cX4_chains 220 = .ok (.iconst 1, 1) := by decide +kernel
theorem dX4_chains_221 : decode cX4_chains 221 = .ok (.goto 4, 3) := by decide +kernel
theorem dX4_chains_224 : decode cX4_chains 224 = .ok (.iconst 0, 1) := by decide +kernel
theorem dX4_chains_225 : decode cX4_chains 225 = .ok (.istore 4, 2) := by decide +kernel
theorem dX4_chains_227 : decode cX4_chains 227 = .ok (.iload 4, 2) := by decide +kernel
theorem dX4_chains_229 : decode cX4_chains 229 = .ok (.ifCond .ne 6, 3) := by decide +kernel
theorem dX4_chains_232 : decode cX4_chains 232 = .ok (.goto (-155), 3) := by decide +kernel
theorem dX4_chains_235 : decode cX4_chains 235 = .ok (.iconst 0, 1) := by decide +kernel
theorem dX4_chains_236 : decode cX4_chains 236 = .ok (.istore 5, 2) := by decide +kernel
theorem dX4_chains_238 : decode cX4_chains 238 = .ok (.iload 5, 2) := by decide +kernel
theorem dX4_chains_240 : decode cX4_chains 240 = .ok (.aload_n 0, 1) := by decide +kernel
theorem dX4_chains_241 : decode cX4_chains 241 = .ok (.getfield 35, 3) := by decide +kernel
theorem dX4_chains_244 : decode cX4_chains 244 = .ok (.iload_n 3, 1) := by decide +kernel
theorem dX4_chains_245 : decode cX4_chains 245 = .ok (.iaload, 1) := by decide +kernel
theorem dX4_chains_246 : decode cX4_chains 246 = .ok (.if_icmp .ge 54, 3) := by decide +kernel
theorem dX4_chains_249 : decode cX4_chains 249 = .ok (.aload_n 0, 1) := by decide +kernel
theorem dX4_chains_250 : decode cX4_chains 250 = .ok (.getfield 32, 3) := by decide +kernel
theorem dX4_chains_253 : decode cX4_chains 253 = .ok (.sipush 200, 3) := by decide +kernel
theorem dX4_chains_256 : decode cX4_chains 256 = .ok (.iload_n 3, 1) := by decide +kernel
theorem dX4_chains_257 : decode cX4_chains 257 = .ok (.imul, 1) := by decide +kernel
theorem dX4_chains_258 : decode cX4_chains 258 = .ok (.iload 5, 2) := by decide +kernel
theorem dX4_chains_260 : decode cX4_chains 260 = .ok (.iadd, 1) := by decide +kernel
theorem dX4_chains_261 : decode cX4_chains 261 = .ok (.iaload, 1) := by decide +kernel
theorem dX4_chains_262 : decode cX4_chains 262 = .ok (.istore 6, 2) := by decide +kernel
theorem dX4_chains_264 : decode cX4_chains 264 = .ok (.aload_n 0, 1) := by decide +kernel
theorem dX4_chains_265 : decode cX4_chains 265 = .ok (.getfield 32, 3) := by decide +kernel
theorem dX4_chains_268 : decode cX4_chains 268 = .ok (.sipush 200, 3) := by decide +kernel
theorem dX4_chains_271 : decode cX4_chains 271 = .ok (.iload_n 2, 1) := by decide +kernel
theorem dX4_chains_272 : decode cX4_chains 272 = .ok (.imul, 1) := by decide +kernel
theorem dX4_chains_273 : decode cX4_chains 273 = .ok (.aload_n 0, 1) := by decide +kernel
theorem dX4_chains_274 : decode cX4_chains 274 = .ok (.getfield 35, 3) := by decide +kernel
theorem dX4_chains_277 : decode cX4_chains 277 = .ok (.iload_n 2, 1) := by decide +kernel
theorem dX4_chains_278 : decode cX4_chains 278 = .ok (.iaload, 1) := by decide +kernel
theorem dX4_chains_279 : decode cX4_chains 279 = .ok (.iadd, 1) := by decide +kernel
theorem dX4_chains_280 : decode cX4_chains 280 = .ok (.iload 5, 2) := by decide +kernel
theorem dX4_chains_282 : decode cX4_chains 282 = .ok (.iadd, 1) := by decide +kernel
theorem dX4_chains_283 : decode cX4_chains 283 = .ok (.iload 6, 2) := by decide +kernel
theorem dX4_chains_285 : decode cX4_chains 285 = .ok (.iastore, 1) := by decide +kernel
theorem dX4_chains_286 : decode cX4_chains 286 = .ok (.aload_n 0, 1) := by decide +kernel
theorem dX4_chains_287 : decode cX4_chains 287 = .ok (.getfield 38, 3) := by decide +kernel
theorem dX4_chains_290 : decode cX4_chains 290 = .ok (.iload 6, 2) := by decide +kernel
theorem dX4_chains_292 : decode cX4_chains 292 = .ok (.iload_n 2, 1) := by decide +kernel
theorem dX4_chains_293 : decode cX4_chains 293 = .ok (.iastore, 1) := by decide +kernel
theorem dX4_chains_294 : decode cX4_chains 294 = .ok (.iinc 5 1, 3) := by decide +kernel
theorem dX4_chains_297 : decode cX4_chains 297 = .ok (.goto (-59), 3) := by decide +kernel
theorem dX4_chains_300 : decode cX4_chains 300 = .ok (.aload_n 0, 1) := by decide +kernel
theorem dX4_chains_301 : decode cX4_chains 301 = .ok (.getfield 35, 3) := by decide +kernel
theorem dX4_chains_304 : decode cX4_chains 304 = .ok (.iload_n 2, 1) := by decide +kernel
theorem dX4_chains_305 : decode cX4_chains 305 = .ok (.dup2, 1) := by decide +kernel
theorem dX4_chains_306 : decode cX4_chains 306 = .ok (.iaload, 1) := by decide +kernel
theorem dX4_chains_307 : decode cX4_chains 307 = .ok (.aload_n 0, 1) := by decide +kernel
theorem dX4_chains_308 : decode cX4_chains 308 = .ok (.getfield 35, 3) := by decide +kernel
theorem dX4_chains_311 : decode cX4_chains 311 = .ok (.iload_n 3, 1) := by decide +kernel
theorem dX4_chains_312 : decode cX4_chains 312 = .ok (.iaload, 1) := by decide +kernel
theorem dX4_chains_313 : decode cX4_chains 313 = .ok (.iadd, 1) := by decide +kernel
theorem dX4_chains_314 : decode cX4_chains 314 = .ok (.iastore, 1) := by decide +kernel
theorem dX4_chains_315 : decode cX4_chains 315 = .ok (.aload_n 0, 1) := by decide +kernel
theorem dX4_chains_316 : decode cX4_chains 316 = .ok (.getfield 35, 3) := by decide +kernel
theorem dX4_chains_319 : decode cX4_chains 319 = .ok (.iload_n 3, 1) := by decide +kernel
theorem dX4_chains_320 : decode cX4_chains 320 = .ok (.iconst 0, 1) := by decide +kernel
theorem dX4_chains_321 : decode cX4_chains 321 = .ok (.iastore, 1) := by decide +kernel
theorem dX4_chains_322 : decode cX4_chains 322 = .ok (.goto (-245), 3) := by decide +kernel
theorem dX4_chains_325 : decode cX4_chains 325 = .ok (.return_, 1) := by decide +kernel
set_option maxRecDepth 20000 in
theorem ggX4_place_X4_sum : GoodIn wsX4_place wsX4_sum := goodIn_r _ [14, 15, 16, 17, 6, 2, 18, 19, 20, 21, 22, 23, 24, 25, 26, 27, 28, 29, 30, 31, 32, 33, 34, 35, 36] (by decide +kernel) (by decide +kernel)
set_option maxRecDepth 20000 in
theorem gX4_place_X4_sum : GoodIn wsX4_place (wsV RX4 106 RX4 yX4_sum wsX4_sum) := goodIn_app (goodIn_of _ (by decide +kernel)) ggX4_place_X4_sum
theorem dX4_place_0 : decode cX4_place 0 = .ok (.iconst 0, 1) := by decide +kernel
theorem dX4_place_1 : decode cX4_place 1 = .ok (.istore_n 1, 1) := by decide +kernel
theorem dX4_place_2 : decode cX4_place 2 = .ok (.iload_n 1, 1) := by decide +kernel
theorem dX4_place_3 : decode cX4_place 3 = .ok (.aload_n 0, 1) := by decide +kernel
theorem dX4_place_4 : decode cX4_place 4 = .ok (.getfield 7, 3) := by decide +kernel
theorem dX4_place_7 : decode cX4_place 7 = .ok (.if_icmp .ge 16, 3) := by decide +kernel
theorem dX4_place_10 : decode cX4_place 10 = .ok (.aload_n 0, 1) := by decide +kernel
theorem dX4_place_11 : decode cX4_place 11 = .ok (.getfield 50, 3) := by decide +kernel
theorem dX4_place_14 : decode cX4_place 14 = .ok (.iload_n 1, 1) := by decide +kernel
theorem dX4_place_15 : decode cX4_place 15 = .ok (.iconst 0, 1) := by decide +kernel
theorem dX4_place_16 : decode cX4_place 16 = .ok (.bastore, 1) := by decide +kernel
theorem dX4_place_17 : decode cX4_place 17 = .ok (.iinc 1 1, 3) := by decide +kernel
theorem dX4_place_20 : decode cX4_place 20 = .ok (.goto (-18), 3) := by decide +kernel
theorem dX4_place_23 : decode cX4_place 23 = .ok (.iconst 0, 1) := by decide +kernel
theorem dX4_place_24 : decode cX4_place 24 = .ok (.istore_n 1, 1) := by decide +kernel
theorem dX4_place_25 : decode cX4_place 25 = .ok (.iload_n 1, 1) := by decide +kernel
theorem dX4_place_26 : decode cX4_place 26 = .ok (.aload_n 0, 1) := by decide +kernel
theorem dX4_place_27 : decode cX4_place 27 = .ok (.getfield 86, 3) := by decide +kernel
theorem dX4_place_30 : decode cX4_place 30 = .ok (.if_icmp .ge 160, 3) := by decide +kernel
theorem dX4_place_33 : decode cX4_place 33 = .ok (.iconst (-1), 1) := by decide +kernel
theorem dX4_place_34 : decode cX4_place 34 = .ok (.istore_n 2, 1) := by decide +kernel
theorem dX4_place_35 : decode cX4_place 35 = .ok (.ldc2_w 67, 3) := by decide +kernel
theorem dX4_place_38 : decode cX4_place 38 = .ok (.lstore_n 3, 1) := by decide +kernel
theorem dX4_place_39 : decode cX4_place 39 = .ok (.iconst 0, 1) := by decide +kernel
theorem dX4_place_40 : decode cX4_place 40 = .ok (.istore 5, 2) := by decide +kernel
theorem dX4_place_42 : decode cX4_place 42 = .ok (.iload 5, 2) := by decide +kernel
theorem dX4_place_44 : decode cX4_place 44 = .ok (.aload_n 0, 1) := by decide +kernel
theorem dX4_place_45 : decode cX4_place 45 = .ok (.getfield 7, 3) := by decide +kernel
theorem dX4_place_48 : decode cX4_place 48 = .ok (.if_icmp .ge 85, 3) := by decide +kernel
theorem dX4_place_51 : decode cX4_place 51 = .ok (.aload_n 0, 1) := by decide +kernel
theorem dX4_place_52 : decode cX4_place 52 = .ok (.getfield 13, 3) := by decide +kernel
theorem dX4_place_55 : decode cX4_place 55 = .ok (.iload 5, 2) := by decide +kernel
theorem dX4_place_57 : decode cX4_place 57 = .ok (.baload, 1) := by decide +kernel
theorem dX4_place_58 : decode cX4_place 58 = .ok (.ifCond .eq 69, 3) := by decide +kernel
theorem dX4_place_61 : decode cX4_place 61 = .ok (.aload_n 0, 1) := by decide +kernel
theorem dX4_place_62 : decode cX4_place 62 = .ok (.getfield 50, 3) := by decide +kernel
theorem dX4_place_65 : decode cX4_place 65 = .ok (.iload 5, 2) := by decide +kernel
theorem dX4_place_67 : decode cX4_place 67 = .ok (.baload, 1) := by decide +kernel
theorem dX4_place_68 : decode cX4_place 68 = .ok (.ifCond .ne 59, 3) := by decide +kernel
theorem dX4_place_71 : decode cX4_place 71 = .ok (.iload_n 2, 1) := by decide +kernel
theorem dX4_place_72 : decode cX4_place 72 = .ok (.aload_n 0, 1) := by decide +kernel
theorem dX4_place_73 : decode cX4_place 73 = .ok (.getfield 38, 3) := by decide +kernel
theorem dX4_place_76 : decode cX4_place 76 = .ok (.iload 5, 2) := by decide +kernel
theorem dX4_place_78 : decode cX4_place 78 = .ok (.iaload, 1) := by decide +kernel
theorem dX4_place_79 : decode cX4_place 79 = .ok (.if_icmp .ne 6, 3) := by decide +kernel
theorem dX4_place_82 : decode cX4_place 82 = .ok (.goto 45, 3) := by decide +kernel
theorem dX4_place_85 : decode cX4_place 85 = .ok (.iload_n 1, 1) := by decide +kernel
theorem dX4_place_86 : decode cX4_place 86 = .ok (.ifCond .ne 7, 3) := by decide +kernel
theorem dX4_place_89 : decode cX4_place 89 = .ok (.lconst 0, 1) := by decide +kernel
theorem dX4_place_90 : decode cX4_place 90 = .ok (.goto 14, 3) := by decide +kernel
theorem dX4_place_93 : decode cX4_place 93 = .ok (.aload_n 0, 1) := by decide +kernel
theorem dX4_place_94 : decode cX4_place 94 = .ok (.aload_n 0, 1) := by decide +kernel
theorem dX4_place_95 : decode cX4_place 95 = .ok (.getfield 38, 3) := by decide +kernel
theorem dX4_place_98 : decode cX4_place 98 = .ok (.iload 5, 2) := by decide +kernel
theorem dX4_place_100 : decode cX4_place 100 = .ok (.iaload, 1) := by decide +kernel
theorem dX4_place_101 : decode cX4_place 101 = .ok (.invokevirtual 106, 3) := by decide +kernel
theorem dX4_place_104 : decode cX4_place 104 = .ok (.lstore 6, 2) := by decide +kernel
theorem dX4_place_106 : decode cX4_place 106 = .ok (.lload 6, 2) := by decide +kernel
theorem dX4_place_108 : decode cX4_place 108 = .ok (.lload_n 3, 1) := by decide +kernel
theorem dX4_place_109 : decode cX4_place 109 = .ok (.lcmp, 1) := by decide +kernel
theorem dX4_place_110 : decode cX4_place 110 = .ok (.ifCond .gt 6, 3) := by decide +kernel
theorem dX4_place_113 : decode cX4_place 113 = .ok (.goto 14, 3) := by decide +kernel
theorem dX4_place_116 : decode cX4_place 116 = .ok (.aload_n 0, 1) := by decide +kernel
theorem dX4_place_117 : decode cX4_place 117 = .ok (.getfield 38, 3) := by decide +kernel
theorem dX4_place_120 : decode cX4_place 120 = .ok (.iload 5, 2) := by decide +kernel
theorem dX4_place_122 : decode cX4_place 122 = .ok (.iaload, 1) := by decide +kernel
theorem dX4_place_123 : decode cX4_place 123 = .ok (.istore_n 2, 1) := by decide +kernel
theorem dX4_place_124 : decode cX4_place 124 = .ok (.lload 6, 2) := by decide +kernel
theorem dX4_place_126 : decode cX4_place 126 = .ok (.lstore_n 3, 1) := by decide +kernel
theorem dX4_place_127 : decode cX4_place 127 = .ok (.iinc 5 1, 3) := by decide +kernel
theorem dX4_place_130 : decode cX4_place 130 = .ok (.goto (-88), 3) := by decide +kernel
theorem dX4_place_133 : decode cX4_place 133 = .ok (.iconst 0, 1) := by decide +kernel
theorem dX4_place_134 : decode cX4_place 134 = .ok (.istore 5, 2) := by decide +kernel
theorem dX4_place_136 : decode cX4_place 136 = .ok (.iload 5, 2) := by decide +kernel
theorem dX4_place_138 : decode cX4_place 138 = .ok (.aload_n 0, 1) := by decide +kernel
theorem dX4_place_139 : decode cX4_place 139 = .ok (.getfield 35, 3) := by decide +kernel
theorem dX4_place_142 : decode cX4_place 142 = .ok (.iload_n 2, 1) := by decide +kernel
theorem dX4_place_143 : decode cX4_place 143 = .ok (.iaload, 1) := by decide +kernel
theorem dX4_place_144 : decode cX4_place 144 = .ok (.if_icmp .ge 43, 3) := by decide +kernel
theorem dX4_place_147 : decode cX4_place 147 = .ok (.aload_n 0, 1) := by decide +kernel
theorem dX4_place_148 : decode cX4_place 148 = .ok (.getfield 41, 3) := by decide +kernel
theorem dX4_place_151 : decode cX4_place 151 = .ok (.iload_n 1, 1) := by decide +kernel
theorem dX4_place_152 : decode cX4_place 152 = .ok (.aload_n 0, 1) := by decide +kernel
theorem dX4_place_153 : decode cX4_place 153 = .ok (.getfield 32, 3) := by decide +kernel
theorem dX4_place_156 : decode cX4_place 156 = .ok (.sipush 200, 3) := by decide +kernel
theorem dX4_place_159 : decode cX4_place 159 = .ok (.iload_n 2, 1) := by decide +kernel
theorem dX4_place_160 : decode cX4_place 160 = .ok (.imul, 1) := by decide +kernel
theorem dX4_place_161 : decode cX4_place 161 = .ok (.iload 5, 2) := by decide +kernel
theorem dX4_place_163 : decode cX4_place 163 = .ok (.iadd, 1) := by decide +kernel
theorem dX4_place_164 : decode cX4_place 164 = .ok (.iaload, 1) := by decide +kernel
theorem dX4_place_165 : decode cX4_place 165 = .ok (.iastore, 1) := by decide +kernel
theorem dX4_place_166 : decode cX4_place 166 = .ok (.aload_n 0, 1) := by decide +kernel
theorem dX4_place_167 : decode cX4_place 167 = .ok (.getfield 50, 3) := by decide +kernel
theorem dX4_place_170 : decode cX4_place 170 = .ok (.aload_n 0, 1) := by decide +kernel
theorem dX4_place_171 : decode cX4_place 171 = .ok (.getfield 41, 3) := by decide +kernel
theorem dX4_place_174 : decode cX4_place 174 = .ok (.iload_n 1, 1) := by decide +kernel
theorem dX4_place_175 : decode cX4_place 175 = .ok (.iaload, 1) := by decide +kernel
theorem dX4_place_176 : decode cX4_place 176 = .ok (.iconst 1, 1) := by decide +kernel
theorem dX4_place_177 : decode cX4_place 177 = .ok (.bastore, 1) := by decide +kernel
theorem dX4_place_178 : decode cX4_place 178 = .ok (.iinc 1 1, 3) := by decide +kernel
theorem dX4_place_181 : decode cX4_place 181 = .ok (.iinc 5 1, 3) := by decide +kernel
theorem dX4_place_184 : decode cX4_place 184 = .ok (.goto (-48), 3) := by decide +kernel
theorem dX4_place_187 : decode cX4_place 187 = .ok (.goto (-162), 3) := by decide +kernel
theorem dX4_place_190 : decode cX4_place 190 = .ok (.return_, 1) := by decide +kernel
theorem dX4_sum_0 : decode cX4_sum 0 = .ok (.lconst 0, 1) := by decide +kernel
theorem dX4_sum_1 : decode cX4_sum 1 = .ok (.lstore_n 2, 1) := by decide +kernel
theorem dX4_sum_2 : decode cX4_sum 2 = .ok (.iconst 0, 1) := by decide +kernel
theorem dX4_sum_3 : decode cX4_sum 3 = .ok (.istore 4, 2) := by decide +kernel
theorem dX4_sum_5 : decode cX4_sum 5 = .ok (.iload 4, 2) := by decide +kernel
theorem dX4_sum_7 : decode cX4_sum 7 = .ok (.aload_n 0, 1) := by decide +kernel
theorem dX4_sum_8 : decode cX4_sum 8 = .ok (.getfield 56, 3) := by decide +kernel
theorem dX4_sum_11 : decode cX4_sum 11 = .ok (.if_icmp .ge 79, 3) := by decide +kernel
theorem dX4_sum_14 : decode cX4_sum 14 = .ok (.aload_n 0, 1) := by decide +kernel
theorem dX4_sum_15 : decode cX4_sum 15 = .ok (.getfield 17, 3) := by decide +kernel
theorem dX4_sum_18 : decode cX4_sum 18 = .ok (.iload 4, 2) := by decide +kernel
theorem dX4_sum_20 : decode cX4_sum 20 = .ok (.iaload, 1) := by decide +kernel
theorem dX4_sum_21 : decode cX4_sum 21 = .ok (.istore 5, 2) := by decide +kernel
theorem dX4_sum_23 : decode cX4_sum 23 = .ok (.aload_n 0, 1) := by decide +kernel
theorem dX4_sum_24 : decode cX4_sum 24 = .ok (.getfield 21, 3) := by decide +kernel
theorem dX4_sum_27 : decode cX4_sum 27 = .ok (.iload 4, 2) := by decide +kernel
theorem dX4_sum_29 : decode cX4_sum 29 = .ok (.iaload, 1) := by decide +kernel
theorem dX4_sum_30 : decode cX4_sum 30 = .ok (.istore 6, 2) := by decide +kernel
theorem dX4_sum_32 : decode cX4_sum 32 = .ok (.aload_n 0, 1) := by decide +kernel
theorem dX4_sum_33 : decode cX4_sum 33 = .ok (.getfield 38, 3) := by decide +kernel
theorem dX4_sum_36 : decode cX4_sum 36 = .ok (.iload 5, 2) := by decide +kernel
theorem dX4_sum_38 : decode cX4_sum 38 = .ok (.iaload, 1) := by decide +kernel
theorem dX4_sum_39 : decode cX4_sum 39 = .ok (.iload_n 1, 1) := by decide +kernel
theorem dX4_sum_40 : decode cX4_sum 40 = .ok (.if_icmp .ne 13, 3) := by decide +kernel
theorem dX4_sum_43 : decode cX4_sum 43 = .ok (.aload_n 0, 1) := by decide +kernel
theorem dX4_sum_44 : decode cX4_sum 44 = .ok (.getfield 50, 3) := by decide +kernel
theorem dX4_sum_47 : decode cX4_sum 47 = .ok (.iload 6, 2) := by decide +kernel
theorem dX4_sum_49 : decode cX4_sum 49 = .ok (.baload, 1) := by decide +kernel
theorem dX4_sum_50 : decode cX4_sum 50 = .ok (.ifCond .ne 24, 3) := by decide +kernel
theorem dX4_sum_53 : decode cX4_sum 53 = .ok (.aload_n 0, 1) := by decide +kernel
theorem dX4_sum_54 : decode cX4_sum 54 = .ok (.getfield 38, 3) := by decide +kernel
theorem dX4_sum_57 : decode cX4_sum 57 = .ok (.iload 6, 2) := by decide +kernel
theorem dX4_sum_59 : decode cX4_sum 59 = .ok (.iaload, 1) := by decide +kernel
theorem dX4_sum_60 : decode cX4_sum 60 = .ok (.iload_n 1, 1) := by decide +kernel
theorem dX4_sum_61 : decode cX4_sum 61 = .ok (.if_icmp .ne 23, 3) := by decide +kernel
theorem dX4_sum_64 : decode cX4_sum 64 = .ok (.aload_n 0, 1) := by decide +kernel
theorem dX4_sum_65 : decode cX4_sum 65 = .ok (.getfield 50, 3) := by decide +kernel
theorem dX4_sum_68 : decode cX4_sum 68 = .ok (.iload 5, 2) := by decide +kernel
theorem dX4_sum_70 : decode cX4_sum 70 = .ok (.baload, 1) := by decide +kernel
theorem dX4_sum_71 : decode cX4_sum 71 = .ok (.ifCond .eq 13, 3) := by decide +kernel
theorem dX4_sum_74 : decode cX4_sum 74 = .ok (.lload_n 2, 1) := by decide +kernel
theorem dX4_sum_75 : decode cX4_sum 75 = .ok (.aload_n 0, 1) := by decide +kernel
theorem dX4_sum_76 : decode cX4_sum 76 = .ok (.getfield 24, 3) := by decide +kernel
theorem dX4_sum_79 : decode cX4_sum 79 = .ok (.iload 4, 2) := by decide +kernel
theorem dX4_sum_81 : decode cX4_sum 81 = .ok (.laload, 1) := by decide +kernel
theorem dX4_sum_82 : decode cX4_sum 82 = .ok (.ladd, 1) := by decide +kernel
theorem dX4_sum_83 : decode cX4_sum 83 = .ok (.lstore_n 2, 1) := by decide +kernel
theorem dX4_sum_84 : decode cX4_sum 84 = .ok (.iinc 4 1, 3) := by decide +kernel
theorem dX4_sum_87 : decode cX4_sum 87 = .ok (.goto (-82), 3) := by decide +kernel
theorem dX4_sum_90 : decode cX4_sum 90 = .ok (.lload_n 2, 1) := by decide +kernel
theorem dX4_sum_91 : decode cX4_sum 91 = .ok (.lreturn, 1) := by decide +kernel
set_option maxRecDepth 20000 in
theorem ggX4_weightOf_X4_find : GoodIn wsX4_weightOf wsX4_find := goodIn_r _ [7, 8, 9, 10, 11, 12, 13, 14, 15, 16, 17, 18, 19, 20, 21, 22, 23, 24, 25, 26, 27, 28] (by decide +kernel) (by decide +kernel)
set_option maxRecDepth 20000 in
theorem gX4_weightOf_X4_find : GoodIn wsX4_weightOf (wsV RX4 72 RX4 yX4_find wsX4_find) := goodIn_app (goodIn_of _ (by decide +kernel)) ggX4_weightOf_X4_find
theorem dX4_weightOf_0 : decode cX4_weightOf 0 = .ok (.lconst 0, 1) := by decide +kernel
theorem dX4_weightOf_1 : decode cX4_weightOf 1 = .ok (.lstore_n 3, 1) := by decide +kernel
theorem dX4_weightOf_2 : decode cX4_weightOf 2 = .ok (.iconst 0, 1) := by decide +kernel
theorem dX4_weightOf_3 : decode cX4_weightOf 3 = .ok (.istore 5, 2) := by decide +kernel
theorem dX4_weightOf_5 : decode cX4_weightOf 5 = .ok (.iload 5, 2) := by decide +kernel
theorem dX4_weightOf_7 : decode cX4_weightOf 7 = .ok (.iconst 1, 1) := by decide +kernel
theorem dX4_weightOf_8 : decode cX4_weightOf 8 = .ok (.iadd, 1) := by decide +kernel
theorem dX4_weightOf_9 : decode cX4_weightOf 9 = .ok (.iload_n 2, 1) := by decide +kernel
theorem dX4_weightOf_10 : decode cX4_weightOf 10 = .ok (.if_icmp .ge 50, 3) := by decide +kernel
theorem dX4_weightOf_13 : decode cX4_weightOf 13 = .ok (.aload_n 0, 1) := by decide +kernel
theorem dX4_weightOf_14 : decode cX4_weightOf 14 = .ok (.aload_n 1, 1) := by decide +kernel
theorem dX4_weightOf_15 : decode cX4_weightOf 15 = .ok (.iload 5, 2) := by decide +kernel
theorem dX4_weightOf_17 : decode cX4_weightOf 17 = .ok (.iaload, 1) := by decide +kernel
theorem dX4_weightOf_18 : decode cX4_weightOf 18 = .ok (.aload_n 1, 1) := by decide +kernel
theorem dX4_weightOf_19 : decode cX4_weightOf 19 = .ok (.iload 5, 2) := by decide +kernel
theorem dX4_weightOf_21 : decode cX4_weightOf 21 = .ok (.iconst 1, 1) := by decide +kernel
theorem dX4_weightOf_22 : decode cX4_weightOf 22 = .ok (.iadd, 1) := by decide +kernel
theorem dX4_weightOf_23 : decode cX4_weightOf 23 = .ok (.iaload, 1) := by decide +kernel
theorem dX4_weightOf_24 : decode cX4_weightOf 24 = .ok (.invokevirtual 72, 3) := by decide +kernel
theorem dX4_weightOf_27 : decode cX4_weightOf 27 = .ok (.istore 6, 2) := by decide +kernel
theorem dX4_weightOf_29 : decode cX4_weightOf 29 = .ok (.iload 6, 2) := by decide +kernel
theorem dX4_weightOf_31 : decode cX4_weightOf 31 = .ok (.ifCond .lt 23, 3) := by decide +kernel
theorem dX4_weightOf_34 : decode cX4_weightOf 34 = .ok (.aload_n 0, 1) := by decide +kernel
theorem dX4_weightOf_35 : decode cX4_weightOf 35 = .ok (.getfield 28, 3) := by decide +kernel
theorem dX4_weightOf_38 : decode cX4_weightOf 38 = .ok (.iload 6, 2) := by decide +kernel
theorem dX4_weightOf_40 : decode cX4_weightOf 40 = .ok (.baload, 1) := by decide +kernel
theorem dX4_weightOf_41 : decode cX4_weightOf 41 = .ok (.ifCond .eq 13, 3) := by decide +kernel
theorem dX4_weightOf_44 : decode cX4_weightOf 44 = .ok (.lload_n 3, 1) := by decide +kernel
theorem dX4_weightOf_45 : decode cX4_weightOf 45 = .ok (.aload_n 0, 1) := by decide +kernel
theorem dX4_weightOf_46 : decode cX4_weightOf 46 = .ok (.getfield 24, 3) := by decide +kernel
theorem dX4_weightOf_49 : decode cX4_weightOf 49 = .ok (.iload 6, 2) := by decide +kernel
theorem dX4_weightOf_51 : decode cX4_weightOf 51 = .ok (.laload, 1) := by decide +kernel
theorem dX4_weightOf_52 : decode cX4_weightOf 52 = .ok (.ladd, 1) := by decide +kernel
theorem dX4_weightOf_53 : decode cX4_weightOf 53 = .ok (.lstore_n 3, 1) := by decide +kernel
theorem dX4_weightOf_54 : decode cX4_weightOf 54 = .ok (.iinc 5 1, 3) := by decide +kernel
theorem dX4_weightOf_57 : decode cX4_weightOf 57 = .ok (.goto (-52), 3) := by decide +kernel
theorem dX4_weightOf_60 : decode cX4_weightOf 60 = .ok (.lload_n 3, 1) := by decide +kernel
theorem dX4_weightOf_61 : decode cX4_weightOf 61 = .ok (.lreturn, 1) := by decide +kernel
set_option maxRecDepth 20000 in
theorem ggX4_length_X4_know : GoodIn wsX4_length wsX4_know := goodIn_r _ [6, 7, 1, 8, 9, 10, 11, 12, 13, 14, 15, 16, 17, 18, 5, 19, 20, 21, 22, 23, 24, 25, 26, 27, 28, 29, 30, 31, 32, 33, 34, 35, 36, 37, 38, 39, 40, 41, 42, 43, 44, 45, 46, 47, 48, 49, 50, 51, 52, 53, 54, 55, 56, 57, 58, 59, 60, 61, 62, 63, 64, 65] (by decide +kernel) (by decide +kernel)
set_option maxRecDepth 20000 in
theorem gX4_length_X4_know : GoodIn wsX4_length (wsV RX4 110 RX4 yX4_know wsX4_know) := goodIn_app (goodIn_of _ (by decide +kernel)) ggX4_length_X4_know
theorem dX4_length_0 : decode cX4_length 0 = .ok (.aload_n 0, 1) := by decide +kernel
theorem dX4_length_1 : decode cX4_length 1 = .ok (.invokevirtual 110, 3) := by decide +kernel
theorem dX4_length_4 : decode cX4_length 4 = .ok (.aload_n 0, 1) := by decide +kernel
theorem dX4_length_5 : decode cX4_length 5 = .ok (.getfield 86, 3) := by decide +kernel
theorem dX4_length_8 : decode cX4_length 8 = .ok (.ireturn, 1) := by decide +kernel
set_option maxRecDepth 20000 in
theorem ggX4_row_X4_know : GoodIn wsX4_row wsX4_know := goodIn_r _ [9, 10, 1, 11, 12, 13, 14, 15, 4, 3, 2, 16, 17, 18, 8, 19, 20, 21, 22, 23, 24, 25, 26, 27, 28, 29, 30, 31, 32, 33, 34, 35, 36, 37, 38, 39, 40, 41, 42, 43, 44, 45, 46, 47, 48, 49, 50, 51, 52, 53, 54, 55, 56, 57, 58, 59, 60, 61, 62, 63, 64, 65] (by decide +kernel) (by decide +kernel)
set_option maxRecDepth 20000 in
theorem gX4_row_X4_know : GoodIn wsX4_row (wsV RX4 110 RX4 yX4_know wsX4_know) := goodIn_app (goodIn_of _ (by decide +kernel)) ggX4_row_X4_know
theorem dX4_row_0 : decode cX4_row 0 = .ok (.aload_n 0, 1) := by decide +kernel
theorem dX4_row_1 : decode cX4_row 1 = .ok (.invokevirtual 110, 3) := by decide +kernel
theorem dX4_row_4 : decode cX4_row 4 = .ok (.iload_n 1, 1) := by decide +kernel
theorem dX4_row_5 : decode cX4_row 5 = .ok (.ifCond .lt 11, 3) := by decide +kernel
theorem dX4_row_8 : decode cX4_row 8 = .ok (.iload_n 1, 1) := by decide +kernel
theorem dX4_row_9 : decode cX4_row 9 = .ok (.aload_n 0, 1) := by decide +kernel
theorem dX4_row_10 : decode cX4_row 10 = .ok (.getfield 86, 3) := by decide +kernel
theorem dX4_row_13 : decode cX4_row 13 = .ok (.if_icmp .lt 7, 3) := by decide +kernel
theorem dX4_row_16 : decode cX4_row 16 = .ok (.iconst (-1), 1) := by decide +kernel
theorem dX4_row_17 : decode cX4_row 17 = .ok (.goto 25, 3) := by decide +kernel
theorem dX4_row_20 : decode cX4_row 20 = .ok (.aload_n 0, 1) := by decide +kernel
theorem dX4_row_21 : decode cX4_row 21 = .ok (.getfield 99, 3) := by decide +kernel
theorem dX4_row_24 : decode cX4_row 24 = .ok (.ifCond .eq 12, 3) := by decide +kernel
theorem dX4_row_27 : decode cX4_row 27 = .ok (.aload_n 0, 1) := by decide +kernel
theorem dX4_row_28 : decode cX4_row 28 = .ok (.getfield 41, 3) := by decide +kernel
theorem dX4_row_31 : decode cX4_row 31 = .ok (.iload_n 1, 1) := by decide +kernel
theorem dX4_row_32 : decode cX4_row 32 = .ok (.iaload, 1) := by decide +kernel
theorem dX4_row_33 : decode cX4_row 33 = .ok (.goto 9, 3) := by decide +kernel
theorem dX4_row_36 : decode cX4_row 36 = .ok (.aload_n 0, 1) := by decide +kernel
theorem dX4_row_37 : decode cX4_row 37 = .ok (.getfield 44, 3) := by decide +kernel
theorem dX4_row_40 : decode cX4_row 40 = .ok (.iload_n 1, 1) := by decide +kernel
theorem dX4_row_41 : decode cX4_row 41 = .ok (.iaload, 1) := by decide +kernel
theorem dX4_row_42 : decode cX4_row 42 = .ok (.ireturn, 1) := by decide +kernel
set_option maxRecDepth 20000 in
theorem ggX4_weight_X4_know : GoodIn wsX4_weight wsX4_know := goodIn_r _ [12, 13, 7, 2, 14, 15, 16, 17, 6, 5, 4, 18, 19, 20, 11, 21, 22, 23, 24, 25, 26, 27, 28, 29, 30, 31, 32, 33, 34, 35, 36, 1, 37, 38, 39, 40, 41, 42, 43, 44, 45, 46, 47, 48, 49, 50, 51, 52, 53, 54, 55, 56, 57, 58, 59, 60, 61, 62, 63, 64, 65, 66] (by decide +kernel) (by decide +kernel)
set_option maxRecDepth 20000 in
theorem gX4_weight_X4_know : GoodIn wsX4_weight (wsV RX4 110 RX4 yX4_know wsX4_know) := goodIn_app (goodIn_of _ (by decide +kernel)) ggX4_weight_X4_know
set_option maxRecDepth 20000 in
theorem ggX4_weight_X4_weightOf : GoodIn wsX4_weight wsX4_weightOf := goodIn_r _ [44, 24, 25, 45, 46, 47, 11, 48, 22, 26, 27, 49, 50, 51, 52, 53, 54, 55, 56, 57, 58, 59, 60, 61, 62, 63, 64, 65, 66] (by decide +kernel) (by decide +kernel)
set_option maxRecDepth 20000 in
theorem gX4_weight_X4_weightOf : GoodIn wsX4_weight (wsV RX4 95 RX4 yX4_weightOf wsX4_weightOf) := goodIn_app (goodIn_of _ (by decide +kernel)) ggX4_weight_X4_weightOf
theorem dX4_weight_0 : decode cX4_weight 0 = .ok (.aload_n 0, 1) := by decide +kernel
theorem dX4_weight_1 : decode cX4_weight 1 = .ok (.invokevirtual 110, 3) := by decide +kernel
theorem dX4_weight_4 : decode cX4_weight 4 = .ok (.iload_n 1, 1) := by decide +kernel
theorem dX4_weight_5 : decode cX4_weight 5 = .ok (.ifCond .lt 8, 3) := by decide +kernel
theorem dX4_weight_8 : decode cX4_weight 8 = .ok (.iload_n 1, 1) := by decide +kernel
theorem dX4_weight_9 : decode cX4_weight 9 = .ok (.iconst 3, 1) := by decide +kernel
theorem dX4_weight_10 : decode cX4_weight 10 = .ok (.if_icmp .le 7, 3) := by decide +kernel
theorem dX4_weight_13 : decode cX4_weight 13 = .ok (.ldc2_w 67, 3) := by decide +kernel
theorem dX4_weight_16 : decode cX4_weight 16 = .ok (.lreturn, 1) := by decide +kernel
theorem dX4_weight_17 : decode cX4_weight 17 = .ok (.iconst 0, 1) := by decide +kernel
theorem dX4_weight_18 : decode cX4_weight 18 = .ok (.istore_n 2, 1) := by decide +kernel
theorem dX4_weight_19 : decode cX4_weight 19 = .ok (.iload_n 2, 1) := by decide +kernel
theorem dX4_weight_20 : decode cX4_weight 20 = .ok (.aload_n 0, 1) := by decide +kernel
theorem dX4_weight_21 : decode cX4_weight 21 = .ok (.getfield 7, 3) := by decide +kernel
theorem dX4_weight_24 : decode cX4_weight 24 = .ok (.if_icmp .ge 16, 3) := by decide +kernel
theorem dX4_weight_27 : decode cX4_weight 27 = .ok (.aload_n 0, 1) := by decide +kernel
theorem dX4_weight_28 : decode cX4_weight 28 = .ok (.getfield 53, 3) := by decide +kernel
theorem dX4_weight_31 : decode cX4_weight 31 = .ok (.iload_n 2, 1) := by decide +kernel
theorem dX4_weight_32 : decode cX4_weight 32 = .ok (.iload_n 2, 1) := by decide +kernel
theorem dX4_weight_33 : decode cX4_weight 33 = .ok (.iastore, 1) := by decide +kernel
theorem dX4_weight_34 : decode cX4_weight 34 = .ok (.iinc 2 1, 3) := by decide +kernel
theorem dX4_weight_37 : decode cX4_weight 37 = .ok (.goto (-18), 3) := by decide +kernel
theorem dX4_weight_40 : decode cX4_weight 40 = .ok (.iload_n 1, 1) := by decide +kernel
theorem dX4_weight_41 : decode cX4_weight 41 = .ok (.ifCond .ne 32, 3) := by decide +kernel
theorem dX4_weight_44 : decode cX4_weight 44 = .ok (.aload_n 0, 1) := by decide +kernel
theorem dX4_weight_45 : decode cX4_weight 45 = .ok (.aload_n 0, 1) := by decide +kernel
theorem dX4_weight_46 : decode cX4_weight 46 = .ok (.getfield 99, 3) := by decide +kernel
theorem dX4_weight_49 : decode cX4_weight 49 = .ok (.ifCond .eq 10, 3) := by decide +kernel
theorem dX4_weight_52 : decode cX4_weight 52 = .ok (.aload_n 0, 1) := by decide +kernel
theorem dX4_weight_53 : decode cX4_weight 53 = .ok (.getfield 41, 3) := by decide +kernel
theorem dX4_weight_56 : decode cX4_weight 56 = .ok (.goto 7, 3) := by decide +kernel
theorem dX4_weight_59 : decode cX4_weight 59 = .ok (.aload_n 0, 1) := by decide +kernel
theorem dX4_weight_60 : decode cX4_weight 60 = .ok (.getfield 44, 3) := by decide +kernel
theorem dX4_weight_63 : decode cX4_weight 63 = .ok (.aload_n 0, 1) := by decide +kernel
theorem dX4_weight_64 : decode cX4_weight 64 = .ok (.getfield 86, 3) := by decide +kernel
theorem dX4_weight_67 : decode cX4_weight 67 = .ok (.invokevirtual 95, 3) := by decide +kernel
theorem dX4_weight_70 : decode cX4_weight 70 = .ok (.goto 55, 3) := by decide +kernel
theorem dX4_weight_73 : decode cX4_weight 73 = .ok (.iload_n 1, 1) := by decide +kernel
theorem dX4_weight_74 : decode cX4_weight 74 = .ok (.iconst 1, 1) := by decide +kernel
theorem dX4_weight_75 : decode cX4_weight 75 = .ok (.if_icmp .ne 18, 3) := by decide +kernel
theorem dX4_weight_78 : decode cX4_weight 78 = .ok (.aload_n 0, 1) := by decide +kernel
theorem dX4_weight_79 : decode cX4_weight 79 = .ok (.aload_n 0, 1) := by decide +kernel
theorem dX4_weight_80 : decode cX4_weight 80 = .ok (.getfield 44, 3) := by decide +kernel
theorem dX4_weight_83 : decode cX4_weight 83 = .ok (.aload_n 0, 1) := by decide +kernel
theorem dX4_weight_84 : decode cX4_weight 84 = .ok (.getfield 86, 3) := by decide +kernel
theorem dX4_weight_87 : decode cX4_weight 87 = .ok (.invokevirtual 95, 3) := by decide +kernel
theorem dX4_weight_90 : decode cX4_weight 90 = .ok (.goto 35, 3) := by decide +kernel
theorem dX4_weight_93 : decode cX4_weight 93 = .ok (.iload_n 1, 1) := by decide +kernel
theorem dX4_weight_94 : decode cX4_weight 94 = .ok (.iconst 2, 1) := by decide +kernel
theorem dX4_weight_95 : decode cX4_weight 95 = .ok (.if_icmp .ne 18, 3) := by decide +kernel
theorem dX4_weight_98 : decode cX4_weight 98 = .ok (.aload_n 0, 1) := by decide +kernel
theorem dX4_weight_99 : decode cX4_weight 99 = .ok (.aload_n 0, 1) := by decide +kernel
theorem dX4_weight_100 : decode cX4_weight 100 = .ok (.getfield 53, 3) := by decide +kernel
theorem dX4_weight_103 : decode cX4_weight 103 = .ok (.aload_n 0, 1) := by decide +kernel
theorem dX4_weight_104 : decode cX4_weight 104 = .ok (.getfield 7, 3) := by decide +kernel
theorem dX4_weight_107 : decode cX4_weight 107 = .ok (.invokevirtual 95, 3) := by decide +kernel
theorem dX4_weight_110 : decode cX4_weight 110 = .ok (.goto 15, 3) := by decide +kernel
theorem dX4_weight_113 : decode cX4_weight 113 = .ok (.aload_n 0, 1) := by decide +kernel
theorem dX4_weight_114 : decode cX4_weight 114 = .ok (.aload_n 0, 1) := by decide +kernel
theorem dX4_weight_115 : decode cX4_weight 115 = .ok (.getfield 41, 3) := by decide +kernel
theorem dX4_weight_118 : decode cX4_weight 118 = .ok (.aload_n 0, 1) := by decide +kernel
theorem dX4_weight_119 : decode cX4_weight 119 = .ok (.getfield 86, 3) := by decide +kernel
theorem dX4_weight_122 : decode cX4_weight 122 = .ok (.invokevirtual 95, 3) := by decide +kernel
theorem dX4_weight_125 : decode cX4_weight 125 = .ok (.lreturn, 1) := by decide +kernel
set_option maxRecDepth 20000 in
theorem ggX4_chain_X4_know : GoodIn wsX4_chain wsX4_know := goodIn_r _ [8, 9, 10, 11, 3, 1, 12, 2, 13, 14, 15, 16, 17, 18, 7, 19, 20, 21, 22, 23, 24, 25, 26, 27, 28, 29, 30, 31, 32, 33, 34, 35, 36, 37, 38, 39, 40, 41, 42, 43, 44, 45, 46, 47, 52, 53, 54, 55, 56, 57, 58, 59, 60, 61, 62, 63, 64, 65, 66, 67, 68, 69] (by decide +kernel) (by decide +kernel)
set_option maxRecDepth 20000 in
theorem gX4_chain_X4_know : GoodIn wsX4_chain (wsV RX4 110 RX4 yX4_know wsX4_know) := goodIn_app (goodIn_of _ (by decide +kernel)) ggX4_chain_X4_know
set_option maxRecDepth 20000 in
theorem ggX4_chain_X4_isBlock : GoodIn wsX4_chain wsX4_isBlock := goodIn_r _ [51, 11, 52, 53, 54, 55, 56, 57, 58, 59, 60, 61, 62, 63, 64, 65, 66, 67, 68, 69] (by decide +kernel) (by decide +kernel)
set_option maxRecDepth 20000 in
theorem gX4_chain_X4_isBlock : GoodIn wsX4_chain (wsV RX4 63 RX4 yX4_isBlock wsX4_isBlock) := goodIn_app (goodIn_of _ (by decide +kernel)) ggX4_chain_X4_isBlock
theorem dX4_chain_0 : decode cX4_chain 0 = .ok (.aload_n 0, 1) := by decide +kernel
end
section
theorem dX4_chain_1 : decode cX4_chain 1 = .ok (.invokevirtual 110, 3) := by decide +kernel
theorem dX4_chain_4 : decode cX4_chain 4 = .ok (.aload_n 0, 1) := by decide +kernel
theorem dX4_chain_5 : decode cX4_chain 5 = .ok (.iload_n 1, 1) := by decide +kernel
theorem dX4_chain_6 : decode cX4_chain 6 = .ok (.invokevirtual 63, 3) := by decide +kernel
theorem dX4_chain_9 : decode cX4_chain 9 = .ok (.ifCond .eq 12, 3) := by decide +kernel
theorem dX4_chain_12 : decode cX4_chain 12 = .ok (.aload_n 0, 1) := by decide +kernel
theorem dX4_chain_13 : decode cX4_chain 13 = .ok (.getfield 13, 3) := by decide +kernel
theorem dX4_chain_16 : decode cX4_chain 16 = .ok (.iload_n 1, 1) := by decide +kernel
theorem dX4_chain_17 : decode cX4_chain 17 = .ok (.baload, 1) := by decide +kernel
theorem dX4_chain_18 : decode cX4_chain 18 = .ok (.ifCond .ne 7, 3) := by decide +kernel
theorem dX4_chain_21 : decode cX4_chain 21 = .ok (.iconst (-1), 1) := by decide +kernel
theorem dX4_chain_22 : decode cX4_chain 22 = .ok (.goto 18, 3) := by decide +kernel
theorem dX4_chain_25 : decode cX4_chain 25 = .ok (.aload_n 0, 1) := by decide +kernel
theorem dX4_chain_26 : decode cX4_chain 26 = .ok (.getfield 32, 3) := by decide +kernel
theorem dX4_chain_29 : decode cX4_chain 29 = .ok (.sipush 200, 3) := by decide +kernel
theorem dX4_chain_32 : decode cX4_chain 32 = .ok (.aload_n 0, 1) := by decide +kernel
theorem dX4_chain_33 : decode cX4_chain 33 = .ok (.getfield 38, 3) := by decide +kernel
theorem dX4_chain_36 : decode cX4_chain 36 = .ok (.iload_n 1, 1) := by decide +kernel
theorem dX4_chain_37 : decode cX4_chain 37 = .ok (.iaload, 1) := by decide +kernel
theorem dX4_chain_38 : decode cX4_chain 38 = .ok (.imul, 1) := by decide +kernel
theorem dX4_chain_39 : decode cX4_chain 39 = .ok (.iaload, 1) := by decide +kernel
theorem dX4_chain_40 : decode cX4_chain 40 = .ok (.ireturn, 1) := by decide +kernel
theorem dJ9_min_f86c9_0 : decode cJ9_min_f86c9 0 = .ok (.lload_n 0, 1) := by decide +kernel
theorem dJ9_min_f86c9_1 : decode cJ9_min_f86c9 1 = .ok (.lload_n 2, 1) := by decide +kernel
theorem dJ9_min_f86c9_2 : decode cJ9_min_f86c9 2 = .ok (.lcmp, 1) := by decide +kernel
theorem dJ9_min_f86c9_3 : decode cJ9_min_f86c9 3 = .ok (.ifCond .gt 7, 3) := by decide +kernel
theorem dJ9_min_f86c9_6 : decode cJ9_min_f86c9 6 = .ok (.lload_n 0, 1) := by decide +kernel
theorem dJ9_min_f86c9_7 : decode cJ9_min_f86c9 7 = .ok (.goto 4, 3) := by decide +kernel
theorem dJ9_min_f86c9_10 : decode cJ9_min_f86c9 10 = .ok (.lload_n 2, 1) := by decide +kernel
theorem dJ9_min_f86c9_11 : decode cJ9_min_f86c9 11 = .ok (.lreturn, 1) := by decide +kernel
theorem dJ7_fill_d0a16_0 : decode cJ7_fill_d0a16 0 = .ok (.iconst 0, 1) := by decide +kernel
theorem dJ7_fill_d0a16_1 : decode cJ7_fill_d0a16 1 = .ok (.istore_n 3, 1) := by decide +kernel
theorem dJ7_fill_d0a16_2 : decode cJ7_fill_d0a16 2 = .ok (.aload_n 0, 1) := by decide +kernel
theorem dJ7_fill_d0a16_3 : decode cJ7_fill_d0a16 3 = .ok (.arraylength, 1) := by decide +kernel
theorem dJ7_fill_d0a16_4 : decode cJ7_fill_d0a16 4 = .ok (.istore 4, 2) := by decide +kernel
theorem dJ7_fill_d0a16_6 : decode cJ7_fill_d0a16 6 = .ok (.iload_n 3, 1) := by decide +kernel
theorem dJ7_fill_d0a16_7 : decode cJ7_fill_d0a16 7 = .ok (.iload 4, 2) := by decide +kernel
theorem dJ7_fill_d0a16_9 : decode cJ7_fill_d0a16 9 = .ok (.if_icmp .ge 13, 3) := by decide +kernel
theorem dJ7_fill_d0a16_12 : decode cJ7_fill_d0a16 12 = .ok (.aload_n 0, 1) := by decide +kernel
theorem dJ7_fill_d0a16_13 : decode cJ7_fill_d0a16 13 = .ok (.iload_n 3, 1) := by decide +kernel
theorem dJ7_fill_d0a16_14 : decode cJ7_fill_d0a16 14 = .ok (.lload_n 1, 1) := by decide +kernel
theorem dJ7_fill_d0a16_15 : decode cJ7_fill_d0a16 15 = .ok (.lastore, 1) := by decide +kernel
theorem dJ7_fill_d0a16_16 : decode cJ7_fill_d0a16 16 = .ok (.iinc 3 1, 3) := by decide +kernel
theorem dJ7_fill_d0a16_19 : decode cJ7_fill_d0a16 19 = .ok (.goto (-13), 3) := by decide +kernel
theorem dJ7_fill_d0a16_22 : decode cJ7_fill_d0a16 22 = .ok (.return_, 1) := by decide +kernel
theorem dJ7_fill_53178_0 : decode cJ7_fill_53178 0 = .ok (.iconst 0, 1) := by decide +kernel
theorem dJ7_fill_53178_1 : decode cJ7_fill_53178 1 = .ok (.istore_n 2, 1) := by decide +kernel
theorem dJ7_fill_53178_2 : decode cJ7_fill_53178 2 = .ok (.aload_n 0, 1) := by decide +kernel
theorem dJ7_fill_53178_3 : decode cJ7_fill_53178 3 = .ok (.arraylength, 1) := by decide +kernel
theorem dJ7_fill_53178_4 : decode cJ7_fill_53178 4 = .ok (.istore_n 3, 1) := by decide +kernel
theorem dJ7_fill_53178_5 : decode cJ7_fill_53178 5 = .ok (.iload_n 2, 1) := by decide +kernel
theorem dJ7_fill_53178_6 : decode cJ7_fill_53178 6 = .ok (.iload_n 3, 1) := by decide +kernel
theorem dJ7_fill_53178_7 : decode cJ7_fill_53178 7 = .ok (.if_icmp .ge 13, 3) := by decide +kernel
theorem dJ7_fill_53178_10 : decode cJ7_fill_53178 10 = .ok (.aload_n 0, 1) := by decide +kernel
theorem dJ7_fill_53178_11 : decode cJ7_fill_53178 11 = .ok (.iload_n 2, 1) := by decide +kernel
theorem dJ7_fill_53178_12 : decode cJ7_fill_53178 12 = .ok (.iload_n 1, 1) := by decide +kernel
theorem dJ7_fill_53178_13 : decode cJ7_fill_53178 13 = .ok (.iastore, 1) := by decide +kernel
theorem dJ7_fill_53178_14 : decode cJ7_fill_53178 14 = .ok (.iinc 2 1, 3) := by decide +kernel
theorem dJ7_fill_53178_17 : decode cJ7_fill_53178 17 = .ok (.goto (-12), 3) := by decide +kernel
theorem dJ7_fill_53178_20 : decode cJ7_fill_53178 20 = .ok (.return_, 1) := by decide +kernel
set_option maxRecDepth 20000 in
theorem ggL_law_X3_init : GoodIn wsL_law wsX3_init := goodIn_r _ [8, 9, 10, 11, 12, 13, 14, 15, 16, 17, 18, 19, 20, 21, 22, 23, 24, 25, 26, 27, 28, 29, 30, 31, 32, 33, 34, 35, 36, 37, 38, 39, 40, 41, 42, 43, 44, 45, 46, 47, 48, 49, 304, 305, 306, 307, 308, 309, 310, 311, 312, 313, 314, 333, 334, 335, 336, 337, 338, 339, 340, 341, 342, 343] (by decide +kernel) (by decide +kernel)
set_option maxRecDepth 20000 in
theorem gL_law_X3_init : GoodIn wsL_law (wsX3_init) := ggL_law_X3_init
set_option maxRecDepth 20000 in
theorem ggL_law_X4_init : GoodIn wsL_law wsX4_init := goodIn_r _ [52, 53, 10, 11, 54, 12, 55, 33, 56, 57, 36, 58, 59, 60, 61, 62, 63, 64, 65, 66, 67, 68, 315, 316, 317, 318, 319, 320, 321, 322, 323, 324, 325, 326, 327, 328, 329, 330, 331, 332] (by decide +kernel) (by decide +kernel)
set_option maxRecDepth 20000 in
theorem gL_law_X4_init : GoodIn wsL_law (wsX4_init) := ggL_law_X4_init
set_option maxRecDepth 20000 in
theorem ggL_law_X3_size : GoodIn wsL_law wsX3_size := goodIn_r _ [72, 28, 13, 17, 29, 73, 74, 75, 16, 76, 77, 304, 305, 306, 307, 308, 309, 310, 311, 312, 313, 314, 333, 334, 335, 336, 337] (by decide +kernel) (by decide +kernel)
set_option maxRecDepth 20000 in
theorem gL_law_X3_size : GoodIn wsL_law (wsV RL 13 RX3 yX3_size wsX3_size) := goodIn_app (goodIn_of _ (by decide +kernel)) ggL_law_X3_size
set_option maxRecDepth 20000 in
theorem ggL_law_X4_size : GoodIn wsL_law wsX4_size := goodIn_r _ [81, 54, 82, 55, 83, 315, 316, 317, 318, 319, 320, 321, 322, 323, 324, 325, 326, 327, 328, 329, 330, 331, 332] (by decide +kernel) (by decide +kernel)
set_option maxRecDepth 20000 in
theorem gL_law_X4_size : GoodIn wsL_law (wsV RL 17 RX4 yX4_size wsX4_size) := goodIn_app (goodIn_of _ (by decide +kernel)) ggL_law_X4_size
set_option maxRecDepth 20000 in
theorem ggL_law_X3_heat : GoodIn wsL_law wsX3_heat := goodIn_r _ [87, 13, 29, 88, 89, 90, 2, 91, 28, 304, 305, 306, 307, 308, 309, 310, 311, 312, 313, 314] (by decide +kernel) (by decide +kernel)
set_option maxRecDepth 20000 in
theorem gL_law_X3_heat : GoodIn wsL_law (wsV RL 18 RX3 yX3_heat wsX3_heat) := goodIn_app (goodIn_of _ (by decide +kernel)) ggL_law_X3_heat
set_option maxRecDepth 20000 in
theorem ggL_law_X4_heat : GoodIn wsL_law wsX4_heat := goodIn_r _ [95, 55, 83, 96, 97, 98, 5, 99, 54, 315, 316, 317, 318, 319, 320, 321, 322, 323, 324, 325, 326, 327, 328, 329, 330, 331, 332] (by decide +kernel) (by decide +kernel)
set_option maxRecDepth 20000 in
theorem gL_law_X4_heat : GoodIn wsL_law (wsV RL 22 RX4 yX4_heat wsX4_heat) := goodIn_app (goodIn_of _ (by decide +kernel)) ggL_law_X4_heat
set_option maxRecDepth 20000 in
theorem ggL_law_X3_way : GoodIn wsL_law wsX3_way := goodIn_r _ [103, 104, 105, 106, 29, 17, 88, 89, 90, 2, 91, 28, 107, 108, 109, 16, 110, 111, 112, 37, 113, 114, 115, 116, 38, 117, 118, 119, 120, 77, 34, 35, 121, 122, 123, 124, 125, 126, 127, 128, 129, 130, 131, 132, 133, 134, 135, 136, 304, 305, 306, 307, 308, 309, 310, 311, 312, 313, 314, 333, 334, 335, 336, 337] (by decide +kernel) (by decide +kernel)
set_option maxRecDepth 20000 in
theorem gL_law_X3_way : GoodIn wsL_law (wsV RL 23 RX3 yX3_way wsX3_way) := goodIn_app (goodIn_of _ (by decide +kernel)) ggL_law_X3_way
set_option maxRecDepth 20000 in
theorem ggL_law_X4_way : GoodIn wsL_law wsX4_way := goodIn_r _ [140, 141, 142, 143, 82, 144, 56, 57, 58, 145, 146, 114, 115, 116, 59, 83, 96, 97, 98, 5, 99, 54, 147, 148, 149, 150, 315, 316, 317, 318, 319, 320, 321, 322, 323, 324, 325, 326, 327, 328, 329, 330, 331, 332] (by decide +kernel) (by decide +kernel)
set_option maxRecDepth 20000 in
theorem gL_law_X4_way : GoodIn wsL_law (wsV RL 27 RX4 yX4_way wsX4_way) := goodIn_app (goodIn_of _ (by decide +kernel)) ggL_law_X4_way
set_option maxRecDepth 20000 in
theorem ggL_law_X3_count : GoodIn wsL_law wsX3_count := goodIn_r _ [154, 17, 155, 156, 157, 16, 158, 37, 117, 118, 119, 120, 77, 34, 35, 304, 305, 306, 307, 308, 309, 310, 311, 312, 313, 314, 333, 334, 335, 336, 337] (by decide +kernel) (by decide +kernel)
set_option maxRecDepth 20000 in
theorem gL_law_X3_count : GoodIn wsL_law (wsV RL 28 RX3 yX3_count wsX3_count) := goodIn_app (goodIn_of _ (by decide +kernel)) ggL_law_X3_count
set_option maxRecDepth 20000 in
theorem ggL_law_X4_count : GoodIn wsL_law wsX4_count := goodIn_r _ [162, 58, 147, 148, 149, 5, 150, 82, 56, 57, 315, 316, 317, 318, 319, 320, 321, 322, 323, 324, 325, 326, 327, 328, 329, 330, 331, 332] (by decide +kernel) (by decide +kernel)
set_option maxRecDepth 20000 in
theorem gL_law_X4_count : GoodIn wsL_law (wsV RL 32 RX4 yX4_count wsX4_count) := goodIn_app (goodIn_of _ (by decide +kernel)) ggL_law_X4_count
set_option maxRecDepth 20000 in
theorem ggL_law_X3_length : GoodIn wsL_law wsX3_length := goodIn_r _ [166, 26, 167, 168, 169, 2, 170, 29, 21, 17, 27, 25, 171, 172, 173, 174, 175, 176, 177, 28, 13, 178, 179, 180, 24, 181, 182, 49, 183, 184, 185, 186, 187, 188, 189, 190, 48, 191, 192, 193, 20, 194, 43, 42, 195, 196, 197, 198, 199, 200, 201, 202, 203, 204, 205, 206, 207, 208, 209, 210, 211, 212, 213, 214, 215, 44, 216, 217, 218, 219, 220, 221, 222, 223, 224, 225, 226, 227, 228, 229, 230, 231, 232, 233, 234, 235, 16, 236, 77, 38, 34, 35, 37, 237, 238, 239, 240, 241, 304, 305, 306, 307, 308, 309, 310, 311, 312, 313, 314, 341, 342, 343, 338, 339, 340, 333, 334, 335, 336, 337] (by decide +kernel) (by decide +kernel)
set_option maxRecDepth 20000 in
theorem gL_law_X3_length : GoodIn wsL_law (wsV RL 33 RX3 yX3_length wsX3_length) := goodIn_app (goodIn_of _ (by decide +kernel)) ggL_law_X3_length
set_option maxRecDepth 20000 in
theorem ggL_law_X4_length : GoodIn wsL_law wsX4_length := goodIn_r _ [245, 246, 247, 248, 249, 5, 250, 83, 54, 63, 55, 62, 61, 65, 64, 251, 252, 253, 254, 255, 82, 66, 59, 58, 56, 57, 256, 257, 258, 259, 260, 261, 262, 263, 67, 141, 264, 265, 266, 267, 268, 269, 270, 271, 147, 148, 149, 150, 315, 316, 317, 318, 319, 320, 321, 322, 323, 324, 325, 326, 327, 328, 329, 330, 331, 332] (by decide +kernel) (by decide +kernel)
set_option maxRecDepth 20000 in
theorem gL_law_X4_length : GoodIn wsL_law (wsV RL 37 RX4 yX4_length wsX4_length) := goodIn_app (goodIn_of _ (by decide +kernel)) ggL_law_X4_length
set_option maxRecDepth 20000 in
theorem ggL_law_X3_row : GoodIn wsL_law wsX3_row := goodIn_r _ [275, 27, 26, 167, 168, 169, 2, 170, 29, 21, 17, 25, 171, 172, 173, 174, 175, 176, 177, 28, 13, 178, 179, 180, 24, 181, 182, 49, 183, 184, 185, 186, 187, 188, 189, 190, 48, 191, 192, 193, 20, 194, 43, 42, 195, 196, 197, 198, 199, 200, 201, 202, 203, 204, 205, 206, 207, 208, 209, 210, 211, 212, 213, 214, 215, 44, 216, 217, 218, 219, 220, 221, 222, 223, 224, 225, 226, 227, 228, 229, 230, 231, 232, 233, 234, 235, 16, 236, 77, 38, 34, 35, 37, 237, 238, 239, 240, 241, 276, 277, 278, 279, 280, 281, 282, 283, 304, 305, 306, 307, 308, 309, 310, 311, 312, 313, 314, 341, 342, 343, 338, 339, 340, 333, 334, 335, 336, 337] (by decide +kernel) (by decide +kernel)
set_option maxRecDepth 20000 in
theorem gL_law_X3_row : GoodIn wsL_law (wsV RL 38 RX3 yX3_row wsX3_row) := goodIn_app (goodIn_of _ (by decide +kernel)) ggL_law_X3_row
set_option maxRecDepth 20000 in
theorem ggL_law_X4_row : GoodIn wsL_law wsX4_row := goodIn_r _ [287, 246, 251, 64, 65, 247, 248, 249, 5, 250, 83, 54, 63, 55, 62, 61, 252, 253, 254, 255, 82, 66, 59, 58, 56, 57, 256, 257, 258, 259, 260, 261, 262, 263, 67, 141, 264, 265, 266, 267, 268, 269, 270, 271, 147, 148, 149, 150, 315, 316, 317, 318, 319, 320, 321, 322, 323, 324, 325, 326, 327, 328, 329, 330, 331, 332] (by decide +kernel) (by decide +kernel)
set_option maxRecDepth 20000 in
theorem gL_law_X4_row : GoodIn wsL_law (wsV RL 42 RX4 yX4_row wsX4_row) := goodIn_app (goodIn_of _ (by decide +kernel)) ggL_law_X4_row
set_option maxRecDepth 20000 in
theorem ggL_law_X3_weight : GoodIn wsL_law wsX3_weight := goodIn_r _ [291, 173, 172, 171, 104, 167, 168, 169, 2, 170, 29, 21, 26, 17, 27, 25, 174, 175, 176, 177, 28, 13, 178, 179, 180, 24, 181, 182, 49, 183, 184, 185, 186, 187, 188, 189, 190, 48, 191, 192, 193, 20, 194, 43, 42, 195, 196, 197, 198, 199, 200, 201, 202, 203, 204, 205, 206, 207, 208, 209, 210, 211, 212, 213, 214, 215, 44, 216, 217, 218, 219, 220, 221, 222, 223, 224, 225, 226, 227, 228, 229, 230, 231, 232, 233, 234, 235, 16, 236, 77, 38, 34, 35, 37, 237, 238, 239, 240, 241, 276, 277, 278, 279, 304, 305, 306, 307, 308, 309, 310, 311, 312, 313, 314, 341, 342, 343, 338, 339, 340, 333, 334, 335, 336, 337] (by decide +kernel) (by decide +kernel)
set_option maxRecDepth 20000 in
theorem gL_law_X3_weight : GoodIn wsL_law (wsV RL 43 RX3 yX3_weight wsX3_weight) := goodIn_app (goodIn_of _ (by decide +kernel)) ggL_law_X3_weight
set_option maxRecDepth 20000 in
theorem ggL_law_X4_weight : GoodIn wsL_law wsX4_weight := goodIn_r _ [295, 141, 54, 68, 251, 64, 65, 246, 247, 248, 249, 5, 250, 83, 63, 55, 62, 61, 252, 253, 254, 255, 82, 66, 59, 58, 56, 57, 256, 257, 258, 259, 260, 261, 262, 263, 67, 264, 265, 266, 267, 268, 269, 270, 271, 147, 148, 149, 150, 315, 316, 317, 318, 319, 320, 321, 322, 323, 324, 325, 326, 327, 328, 329, 330, 331, 332] (by decide +kernel) (by decide +kernel)
set_option maxRecDepth 20000 in
theorem gL_law_X4_weight : GoodIn wsL_law (wsV RL 47 RX4 yX4_weight wsX4_weight) := goodIn_app (goodIn_of _ (by decide +kernel)) ggL_law_X4_weight
set_option maxRecDepth 20000 in
theorem ggL_law_X3_chain : GoodIn wsL_law wsX3_chain := goodIn_r _ [299, 21, 167, 168, 169, 2, 170, 29, 26, 17, 27, 25, 171, 172, 173, 174, 175, 176, 177, 28, 13, 178, 179, 180, 24, 181, 182, 49, 183, 184, 185, 186, 187, 188, 189, 190, 48, 191, 192, 193, 20, 194, 43, 42, 195, 196, 197, 198, 199, 200, 201, 202, 203, 204, 205, 206, 207, 208, 209, 210, 211, 212, 213, 214, 215, 44, 216, 217, 218, 219, 220, 221, 222, 223, 224, 225, 226, 227, 228, 229, 230, 231, 232, 233, 234, 235, 16, 236, 77, 38, 34, 35, 37, 237, 238, 239, 240, 241, 88, 89, 90, 91, 304, 305, 306, 307, 308, 309, 310, 311, 312, 313, 314, 338, 339, 340, 341, 342, 343, 333, 334, 335, 336, 337] (by decide +kernel) (by decide +kernel)
set_option maxRecDepth 20000 in
theorem gL_law_X3_chain : GoodIn wsL_law (wsV RL 48 RX3 yX3_chain wsX3_chain) := goodIn_app (goodIn_of _ (by decide +kernel)) ggL_law_X3_chain
set_option maxRecDepth 20000 in
theorem ggL_law_X4_chain : GoodIn wsL_law wsX4_chain := goodIn_r _ [303, 55, 61, 63, 247, 248, 249, 5, 250, 83, 246, 54, 62, 65, 64, 251, 252, 253, 254, 255, 82, 66, 59, 58, 56, 57, 256, 257, 258, 259, 260, 261, 262, 263, 67, 141, 264, 265, 266, 267, 268, 269, 270, 271, 147, 148, 149, 150, 96, 97, 98, 99, 315, 316, 317, 318, 319, 320, 321, 322, 323, 324, 325, 326, 327, 328, 329, 330, 331, 332] (by decide +kernel) (by decide +kernel)
set_option maxRecDepth 20000 in
theorem gL_law_X4_chain : GoodIn wsL_law (wsV RL 51 RX4 yX4_chain wsX4_chain) := goodIn_app (goodIn_of _ (by decide +kernel)) ggL_law_X4_chain
theorem dL_law_0 : decode cL_law 0 = .ok (.new 7, 3) := by decide +kernel
theorem dL_law_3 : decode cL_law 3 = .ok (.dup, 1) := by decide +kernel
theorem dL_law_4 : decode cL_law 4 = .ok (.invokespecial 9, 3) := by decide +kernel
theorem dL_law_7 : decode cL_law 7 = .ok (.astore_n 1, 1) := by decide +kernel
theorem dL_law_8 : decode cL_law 8 = .ok (.new 10, 3) := by decide +kernel
theorem dL_law_11 : decode cL_law 11 = .ok (.dup, 1) := by decide +kernel
theorem dL_law_12 : decode cL_law 12 = .ok (.invokespecial 12, 3) := by decide +kernel
theorem dL_law_15 : decode cL_law 15 = .ok (.astore_n 2, 1) := by decide +kernel
theorem dL_law_16 : decode cL_law 16 = .ok (.iconst 0, 1) := by decide +kernel
theorem dL_law_17 : decode cL_law 17 = .ok (.istore_n 3, 1) := by decide +kernel
theorem dL_law_18 : decode cL_law 18 = .ok (.iload_n 3, 1) := by decide +kernel
theorem dL_law_19 : decode cL_law 19 = .ok (.aload_n 0, 1) := by decide +kernel
theorem dL_law_20 : decode cL_law 20 = .ok (.arraylength, 1) := by decide +kernel
theorem dL_law_21 : decode cL_law 21 = .ok (.iconst 5, 1) := by decide +kernel
theorem dL_law_22 : decode cL_law 22 = .ok (.isub, 1) := by decide +kernel
theorem dL_law_23 : decode cL_law 23 = .ok (.if_icmp .gt 322, 3) := by decide +kernel
theorem dL_law_26 : decode cL_law 26 = .ok (.aload_n 0, 1) := by decide +kernel
theorem dL_law_27 : decode cL_law 27 = .ok (.iload_n 3, 1) := by decide +kernel
theorem dL_law_28 : decode cL_law 28 = .ok (.iaload, 1) := by decide +kernel
theorem dL_law_29 : decode cL_law 29 = .ok (.bipush 7, 2) := by decide +kernel
theorem dL_law_31 : decode cL_law 31 = .ok (.iand, 1) := by decide +kernel
theorem dL_law_32 : decode cL_law 32 = .ok (.tableswitch 307 0 7 #[48, 71, 120, 190, 224, 237, 260, 284], 48) := by decide +kernel
theorem dL_law_80 : decode cL_law 80 = .ok (.aload_n 1, 1) := by decide +kernel
theorem dL_law_81 : decode cL_law 81 = .ok (.aload_n 0, 1) := by decide +kernel
theorem dL_law_82 : decode cL_law 82 = .ok (.iload_n 3, 1) := by decide +kernel
theorem dL_law_83 : decode cL_law 83 = .ok (.iconst 1, 1) := by decide +kernel
theorem dL_law_84 : decode cL_law 84 = .ok (.iadd, 1) := by decide +kernel
theorem dL_law_85 : decode cL_law 85 = .ok (.iaload, 1) := by decide +kernel
theorem dL_law_86 : decode cL_law 86 = .ok (.invokevirtual 13, 3) := by decide +kernel
theorem dL_law_89 : decode cL_law 89 = .ok (.aload_n 2, 1) := by decide +kernel
theorem dL_law_90 : decode cL_law 90 = .ok (.aload_n 0, 1) := by decide +kernel
theorem dL_law_91 : decode cL_law 91 = .ok (.iload_n 3, 1) := by decide +kernel
theorem dL_law_92 : decode cL_law 92 = .ok (.iconst 1, 1) := by decide +kernel
theorem dL_law_93 : decode cL_law 93 = .ok (.iadd, 1) := by decide +kernel
theorem dL_law_94 : decode cL_law 94 = .ok (.iaload, 1) := by decide +kernel
theorem dL_law_95 : decode cL_law 95 = .ok (.invokevirtual 17, 3) := by decide +kernel
theorem dL_law_98 : decode cL_law 98 = .ok (.if_icmp .eq 241, 3) := by decide +kernel
theorem dL_law_101 : decode cL_law 101 = .ok (.iconst 0, 1) := by decide +kernel
theorem dL_law_102 : decode cL_law 102 = .ok (.ireturn, 1) := by decide +kernel
theorem dL_law_103 : decode cL_law 103 = .ok (.aload_n 1, 1) := by decide +kernel
theorem dL_law_104 : decode cL_law 104 = .ok (.aload_n 0, 1) := by decide +kernel
theorem dL_law_105 : decode cL_law 105 = .ok (.iload_n 3, 1) := by decide +kernel
theorem dL_law_106 : decode cL_law 106 = .ok (.iconst 1, 1) := by decide +kernel
theorem dL_law_107 : decode cL_law 107 = .ok (.iadd, 1) := by decide +kernel
theorem dL_law_108 : decode cL_law 108 = .ok (.iaload, 1) := by decide +kernel
theorem dL_law_109 : decode cL_law 109 = .ok (.aload_n 0, 1) := by decide +kernel
theorem dL_law_110 : decode cL_law 110 = .ok (.iload_n 3, 1) := by decide +kernel
theorem dL_law_111 : decode cL_law 111 = .ok (.iconst 2, 1) := by decide +kernel
theorem dL_law_112 : decode cL_law 112 = .ok (.iadd, 1) := by decide +kernel
theorem dL_law_113 : decode cL_law 113 = .ok (.iaload, 1) := by decide +kernel
theorem dL_law_114 : decode cL_law 114 = .ok (.ifCond .eq 7, 3) := by decide +kernel
theorem dL_law_117 : decode cL_law 117 = .ok (.iconst 1, 1) := by decide +kernel
theorem dL_law_118 : decode cL_law 118 = .ok (.goto 4, 3) := by decide +kernel
theorem dL_law_121 : decode cL_law 121 = .ok (.iconst 0, 1) := by decide +kernel
theorem dL_law_122 : decode cL_law 122 = .ok (.invokevirtual 18, 3) := by decide +kernel
theorem dL_law_125 : decode cL_law 125 = .ok (.aload_n 2, 1) := by decide +kernel
theorem dL_law_126 : decode cL_law 126 = .ok (.aload_n 0, 1) := by decide +kernel
theorem dL_law_127 : decode cL_law 127 = .ok (.iload_n 3, 1) := by decide +kernel
theorem dL_law_128 : decode cL_law 128 = .ok (.iconst 1, 1) := by decide +kernel
theorem dL_law_129 : decode cL_law 129 = .ok (.iadd, 1) := by decide +kernel
theorem dL_law_130 : decode cL_law 130 = .ok (.iaload, 1) := by decide +kernel
theorem dL_law_131 : decode cL_law 131 = .ok (.aload_n 0, 1) := by decide +kernel
theorem dL_law_132 : decode cL_law 132 = .ok (.iload_n 3, 1) := by decide +kernel
theorem dL_law_133 : decode cL_law 133 = .ok (.iconst 2, 1) := by decide +kernel
theorem dL_law_134 : decode cL_law 134 = .ok (.iadd, 1) := by decide +kernel
theorem dL_law_135 : decode cL_law 135 = .ok (.iaload, 1) := by decide +kernel
theorem dL_law_136 : decode cL_law 136 = .ok (.ifCond .eq 7, 3) := by decide +kernel
theorem dL_law_139 : decode cL_law 139 = .ok (.iconst 1, 1) := by decide +kernel
theorem dL_law_140 : decode cL_law 140 = .ok (.goto 4, 3) := by decide +kernel
theorem dL_law_143 : decode cL_law 143 = .ok (.iconst 0, 1) := by decide +kernel
theorem dL_law_144 : decode cL_law 144 = .ok (.invokevirtual 22, 3) := by decide +kernel
theorem dL_law_147 : decode cL_law 147 = .ok (.if_icmp .eq 192, 3) := by decide +kernel
theorem dL_law_150 : decode cL_law 150 = .ok (.iconst 0, 1) := by decide +kernel
theorem dL_law_151 : decode cL_law 151 = .ok (.ireturn, 1) := by decide +kernel
theorem dL_law_152 : decode cL_law 152 = .ok (.aload_n 1, 1) := by decide +kernel
theorem dL_law_153 : decode cL_law 153 = .ok (.aload_n 0, 1) := by decide +kernel
theorem dL_law_154 : decode cL_law 154 = .ok (.iload_n 3, 1) := by decide +kernel
theorem dL_law_155 : decode cL_law 155 = .ok (.iconst 1, 1) := by decide +kernel
theorem dL_law_156 : decode cL_law 156 = .ok (.iadd, 1) := by decide +kernel
theorem dL_law_157 : decode cL_law 157 = .ok (.iaload, 1) := by decide +kernel
theorem dL_law_158 : decode cL_law 158 = .ok (.aload_n 0, 1) := by decide +kernel
theorem dL_law_159 : decode cL_law 159 = .ok (.iload_n 3, 1) := by decide +kernel
theorem dL_law_160 : decode cL_law 160 = .ok (.iconst 2, 1) := by decide +kernel
theorem dL_law_161 : decode cL_law 161 = .ok (.iadd, 1) := by decide +kernel
theorem dL_law_162 : decode cL_law 162 = .ok (.iaload, 1) := by decide +kernel
theorem dL_law_163 : decode cL_law 163 = .ok (.aload_n 0, 1) := by decide +kernel
theorem dL_law_164 : decode cL_law 164 = .ok (.iload_n 3, 1) := by decide +kernel
theorem dL_law_165 : decode cL_law 165 = .ok (.iconst 3, 1) := by decide +kernel
theorem dL_law_166 : decode cL_law 166 = .ok (.iadd, 1) := by decide +kernel
theorem dL_law_167 : decode cL_law 167 = .ok (.iaload, 1) := by decide +kernel
theorem dL_law_168 : decode cL_law 168 = .ok (.aload_n 0, 1) := by decide +kernel
theorem dL_law_169 : decode cL_law 169 = .ok (.iload_n 3, 1) := by decide +kernel
theorem dL_law_170 : decode cL_law 170 = .ok (.iconst 4, 1) := by decide +kernel
theorem dL_law_171 : decode cL_law 171 = .ok (.iadd, 1) := by decide +kernel
theorem dL_law_172 : decode cL_law 172 = .ok (.iaload, 1) := by decide +kernel
theorem dL_law_173 : decode cL_law 173 = .ok (.ifCond .eq 7, 3) := by decide +kernel
theorem dL_law_176 : decode cL_law 176 = .ok (.iconst 1, 1) := by decide +kernel
theorem dL_law_177 : decode cL_law 177 = .ok (.goto 4, 3) := by decide +kernel
theorem dL_law_180 : decode cL_law 180 = .ok (.iconst 0, 1) := by decide +kernel
theorem dL_law_181 : decode cL_law 181 = .ok (.invokevirtual 23, 3) := by decide +kernel
theorem dL_law_184 : decode cL_law 184 = .ok (.aload_n 2, 1) := by decide +kernel
theorem dL_law_185 : decode cL_law 185 = .ok (.aload_n 0, 1) := by decide +kernel
theorem dL_law_186 : decode cL_law 186 = .ok (.iload_n 3, 1) := by decide +kernel
theorem dL_law_187 : decode cL_law 187 = .ok (.iconst 1, 1) := by decide +kernel
theorem dL_law_188 : decode cL_law 188 = .ok (.iadd, 1) := by decide +kernel
theorem dL_law_189 : decode cL_law 189 = .ok (.iaload, 1) := by decide +kernel
theorem dL_law_190 : decode cL_law 190 = .ok (.aload_n 0, 1) := by decide +kernel
theorem dL_law_191 : decode cL_law 191 = .ok (.iload_n 3, 1) := by decide +kernel
theorem dL_law_192 : decode cL_law 192 = .ok (.iconst 2, 1) := by decide +kernel
theorem dL_law_193 : decode cL_law 193 = .ok (.iadd, 1) := by decide +kernel
theorem dL_law_194 : decode cL_law 194 = .ok (.iaload, 1) := by decide +kernel
theorem dL_law_195 : decode cL_law 195 = .ok (.aload_n 0, 1) := by decide +kernel
theorem dL_law_196 : decode cL_law 196 = .ok (.iload_n 3, 1) := by decide +kernel
theorem dL_law_197 : decode cL_law 197 = .ok (.iconst 3, 1) := by decide +kernel
theorem dL_law_198 : decode cL_law 198 = .ok (.iadd, 1) := by decide +kernel
theorem dL_law_199 : decode cL_law 199 = .ok (.iaload, 1) := by decide +kernel
theorem dL_law_200 : decode cL_law 200 = .ok (.aload_n 0, 1) := by decide +kernel
theorem dL_law_201 : decode cL_law 201 = .ok (.iload_n 3, 1) := by decide +kernel
theorem dL_law_202 : decode cL_law 202 = .ok (.iconst 4, 1) := by decide +kernel
theorem dL_law_203 : decode cL_law 203 = .ok (.iadd, 1) := by decide +kernel
theorem dL_law_204 : decode cL_law 204 = .ok (.iaload, 1) := by decide +kernel
theorem dL_law_205 : decode cL_law 205 = .ok (.ifCond .eq 7, 3) := by decide +kernel
theorem dL_law_208 : decode cL_law 208 = .ok (.iconst 1, 1) := by decide +kernel
theorem dL_law_209 : decode cL_law 209 = .ok (.goto 4, 3) := by decide +kernel
theorem dL_law_212 : decode cL_law 212 = .ok (.iconst 0, 1) := by decide +kernel
theorem dL_law_213 : decode cL_law 213 = .ok (.invokevirtual 27, 3) := by decide +kernel
theorem dL_law_216 : decode cL_law 216 = .ok (.lcmp, 1) := by decide +kernel
theorem dL_law_217 : decode cL_law 217 = .ok (.ifCond .eq 122, 3) := by decide +kernel
theorem dL_law_220 : decode cL_law 220 = .ok (.iconst 0, 1) := by decide +kernel
theorem dL_law_221 : decode cL_law 221 = .ok (.ireturn, 1) := by decide +kernel
theorem dL_law_222 : decode cL_law 222 = .ok (.aload_n 1, 1) := by decide +kernel
theorem dL_law_223 : decode cL_law 223 = .ok (.aload_n 0, 1) := by decide +kernel
theorem dL_law_224 : decode cL_law 224 = .ok (.iload_n 3, 1) := by decide +kernel
theorem dL_law_225 : decode cL_law 225 = .ok (.iconst 1, 1) := by decide +kernel
theorem dL_law_226 : decode cL_law 226 = .ok (.iadd, 1) := by decide +kernel
theorem dL_law_227 : decode cL_law 227 = .ok (.iaload, 1) := by decide +kernel
theorem dL_law_228 : decode cL_law 228 = .ok (.aload_n 0, 1) := by decide +kernel
theorem dL_law_229 : decode cL_law 229 = .ok (.iload_n 3, 1) := by decide +kernel
theorem dL_law_230 : decode cL_law 230 = .ok (.iconst 2, 1) := by decide +kernel
theorem dL_law_231 : decode cL_law 231 = .ok (.iadd, 1) := by decide +kernel
theorem dL_law_232 : decode cL_law 232 = .ok (.iaload, 1) := by decide +kernel
theorem dL_law_233 : decode cL_law 233 = .ok (.invokevirtual 28, 3) := by decide +kernel
theorem dL_law_236 : decode cL_law 236 = .ok (.aload_n 2, 1) := by decide +kernel
theorem dL_law_237 : decode cL_law 237 = .ok (.aload_n 0, 1) := by decide +kernel
theorem dL_law_238 : decode cL_law 238 = .ok (.iload_n 3, 1) := by decide +kernel
theorem dL_law_239 : decode cL_law 239 = .ok (.iconst 1, 1) := by decide +kernel
theorem dL_law_240 : decode cL_law 240 = .ok (.iadd, 1) := by decide +kernel
theorem dL_law_241 : decode cL_law 241 = .ok (.iaload, 1) := by decide +kernel
theorem dL_law_242 : decode cL_law 242 = .ok (.aload_n 0, 1) := by decide +kernel
theorem dL_law_243 : decode cL_law 243 = .ok (.iload_n 3, 1) := by decide +kernel
theorem dL_law_244 : decode cL_law 244 = .ok (.iconst 2, 1) := by decide +kernel
theorem dL_law_245 : decode cL_law 245 = .ok (.iadd, 1) := by decide +kernel
theorem dL_law_246 : decode cL_law 246 = .ok (.iaload, 1) := by decide +kernel
theorem dL_law_247 : decode cL_law 247 = .ok (.invokevirtual 32, 3) := by decide +kernel
theorem dL_law_250 : decode cL_law 250 = .ok (.lcmp, 1) := by decide +kernel
theorem dL_law_251 : decode cL_law 251 = .ok (.ifCond .eq 88, 3) := by decide +kernel
theorem dL_law_254 : decode cL_law 254 = .ok (.iconst 0, 1) := by decide +kernel
theorem dL_law_255 : decode cL_law 255 = .ok (.ireturn, 1) := by decide +kernel
theorem dL_law_256 : decode cL_law 256 = .ok (.aload_n 1, 1) := by decide +kernel
theorem dL_law_257 : decode cL_law 257 = .ok (.invokevirtual 33, 3) := by decide +kernel
theorem dL_law_260 : decode cL_law 260 = .ok (.aload_n 2, 1) := by decide +kernel
theorem dL_law_261 : decode cL_law 261 = .ok (.invokevirtual 37, 3) := by decide +kernel
theorem dL_law_264 : decode cL_law 264 = .ok (.if_icmp .eq 75, 3) := by decide +kernel
theorem dL_law_267 : decode cL_law 267 = .ok (.iconst 0, 1) := by decide +kernel
theorem dL_law_268 : decode cL_law 268 = .ok (.ireturn, 1) := by decide +kernel
theorem dL_law_269 : decode cL_law 269 = .ok (.aload_n 1, 1) := by decide +kernel
theorem dL_law_270 : decode cL_law 270 = .ok (.aload_n 0, 1) := by decide +kernel
theorem dL_law_271 : decode cL_law 271 = .ok (.iload_n 3, 1) := by decide +kernel
theorem dL_law_272 : decode cL_law 272 = .ok (.iconst 1, 1) := by decide +kernel
theorem dL_law_273 : decode cL_law 273 = .ok (.iadd, 1) := by decide +kernel
theorem dL_law_274 : decode cL_law 274 = .ok (.iaload, 1) := by decide +kernel
theorem dL_law_275 : decode cL_law 275 = .ok (.invokevirtual 38, 3) := by decide +kernel
theorem dL_law_278 : decode cL_law 278 = .ok (.aload_n 2, 1) := by decide +kernel
theorem dL_law_279 : decode cL_law 279 = .ok (.aload_n 0, 1) := by decide +kernel
theorem dL_law_280 : decode cL_law 280 = .ok (.iload_n 3, 1) := by decide +kernel
theorem dL_law_281 : decode cL_law 281 = .ok (.iconst 1, 1) := by decide +kernel
theorem dL_law_282 : decode cL_law 282 = .ok (.iadd, 1) := by decide +kernel
theorem dL_law_283 : decode cL_law 283 = .ok (.iaload, 1) := by decide +kernel
theorem dL_law_284 : decode cL_law 284 = .ok (.invokevirtual 42, 3) := by decide +kernel
theorem dL_law_287 : decode cL_law 287 = .ok (.if_icmp .eq 52, 3) := by decide +kernel
theorem dL_law_290 : decode cL_law 290 = .ok (.iconst 0, 1) := by decide +kernel
theorem dL_law_291 : decode cL_law 291 = .ok (.ireturn, 1) := by decide +kernel
theorem dL_law_292 : decode cL_law 292 = .ok (.aload_n 1, 1) := by decide +kernel
theorem dL_law_293 : decode cL_law 293 = .ok (.aload_n 0, 1) := by decide +kernel
theorem dL_law_294 : decode cL_law 294 = .ok (.iload_n 3, 1) := by decide +kernel
theorem dL_law_295 : decode cL_law 295 = .ok (.iconst 1, 1) := by decide +kernel
theorem dL_law_296 : decode cL_law 296 = .ok (.iadd, 1) := by decide +kernel
theorem dL_law_297 : decode cL_law 297 = .ok (.iaload, 1) := by decide +kernel
theorem dL_law_298 : decode cL_law 298 = .ok (.invokevirtual 43, 3) := by decide +kernel
theorem dL_law_301 : decode cL_law 301 = .ok (.aload_n 2, 1) := by decide +kernel
theorem dL_law_302 : decode cL_law 302 = .ok (.aload_n 0, 1) := by decide +kernel
theorem dL_law_303 : decode cL_law 303 = .ok (.iload_n 3, 1) := by decide +kernel
theorem dL_law_304 : decode cL_law 304 = .ok (.iconst 1, 1) := by decide +kernel
theorem dL_law_305 : decode cL_law 305 = .ok (.iadd, 1) := by decide +kernel
theorem dL_law_306 : decode cL_law 306 = .ok (.iaload, 1) := by decide +kernel
theorem dL_law_307 : decode cL_law 307 = .ok (.invokevirtual 47, 3) := by decide +kernel
theorem dL_law_310 : decode cL_law 310 = .ok (.lcmp, 1) := by decide +kernel
theorem dL_law_311 : decode cL_law 311 = .ok (.ifCond .eq 28, 3) := by decide +kernel
theorem dL_law_314 : decode cL_law 314 = .ok (.iconst 0, 1) := by decide +kernel
theorem dL_law_315 : decode cL_law 315 = .ok (.ireturn, 1) := by decide +kernel
theorem dL_law_316 : decode cL_law 316 = .ok (.aload_n 1, 1) := by decide +kernel
theorem dL_law_317 : decode cL_law 317 = .ok (.aload_n 0, 1) := by decide +kernel
theorem dL_law_318 : decode cL_law 318 = .ok (.iload_n 3, 1) := by decide +kernel
theorem dL_law_319 : decode cL_law 319 = .ok (.iconst 1, 1) := by decide +kernel
theorem dL_law_320 : decode cL_law 320 = .ok (.iadd, 1) := by decide +kernel
theorem dL_law_321 : decode cL_law 321 = .ok (.iaload, 1) := by decide +kernel
theorem dL_law_322 : decode cL_law 322 = .ok (.invokevirtual 48, 3) := by decide +kernel
theorem dL_law_325 : decode cL_law 325 = .ok (.aload_n 2, 1) := by decide +kernel
theorem dL_law_326 : decode cL_law 326 = .ok (.aload_n 0, 1) := by decide +kernel
theorem dL_law_327 : decode cL_law 327 = .ok (.iload_n 3, 1) := by decide +kernel
theorem dL_law_328 : decode cL_law 328 = .ok (.iconst 1, 1) := by decide +kernel
theorem dL_law_329 : decode cL_law 329 = .ok (.iadd, 1) := by decide +kernel
theorem dL_law_330 : decode cL_law 330 = .ok (.iaload, 1) := by decide +kernel
theorem dL_law_331 : decode cL_law 331 = .ok (.invokevirtual 51, 3) := by decide +kernel
theorem dL_law_334 : decode cL_law 334 = .ok (.if_icmp .eq 5, 3) := by decide +kernel
theorem dL_law_337 : decode cL_law 337 = .ok (.iconst 0, 1) := by decide +kernel
theorem dL_law_338 : decode cL_law 338 = .ok (.ireturn, 1) := by decide +kernel
theorem dL_law_339 : decode cL_law 339 = .ok (.iinc 3 5, 3) := by decide +kernel
theorem dL_law_342 : decode cL_law 342 = .ok (.goto (-324), 3) := by decide +kernel
theorem dL_law_345 : decode cL_law 345 = .ok (.iconst 1, 1) := by decide +kernel
theorem dL_law_346 : decode cL_law 346 = .ok (.ireturn, 1) := by decide +kernel
end
section
/-! THE CLAIM OUT OF ONE WALK OF THE LAW'S BODY. Your part is whole_start (and what it stands on); all else here is the same for every law, but numbers. -/
def R_law : String := "BlockRowsLaw"
def lw_P (b : Addr) (xs : List Int32) (args : Array Value) (s : State) : Prop := args = #[.ref b] ∧ s.IntsAt b xs ∧ xs.length ≤ 2560 ∧ (Jvm.Cond.and given_1 narrow_1).before args s = true
def lw_Q (_ : Array Value) (s : State) (o : Outcome) (t : State) : Prop := o = .returned (some (.int 1)) ∧ Framed s o t [] 600000 7302250
def lw_Z (below : List Frame) (a : Array Value) (s : State) : State → Prop := fun t => ∃ o, t.status = .running ∧ Ended t below o ∧ lw_Q a s o t
/-- the law's own end, with 1 on the stack, nothing written that was there before, its room as the claim has it -/
theorem lw_ret {p : Program} {l : Launch} {e : Env} {s : State} {m : MethodId} {below : List Frame} {meth : Method} {c : Code} {b : Nat} (hx : p.tables.exec = Jvm.exec) (hb : c.code = code) (hr : meth.sig.returnType = ret) (hlocks : meth.locks = false) {pc : Nat} {H : Heap} {ls : Array Slot} (hdg : decode code pc = .ok (.ireturn, 1)) : W p l e room_1 s m #[Value.ref b] below meth c H [] 600000 7302250 (lw_Z below #[Value.ref b] s) (F0 m pc ls [.int 1]) := by
  intro T hT X
  obtain ⟨fs, hret, hrun, hended, hW, hframe⟩ := X.leave (v := some (.int 1)) (hlocks := hlocks) (fun h => by rw [hr] at h; cases h)
  have hmeth' : T.vm.method? m = some meth := X.method'
  refine ⟨T.setFrames fs, ?_, .returned (some (.int 1)), hrun, hended, rfl, ⟨_, rfl⟩, hW, hframe⟩
  jvm_step X.here [X.here.top, hx, hb, hdg, hmeth', hr, ret, narrow_b1]
  (try refine ⟨rfl, ?_⟩); (try refine ⟨rfl, ?_⟩)
  first | (intro acts; rw [hret _ acts rfl rfl rfl]) | rw [hret _ _ rfl rfl rfl]
  exact Steps.refl _
/-- what holds at the law's entry: the machine, the code, the tables' words (any of lw_tbl by 'hts w (by decide +kernel)'), the script of L ints xs at the cell b, what the Statement gives of the start (any of its parts by flat_of_before) -/
def lw_At (p : Program) (s : State) (m : MethodId) (meth : Method) (c : Code) (b L : Nat) (xs : Nat → Int32) : Prop :=
  p.tables.exec = Jvm.exec ∧ c.code = code ∧ meth.sig.returnType = ret ∧ c.maxLocals = 4 ∧ s.vm.findClass R_law = some m.cls ∧ (∀ w ∈ lw_tbl, w.before #[Value.ref b] s = true) ∧ va_X b L xs s s.heap ∧ b < s.heap.size ∧ meth.locks = false ∧ (Jvm.Cond.and given_1 narrow_1).before #[Value.ref b] s = true
-- ===== YOUR PART BEGINS =====
end
section
/-! own rows over the kit's: numbers as Nat, options (none is -1), truth values; a call as one row -/
def oI (o : Option Nat) : Int32 := match o with
  | none => -1
  | some k => nI k
def bI (b : Bool) : Int32 := if b = true then 1 else 0
def nIf (f : Nat → Nat) : Nat → Int32 := fun j => nI (f j)
def oIf (f : Nat → Option Nat) : Nat → Int32 := fun j => oI (f j)
def bIf (f : Nat → Bool) : Nat → Int32 := fun j => bI (f j)
def lNf (f : Nat → Nat) : Nat → Int64 := fun j => lN (f j)
theorem nI_inj {a b : Nat} (ha : a < 2 ^ 31) (hb : b < 2 ^ 31) (h : nI a = nI b) : a = b := (nI_eq ha hb).mp h
theorem nI_nem1 {a : Nat} (ha : a < 2 ^ 31) : nI a ≠ -1 := by
  intro h
  have h1 := nI_toInt ha
  rw [h] at h1
  have h2 : (-1 : Int32).toInt = -1 := by decide
  rw [h2] at h1
  omega
theorem oI_m1 {o : Option Nat} (ho : ∀ j, o = some j → j < 2 ^ 31) : oI o = -1 ↔ o = none := by
  cases o with
  | none => exact ⟨fun _ => rfl, fun _ => rfl⟩
  | some k => exact ⟨fun h => absurd h (nI_nem1 (ho k rfl)), fun h => by cases h⟩
theorem oI_nI {o : Option Nat} {k : Nat} (ho : ∀ j, o = some j → j < 2 ^ 31) (hk : k < 2 ^ 31) : oI o = nI k ↔ o = some k := by
  cases o with
  | none => exact ⟨fun h => absurd h.symm (nI_nem1 hk), fun h => by cases h⟩
  | some j => exact ⟨fun h => by rw [nI_inj (ho j rfl) hk h], fun h => by cases h; rfl⟩
theorem oI_inj {o q : Option Nat} (ho : ∀ j, o = some j → j < 2 ^ 31) (hq : ∀ j, q = some j → j < 2 ^ 31) : oI o = oI q ↔ o = q := by
  cases q with
  | none => exact oI_m1 ho
  | some k => exact oI_nI ho (hq k rfl)
theorem bI_0 {b : Bool} : bI b = 0 ↔ b = false := by cases b <;> decide
theorem bI_nar (b : Bool) : vp_nar .boolean (bI b) = bI b := by cases b <;> rfl
theorem bI_narrow (b : Bool) : narrow .boolean (.int (bI b)) = .int (bI b) := by cases b <;> rfl
theorem bI_fits (b : Bool) : fits .boolean (.int (bI b)) = true := by cases b <;> rfl
theorem bI_inj {a b : Bool} (h : bI a = bI b) : a = b := by cases a <;> cases b <;> first | rfl | (exact absurd h (by decide))
/-- what the nest's private fields and constructors need, beside the words -/
def Nst (U : State) : Prop :=
  (va_Nw (.fieldLinkNest "BlockRows$Chains" 40 "BlockRows$Ways" "from" "[I" "BlockRows") U ∧ va_Nw (.fieldLinkNest "BlockRows$Chains" 43 "BlockRows$Ways" "to" "[I" "BlockRows") U ∧ va_Nw (.fieldLinkNest "BlockRows$Chains" 50 "BlockRows$Ways" "counts" "[J" "BlockRows") U ∧ va_Nw (.fieldLinkNest "BlockRows$Chains" 46 "BlockRows$Ways" "falling" "[Z" "BlockRows") U ∧ va_Nw (.fieldLinkNest "BlockRows$Chains" 34 "BlockRows$Ways" "known" "I" "BlockRows") U) ∧
  (va_Nw (.fieldLinkNest "BlockRows" 92 "BlockRows$Chains" "first" "[I" "BlockRows") U ∧ va_Nw (.fieldLinkNest "BlockRows$Chains" 82 "BlockRows$Line" "members" "[I" "BlockRows") U ∧ va_Nw (.fieldLinkNest "BlockRows$Chains" 67 "BlockRows$Line" "filled" "I" "BlockRows") U ∧ va_Nw (.fieldLinkNest "BlockRows" 71 "BlockRows$Line" "filled" "I" "BlockRows") U) ∧
  (va_Nw (.methodLinkNest "BlockRows" 15 yX2_init "BlockRows") U ∧ va_Nw (.methodLinkNest "BlockRows" 22 yX0_init "BlockRows") U ∧ va_Nw (.methodLinkNest "BlockRows" 29 yX1_init "BlockRows") U)
theorem Nst.warm {s U : State} (hW : s.WarmedH U.vm) (h : Nst s) : Nst U := by
  obtain ⟨⟨a1, a2, a3, a4, a5⟩, ⟨b1, b2, b3, b4⟩, ⟨c1, c2, c3⟩⟩ := h
  exact ⟨⟨a1.warmF hW, a2.warmF hW, a3.warmF hW, a4.warmF hW, a5.warmF hW⟩, ⟨b1.warmF hW, b2.warmF hW, b3.warmF hW, b4.warmF hW⟩, ⟨c1.warmM hW, c2.warmM hW, c3.warmM hW⟩⟩
theorem Nst.same {u U : State} (e : u.vm = U.vm) (h : Nst u) : Nst U := by
  obtain ⟨⟨a1, a2, a3, a4, a5⟩, ⟨b1, b2, b3, b4⟩, ⟨c1, c2, c3⟩⟩ := h
  exact ⟨⟨va_Nw.same rfl e a1, va_Nw.same rfl e a2, va_Nw.same rfl e a3, va_Nw.same rfl e a4, va_Nw.same rfl e a5⟩, ⟨va_Nw.same rfl e b1, va_Nw.same rfl e b2, va_Nw.same rfl e b3, va_Nw.same rfl e b4⟩, ⟨va_Nw.same rfl e c1, va_Nw.same rfl e c2, va_Nw.same rfl e c3⟩⟩
abbrev tyl (cI cJ cZ : ClassId) : List (ClassId × FieldType) := [(cI, .int), (cJ, .long), (cZ, .boolean)]
/-- what a state has beside its cells -/
def Ev (D : va_G) (cI cJ cZ : ClassId) (U : State) : Prop := va_K D vwCl (tyl cI cJ cZ) U ∧ Nst U
theorem Ev.warm {D : va_G} {cI cJ cZ : ClassId} {s U : State} (hW : s.WarmedH U.vm) (h : Ev D cI cJ cZ s) : Ev D cI cJ cZ U := ⟨va_K.moved hW.alike h.1, h.2.warm hW⟩
theorem Ev.call {D : va_G} {cI cJ cZ : ClassId} {U : State} (g : JFrame) (mk : MethodId) (a : Array Value) (h : Ev D cI cJ cZ U) : Ev D cI cJ cZ (U.calling g mk a) := ⟨va_K.moved (u := U) (U := U.calling g mk a) (Vm.Alike.refl U.vm) h.1, Nst.same (u := U) (U := U.calling g mk a) rfl h.2⟩
/-- a contract's start: it only reads, or it may write its cells -/
def PcR (D : va_G) (cI cJ cZ : ClassId) (av : List Value) (wc : va_W) : Array Value → State → Prop := va_Pc av (fun U => va_P D vwCl wc U.heap ∧ Ev D cI cJ cZ U)
def PcM (D : va_G) (cI cJ cZ : ClassId) (av : List Value) (wc : va_W) (sz : Nat) : Array Value → State → Prop := va_Pc av (fun U => U.heap.size = sz ∧ va_P D vwCl wc U.heap ∧ Ev D cI cJ cZ U ∧ va_D (fun _ => True) wc)
/-- the world behind it -/
def Bm {S : Type} (D : va_G) (wc : va_W) (sz : Nat) (w1 : S → va_W) : S → State → Prop := fun u t => va_P D vwCl (w1 u) t.heap ∧ va_D (va_A wc sz) (w1 u)
theorem PcR_blind {D : va_G} {cI cJ cZ : ClassId} {av : List Value} {wc : va_W} : FrameBlind (PcR D cI cJ cZ av wc) := fun a U g mk q => ⟨q.1, q.2.1, q.2.2.call g mk a⟩
theorem PcM_blind {D : va_G} {cI cJ cZ : ClassId} {av : List Value} {wc : va_W} {sz : Nat} : FrameBlind (PcM D cI cJ cZ av wc sz) := fun a U g mk q => ⟨q.1, q.2.1, q.2.2.1, q.2.2.2.1.call g mk a, q.2.2.2.2⟩
section Rows
variable {p : Program} {l : Launch} {e : Env} {R : Room} {s : State} {m : MethodId} {args : Array Value} {below : List Frame} {meth : Method} {c : Code} {H : Heap} {locs : List Loc} {cells slots : Nat} {Q : State → Prop} {cc : ByteArray} {pc : Nat} {ls : Array Slot} {rest : List Value} {D : va_G} {cI cJ cZ : ClassId} {ws : va_W} {A : Nat → Prop} {H0 : Heap} {a : Nat}
-- loads
theorem r_nld (hexec : p.tables.exec = Jvm.exec) (hb : c.code = cc) (hE : Ev D cI cJ cZ s) (hP : va_P D vwCl ws H) (q0 : Nat) {n : Nat} {f : Nat → Nat} (ha : ws[q0]? = some (a, .inl (cI, n, .inl (nIf f)))) {k : Nat} (hk : k < n) (hn : n < 2 ^ 31) (hdg : decode cc pc = .ok (.iaload, 1))
    (kk : W p l e R s m args below meth c H locs cells slots Q (F0 m (pc + 1) ls (.int (nI (f k)) :: rest))) : W p l e R s m args below meth c H locs cells slots Q (F0 m pc ls (.int (nI k) :: .ref a :: rest)) := by
  refine va_iald hexec hb hE.1 hP q0 0 ha rfl (vp_in_nI hk hn) hdg ?_
  rw [nI_clamp (by omega)]
  exact kk
theorem r_old (hexec : p.tables.exec = Jvm.exec) (hb : c.code = cc) (hE : Ev D cI cJ cZ s) (hP : va_P D vwCl ws H) (q0 : Nat) {n : Nat} {f : Nat → Option Nat} (ha : ws[q0]? = some (a, .inl (cI, n, .inl (oIf f)))) {k : Nat} (hk : k < n) (hn : n < 2 ^ 31) (hdg : decode cc pc = .ok (.iaload, 1))
    (kk : W p l e R s m args below meth c H locs cells slots Q (F0 m (pc + 1) ls (.int (oI (f k)) :: rest))) : W p l e R s m args below meth c H locs cells slots Q (F0 m pc ls (.int (nI k) :: .ref a :: rest)) := by
  refine va_iald hexec hb hE.1 hP q0 0 ha rfl (vp_in_nI hk hn) hdg ?_
  rw [nI_clamp (by omega)]
  exact kk
theorem r_bld (hexec : p.tables.exec = Jvm.exec) (hb : c.code = cc) (hE : Ev D cI cJ cZ s) (hP : va_P D vwCl ws H) (q0 : Nat) {n : Nat} {f : Nat → Bool} (ha : ws[q0]? = some (a, .inl (cZ, n, .inl (bIf f)))) {k : Nat} (hk : k < n) (hn : n < 2 ^ 31) (hdg : decode cc pc = .ok (.baload, 1))
    (kk : W p l e R s m args below meth c H locs cells slots Q (F0 m (pc + 1) ls (.int (bI (f k)) :: rest))) : W p l e R s m args below meth c H locs cells slots Q (F0 m pc ls (.int (nI k) :: .ref a :: rest)) := by
  refine va_zald hexec hb hE.1 hP q0 2 ha rfl (vp_in_nI hk hn) hdg ?_
  rw [nI_clamp (by omega)]
  exact kk
theorem r_lld (hexec : p.tables.exec = Jvm.exec) (hb : c.code = cc) (hE : Ev D cI cJ cZ s) (hP : va_P D vwCl ws H) (q0 : Nat) {n : Nat} {f : Nat → Nat} (ha : ws[q0]? = some (a, .inl (cJ, n, .inr (.inl (lNf f))))) {k : Nat} (hk : k < n) (hn : n < 2 ^ 31) (hdg : decode cc pc = .ok (.laload, 1))
    (kk : W p l e R s m args below meth c H locs cells slots Q (F0 m (pc + 1) ls (.long (lN (f k)) :: rest))) : W p l e R s m args below meth c H locs cells slots Q (F0 m pc ls (.int (nI k) :: .ref a :: rest)) := by
  refine va_lald hexec hb hE.1 hP q0 1 ha rfl (vp_in_nI hk hn) hdg ?_
  rw [nI_clamp (by omega)]
  exact kk
-- stores
theorem r_nst (hexec : p.tables.exec = Jvm.exec) (hb : c.code = cc) (hE : Ev D cI cJ cZ s) (hP : va_P D vwCl ws H) (hD : va_D A ws) (hS : va_S A H0 H locs) (q0 : Nat) {n : Nat} {f : Nat → Nat} (ha : ws[q0]? = some (a, .inl (cI, n, .inl (nIf f)))) {k x : Nat} (hk : k < n) (hn : n < 2 ^ 31) (hdg : decode cc pc = .ok (.iastore, 1))
    (kk : ∀ (H1 : Heap) (locs1 : List Loc), va_P D vwCl (ws.set q0 (a, .inl (cI, n, .inl (nIf (va_up f k x))))) H1 → va_D A (ws.set q0 (a, .inl (cI, n, .inl (nIf (va_up f k x))))) → va_S A H0 H1 locs1 → W p l e R s m args below meth c H1 locs1 cells slots Q (F0 m (pc + 1) ls rest)) : W p l e R s m args below meth c H locs cells slots Q (F0 m pc ls (.int (nI x) :: .int (nI k) :: .ref a :: rest)) := by
  have e2 : upd (nIf f) (nI k).toNatClampNeg (nI x) = nIf (va_up f k x) := by
    funext j
    rw [nI_clamp (by omega)]
    show (if j = k then nI x else nI (f j)) = nI (if j = k then x else f j)
    split <;> rfl
  refine va_iast hexec hb hE.1 hP hD hS q0 0 ha rfl (vp_in_nI hk hn) hdg (fun H1 l1 h1 h2 h3 => ?_)
  rw [e2] at h1 h2
  exact kk H1 l1 h1 h2 h3
theorem r_ost (hexec : p.tables.exec = Jvm.exec) (hb : c.code = cc) (hE : Ev D cI cJ cZ s) (hP : va_P D vwCl ws H) (hD : va_D A ws) (hS : va_S A H0 H locs) (q0 : Nat) {n : Nat} {f : Nat → Option Nat} (ha : ws[q0]? = some (a, .inl (cI, n, .inl (oIf f)))) {k : Nat} (x : Option Nat) {y : Int32} (hy : y = oI x) (hk : k < n) (hn : n < 2 ^ 31) (hdg : decode cc pc = .ok (.iastore, 1))
    (kk : ∀ (H1 : Heap) (locs1 : List Loc), va_P D vwCl (ws.set q0 (a, .inl (cI, n, .inl (oIf (va_up f k x))))) H1 → va_D A (ws.set q0 (a, .inl (cI, n, .inl (oIf (va_up f k x))))) → va_S A H0 H1 locs1 → W p l e R s m args below meth c H1 locs1 cells slots Q (F0 m (pc + 1) ls rest)) : W p l e R s m args below meth c H locs cells slots Q (F0 m pc ls (.int y :: .int (nI k) :: .ref a :: rest)) := by
  subst hy
  have e2 : upd (oIf f) (nI k).toNatClampNeg (oI x) = oIf (va_up f k x) := by
    funext j
    rw [nI_clamp (by omega)]
    show (if j = k then oI x else oI (f j)) = oI (if j = k then x else f j)
    split <;> rfl
  refine va_iast hexec hb hE.1 hP hD hS q0 0 ha rfl (vp_in_nI hk hn) hdg (fun H1 l1 h1 h2 h3 => ?_)
  rw [e2] at h1 h2
  exact kk H1 l1 h1 h2 h3
theorem r_bst (hexec : p.tables.exec = Jvm.exec) (hb : c.code = cc) (hE : Ev D cI cJ cZ s) (hP : va_P D vwCl ws H) (hD : va_D A ws) (hS : va_S A H0 H locs) (q0 : Nat) {n : Nat} {f : Nat → Bool} (ha : ws[q0]? = some (a, .inl (cZ, n, .inl (bIf f)))) {k : Nat} (x : Bool) {y : Int32} (hy : y = bI x) (hk : k < n) (hn : n < 2 ^ 31) (hdg : decode cc pc = .ok (.bastore, 1))
    (kk : ∀ (H1 : Heap) (locs1 : List Loc), va_P D vwCl (ws.set q0 (a, .inl (cZ, n, .inl (bIf (va_up f k x))))) H1 → va_D A (ws.set q0 (a, .inl (cZ, n, .inl (bIf (va_up f k x))))) → va_S A H0 H1 locs1 → W p l e R s m args below meth c H1 locs1 cells slots Q (F0 m (pc + 1) ls rest)) : W p l e R s m args below meth c H locs cells slots Q (F0 m pc ls (.int y :: .int (nI k) :: .ref a :: rest)) := by
  subst hy
  have e2 : upd (bIf f) (nI k).toNatClampNeg (vp_nar .boolean (bI x)) = bIf (va_up f k x) := by
    funext j
    rw [nI_clamp (by omega), bI_nar]
    show (if j = k then bI x else bI (f j)) = bI (if j = k then x else f j)
    split <;> rfl
  refine va_zast hexec hb hE.1 hP hD hS q0 2 ha rfl (vp_in_nI hk hn) hdg (fun H1 l1 h1 h2 h3 => ?_)
  rw [e2] at h1 h2
  exact kk H1 l1 h1 h2 h3
theorem r_lst (hexec : p.tables.exec = Jvm.exec) (hb : c.code = cc) (hE : Ev D cI cJ cZ s) (hP : va_P D vwCl ws H) (hD : va_D A ws) (hS : va_S A H0 H locs) (q0 : Nat) {n : Nat} {f : Nat → Nat} (ha : ws[q0]? = some (a, .inl (cJ, n, .inr (.inl (lNf f))))) {k x : Nat} (hk : k < n) (hn : n < 2 ^ 31) (hdg : decode cc pc = .ok (.lastore, 1))
    (kk : ∀ (H1 : Heap) (locs1 : List Loc), va_P D vwCl (ws.set q0 (a, .inl (cJ, n, .inr (.inl (lNf (va_up f k x)))))) H1 → va_D A (ws.set q0 (a, .inl (cJ, n, .inr (.inl (lNf (va_up f k x)))))) → va_S A H0 H1 locs1 → W p l e R s m args below meth c H1 locs1 cells slots Q (F0 m (pc + 1) ls rest)) : W p l e R s m args below meth c H locs cells slots Q (F0 m pc ls (.long (lN x) :: .int (nI k) :: .ref a :: rest)) := by
  have e2 : vp_updL (lNf f) (nI k).toNatClampNeg (lN x) = lNf (va_up f k x) := by
    funext j
    rw [nI_clamp (by omega)]
    show (if j = k then lN x else lN (f j)) = lN (if j = k then x else f j)
    split <;> rfl
  refine va_last hexec hb hE.1 hP hD hS q0 1 ha rfl (vp_in_nI hk hn) hdg (fun H1 l1 h1 h2 h3 => ?_)
  rw [e2] at h1 h2
  exact kk H1 l1 h1 h2 h3
-- arithmetic
theorem r_iadd (hexec : p.tables.exec = Jvm.exec) (hb : c.code = cc) {x y : Nat} (hdg : decode cc pc = .ok (.iadd, 1))
    (k : W p l e R s m args below meth c H locs cells slots Q (F0 m (pc + 1) ls (.int (nI (x + y)) :: rest))) : W p l e R s m args below meth c H locs cells slots Q (F0 m pc ls (.int (nI y) :: .int (nI x) :: rest)) := lv_iadd hexec hb hdg (by rw [nI_add]; exact k)
theorem r_isub (hexec : p.tables.exec = Jvm.exec) (hb : c.code = cc) {x y : Nat} (h : y ≤ x) (hdg : decode cc pc = .ok (.isub, 1))
    (k : W p l e R s m args below meth c H locs cells slots Q (F0 m (pc + 1) ls (.int (nI (x - y)) :: rest))) : W p l e R s m args below meth c H locs cells slots Q (F0 m pc ls (.int (nI y) :: .int (nI x) :: rest)) := lv_isub hexec hb hdg (by rw [pk_sub h]; exact k)
theorem r_imul (hexec : p.tables.exec = Jvm.exec) (hb : c.code = cc) {x y : Nat} (hdg : decode cc pc = .ok (.imul, 1))
    (k : W p l e R s m args below meth c H locs cells slots Q (F0 m (pc + 1) ls (.int (nI (x * y)) :: rest))) : W p l e R s m args below meth c H locs cells slots Q (F0 m pc ls (.int (nI y) :: .int (nI x) :: rest)) := lv_imul hexec hb hdg (by rw [pk_mul]; exact k)
theorem r_ladd (hexec : p.tables.exec = Jvm.exec) (hb : c.code = cc) {x y : Nat} (hdg : decode cc pc = .ok (.ladd, 1))
    (k : W p l e R s m args below meth c H locs cells slots Q (F0 m (pc + 1) ls (.long (lN (x + y)) :: rest))) : W p l e R s m args below meth c H locs cells slots Q (F0 m pc ls (.long (lN y) :: .long (lN x) :: rest)) := lv_ladd hexec hb hdg (by rw [lN_add]; exact k)
theorem r_i2l (hexec : p.tables.exec = Jvm.exec) (hb : c.code = cc) {x : Nat} (h : x < 2 ^ 31) (hdg : decode cc pc = .ok (.i2l, 1))
    (k : W p l e R s m args below meth c H locs cells slots Q (F0 m (pc + 1) ls (.long (lN x) :: rest))) : W p l e R s m args below meth c H locs cells slots Q (F0 m pc ls (.int (nI x) :: rest)) := lv_i2l hexec hb hdg (nI_l h) k
/-- the value on top by another name -/
theorem r_as {v w : Value} (h : v = w) (k : W p l e R s m args below meth c H locs cells slots Q (F0 m pc ls (w :: rest))) : W p l e R s m args below meth c H locs cells slots Q (F0 m pc ls (v :: rest)) := by rw [h]; exact k
theorem r_as2 {v w u : Value} (h : v = w) (k : W p l e R s m args below meth c H locs cells slots Q (F0 m pc ls (u :: w :: rest))) : W p l e R s m args below meth c H locs cells slots Q (F0 m pc ls (u :: v :: rest)) := by rw [h]; exact k
-- compares of numbers
theorem r_icmp_eq (hexec : p.tables.exec = Jvm.exec) (hb : c.code = cc) {x y : Nat} (hx : x < 2 ^ 31) (hy : y < 2 ^ 31) {off : Int} {tgt : Nat} (hdg : decode cc pc = .ok (.if_icmp .eq off, 3)) (ht : (pc : Int) + off = (tgt : Int)) (kt : x = y → W p l e R s m args below meth c H locs cells slots Q (F0 m tgt ls rest)) (kf : x ≠ y → W p l e R s m args below meth c H locs cells slots Q (F0 m (pc + 3) ls rest)) : W p l e R s m args below meth c H locs cells slots Q (F0 m pc ls (.int (nI y) :: .int (nI x) :: rest)) := lv_icmp_eq hexec hb hdg ht (fun h => kt ((nI_eq hx hy).mp h)) (fun h => kf (fun q => h ((nI_eq hx hy).mpr q)))
theorem r_icmp_ne (hexec : p.tables.exec = Jvm.exec) (hb : c.code = cc) {x y : Nat} (hx : x < 2 ^ 31) (hy : y < 2 ^ 31) {off : Int} {tgt : Nat} (hdg : decode cc pc = .ok (.if_icmp .ne off, 3)) (ht : (pc : Int) + off = (tgt : Int)) (kt : x ≠ y → W p l e R s m args below meth c H locs cells slots Q (F0 m tgt ls rest)) (kf : x = y → W p l e R s m args below meth c H locs cells slots Q (F0 m (pc + 3) ls rest)) : W p l e R s m args below meth c H locs cells slots Q (F0 m pc ls (.int (nI y) :: .int (nI x) :: rest)) := lv_icmp_ne hexec hb hdg ht (fun h => kt (fun q => h ((nI_eq hx hy).mpr q))) (fun h => kf ((nI_eq hx hy).mp h))
theorem r_icmp_ge (hexec : p.tables.exec = Jvm.exec) (hb : c.code = cc) {x y : Nat} (hx : x < 2 ^ 31) (hy : y < 2 ^ 31) {off : Int} {tgt : Nat} (hdg : decode cc pc = .ok (.if_icmp .ge off, 3)) (ht : (pc : Int) + off = (tgt : Int)) (kt : y ≤ x → W p l e R s m args below meth c H locs cells slots Q (F0 m tgt ls rest)) (kf : x < y → W p l e R s m args below meth c H locs cells slots Q (F0 m (pc + 3) ls rest)) : W p l e R s m args below meth c H locs cells slots Q (F0 m pc ls (.int (nI y) :: .int (nI x) :: rest)) := lv_icmp_ge hexec hb hdg ht (fun h => kt ((nI_leI hy hx).mp h)) (fun h => kf (by rcases Nat.lt_or_ge x y with q | q; exact q; exact absurd ((nI_leI hy hx).mpr q) h))
theorem r_icmp_lt (hexec : p.tables.exec = Jvm.exec) (hb : c.code = cc) {x y : Nat} (hx : x < 2 ^ 31) (hy : y < 2 ^ 31) {off : Int} {tgt : Nat} (hdg : decode cc pc = .ok (.if_icmp .lt off, 3)) (ht : (pc : Int) + off = (tgt : Int)) (kt : x < y → W p l e R s m args below meth c H locs cells slots Q (F0 m tgt ls rest)) (kf : y ≤ x → W p l e R s m args below meth c H locs cells slots Q (F0 m (pc + 3) ls rest)) : W p l e R s m args below meth c H locs cells slots Q (F0 m pc ls (.int (nI y) :: .int (nI x) :: rest)) := lv_icmp_lt hexec hb hdg ht (fun h => kt ((nI_ltI hx hy).mp h)) (fun h => kf (by rcases Nat.lt_or_ge x y with q | q; exact absurd ((nI_ltI hx hy).mpr q) h; exact q))
theorem r_icmp_le (hexec : p.tables.exec = Jvm.exec) (hb : c.code = cc) {x y : Nat} (hx : x < 2 ^ 31) (hy : y < 2 ^ 31) {off : Int} {tgt : Nat} (hdg : decode cc pc = .ok (.if_icmp .le off, 3)) (ht : (pc : Int) + off = (tgt : Int)) (kt : x ≤ y → W p l e R s m args below meth c H locs cells slots Q (F0 m tgt ls rest)) (kf : y < x → W p l e R s m args below meth c H locs cells slots Q (F0 m (pc + 3) ls rest)) : W p l e R s m args below meth c H locs cells slots Q (F0 m pc ls (.int (nI y) :: .int (nI x) :: rest)) := lv_icmp_le hexec hb hdg ht (fun h => kt ((nI_leI hx hy).mp h)) (fun h => kf (by rcases Nat.lt_or_ge y x with q | q; exact q; exact absurd ((nI_leI hx hy).mpr q) h))
theorem r_icmp_gt (hexec : p.tables.exec = Jvm.exec) (hb : c.code = cc) {x y : Nat} (hx : x < 2 ^ 31) (hy : y < 2 ^ 31) {off : Int} {tgt : Nat} (hdg : decode cc pc = .ok (.if_icmp .gt off, 3)) (ht : (pc : Int) + off = (tgt : Int)) (kt : y < x → W p l e R s m args below meth c H locs cells slots Q (F0 m tgt ls rest)) (kf : x ≤ y → W p l e R s m args below meth c H locs cells slots Q (F0 m (pc + 3) ls rest)) : W p l e R s m args below meth c H locs cells slots Q (F0 m pc ls (.int (nI y) :: .int (nI x) :: rest)) := lv_icmp_gt hexec hb hdg ht (fun h => kt ((nI_ltI hy hx).mp h)) (fun h => kf (by rcases Nat.lt_or_ge y x with q | q; exact absurd ((nI_ltI hy hx).mpr q) h; exact q))
/-- a number against 0 -/
theorem r_if_le (hexec : p.tables.exec = Jvm.exec) (hb : c.code = cc) {x : Nat} (hx : x < 2 ^ 31) {off : Int} {tgt : Nat} (hdg : decode cc pc = .ok (.ifCond .le off, 3)) (ht : (pc : Int) + off = (tgt : Int)) (kt : x = 0 → W p l e R s m args below meth c H locs cells slots Q (F0 m tgt ls rest)) (kf : 0 < x → W p l e R s m args below meth c H locs cells slots Q (F0 m (pc + 3) ls rest)) : W p l e R s m args below meth c H locs cells slots Q (F0 m pc ls (.int (nI x) :: rest)) := lv_if_le hexec hb hdg ht (fun h => kt (by rcases Nat.eq_zero_or_pos x with q | q; exact q; exact absurd h (nI_nle q hx))) (fun h => kf (by rcases Nat.eq_zero_or_pos x with q | q; exact absurd (by rw [q]; decide) h; exact q))
theorem r_if_ne (hexec : p.tables.exec = Jvm.exec) (hb : c.code = cc) {x : Nat} (hx : x < 2 ^ 31) {off : Int} {tgt : Nat} (hdg : decode cc pc = .ok (.ifCond .ne off, 3)) (ht : (pc : Int) + off = (tgt : Int)) (kt : 0 < x → W p l e R s m args below meth c H locs cells slots Q (F0 m tgt ls rest)) (kf : x = 0 → W p l e R s m args below meth c H locs cells slots Q (F0 m (pc + 3) ls rest)) : W p l e R s m args below meth c H locs cells slots Q (F0 m pc ls (.int (nI x) :: rest)) := lv_if_ne hexec hb hdg ht (fun h => kt (by rcases Nat.eq_zero_or_pos x with q | q; exact absurd (by rw [q]; rfl) h; exact q)) (fun h => kf (by rcases Nat.eq_zero_or_pos x with q | q; exact q; exact absurd h (nI_ne0 q hx)))
theorem r_if_eq (hexec : p.tables.exec = Jvm.exec) (hb : c.code = cc) {x : Nat} (hx : x < 2 ^ 31) {off : Int} {tgt : Nat} (hdg : decode cc pc = .ok (.ifCond .eq off, 3)) (ht : (pc : Int) + off = (tgt : Int)) (kt : x = 0 → W p l e R s m args below meth c H locs cells slots Q (F0 m tgt ls rest)) (kf : 0 < x → W p l e R s m args below meth c H locs cells slots Q (F0 m (pc + 3) ls rest)) : W p l e R s m args below meth c H locs cells slots Q (F0 m pc ls (.int (nI x) :: rest)) := lv_if_eq hexec hb hdg ht (fun h => kt (by rcases Nat.eq_zero_or_pos x with q | q; exact q; exact absurd h (nI_ne0 q hx))) (fun h => kf (by rcases Nat.eq_zero_or_pos x with q | q; exact absurd (by rw [q]; rfl) h; exact q))
-- truth values
theorem r_b_eq (hexec : p.tables.exec = Jvm.exec) (hb : c.code = cc) {b : Bool} {off : Int} {tgt : Nat} (hdg : decode cc pc = .ok (.ifCond .eq off, 3)) (ht : (pc : Int) + off = (tgt : Int)) (kt : b = false → W p l e R s m args below meth c H locs cells slots Q (F0 m tgt ls rest)) (kf : b = true → W p l e R s m args below meth c H locs cells slots Q (F0 m (pc + 3) ls rest)) : W p l e R s m args below meth c H locs cells slots Q (F0 m pc ls (.int (bI b) :: rest)) := lv_if_eq hexec hb hdg ht (fun h => kt (bI_0.mp h)) (fun h => kf (by cases b; exact absurd (bI_0.mpr rfl) h; rfl))
theorem r_b_ne (hexec : p.tables.exec = Jvm.exec) (hb : c.code = cc) {b : Bool} {off : Int} {tgt : Nat} (hdg : decode cc pc = .ok (.ifCond .ne off, 3)) (ht : (pc : Int) + off = (tgt : Int)) (kt : b = true → W p l e R s m args below meth c H locs cells slots Q (F0 m tgt ls rest)) (kf : b = false → W p l e R s m args below meth c H locs cells slots Q (F0 m (pc + 3) ls rest)) : W p l e R s m args below meth c H locs cells slots Q (F0 m pc ls (.int (bI b) :: rest)) := by
  refine lv_if_ne hexec hb hdg ht (fun h => kt ?_) (fun h => kf (bI_0.mp h))
  cases b
  · exact absurd (bI_0.mpr rfl) h
  · rfl
-- options: -1 is none
theorem r_o_eq (hexec : p.tables.exec = Jvm.exec) (hb : c.code = cc) {o q : Option Nat} {x y : Int32} (hx0 : x = oI o) (hy0 : y = oI q) (hx : ∀ j, o = some j → j < 2 ^ 31) (hy : ∀ j, q = some j → j < 2 ^ 31) {off : Int} {tgt : Nat} (hdg : decode cc pc = .ok (.if_icmp .eq off, 3)) (ht : (pc : Int) + off = (tgt : Int)) (kt : o = q → W p l e R s m args below meth c H locs cells slots Q (F0 m tgt ls rest)) (kf : o ≠ q → W p l e R s m args below meth c H locs cells slots Q (F0 m (pc + 3) ls rest)) : W p l e R s m args below meth c H locs cells slots Q (F0 m pc ls (.int y :: .int x :: rest)) := by
  subst hx0; subst hy0
  exact lv_icmp_eq hexec hb hdg ht (fun h => kt ((oI_inj hx hy).mp h)) (fun h => kf (fun z => h ((oI_inj hx hy).mpr z)))
theorem r_o_ne (hexec : p.tables.exec = Jvm.exec) (hb : c.code = cc) {o q : Option Nat} {x y : Int32} (hx0 : x = oI o) (hy0 : y = oI q) (hx : ∀ j, o = some j → j < 2 ^ 31) (hy : ∀ j, q = some j → j < 2 ^ 31) {off : Int} {tgt : Nat} (hdg : decode cc pc = .ok (.if_icmp .ne off, 3)) (ht : (pc : Int) + off = (tgt : Int)) (kt : o ≠ q → W p l e R s m args below meth c H locs cells slots Q (F0 m tgt ls rest)) (kf : o = q → W p l e R s m args below meth c H locs cells slots Q (F0 m (pc + 3) ls rest)) : W p l e R s m args below meth c H locs cells slots Q (F0 m pc ls (.int y :: .int x :: rest)) := by
  subst hx0; subst hy0
  exact lv_icmp_ne hexec hb hdg ht (fun h => kt (fun z => h ((oI_inj hx hy).mpr z))) (fun h => kf ((oI_inj hx hy).mp h))
theorem oI_lt0 {o : Option Nat} (ho : ∀ j, o = some j → j < 2 ^ 31) : oI o < 0 ↔ o = none := by
  cases o with
  | none => exact ⟨fun _ => rfl, fun _ => by decide⟩
  | some k => exact ⟨fun h => absurd h (nI_pos (ho k rfl)), fun h => by cases h⟩
theorem r_o_ge0 (hexec : p.tables.exec = Jvm.exec) (hb : c.code = cc) {o : Option Nat} (ho : ∀ j, o = some j → j < 2 ^ 31) {off : Int} {tgt : Nat} (hdg : decode cc pc = .ok (.ifCond .ge off, 3)) (ht : (pc : Int) + off = (tgt : Int)) (kt : o ≠ none → W p l e R s m args below meth c H locs cells slots Q (F0 m tgt ls rest)) (kf : o = none → W p l e R s m args below meth c H locs cells slots Q (F0 m (pc + 3) ls rest)) : W p l e R s m args below meth c H locs cells slots Q (F0 m pc ls (.int (oI o) :: rest)) := by
  refine lv_if_ge hexec hb hdg ht (fun h => kt (fun z => ?_)) (fun h => kf ?_)
  · rw [z] at h
    exact absurd h (by decide)
  · cases o with
    | none => rfl
    | some k => exact absurd (nI_pos' (ho k rfl)) h
theorem r_o_lt0 (hexec : p.tables.exec = Jvm.exec) (hb : c.code = cc) {o : Option Nat} (ho : ∀ j, o = some j → j < 2 ^ 31) {off : Int} {tgt : Nat} (hdg : decode cc pc = .ok (.ifCond .lt off, 3)) (ht : (pc : Int) + off = (tgt : Int)) (kt : o = none → W p l e R s m args below meth c H locs cells slots Q (F0 m tgt ls rest)) (kf : o ≠ none → W p l e R s m args below meth c H locs cells slots Q (F0 m (pc + 3) ls rest)) : W p l e R s m args below meth c H locs cells slots Q (F0 m pc ls (.int (oI o) :: rest)) := lv_if_lt hexec hb hdg ht (fun h => kt ((oI_lt0 ho).mp h)) (fun h => kf (fun z => h ((oI_lt0 ho).mpr z)))
-- long compares: lcmp and the branch behind it
theorem r_l_le (hexec : p.tables.exec = Jvm.exec) (hb : c.code = cc) {x y : Nat} (hx : x < 2 ^ 63) (hy : y < 2 ^ 63) {off : Int} {tgt : Nat} (hd1 : decode cc pc = .ok (.lcmp, 1)) (hdg : decode cc (pc + 1) = .ok (.ifCond .le off, 3)) (ht : ((pc + 1 : Nat) : Int) + off = (tgt : Int)) (kt : x ≤ y → W p l e R s m args below meth c H locs cells slots Q (F0 m tgt ls rest)) (kf : y < x → W p l e R s m args below meth c H locs cells slots Q (F0 m (pc + 1 + 3) ls rest)) : W p l e R s m args below meth c H locs cells slots Q (F0 m pc ls (.long (lN y) :: .long (lN x) :: rest)) := W.lcmp hexec hb hd1 (lv_if_le hexec hb hdg ht (fun h => kt ((pk_lLE hx hy).mp ((lg_cmp_le _ _).mp h))) (fun h => kf (by rcases Nat.lt_or_ge y x with q | q; exact q; exact absurd ((lg_cmp_le _ _).mpr ((pk_lLE hx hy).mpr q)) h)))
theorem r_l_ne (hexec : p.tables.exec = Jvm.exec) (hb : c.code = cc) {x y : Nat} (hx : x < 2 ^ 63) (hy : y < 2 ^ 63) {off : Int} {tgt : Nat} (hd1 : decode cc pc = .ok (.lcmp, 1)) (hdg : decode cc (pc + 1) = .ok (.ifCond .ne off, 3)) (ht : ((pc + 1 : Nat) : Int) + off = (tgt : Int)) (kt : x ≠ y → W p l e R s m args below meth c H locs cells slots Q (F0 m tgt ls rest)) (kf : x = y → W p l e R s m args below meth c H locs cells slots Q (F0 m (pc + 1 + 3) ls rest)) : W p l e R s m args below meth c H locs cells slots Q (F0 m pc ls (.long (lN y) :: .long (lN x) :: rest)) := W.lcmp hexec hb hd1 (lv_if_ne hexec hb hdg ht (fun h => kt (fun q => h ((lg_cmp_eq _ _).mpr ((pk_lEQ hx hy).mpr q)))) (fun h => kf ((pk_lEQ hx hy).mp ((lg_cmp_eq _ _).mp h))))
theorem r_l_eq (hexec : p.tables.exec = Jvm.exec) (hb : c.code = cc) {x y : Nat} (hx : x < 2 ^ 63) (hy : y < 2 ^ 63) {off : Int} {tgt : Nat} (hd1 : decode cc pc = .ok (.lcmp, 1)) (hdg : decode cc (pc + 1) = .ok (.ifCond .eq off, 3)) (ht : ((pc + 1 : Nat) : Int) + off = (tgt : Int)) (kt : x = y → W p l e R s m args below meth c H locs cells slots Q (F0 m tgt ls rest)) (kf : x ≠ y → W p l e R s m args below meth c H locs cells slots Q (F0 m (pc + 1 + 3) ls rest)) : W p l e R s m args below meth c H locs cells slots Q (F0 m pc ls (.long (lN y) :: .long (lN x) :: rest)) := W.lcmp hexec hb hd1 (lv_if_eq hexec hb hdg ht (fun h => kt ((pk_lEQ hx hy).mp ((lg_cmp_eq _ _).mp h))) (fun h => kf (fun q => h ((lg_cmp_eq _ _).mpr ((pk_lEQ hx hy).mpr q)))))
end Rows
end
section
/-! a contract's start, its ends, and a call as one row -/
section Starts
variable {l : Launch} {y : MethodName} {wsy ws' : List Cond} {cc : ByteArray} {maxL : Nat} {ret : Option FieldType} {rm : Room} {av : List Value} {wc : va_W} {D : va_G} {cI cJ cZ : ClassId} {Qc : Array Value → State → Outcome → State → Prop} {mc ms : Nat} {free : Addr → Prop}
theorem startR (hy : plainName y.cls = true) (hw : wsy = .code y cc maxL ret :: ws') (hle : (lg_sl av).length ≤ maxL)
    (body : ∀ (p : Program) (e : Env) (s : State) (m : MethodId) (below : List Frame) (meth : Method) (c : Code) (ls : Array Slot), p.tables.exec = Jvm.exec → c.code = cc → meth.sig.returnType = ret → c.maxLocals = maxL → s.vm.findClass y.cls = some m.cls → (∀ w ∈ wsy, w.before av.toArray s = true) → meth.locks = false → Ev D cI cJ cZ s → va_P D vwCl wc s.heap → lv_has ls maxL (lv_args 0 av) → W p l e rm s m av.toArray below meth c s.heap [] 0 0 (MQ below Qc av.toArray s mc ms free) (F0 m 0 ls [])) :
    Met l y wsy rm (PcR D cI cJ cZ av wc) Qc mc ms free := by
  refine Met.ofW (cc := cc) (maxL := maxL) (ret := ret) hy hw ?_
  intro p e s m args below meth c s₁ B hml hv
  obtain ⟨rfl, hP, hE⟩ := hv
  have hl := lv_entry av (n := maxL) hle
  rw [lg_entry_eq]
  exact body p e s m below meth c _ B.exec B.bytes B.returns hml (findClass_of_methodNamed B.named) (atoms_spec (ws := wsy) B.pre) B.notSynchronized hE hP hl
theorem startM {sz : Nat} (hy : plainName y.cls = true) (hw : wsy = .code y cc maxL ret :: ws') (hle : (lg_sl av).length ≤ maxL)
    (body : ∀ (p : Program) (e : Env) (s : State) (m : MethodId) (below : List Frame) (meth : Method) (c : Code) (ls : Array Slot) (A : Nat → Prop), (∀ q, s.heap.size ≤ q → A q) → va_A wc sz = A → p.tables.exec = Jvm.exec → c.code = cc → meth.sig.returnType = ret → c.maxLocals = maxL → s.vm.findClass y.cls = some m.cls → (∀ w ∈ wsy, w.before av.toArray s = true) → meth.locks = false → meth.name = y.name → Ev D cI cJ cZ s → va_P D vwCl wc s.heap → va_D A wc → va_S A s.heap s.heap [] → lv_has ls maxL (lv_args 0 av) → W p l e rm s m av.toArray below meth c s.heap [] 0 0 (MQ below Qc av.toArray s mc ms free) (F0 m 0 ls [])) :
    Met l y wsy rm (PcM D cI cJ cZ av wc sz) Qc mc ms free := by
  refine Met.ofW (cc := cc) (maxL := maxL) (ret := ret) hy hw ?_
  intro p e s m args below meth c s₁ B hml hv
  obtain ⟨rfl, hsz, hP, hE, hD0⟩ := hv
  have hl := lv_entry av (n := maxL) hle
  rw [lg_entry_eq]
  exact body p e s m below meth c _ (va_A wc sz) (fun q h => Or.inr (by rw [← hsz]; exact h)) rfl B.exec B.bytes B.returns hml (findClass_of_methodNamed B.named) (atoms_spec (ws := wsy) B.pre) B.notSynchronized (name_of_methodNamed B.named B.method).1 hE hP (hD0.self (sz := sz)) va_S.rf hl
end Starts
section Ends
variable {p : Program} {l : Launch} {e : Env} {R : Room} {s : State} {m : MethodId} {args : Array Value} {below : List Frame} {meth : Method} {c : Code} {H : Heap} {locs : List Loc} {cells slots : Nat} {cc : ByteArray} {pc : Nat} {ls : Array Slot} {D : va_G} {wc : va_W} {sz : Nat} {S : Type} {w1 : S → va_W}
-- ends of a method that only reads: its heap is the start's
theorem e_i {post : Int32 → Prop} {v : Int32} (hx : p.tables.exec = Jvm.exec) (hb : c.code = cc) (hr : meth.sig.returnType = some .int) (hlocks : meth.locks = false) (hdg : decode cc pc = .ok (.ireturn, 1)) (h : post v) : W p l e R s m args below meth c s.heap [] cells slots (MQ below (vp_Si post) args s cells slots (fun _ => False)) (F0 m pc ls [.int v]) :=
  W.iret hx hb hr (fun t ht _ => ⟨v, rfl, h, ht⟩) (fun q h => by cases h) hdg hlocks
theorem e_z {post : Int32 → Prop} (b : Bool) {v : Int32} (hv : v = bI b) (hx : p.tables.exec = Jvm.exec) (hb : c.code = cc) (hr : meth.sig.returnType = some .boolean) (hlocks : meth.locks = false) (hdg : decode cc pc = .ok (.ireturn, 1)) (h : post (bI b)) : W p l e R s m args below meth c s.heap [] cells slots (MQ below (vp_Si post) args s cells slots (fun _ => False)) (F0 m pc ls [.int v]) := by
  subst hv
  exact W.zret hx hb hr (bI_narrow b) (fun t ht _ => ⟨bI b, rfl, h, ht⟩) (fun q h => by cases h) hdg hlocks
theorem e_l {post : Int64 → Prop} {v : Int64} (hx : p.tables.exec = Jvm.exec) (hb : c.code = cc) (hr : meth.sig.returnType = some .long) (hlocks : meth.locks = false) (hdg : decode cc pc = .ok (.lreturn, 1)) (h : post v) : W p l e R s m args below meth c s.heap [] cells slots (MQ below (vp_Sl post) args s cells slots (fun _ => False)) (F0 m pc ls [.long v]) :=
  W.lret hx hb hr (fun t ht _ => ⟨v, rfl, h, ht⟩) (fun q h => by cases h) hdg hlocks
-- ends of a method that may write
theorem e_mv {post : S → Prop} (u : S) {A : Nat → Prop} (hAe : va_A wc sz = A) (hx : p.tables.exec = Jvm.exec) (hb : c.code = cc) (hr : meth.sig.returnType = none) (hlocks : meth.locks = false) (hdg : decode cc pc = .ok (.return_, 1)) (hP : va_P D vwCl (w1 u) H) (hD : va_D A (w1 u)) (hS : va_S A s.heap H locs) (h : post u) : W p l e R s m args below meth c H locs cells slots (MQ below (va_Qv post (Bm D wc sz w1) (va_A wc sz)) args s cells slots (va_A wc sz)) (F0 m pc ls []) := by
  subst hAe
  exact W.vret hx hb hr (fun t ht _ => ⟨⟨u, rfl, h, by rw [ht]; exact hP, hD⟩, hS.F ht⟩) hS.2.2 hdg hlocks
theorem e_mi {post : Int32 → S → Prop} (u : S) {v : Int32} {A : Nat → Prop} (hAe : va_A wc sz = A) (hx : p.tables.exec = Jvm.exec) (hb : c.code = cc) (hr : meth.sig.returnType = some .int) (hlocks : meth.locks = false) (hdg : decode cc pc = .ok (.ireturn, 1)) (hP : va_P D vwCl (w1 u) H) (hD : va_D A (w1 u)) (hS : va_S A s.heap H locs) (h : post v u) : W p l e R s m args below meth c H locs cells slots (MQ below (va_Qi post (Bm D wc sz w1) (va_A wc sz)) args s cells slots (va_A wc sz)) (F0 m pc ls [.int v]) := by
  subst hAe
  exact W.iret hx hb hr (fun t ht _ => ⟨⟨v, u, rfl, h, by rw [ht]; exact hP, hD⟩, hS.F ht⟩) hS.2.2 hdg hlocks
theorem e_mz {post : Int32 → S → Prop} (u : S) (b : Bool) {v : Int32} (hv : v = bI b) {A : Nat → Prop} (hAe : va_A wc sz = A) (hx : p.tables.exec = Jvm.exec) (hb : c.code = cc) (hr : meth.sig.returnType = some .boolean) (hlocks : meth.locks = false) (hdg : decode cc pc = .ok (.ireturn, 1)) (hP : va_P D vwCl (w1 u) H) (hD : va_D A (w1 u)) (hS : va_S A s.heap H locs) (h : post (bI b) u) : W p l e R s m args below meth c H locs cells slots (MQ below (va_Qi post (Bm D wc sz w1) (va_A wc sz)) args s cells slots (va_A wc sz)) (F0 m pc ls [.int v]) := by
  subst hAe
  subst hv
  exact W.zret hx hb hr (bI_narrow b) (fun t ht _ => ⟨⟨bI b, u, rfl, h, by rw [ht]; exact hP, hD⟩, hS.F ht⟩) hS.2.2 hdg hlocks
theorem e_ml {post : Int64 → S → Prop} (u : S) {v : Int64} {A : Nat → Prop} (hAe : va_A wc sz = A) (hx : p.tables.exec = Jvm.exec) (hb : c.code = cc) (hr : meth.sig.returnType = some .long) (hlocks : meth.locks = false) (hdg : decode cc pc = .ok (.lreturn, 1)) (hP : va_P D vwCl (w1 u) H) (hD : va_D A (w1 u)) (hS : va_S A s.heap H locs) (h : post v u) : W p l e R s m args below meth c H locs cells slots (MQ below (va_Ql post (Bm D wc sz w1) (va_A wc sz)) args s cells slots (va_A wc sz)) (F0 m pc ls [.long v]) := by
  subst hAe
  exact W.lret hx hb hr (fun t ht _ => ⟨⟨v, u, rfl, h, by rw [ht]; exact hP, hD⟩, hS.F ht⟩) hS.2.2 hdg hlocks
end Ends
section Calls
variable {p : Program} {l : Launch} {e : Env} {R : Room} {s : State} {m : MethodId} {args : Array Value} {below : List Frame} {meth : Method} {c : Code} {H : Heap} {locs : List Loc} {cells slots : Nat} {Q : State → Prop} {cc bytes : ByteArray} {pc : Nat} {ls : Array Slot} {rest As : List Value} {D : va_G} {cI cJ cZ : ClassId} {ws wc wr : va_W} {A : Nat → Prop} {H0 : Heap} {b : Nat} {Ts wsy : List Cond} {own C : String} {index nL maxL n mc ms : Nat} {y : MethodName} {ret : Option FieldType} {rm : Room} {S : Type} {w1 : S → va_W}
theorem preR (hE : Ev D cI cJ cZ s) (hP : va_P D vwCl ws H) (ci q0 : Nat) {fs : List Value} {q : vw_C} (hc : vwCl[ci]? = some q) (hq : q.1 = C) (he : ws[q0]? = some (b, .inr (ci, fs))) (is : List Nat) (hs : is.filterMap (fun i => ws[i]?) = wc) : PreV s H C b (PcR D cI cJ cZ (.ref b :: As) wc) As := by
  subst hq
  exact ⟨PcR_blind, va_recv hE.1 hP hc he, fun U hU hW => ⟨rfl, by rw [hU]; exact hP.sub is hs, hE.warm hW⟩⟩
theorem preM (hE : Ev D cI cJ cZ s) (hP : va_P D vwCl ws H) (hD : va_D A ws) (ci q0 : Nat) {fs : List Value} {q : vw_C} (hc : vwCl[ci]? = some q) (hq : q.1 = C) (he : ws[q0]? = some (b, .inr (ci, fs))) (is : List Nat) (hn : va_nd is = true) (hs : is.filterMap (fun i => ws[i]?) = wc) (hs2 : is.map (fun i => ws[i]?) = wc.map some) : PreV s H C b (PcM D cI cJ cZ (.ref b :: As) wc H.size) As := by
  subst hq
  exact ⟨PcM_blind, va_recv hE.1 hP hc he, fun U hU hW => ⟨rfl, by rw [hU], by rw [hU]; exact hP.sub is hs, hE.warm hW, (hD.sub is hn hs2).weaken (fun _ _ _ _ => trivial)⟩⟩
/-- a call that only reads: an int (or a truth value) comes back -/
theorem callRi {post : Int32 → Prop} (SF : CallFix p m c cc nL s args Ts own) (hM : Met l y wsy rm (PcR D cI cJ cZ (.ref b :: As) wc) (vp_Si post) 0 0 (fun _ => False)) (cw : CallW R s args own C index y bytes maxL ret wsy rm 0 0 n) (hp : PreV s H C b (PcR D cI cJ cZ (.ref b :: As) wc) As)
    (hn : As.length = n) (hsize : ls.size = nL) (hW : (rest.map fun v => v.category).sum ≤ 8) (hdg : decode cc pc = .ok (.invokevirtual index, 3)) (hf : cells ≤ R.cells ∧ slots ≤ R.slots) {st : List Value} (hst : st = As.reverse ++ .ref b :: rest)
    (kk : ∀ r : Int32, post r → W p l e R s m args below meth c H locs cells slots Q (F0 m (pc + 3) ls (.int r :: rest))) : W p l e R s m args below meth c H locs cells slots Q (F0 m pc ls st) := by
  subst hst
  exact vp_callSi (W.runV (g := F0 m pc ls (As.reverse ++ .ref b :: rest)) (rest := rest) SF hM cw hp rfl hn hsize rfl (lv_room hW) hdg hf) kk
theorem callRl {post : Int64 → Prop} (SF : CallFix p m c cc nL s args Ts own) (hM : Met l y wsy rm (PcR D cI cJ cZ (.ref b :: As) wc) (vp_Sl post) 0 0 (fun _ => False)) (cw : CallW R s args own C index y bytes maxL ret wsy rm 0 0 n) (hp : PreV s H C b (PcR D cI cJ cZ (.ref b :: As) wc) As)
    (hn : As.length = n) (hsize : ls.size = nL) (hW : (rest.map fun v => v.category).sum ≤ 8) (hdg : decode cc pc = .ok (.invokevirtual index, 3)) (hf : cells ≤ R.cells ∧ slots ≤ R.slots) {st : List Value} (hst : st = As.reverse ++ .ref b :: rest)
    (kk : ∀ r : Int64, post r → W p l e R s m args below meth c H locs cells slots Q (F0 m (pc + 3) ls (.long r :: rest))) : W p l e R s m args below meth c H locs cells slots Q (F0 m pc ls st) := by
  subst hst
  exact vp_callSl (W.runV (g := F0 m pc ls (As.reverse ++ .ref b :: rest)) (rest := rest) SF hM cw hp rfl hn hsize rfl (lv_room hW) hdg hf) kk
/-- a call that may write the cells wc; wr is the rest of the world, which stays -/
theorem callMv {post : S → Prop} (SF : CallFix p m c cc nL s args Ts own) (hM : Met l y wsy rm (PcM D cI cJ cZ (.ref b :: As) wc H.size) (va_Qv post (Bm D wc H.size w1) (va_A wc H.size)) mc ms (va_A wc H.size)) (cw : CallW R s args own C index y bytes maxL ret wsy rm mc ms n) (hp : PreV s H C b (PcM D cI cJ cZ (.ref b :: As) wc H.size) As)
    (hn : As.length = n) (hsize : ls.size = nL) (hW : (rest.map fun v => v.category).sum ≤ 8) (hdg : decode cc pc = .ok (.invokevirtual index, 3)) (hf : cells + mc ≤ R.cells ∧ slots + ms ≤ R.slots) {st : List Value} (hst : st = As.reverse ++ .ref b :: rest)
    (hP : va_P D vwCl ws H) (hD : va_D A ws) (hS : va_S A H0 H locs) (hA : ∀ q, H0.size ≤ q → A q) (isC isR : List Nat) (hC : isC.map (fun i => ws[i]?) = wc.map some) (hR : isR.map (fun i => ws[i]?) = wr.map some) (hnr : va_nd isR = true) (hdis : ∀ i ∈ isR, i ∉ isC)
    (kk : ∀ (u : S) (H1 : Heap) (locs1 : List Loc), post u → va_P D vwCl (wr ++ w1 u) H1 → va_D A (wr ++ w1 u) → va_S A H0 H1 locs1 → W p l e R s m args below meth c H1 locs1 (cells + mc) (slots + ms) Q (F0 m (pc + 3) ls rest)) : W p l e R s m args below meth c H locs cells slots Q (F0 m pc ls st) := by
  subst hst
  have hF := va_free hD hS hA isC hC
  refine va_callv (va_runV (g := F0 m pc ls (As.reverse ++ .ref b :: rest)) (rest := rest) SF hM cw hp rfl hn hsize rfl (lv_room hW) hdg hf) hS (fun q _ h => hF q h) hF (fun u t H1 locs1 ht hvm hw hB hz1 hk1 hS1 => ?_)
  obtain ⟨hP1, hD1⟩ := hB
  rw [ht] at hP1
  obtain ⟨hP2, hD2⟩ := va_join hP hD isC isR hC hR hnr hdis hk1 hF hP1 hD1
  exact kk u H1 locs1 hw hP2 hD2 hS1
theorem callMi {post : Int32 → S → Prop} (SF : CallFix p m c cc nL s args Ts own) (hM : Met l y wsy rm (PcM D cI cJ cZ (.ref b :: As) wc H.size) (va_Qi post (Bm D wc H.size w1) (va_A wc H.size)) mc ms (va_A wc H.size)) (cw : CallW R s args own C index y bytes maxL ret wsy rm mc ms n) (hp : PreV s H C b (PcM D cI cJ cZ (.ref b :: As) wc H.size) As)
    (hn : As.length = n) (hsize : ls.size = nL) (hW : (rest.map fun v => v.category).sum ≤ 8) (hdg : decode cc pc = .ok (.invokevirtual index, 3)) (hf : cells + mc ≤ R.cells ∧ slots + ms ≤ R.slots) {st : List Value} (hst : st = As.reverse ++ .ref b :: rest)
    (hP : va_P D vwCl ws H) (hD : va_D A ws) (hS : va_S A H0 H locs) (hA : ∀ q, H0.size ≤ q → A q) (isC isR : List Nat) (hC : isC.map (fun i => ws[i]?) = wc.map some) (hR : isR.map (fun i => ws[i]?) = wr.map some) (hnr : va_nd isR = true) (hdis : ∀ i ∈ isR, i ∉ isC)
    (kk : ∀ (r : Int32) (u : S) (H1 : Heap) (locs1 : List Loc), post r u → va_P D vwCl (wr ++ w1 u) H1 → va_D A (wr ++ w1 u) → va_S A H0 H1 locs1 → W p l e R s m args below meth c H1 locs1 (cells + mc) (slots + ms) Q (F0 m (pc + 3) ls (.int r :: rest))) : W p l e R s m args below meth c H locs cells slots Q (F0 m pc ls st) := by
  subst hst
  have hF := va_free hD hS hA isC hC
  refine va_calli (va_runV (g := F0 m pc ls (As.reverse ++ .ref b :: rest)) (rest := rest) SF hM cw hp rfl hn hsize rfl (lv_room hW) hdg hf) hS (fun q _ h => hF q h) hF (fun r u t H1 locs1 ht hvm hw hB hz1 hk1 hS1 => ?_)
  obtain ⟨hP1, hD1⟩ := hB
  rw [ht] at hP1
  obtain ⟨hP2, hD2⟩ := va_join hP hD isC isR hC hR hnr hdis hk1 hF hP1 hD1
  exact kk r u H1 locs1 hw hP2 hD2 hS1
theorem callMl {post : Int64 → S → Prop} (SF : CallFix p m c cc nL s args Ts own) (hM : Met l y wsy rm (PcM D cI cJ cZ (.ref b :: As) wc H.size) (va_Ql post (Bm D wc H.size w1) (va_A wc H.size)) mc ms (va_A wc H.size)) (cw : CallW R s args own C index y bytes maxL ret wsy rm mc ms n) (hp : PreV s H C b (PcM D cI cJ cZ (.ref b :: As) wc H.size) As)
    (hn : As.length = n) (hsize : ls.size = nL) (hW : (rest.map fun v => v.category).sum ≤ 8) (hdg : decode cc pc = .ok (.invokevirtual index, 3)) (hf : cells + mc ≤ R.cells ∧ slots + ms ≤ R.slots) {st : List Value} (hst : st = As.reverse ++ .ref b :: rest)
    (hP : va_P D vwCl ws H) (hD : va_D A ws) (hS : va_S A H0 H locs) (hA : ∀ q, H0.size ≤ q → A q) (isC isR : List Nat) (hC : isC.map (fun i => ws[i]?) = wc.map some) (hR : isR.map (fun i => ws[i]?) = wr.map some) (hnr : va_nd isR = true) (hdis : ∀ i ∈ isR, i ∉ isC)
    (kk : ∀ (r : Int64) (u : S) (H1 : Heap) (locs1 : List Loc), post r u → va_P D vwCl (wr ++ w1 u) H1 → va_D A (wr ++ w1 u) → va_S A H0 H1 locs1 → W p l e R s m args below meth c H1 locs1 (cells + mc) (slots + ms) Q (F0 m (pc + 3) ls (.long r :: rest))) : W p l e R s m args below meth c H locs cells slots Q (F0 m pc ls st) := by
  subst hst
  have hF := va_free hD hS hA isC hC
  refine va_calll (va_runV (g := F0 m pc ls (As.reverse ++ .ref b :: rest)) (rest := rest) SF hM cw hp rfl hn hsize rfl (lv_room hW) hdg hf) hS (fun q _ h => hF q h) hF (fun r u t H1 locs1 ht hvm hw hB hz1 hk1 hS1 => ?_)
  obtain ⟨hP1, hD1⟩ := hB
  rw [ht] at hP1
  obtain ⟨hP2, hD2⟩ := va_join hP hD isC isR hC hR hnr hdis hk1 hF hP1 hD1
  exact kk r u H1 locs1 hw hP2 hD2 hS1
end Calls
end
section
/-! loops, by a measure that falls; arrays that are filled or new -/
section Loops
variable {p : Program} {l : Launch} {e : Env} {R : Room} {s : State} {m : MethodId} {args : Array Value} {below : List Frame} {meth : Method} {c : Code} {cells slots : Nat} {Q : State → Prop} {pc : Nat} {st : List Value}
theorem r_loop {σ : Type} (μ : σ → Nat) (I : σ → Heap → List Loc → Array Slot → Prop)
    (step : ∀ (x : σ) (H : Heap) (locs : List Loc) (ls : Array Slot), I x H locs ls → (∀ (y : σ) (H' : Heap) (locs' : List Loc) (ls' : Array Slot), I y H' locs' ls' → μ y < μ x → W p l e R s m args below meth c H' locs' cells slots Q (F0 m pc ls' st)) → W p l e R s m args below meth c H locs cells slots Q (F0 m pc ls st))
    (x : σ) {H : Heap} {locs : List Loc} {ls : Array Slot} (h : I x H locs ls) : W p l e R s m args below meth c H locs cells slots Q (F0 m pc ls st) := by
  have key : ∀ (n : Nat) (x : σ) (H : Heap) (locs : List Loc) (ls : Array Slot), μ x < n → I x H locs ls → W p l e R s m args below meth c H locs cells slots Q (F0 m pc ls st) := by
    intro n
    induction n with
    | zero => intro x H locs ls h; omega
    | succ n ih =>
      intro x H locs ls h hI
      exact step x H locs ls hI (fun y H' l' ls' hI' hm => ih y H' l' ls' (by omega) hI')
  exact key (μ x + 1) x H locs ls (Nat.lt_succ_self _) h
theorem r_loopR {σ : Type} {H : Heap} {locs : List Loc} (μ : σ → Nat) (I : σ → Array Slot → Prop)
    (step : ∀ (x : σ) (ls : Array Slot), I x ls → (∀ (y : σ) (ls' : Array Slot), I y ls' → μ y < μ x → W p l e R s m args below meth c H locs cells slots Q (F0 m pc ls' st)) → W p l e R s m args below meth c H locs cells slots Q (F0 m pc ls st))
    (x : σ) {ls : Array Slot} (h : I x ls) : W p l e R s m args below meth c H locs cells slots Q (F0 m pc ls st) := by
  have key : ∀ (n : Nat) (x : σ) (ls : Array Slot), μ x < n → I x ls → W p l e R s m args below meth c H locs cells slots Q (F0 m pc ls st) := by
    intro n
    induction n with
    | zero => intro x ls h; omega
    | succ n ih =>
      intro x ls h hI
      exact step x ls hI (fun y ls' hI' hm => ih y ls' (by omega) hI')
  exact key (μ x + 1) x ls (Nat.lt_succ_self _) h
end Loops
theorem arrV_ext {cA : ClassId} {n : Nat} {f g : Nat → Value} (h : ∀ j, j < n → f j = g j) : arrV cA n f = arrV cA n g := by
  unfold arrV
  have : (fun j : Fin n => f j.val) = (fun j : Fin n => g j.val) := funext fun j => h j.val j.isLt
  rw [this]
/-- what an array holds beyond its end counts for nothing -/
theorem P_extI {D : va_G} {cl : List vw_C} {ws : va_W} {H : Heap} (hP : va_P D cl ws H) (q0 : Nat) {a : Nat} {cA : ClassId} {n : Nat} {f : Nat → Int32} (g : Nat → Int32) (ha : ws[q0]? = some (a, .inl (cA, n, .inl f))) (h : ∀ j, j < n → f j = g j) : va_P D cl (ws.set q0 (a, .inl (cA, n, .inl g))) H := by
  intro k q hk
  rw [List.getElem?_set] at hk
  split at hk
  · next hkq =>
    split at hk
    · have hq := Option.some.inj hk
      subst hq
      have h1 : H[a]? = some (vp_cell cA (n, .inl f)) := hP q0 _ ha
      show H[a]? = some (vp_cell cA (n, .inl g))
      rw [h1, vp_cell_i, vp_cell_i]
      exact congrArg some (arrV_ext (fun j hj => by rw [h j hj]))
    · cases hk
  · exact hP k q hk
theorem P_extL {D : va_G} {cl : List vw_C} {ws : va_W} {H : Heap} (hP : va_P D cl ws H) (q0 : Nat) {a : Nat} {cA : ClassId} {n : Nat} {f : Nat → Int64} (g : Nat → Int64) (ha : ws[q0]? = some (a, .inl (cA, n, .inr (.inl f)))) (h : ∀ j, j < n → f j = g j) : va_P D cl (ws.set q0 (a, .inl (cA, n, .inr (.inl g)))) H := by
  intro k q hk
  rw [List.getElem?_set] at hk
  split at hk
  · next hkq =>
    split at hk
    · have hq := Option.some.inj hk
      subst hq
      have h1 : H[a]? = some (vp_cell cA (n, .inr (.inl f))) := hP q0 _ ha
      show H[a]? = some (vp_cell cA (n, .inr (.inl g)))
      rw [h1, vp_cell_l, vp_cell_l]
      exact congrArg some (arrV_ext (fun j hj => by rw [h j hj]))
    · cases hk
  · exact hP k q hk
theorem D_ext {A : Nat → Prop} {ws : va_W} (hD : va_D A ws) (q0 : Nat) {a : Nat} {x y : va_E} (ha : ws[q0]? = some (a, x)) : va_D A (ws.set q0 (a, y)) := hD.set ha
end
section
theorem fl_X1_holds_15 : Cond.fieldLink RX1 15 "BlockRows$Line" "places" "[I" ∈ wsX1_holds := by decide +kernel
theorem in_X1_holds_X1 : ∀ w ∈ wsX10, w ∈ wsX1_holds := by decide +kernel
set_option maxHeartbeats 4000000 in
set_option maxRecDepth 100000 in
/-- Line.holds(b): has it a place -/
theorem c_holds (l : Launch) (D : va_G) (cI cJ cZ : ClassId) (h am ap n : Nat) (me : Nat → Nat) (pl : Nat → Option Nat) (hpl : ∀ i j, pl i = some j → j < 200) (b : Nat) (hb2 : b < 200) : Met l yX1_holds wsX1_holds ({ frames := 0, cells := 0, slots := 0, locals := 0 }) (PcR D cI cJ cZ [.ref h, .int (nI b)] [(h, .inr (1, [.ref am, .ref ap, .int (nI n)])), (am, .inl (cI, 200, .inl (nIf me))), (ap, .inl (cI, 200, .inl (oIf pl)))]) (vp_Si (fun r => r = bI (pl b).isSome)) 0 0 (fun _ => False) := by
  refine startR (cc := cX1_holds) (maxL := 2) (ret := (some .boolean)) (by decide) rfl (Nat.le_of_ble_eq_true rfl) ?_
  intro p e s m below meth c ls hx hb hr hml hown hts hlocks hE hP hl
  have hl : lv_has ls 2 [(0, .ref h), (1, .int (nI b))] := hl
  refine lv_aload_n hx hb dX1_holds_0 rfl (lv_at hl 0 rfl) ?_
  refine va_get (D := D) (ci := 1) (v := .ref ap) (C := RX1) (T := TX1) (N := 3) hx hb hts in_X1_holds_X1 hown hE.1 hP 0 rfl rfl 1 (by decide) (hts _ fl_X1_holds_15) (fun _ h9 => h9) rfl dX1_holds_1 ?_
  refine lv_iload_n hx hb dX1_holds_4 rfl (lv_at hl 1 rfl) ?_
  refine r_old hx hb hE hP 2 rfl (k := b) (by omega) (by decide) dX1_holds_5 ?_
  refine lv_iconst (v := -1) hx hb dX1_holds_6 (by decide) ?_
  refine r_o_eq (tgt := 14) hx hb (o := pl b) (q := none) rfl rfl (fun j h => by have := hpl _ _ h; omega) (fun j h => by cases h) dX1_holds_7 (by decide) (fun c_7 => ?_) (fun c_7 => ?_)
  · skip
    refine lv_iconst (v := bI false) hx hb dX1_holds_14 (by decide) ?_
    exact e_z false rfl hx hb hr hlocks dX1_holds_15 (by rw [c_7]; rfl)
  · skip
    refine lv_iconst (v := bI true) hx hb dX1_holds_10 (by decide) ?_
    refine lv_goto (tgt := 15) hx hb dX1_holds_11 (by decide) ?_
    exact e_z true rfl hx hb hr hlocks dX1_holds_15 (by rw [show (pl b).isSome = true from Option.isSome_iff_ne_none.mpr c_7])

def gOnB (pl : Nat → Option Nat) (u v : Nat) : Bool := match pl u with
  | none => false
  | some i => decide (pl v = some (i + 1))
theorem fl_X1_goesOn_15 : Cond.fieldLink RX1 15 "BlockRows$Line" "places" "[I" ∈ wsX1_goesOn := by decide +kernel
theorem in_X1_goesOn_X1 : ∀ w ∈ wsX10, w ∈ wsX1_goesOn := by decide +kernel
set_option maxHeartbeats 4000000 in
set_option maxRecDepth 100000 in
/-- Line.goesOn(u, v): v right behind u -/
theorem c_goesOn (l : Launch) (D : va_G) (cI cJ cZ : ClassId) (h am ap n : Nat) (me : Nat → Nat) (pl : Nat → Option Nat) (hpl : ∀ i j, pl i = some j → j < 200) (u v : Nat) (hu : u < 200) (hv : v < 200) : Met l yX1_goesOn wsX1_goesOn ({ frames := 1, cells := 0, slots := 0, locals := 21 }) (PcR D cI cJ cZ [.ref h, .int (nI u), .int (nI v)] [(h, .inr (1, [.ref am, .ref ap, .int (nI n)])), (am, .inl (cI, 200, .inl (nIf me))), (ap, .inl (cI, 200, .inl (oIf pl)))]) (vp_Si (fun r => r = bI (gOnB pl u v))) 0 0 (fun _ => False) := by
  refine startR (cc := cX1_goesOn) (maxL := 3) (ret := (some .boolean)) (by decide) rfl (Nat.le_of_ble_eq_true rfl) ?_
  intro p e s m below meth c ls hx hb hr hml hown hts hlocks hE hP hl
  have hl : lv_has ls 3 [(0, .ref h), (1, .int (nI u)), (2, .int (nI v))] := hl
  refine lv_aload_n hx hb dX1_goesOn_0 rfl (lv_at hl 0 rfl) ?_
  refine lv_iload_n hx hb dX1_goesOn_1 rfl (lv_at hl 1 rfl) ?_
  refine callRi (As := [.int (nI u)]) (rest := []) ⟨hx, hb, hml, hown, hts⟩ (c_holds l D cI cJ cZ h am ap n me pl hpl u hu) (cwV 1 hts gX1_goesOn_X1_holds rfl rfl rfl (by decide +kernel) ⟨Nat.le_of_ble_eq_true rfl, Nat.le_of_ble_eq_true rfl⟩) (preR hE hP 1 0 rfl rfl rfl [0, 1, 2] rfl) rfl hl.1 (Nat.le_of_ble_eq_true rfl) dX1_goesOn_2 ⟨Nat.zero_le _, Nat.zero_le _⟩ rfl (fun r1 hr1 => ?_)
  subst hr1
  refine r_b_eq (tgt := 29) hx hb dX1_goesOn_5 (by decide) (fun c_5 => ?_) (fun c_5 => ?_)
  · skip
    refine lv_iconst (v := bI false) hx hb dX1_goesOn_29 (by decide) ?_
    exact e_z false rfl hx hb hr hlocks dX1_goesOn_30 (by unfold gOnB; cases hq : pl u with | none => rfl | some i => rw [hq] at c_5; cases c_5)
  · skip
    obtain ⟨i, hi⟩ := Option.isSome_iff_exists.mp c_5
    refine lv_aload_n hx hb dX1_goesOn_8 rfl (lv_at hl 0 rfl) ?_
    refine va_get (D := D) (ci := 1) (v := .ref ap) (C := RX1) (T := TX1) (N := 3) hx hb hts in_X1_goesOn_X1 hown hE.1 hP 0 rfl rfl 1 (by decide) (hts _ fl_X1_goesOn_15) (fun _ h9 => h9) rfl dX1_goesOn_9 ?_
    refine lv_iload_n hx hb dX1_goesOn_12 rfl (lv_at hl 2 rfl) ?_
    refine r_old hx hb hE hP 2 rfl (k := v) (by omega) (by decide) dX1_goesOn_13 ?_
    refine lv_aload_n hx hb dX1_goesOn_14 rfl (lv_at hl 0 rfl) ?_
    refine va_get (D := D) (ci := 1) (v := .ref ap) (C := RX1) (T := TX1) (N := 3) hx hb hts in_X1_goesOn_X1 hown hE.1 hP 0 rfl rfl 1 (by decide) (hts _ fl_X1_goesOn_15) (fun _ h9 => h9) rfl dX1_goesOn_15 ?_
    refine lv_iload_n hx hb dX1_goesOn_18 rfl (lv_at hl 1 rfl) ?_
    refine r_old hx hb hE hP 2 rfl (k := u) (by omega) (by decide) dX1_goesOn_19 ?_
    have hi2 := hpl _ _ hi
    refine r_as (w := .int (nI i)) (by rw [hi]; rfl) ?_
    refine lv_iconst (v := nI 1) hx hb dX1_goesOn_20 (by decide) ?_
    refine r_iadd hx hb dX1_goesOn_21 ?_
    refine r_o_ne (tgt := 29) hx hb (o := pl v) (q := some (i + 1)) rfl rfl (fun j h => by have := hpl _ _ h; omega) (fun j h => by cases h; omega) dX1_goesOn_22 (by decide) (fun c_22 => ?_) (fun c_22 => ?_)
    · skip
      refine lv_iconst (v := bI false) hx hb dX1_goesOn_29 (by decide) ?_
      exact e_z false rfl hx hb hr hlocks dX1_goesOn_30 (by unfold gOnB; rw [hi]; simp [c_22])
    · skip
      refine lv_iconst (v := bI true) hx hb dX1_goesOn_25 (by decide) ?_
      refine lv_goto (tgt := 30) hx hb dX1_goesOn_26 (by decide) ?_
      exact e_z true rfl hx hb hr hlocks dX1_goesOn_30 (by unfold gOnB; rw [hi]; simp [c_22])

theorem fl_X1_blockAt_18 : Cond.fieldLink RX1 18 "BlockRows$Line" "filled" "I" ∈ wsX1_blockAt := by decide +kernel
theorem fl_X1_blockAt_9 : Cond.fieldLink RX1 9 "BlockRows$Line" "members" "[I" ∈ wsX1_blockAt := by decide +kernel
theorem in_X1_blockAt_X1 : ∀ w ∈ wsX10, w ∈ wsX1_blockAt := by decide +kernel
set_option maxHeartbeats 4000000 in
set_option maxRecDepth 100000 in
/-- Line.blockAt(k) -/
theorem c_blockAt (l : Launch) (D : va_G) (cI cJ cZ : ClassId) (h am ap n : Nat) (me : Nat → Nat) (pl : Nat → Option Nat) (hn : n ≤ 200) (x : Int32) : Met l yX1_blockAt wsX1_blockAt ({ frames := 0, cells := 0, slots := 0, locals := 0 }) (PcR D cI cJ cZ [.ref h, .int x] [(h, .inr (1, [.ref am, .ref ap, .int (nI n)])), (am, .inl (cI, 200, .inl (nIf me))), (ap, .inl (cI, 200, .inl (oIf pl)))]) (vp_Si (fun r => (r = -1 ∧ ∀ j, j < n → x ≠ nI j) ∨ ∃ j, j < n ∧ x = nI j ∧ r = nI (me j))) 0 0 (fun _ => False) := by
  refine startR (cc := cX1_blockAt) (maxL := 2) (ret := (some .int)) (by decide) rfl (Nat.le_of_ble_eq_true rfl) ?_
  intro p e s m below meth c ls hx hb hr hml hown hts hlocks hE hP hl
  have hl : lv_has ls 2 [(0, .ref h), (1, .int x)] := hl
  refine lv_iload_n hx hb dX1_blockAt_0 rfl (lv_at hl 1 rfl) ?_
  refine lv_if_lt (tgt := 21) hx hb dX1_blockAt_1 (by decide) (fun c_1 => ?_) (fun c_1 => ?_)
  · skip
    refine lv_iconst (v := -1) hx hb dX1_blockAt_21 (by decide) ?_
    exact e_i hx hb hr hlocks dX1_blockAt_22 (Or.inl ⟨rfl, fun j hj e => by subst e; exact absurd c_1 (nI_pos (by omega))⟩)
  · skip
    obtain ⟨j, hj, rfl⟩ := nI_of c_1
    refine lv_iload_n hx hb dX1_blockAt_4 rfl (lv_at hl 1 rfl) ?_
    refine lv_aload_n hx hb dX1_blockAt_5 rfl (lv_at hl 0 rfl) ?_
    refine va_get (D := D) (ci := 1) (v := .int (nI n)) (C := RX1) (T := TX1) (N := 3) hx hb hts in_X1_blockAt_X1 hown hE.1 hP 0 rfl rfl 2 (by decide) (hts _ fl_X1_blockAt_18) (fun _ h9 => h9) rfl dX1_blockAt_6 ?_
    refine r_icmp_ge (tgt := 21) hx hb (x := j) (y := n) (by omega) (by omega) dX1_blockAt_9 (by decide) (fun c_9 => ?_) (fun c_9 => ?_)
    · skip
      refine lv_iconst (v := -1) hx hb dX1_blockAt_21 (by decide) ?_
      exact e_i hx hb hr hlocks dX1_blockAt_22 (Or.inl ⟨rfl, fun i hi e => by have := nI_inj (by omega) (by omega) e; omega⟩)
    · skip
      refine lv_aload_n hx hb dX1_blockAt_12 rfl (lv_at hl 0 rfl) ?_
      refine va_get (D := D) (ci := 1) (v := .ref am) (C := RX1) (T := TX1) (N := 3) hx hb hts in_X1_blockAt_X1 hown hE.1 hP 0 rfl rfl 0 (by decide) (hts _ fl_X1_blockAt_9) (fun _ h9 => h9) rfl dX1_blockAt_13 ?_
      refine lv_iload_n hx hb dX1_blockAt_16 rfl (lv_at hl 1 rfl) ?_
      refine r_nld hx hb hE hP 1 rfl (k := j) (by omega) (by decide) dX1_blockAt_17 ?_
      refine lv_goto (tgt := 22) hx hb dX1_blockAt_18 (by decide) ?_
      exact e_i hx hb hr hlocks dX1_blockAt_22 (Or.inr ⟨j, c_9, rfl, rfl⟩)

theorem fl_X1_append_15 : Cond.fieldLink RX1 15 "BlockRows$Line" "places" "[I" ∈ wsX1_append := by decide +kernel
theorem fl_X1_append_18 : Cond.fieldLink RX1 18 "BlockRows$Line" "filled" "I" ∈ wsX1_append := by decide +kernel
theorem fl_X1_append_9 : Cond.fieldLink RX1 9 "BlockRows$Line" "members" "[I" ∈ wsX1_append := by decide +kernel
theorem in_X1_append_X1 : ∀ w ∈ wsX10, w ∈ wsX1_append := by decide +kernel
set_option maxHeartbeats 4000000 in
set_option maxRecDepth 100000 in
/-- Line.append(b): there is room -/
theorem c_append (l : Launch) (D : va_G) (cI cJ cZ : ClassId) (h am ap n : Nat) (me : Nat → Nat) (pl : Nat → Option Nat) (sz b : Nat) (hn : n < 200) (hb2 : b < 200) : Met l yX1_append wsX1_append ({ frames := 0, cells := 0, slots := 0, locals := 0 }) (PcM D cI cJ cZ [.ref h, .int (nI b)] [(h, .inr (1, [.ref am, .ref ap, .int (nI n)])), (am, .inl (cI, 200, .inl (nIf me))), (ap, .inl (cI, 200, .inl (oIf pl)))] sz) (va_Qv (fun _ : Unit => True) (Bm D [(h, .inr (1, [.ref am, .ref ap, .int (nI n)])), (am, .inl (cI, 200, .inl (nIf me))), (ap, .inl (cI, 200, .inl (oIf pl)))] sz (fun _ : Unit => [(h, .inr (1, [.ref am, .ref ap, .int (nI (n + 1))])), (am, .inl (cI, 200, .inl (nIf (va_up me n b)))), (ap, .inl (cI, 200, .inl (oIf (va_up pl b (some n)))))])) (va_A [(h, .inr (1, [.ref am, .ref ap, .int (nI n)])), (am, .inl (cI, 200, .inl (nIf me))), (ap, .inl (cI, 200, .inl (oIf pl)))] sz)) 0 0 (va_A [(h, .inr (1, [.ref am, .ref ap, .int (nI n)])), (am, .inl (cI, 200, .inl (nIf me))), (ap, .inl (cI, 200, .inl (oIf pl)))] sz) := by
  refine startM (cc := cX1_append) (maxL := 2) (ret := none) (by decide) rfl (Nat.le_of_ble_eq_true rfl) ?_
  intro p e s m below meth c ls A hA hAe hx hb hr hml hown hts hlocks hin hE hP hD hS hl
  have hl : lv_has ls 2 [(0, .ref h), (1, .int (nI b))] := hl
  refine lv_aload_n hx hb dX1_append_0 rfl (lv_at hl 0 rfl) ?_
  refine va_get (D := D) (ci := 1) (v := .int (nI n)) (C := RX1) (T := TX1) (N := 3) hx hb hts in_X1_append_X1 hown hE.1 hP 0 rfl rfl 2 (by decide) (hts _ fl_X1_append_18) (fun _ h9 => h9) rfl dX1_append_1 ?_
  refine lv_sipush (v := nI 200) hx hb dX1_append_4 (by decide) ?_
  refine r_icmp_ge (tgt := 21) hx hb (x := n) (y := 200) (by omega) (by omega) dX1_append_7 (by decide) (fun c_7 => ?_) (fun c_7 => ?_)
  · skip
    exact absurd c_7 (by omega)
  · skip
    refine lv_iload_n hx hb dX1_append_10 rfl (lv_at hl 1 rfl) ?_
    refine lv_if_lt (tgt := 21) hx hb dX1_append_11 (by decide) (fun c_11 => ?_) (fun c_11 => ?_)
    · skip
      exact absurd c_11 (nI_pos (by omega))
    · skip
      refine lv_iload_n hx hb dX1_append_14 rfl (lv_at hl 1 rfl) ?_
      refine lv_sipush (v := nI 200) hx hb dX1_append_15 (by decide) ?_
      refine r_icmp_lt (tgt := 22) hx hb (x := b) (y := 200) (by omega) (by omega) dX1_append_18 (by decide) (fun c_18 => ?_) (fun c_18 => ?_)
      · skip
        refine lv_aload_n hx hb dX1_append_22 rfl (lv_at hl 0 rfl) ?_
        refine va_get (D := D) (ci := 1) (v := .ref am) (C := RX1) (T := TX1) (N := 3) hx hb hts in_X1_append_X1 hown hE.1 hP 0 rfl rfl 0 (by decide) (hts _ fl_X1_append_9) (fun _ h9 => h9) rfl dX1_append_23 ?_
        refine lv_aload_n hx hb dX1_append_26 rfl (lv_at hl 0 rfl) ?_
        refine va_get (D := D) (ci := 1) (v := .int (nI n)) (C := RX1) (T := TX1) (N := 3) hx hb hts in_X1_append_X1 hown hE.1 hP 0 rfl rfl 2 (by decide) (hts _ fl_X1_append_18) (fun _ h9 => h9) rfl dX1_append_27 ?_
        refine lv_iload_n hx hb dX1_append_30 rfl (lv_at hl 1 rfl) ?_
        refine r_nst hx hb hE hP hD hS 1 rfl (k := n) (x := b) (by omega) (by decide) dX1_append_31 (fun H locs hP hD hS => ?_)
        have hP : va_P D vwCl [(h, .inr (1, [.ref am, .ref ap, .int (nI n)])), (am, .inl (cI, 200, .inl (nIf (va_up me n b)))), (ap, .inl (cI, 200, .inl (oIf pl)))] H := hP
        have hD : va_D A [(h, .inr (1, [.ref am, .ref ap, .int (nI n)])), (am, .inl (cI, 200, .inl (nIf (va_up me n b)))), (ap, .inl (cI, 200, .inl (oIf pl)))] := hD
        refine lv_aload_n hx hb dX1_append_32 rfl (lv_at hl 0 rfl) ?_
        refine va_get (D := D) (ci := 1) (v := .ref ap) (C := RX1) (T := TX1) (N := 3) hx hb hts in_X1_append_X1 hown hE.1 hP 0 rfl rfl 1 (by decide) (hts _ fl_X1_append_15) (fun _ h9 => h9) rfl dX1_append_33 ?_
        refine lv_iload_n hx hb dX1_append_36 rfl (lv_at hl 1 rfl) ?_
        refine lv_aload_n hx hb dX1_append_37 rfl (lv_at hl 0 rfl) ?_
        refine va_get (D := D) (ci := 1) (v := .int (nI n)) (C := RX1) (T := TX1) (N := 3) hx hb hts in_X1_append_X1 hown hE.1 hP 0 rfl rfl 2 (by decide) (hts _ fl_X1_append_18) (fun _ h9 => h9) rfl dX1_append_38 ?_
        refine r_ost hx hb hE hP hD hS 2 rfl (k := b) (some n) rfl (by omega) (by decide) dX1_append_41 (fun H locs hP hD hS => ?_)
        have hP : va_P D vwCl [(h, .inr (1, [.ref am, .ref ap, .int (nI n)])), (am, .inl (cI, 200, .inl (nIf (va_up me n b)))), (ap, .inl (cI, 200, .inl (oIf (va_up pl b (some n)))))] H := hP
        have hD : va_D A [(h, .inr (1, [.ref am, .ref ap, .int (nI n)])), (am, .inl (cI, 200, .inl (nIf (va_up me n b)))), (ap, .inl (cI, 200, .inl (oIf (va_up pl b (some n)))))] := hD
        refine lv_aload_n hx hb dX1_append_42 rfl (lv_at hl 0 rfl) ?_
        refine lv_dup hx hb dX1_append_43 rfl ?_
        refine va_get (D := D) (ci := 1) (v := .int (nI n)) (C := RX1) (T := TX1) (N := 3) hx hb hts in_X1_append_X1 hown hE.1 hP 0 rfl rfl 2 (by decide) (hts _ fl_X1_append_18) (fun _ h9 => h9) rfl dX1_append_44 ?_
        refine lv_iconst (v := nI 1) hx hb dX1_append_47 (by decide) ?_
        refine r_iadd hx hb dX1_append_48 ?_
        refine va_put (D := D) (ci := 1) (v := .int (nI (n + 1))) (ty := .int) (C := RX1) (T := TX1) (N := 3) hx hb hts in_X1_append_X1 tyX1 tyX1_ok nmX1 hown hE.1 hP hD hS 0 rfl rfl 2 (by decide) (hts _ fl_X1_append_18) (fun _ h9 => h9) rfl (by decide +kernel) rfl rfl (Nat.le_of_ble_eq_true rfl) dX1_append_49 (fun H locs hP hD hS => ?_)
        have hP : va_P D vwCl [(h, .inr (1, [.ref am, .ref ap, .int (nI (n + 1))])), (am, .inl (cI, 200, .inl (nIf (va_up me n b)))), (ap, .inl (cI, 200, .inl (oIf (va_up pl b (some n)))))] H := hP
        have hD : va_D A [(h, .inr (1, [.ref am, .ref ap, .int (nI (n + 1))])), (am, .inl (cI, 200, .inl (nIf (va_up me n b)))), (ap, .inl (cI, 200, .inl (oIf (va_up pl b (some n)))))] := hD
        exact e_mv () hAe hx hb hr hlocks dX1_append_52 hP hD hS trivial
      · skip
        exact absurd c_18 (by omega)
end
section
/-! the ways, as lists: a way is (from, to, count, falls) -/
abbrev Wy : Type := Nat × Nat × Nat × Bool
def pk (fr tt ct : Nat → Nat) (fa : Nat → Bool) : Nat → Wy := fun k => (fr k, tt k, ct k, fa k)
def bef (a b : Wy) : Bool := if a.2.2.1 = b.2.2.1 then (if a.1 = b.1 then decide (a.2.1 < b.2.1) else decide (a.1 < b.1)) else decide (b.2.2.1 < a.2.2.1)
def wl (kn : Nat) (g : Nat → Wy) : List Wy := (List.range kn).map g
def Srt (kn : Nat) (g : Nat → Wy) : Prop := ∀ i j, i < j → j < kn → bef (g i) (g j) = true
def KdL (L : List Wy) : Prop := L.Pairwise (fun a b => ¬ (a.1 = b.1 ∧ a.2.1 = b.2.1))
def WB (fr tt ct : Nat → Nat) : Prop := ∀ k, fr k < 200 ∧ tt k < 200 ∧ ct k ≤ 1000000000000000
def sw {α : Type} (f : Nat → α) (a b : Nat) : Nat → α := va_up (va_up f a (f b)) b (f a)
def MF (kn : Nat) (g0 g : Nat → Wy) (w : Nat) : Prop := w < kn ∧ (wl kn g).Perm (wl kn g0) ∧ KdL (wl kn g) ∧ (∀ i j, i < j → j < kn → i ≠ w → j ≠ w → bef (g i) (g j) = true) ∧ (∀ j, w < j → j < kn → bef (g w) (g j) = true)
theorem wl_succ (k : Nat) (g : Nat → Wy) : wl (k + 1) g = wl k g ++ [g k] := by
  simp [wl, List.range_succ]
theorem wl_len (k : Nat) (g : Nat → Wy) : (wl k g).length = k := by simp [wl]
theorem wl_congr {k : Nat} {g h : Nat → Wy} (e : ∀ i, i < k → g i = h i) : wl k g = wl k h := by
  unfold wl
  exact List.map_congr_left (fun i hi => e i (List.mem_range.mp hi))
theorem wl_get {k : Nat} {g : Nat → Wy} {i : Nat} (h : i < k) : (wl k g)[i]? = some (g i) := by
  simp [wl, h]
theorem wl_mem {k : Nat} {g : Nat → Wy} {w : Wy} : w ∈ wl k g ↔ ∃ i, i < k ∧ g i = w := by
  simp [wl]
theorem KdL.perm {L M : List Wy} (h : L.Perm M) (hk : KdL L) : KdL M := (h.pairwise_iff (fun {x y} q z => q ⟨z.1.symm, z.2.symm⟩)).mp hk
theorem KdL.inj {kn : Nat} {g : Nat → Wy} (h : KdL (wl kn g)) : ∀ i j, i < kn → j < kn → (g i).1 = (g j).1 → (g i).2.1 = (g j).2.1 → i = j := by
  have key : ∀ i j, i < j → j < kn → ¬ ((g i).1 = (g j).1 ∧ (g i).2.1 = (g j).2.1) := by
    intro i j hij hj
    have h1 := List.pairwise_iff_getElem.mp h i j (by rw [wl_len]; omega) (by rw [wl_len]; omega) hij
    have e1 : (wl kn g)[i]'(by rw [wl_len]; omega) = g i := by simp [wl]
    have e2 : (wl kn g)[j]'(by rw [wl_len]; omega) = g j := by simp [wl]
    rw [e1, e2] at h1
    exact h1
  intro i j hi hj e1 e2
  rcases Nat.lt_trichotomy i j with q | q | q
  · exact absurd ⟨e1, e2⟩ (key i j q hj)
  · exact q
  · exact absurd ⟨e1.symm, e2.symm⟩ (key j i q hi)
theorem sw_a {α : Type} {f : Nat → α} {a b : Nat} : sw f a b a = f b := by
  unfold sw
  by_cases h : a = b
  · subst h; rw [va_up_self]
  · rw [va_up_ne _ _ h, va_up_self]
theorem sw_b {α : Type} {f : Nat → α} {a b : Nat} : sw f a b b = f a := by
  unfold sw
  rw [va_up_self]
theorem sw_o {α : Type} {f : Nat → α} {a b i : Nat} (ha : i ≠ a) (hb : i ≠ b) : sw f a b i = f i := by
  unfold sw
  rw [va_up_ne _ _ hb, va_up_ne _ _ ha]
theorem pk_sw (fr tt ct : Nat → Nat) (fa : Nat → Bool) (a b : Nat) : pk (sw fr a b) (sw tt a b) (sw ct a b) (sw fa a b) = sw (pk fr tt ct fa) a b := by
  funext i
  by_cases h2 : i = b
  · subst h2
    simp only [pk, sw_b]
  · by_cases h1 : i = a
    · subst h1
      simp only [pk, sw_a]
    · simp only [pk, sw_o h1 h2]
theorem WB.sw {fr tt ct : Nat → Nat} (h : WB fr tt ct) (a b : Nat) : WB (sw fr a b) (sw tt a b) (sw ct a b) := by
  intro i
  by_cases h2 : i = b
  · subst h2
    simp only [sw_b]
    exact h a
  · by_cases h1 : i = a
    · subst h1
      simp only [sw_a]
      exact h b
    · simp only [sw_o h1 h2]
      exact h i
theorem perm_sw {g : Nat → Wy} (v : Nat) : ∀ d, (wl (v + 2 + d) (sw g (v + 1) v)).Perm (wl (v + 2 + d) g) := by
  intro d
  induction d with
  | zero =>
    show (wl (v + 1 + 1) (sw g (v + 1) v)).Perm (wl (v + 1 + 1) g)
    rw [wl_succ, wl_succ, wl_succ, wl_succ, sw_a, sw_b, wl_congr (h := g) (fun i hi => sw_o (by omega) (by omega)), List.append_assoc, List.append_assoc]
    exact List.Perm.append_left _ (List.Perm.swap _ _ [])
  | succ d ih =>
    show (wl (v + 2 + d + 1) (sw g (v + 1) v)).Perm (wl (v + 2 + d + 1) g)
    rw [wl_succ, wl_succ (v + 2 + d) g, sw_o (by omega) (by omega)]
    exact ih.append_right _
theorem bef_trans {a b c : Wy} (h1 : bef a b = true) (h2 : bef b c = true) : bef a c = true := by
  unfold bef at *
  split at h1 <;> split at h2 <;> (try split at h1) <;> (try split at h2) <;> simp only [decide_eq_true_eq] at h1 h2 <;> (repeat' split) <;> simp only [decide_eq_true_eq] <;> omega
theorem bef_total {a b : Wy} (h : ¬ (a.1 = b.1 ∧ a.2.1 = b.2.1)) (h2 : bef a b = false) : bef b a = true := by
  unfold bef at *
  split at h2 <;> (try split at h2) <;> simp only [decide_eq_false_iff_not] at h2 <;> (repeat' split) <;> simp only [decide_eq_true_eq] <;> omega
theorem bef_irr {a b : Wy} (h1 : bef a b = true) (h2 : bef b a = true) : False := by
  have h := bef_trans h1 h2
  unfold bef at h
  simp at h
theorem MF_swap {kn : Nat} {g0 g : Nat → Wy} {w : Nat} (h : MF kn g0 g w) (hw : 0 < w) (hb : bef (g w) (g (w - 1)) = true) : MF kn g0 (sw g w (w - 1)) (w - 1) := by
  obtain ⟨h1, h2, h3, h4, h5⟩ := h
  have hp : (wl kn (sw g w (w - 1))).Perm (wl kn g) := by
    obtain ⟨v, rfl⟩ : ∃ v, w = v + 1 := ⟨w - 1, by omega⟩
    obtain ⟨d, rfl⟩ : ∃ d, kn = v + 2 + d := ⟨kn - (v + 2), by omega⟩
    exact perm_sw v d
  refine ⟨by omega, hp.trans h2, h3.perm hp.symm, ?_, ?_⟩
  · intro i j hij hj hi1 hj1
    by_cases e1 : i = w
    · subst e1
      rw [sw_a, sw_o (by omega) (by omega)]
      exact h4 (i - 1) j (by omega) hj (by omega) (by omega)
    · by_cases e2 : j = w
      · subst e2
        rw [sw_a, sw_o (by omega) (by omega)]
        exact h4 i (j - 1) (by omega) (by omega) (by omega) (by omega)
      · rw [sw_o e1 hi1, sw_o e2 hj1]
        exact h4 i j hij hj e1 e2
  · intro j hj1 hj2
    rw [sw_b]
    by_cases e1 : j = w
    · subst e1
      rw [sw_a]
      exact hb
    · rw [sw_o e1 (by omega)]
      exact h5 j (by omega) hj2
theorem MF_end {kn : Nat} {g0 g : Nat → Wy} {w : Nat} (h : MF kn g0 g w) (he : w = 0 ∨ bef (g w) (g (w - 1)) = false) : (wl kn g).Perm (wl kn g0) ∧ Srt kn g := by
  obtain ⟨h1, h2, h3, h4, h5⟩ := h
  refine ⟨h2, ?_⟩
  have hprev : ∀ i, i < w → bef (g i) (g w) = true := by
    intro i hi
    rcases he with e | e
    · omega
    · have h6 : bef (g (w - 1)) (g w) = true := bef_total (fun q => by have := h3.inj w (w - 1) h1 (by omega) q.1 q.2; omega) e
      by_cases e2 : i = w - 1
      · subst e2; exact h6
      · exact bef_trans (h4 i (w - 1) (by omega) (by omega) (by omega) (by omega)) h6
  intro i j hij hj
  by_cases e1 : i = w
  · subst e1; exact h5 j hij hj
  · by_cases e2 : j = w
    · subst e2; exact hprev i hij
    · exact h4 i j hij hj e1 e2
/-- a sorted row in which one way, at w, has come to the front of those that it was in front of -/
theorem MF_of {kn : Nat} {g : Nat → Wy} {w : Nat} (hw : w < kn) (hk : KdL (wl kn g)) (h4 : ∀ i j, i < j → j < kn → i ≠ w → j ≠ w → bef (g i) (g j) = true) (h5 : ∀ j, w < j → j < kn → bef (g w) (g j) = true) : MF kn g g w := ⟨hw, List.Perm.refl _, hk, h4, h5⟩
def Fnd (fr tt : Nat → Nat) (kn : Nat) (x y : Int32) (o : Option Nat) : Prop := match o with
  | none => ∀ j, j < kn → ¬ (nI (fr j) = x ∧ nI (tt j) = y)
  | some k => k < kn ∧ nI (fr k) = x ∧ nI (tt k) = y
end
section
theorem fl_X2_find_15 : Cond.fieldLink RX2 15 "BlockRows$Ways" "to" "[I" ∈ wsX2_find := by decide +kernel
theorem fl_X2_find_26 : Cond.fieldLink RX2 26 "BlockRows$Ways" "known" "I" ∈ wsX2_find := by decide +kernel
theorem fl_X2_find_9 : Cond.fieldLink RX2 9 "BlockRows$Ways" "from" "[I" ∈ wsX2_find := by decide +kernel
theorem in_X2_find_X2 : ∀ w ∈ wsX20, w ∈ wsX2_find := by decide +kernel
set_option maxHeartbeats 4000000 in
set_option maxRecDepth 100000 in
/-- Ways.find(u, v) -/
theorem c_find (l : Launch) (D : va_G) (cI cJ cZ : ClassId) (h af at_ ac al kn : Nat) (fr tt ct : Nat → Nat) (fa : Nat → Bool) (hkn : kn ≤ 1000) (x y : Int32) : Met l yX2_find wsX2_find ({ frames := 0, cells := 0, slots := 0, locals := 0 }) (PcR D cI cJ cZ [.ref h, .int x, .int y] [(h, .inr (2, [.ref af, .ref at_, .ref ac, .ref al, .int (nI kn)])), (af, .inl (cI, 1000, .inl (nIf fr))), (at_, .inl (cI, 1000, .inl (nIf tt))), (ac, .inl (cJ, 1000, .inr (.inl (lNf ct)))), (al, .inl (cZ, 1000, .inl (bIf fa)))]) (vp_Si (fun r => ∃ o, r = oI o ∧ Fnd fr tt kn x y o)) 0 0 (fun _ => False) := by
  refine startR (cc := cX2_find) (maxL := 4) (ret := (some .int)) (by decide) rfl (Nat.le_of_ble_eq_true rfl) ?_
  intro p e s m below meth c ls hx hb hr hml hown hts hlocks hE hP hl
  have hl : lv_has ls 4 [(0, .ref h), (1, .int x), (2, .int y)] := hl
  refine lv_iconst (v := nI 0) hx hb dX2_find_0 (by decide) ?_
  refine lv_istore_n (lv' := [(3, .int (nI 0)), (0, .ref h), (1, .int x), (2, .int y)]) hx hb dX2_find_1 rfl hl (by decide) rfl (fun ls hl => ?_)
  refine r_loopR (σ := Nat) (fun z0 => kn - z0) (fun z0 ls => (z0 ≤ kn ∧ ∀ j, j < z0 → ¬ (nI (fr j) = x ∧ nI (tt j) = y)) ∧ lv_has ls 4 [(0, .ref h), (1, .int x), (2, .int y), (3, .int (nI z0))]) ?_ 0 ⟨⟨Nat.zero_le _, fun j hj => by omega⟩, lv_sub hl [1, 2, 3, 0] rfl⟩
  rintro k ls ⟨hi_2, hl⟩ ih_2
  have hi_2 : k ≤ kn ∧ ∀ j, j < k → ¬ (nI (fr j) = x ∧ nI (tt j) = y) := hi_2
  have hl : lv_has ls 4 [(0, .ref h), (1, .int x), (2, .int y), (3, .int (nI k))] := hl
  obtain ⟨hi_a, hi_b⟩ := id hi_2
  refine lv_iload_n hx hb dX2_find_2 rfl (lv_at hl 3 rfl) ?_
  refine lv_aload_n hx hb dX2_find_3 rfl (lv_at hl 0 rfl) ?_
  refine va_get (D := D) (ci := 2) (v := .int (nI kn)) (C := RX2) (T := TX2) (N := 5) hx hb hts in_X2_find_X2 hown hE.1 hP 0 rfl rfl 4 (by decide) (hts _ fl_X2_find_26) (fun _ h9 => h9) rfl dX2_find_4 ?_
  refine r_icmp_ge (tgt := 38) hx hb (x := k) (y := kn) (by omega) (by omega) dX2_find_7 (by decide) (fun c_7 => ?_) (fun c_7 => ?_)
  · skip
    refine lv_iconst (v := -1) hx hb dX2_find_38 (by decide) ?_
    exact e_i hx hb hr hlocks dX2_find_39 ⟨none, rfl, fun j hj => hi_b j (by omega)⟩
  · skip
    refine lv_aload_n hx hb dX2_find_10 rfl (lv_at hl 0 rfl) ?_
    refine va_get (D := D) (ci := 2) (v := .ref af) (C := RX2) (T := TX2) (N := 5) hx hb hts in_X2_find_X2 hown hE.1 hP 0 rfl rfl 0 (by decide) (hts _ fl_X2_find_9) (fun _ h9 => h9) rfl dX2_find_11 ?_
    refine lv_iload_n hx hb dX2_find_14 rfl (lv_at hl 3 rfl) ?_
    refine r_nld hx hb hE hP 1 rfl (k := k) (by omega) (by decide) dX2_find_15 ?_
    refine lv_iload_n hx hb dX2_find_16 rfl (lv_at hl 1 rfl) ?_
    refine lv_icmp_ne (tgt := 32) hx hb dX2_find_17 (by decide) (fun c_17 => ?_) (fun c_17 => ?_)
    · skip
      refine lv_iinc (v := (nI (k + 1))) (lv' := [(3, .int (nI (k + 1))), (0, .ref h), (1, .int x), (2, .int y)]) hx hb dX2_find_32 hl (k := 3) rfl (nI_1 _) (by decide) rfl (fun ls hl => ?_)
      refine lv_goto (tgt := 2) hx hb dX2_find_35 (by decide) ?_
      exact ih_2 (k + 1) _ ⟨(show (k + 1) ≤ kn ∧ ∀ j, j < (k + 1) → ¬ (nI (fr j) = x ∧ nI (tt j) = y) from ⟨by omega, lt_s hi_2.2 (fun z => c_17 z.1)⟩), lv_sub hl [1, 2, 3, 0] rfl⟩ (by show kn - (k + 1) < kn - k; omega)
    · skip
      refine lv_aload_n hx hb dX2_find_20 rfl (lv_at hl 0 rfl) ?_
      refine va_get (D := D) (ci := 2) (v := .ref at_) (C := RX2) (T := TX2) (N := 5) hx hb hts in_X2_find_X2 hown hE.1 hP 0 rfl rfl 1 (by decide) (hts _ fl_X2_find_15) (fun _ h9 => h9) rfl dX2_find_21 ?_
      refine lv_iload_n hx hb dX2_find_24 rfl (lv_at hl 3 rfl) ?_
      refine r_nld hx hb hE hP 2 rfl (k := k) (by omega) (by decide) dX2_find_25 ?_
      refine lv_iload_n hx hb dX2_find_26 rfl (lv_at hl 2 rfl) ?_
      refine lv_icmp_ne (tgt := 32) hx hb dX2_find_27 (by decide) (fun c_27 => ?_) (fun c_27 => ?_)
      · skip
        refine lv_iinc (v := (nI (k + 1))) (lv' := [(3, .int (nI (k + 1))), (0, .ref h), (1, .int x), (2, .int y)]) hx hb dX2_find_32 hl (k := 3) rfl (nI_1 _) (by decide) rfl (fun ls hl => ?_)
        refine lv_goto (tgt := 2) hx hb dX2_find_35 (by decide) ?_
        exact ih_2 (k + 1) _ ⟨(show (k + 1) ≤ kn ∧ ∀ j, j < (k + 1) → ¬ (nI (fr j) = x ∧ nI (tt j) = y) from ⟨by omega, lt_s hi_2.2 (fun z => c_27 z.2)⟩), lv_sub hl [1, 2, 3, 0] rfl⟩ (by show kn - (k + 1) < kn - k; omega)
      · skip
        refine lv_iload_n hx hb dX2_find_30 rfl (lv_at hl 3 rfl) ?_
        exact e_i hx hb hr hlocks dX2_find_31 ⟨some k, rfl, c_7, c_17, c_27⟩

def ctO (ct : Nat → Nat) (o : Option Nat) : Nat := match o with
  | none => 0
  | some k => ct k
theorem fl_X2_told_18 : Cond.fieldLink RX2 18 "BlockRows$Ways" "counts" "[J" ∈ wsX2_told := by decide +kernel
theorem in_X2_told_X2 : ∀ w ∈ wsX20, w ∈ wsX2_told := by decide +kernel
set_option maxHeartbeats 4000000 in
set_option maxRecDepth 100000 in
/-- Ways.told(u, v) -/
theorem c_told (l : Launch) (D : va_G) (cI cJ cZ : ClassId) (h af at_ ac al kn : Nat) (fr tt ct : Nat → Nat) (fa : Nat → Bool) (hkn : kn ≤ 1000) (x y : Int32) : Met l yX2_told wsX2_told ({ frames := 1, cells := 0, slots := 0, locals := 23 }) (PcR D cI cJ cZ [.ref h, .int x, .int y] [(h, .inr (2, [.ref af, .ref at_, .ref ac, .ref al, .int (nI kn)])), (af, .inl (cI, 1000, .inl (nIf fr))), (at_, .inl (cI, 1000, .inl (nIf tt))), (ac, .inl (cJ, 1000, .inr (.inl (lNf ct)))), (al, .inl (cZ, 1000, .inl (bIf fa)))]) (vp_Sl (fun r => ∃ o, Fnd fr tt kn x y o ∧ r = lN (ctO ct o))) 0 0 (fun _ => False) := by
  refine startR (cc := cX2_told) (maxL := 4) (ret := (some .long)) (by decide) rfl (Nat.le_of_ble_eq_true rfl) ?_
  intro p e s m below meth c ls hx hb hr hml hown hts hlocks hE hP hl
  have hl : lv_has ls 4 [(0, .ref h), (1, .int x), (2, .int y)] := hl
  refine lv_aload_n hx hb dX2_told_0 rfl (lv_at hl 0 rfl) ?_
  refine lv_iload_n hx hb dX2_told_1 rfl (lv_at hl 1 rfl) ?_
  refine lv_iload_n hx hb dX2_told_2 rfl (lv_at hl 2 rfl) ?_
  refine callRi (As := [.int x, .int y]) (rest := []) ⟨hx, hb, hml, hown, hts⟩ (c_find l D cI cJ cZ h af at_ ac al kn fr tt ct fa hkn x y) (cwV 2 hts gX2_told_X2_find rfl rfl rfl (by decide +kernel) ⟨Nat.le_of_ble_eq_true rfl, Nat.le_of_ble_eq_true rfl⟩) (preR hE hP 2 0 rfl rfl rfl [0, 1, 2, 3, 4] rfl) rfl hl.1 (Nat.le_of_ble_eq_true rfl) dX2_told_3 ⟨Nat.zero_le _, Nat.zero_le _⟩ rfl (fun r1 hr1 => ?_)
  obtain ⟨o, rfl, hF⟩ := hr1
  have hob : ∀ j, o = some j → j < 1000 := fun j hj => by subst hj; exact Nat.lt_of_lt_of_le hF.1 hkn
  refine lv_istore_n (lv' := [(3, .int (oI o)), (0, .ref h), (1, .int x), (2, .int y)]) hx hb dX2_told_6 rfl hl (by decide) rfl (fun ls hl => ?_)
  refine lv_iload_n hx hb dX2_told_7 rfl (lv_at hl 0 rfl) ?_
  refine lv_iconst (v := -1) hx hb dX2_told_8 (by decide) ?_
  refine r_o_ne (tgt := 16) hx hb (o := o) (q := none) rfl rfl (fun j hj => by have := hob j hj; omega) (fun j h => by cases h) dX2_told_9 (by decide) (fun c_9 => ?_) (fun c_9 => ?_)
  · skip
    obtain ⟨k, rfl⟩ := Option.ne_none_iff_exists'.mp c_9
    have hk2 := hob k rfl
    have hl : lv_has ls 4 [(3, .int (nI k)), (0, .ref h), (1, .int x), (2, .int y)] := hl
    refine lv_aload_n hx hb dX2_told_16 rfl (lv_at hl 1 rfl) ?_
    refine va_get (D := D) (ci := 2) (v := .ref ac) (C := RX2) (T := TX2) (N := 5) hx hb hts in_X2_told_X2 hown hE.1 hP 0 rfl rfl 2 (by decide) (hts _ fl_X2_told_18) (fun _ h9 => h9) rfl dX2_told_17 ?_
    refine lv_iload_n hx hb dX2_told_20 rfl (lv_at hl 0 rfl) ?_
    refine r_lld hx hb hE hP 3 rfl (k := k) (by omega) (by decide) dX2_told_21 ?_
    exact e_l hx hb hr hlocks dX2_told_22 ⟨some k, hF, rfl⟩
  · skip
    refine lv_lconst (v := lN 0) hx hb dX2_told_12 (by decide) ?_
    refine lv_goto (tgt := 22) hx hb dX2_told_13 (by decide) ?_
    exact e_l hx hb hr hlocks dX2_told_22 ⟨none, by rw [← c_9]; exact hF, rfl⟩

theorem fl_X2_forget_26 : Cond.fieldLink RX2 26 "BlockRows$Ways" "known" "I" ∈ wsX2_forget := by decide +kernel
theorem in_X2_forget_X2 : ∀ w ∈ wsX20, w ∈ wsX2_forget := by decide +kernel
set_option maxHeartbeats 4000000 in
set_option maxRecDepth 100000 in
/-- Ways.forget() -/
theorem c_forget (l : Launch) (D : va_G) (cI cJ cZ : ClassId) (h af at_ ac al kn : Nat) (fr tt ct : Nat → Nat) (fa : Nat → Bool) (sz : Nat) : Met l yX2_forget wsX2_forget ({ frames := 0, cells := 0, slots := 0, locals := 0 }) (PcM D cI cJ cZ [.ref h] [(h, .inr (2, [.ref af, .ref at_, .ref ac, .ref al, .int (nI kn)])), (af, .inl (cI, 1000, .inl (nIf fr))), (at_, .inl (cI, 1000, .inl (nIf tt))), (ac, .inl (cJ, 1000, .inr (.inl (lNf ct)))), (al, .inl (cZ, 1000, .inl (bIf fa)))] sz) (va_Qv (fun _ : Unit => True) (Bm D [(h, .inr (2, [.ref af, .ref at_, .ref ac, .ref al, .int (nI kn)])), (af, .inl (cI, 1000, .inl (nIf fr))), (at_, .inl (cI, 1000, .inl (nIf tt))), (ac, .inl (cJ, 1000, .inr (.inl (lNf ct)))), (al, .inl (cZ, 1000, .inl (bIf fa)))] sz (fun _ : Unit => [(h, .inr (2, [.ref af, .ref at_, .ref ac, .ref al, .int (nI 0)])), (af, .inl (cI, 1000, .inl (nIf fr))), (at_, .inl (cI, 1000, .inl (nIf tt))), (ac, .inl (cJ, 1000, .inr (.inl (lNf ct)))), (al, .inl (cZ, 1000, .inl (bIf fa)))])) (va_A [(h, .inr (2, [.ref af, .ref at_, .ref ac, .ref al, .int (nI kn)])), (af, .inl (cI, 1000, .inl (nIf fr))), (at_, .inl (cI, 1000, .inl (nIf tt))), (ac, .inl (cJ, 1000, .inr (.inl (lNf ct)))), (al, .inl (cZ, 1000, .inl (bIf fa)))] sz)) 0 0 (va_A [(h, .inr (2, [.ref af, .ref at_, .ref ac, .ref al, .int (nI kn)])), (af, .inl (cI, 1000, .inl (nIf fr))), (at_, .inl (cI, 1000, .inl (nIf tt))), (ac, .inl (cJ, 1000, .inr (.inl (lNf ct)))), (al, .inl (cZ, 1000, .inl (bIf fa)))] sz) := by
  refine startM (cc := cX2_forget) (maxL := 1) (ret := none) (by decide) rfl (Nat.le_of_ble_eq_true rfl) ?_
  intro p e s m below meth c ls A hA hAe hx hb hr hml hown hts hlocks hin hE hP hD hS hl
  have hl : lv_has ls 1 [(0, .ref h)] := hl
  refine lv_aload_n hx hb dX2_forget_0 rfl (lv_at hl 0 rfl) ?_
  refine lv_iconst (v := nI 0) hx hb dX2_forget_1 (by decide) ?_
  refine va_put (D := D) (ci := 2) (v := .int (nI 0)) (ty := .int) (C := RX2) (T := TX2) (N := 5) hx hb hts in_X2_forget_X2 tyX2 tyX2_ok nmX2 hown hE.1 hP hD hS 0 rfl rfl 4 (by decide) (hts _ fl_X2_forget_26) (fun _ h9 => h9) rfl (by decide +kernel) rfl rfl (Nat.le_of_ble_eq_true rfl) dX2_forget_2 (fun H locs hP hD hS => ?_)
  have hP : va_P D vwCl [(h, .inr (2, [.ref af, .ref at_, .ref ac, .ref al, .int (nI 0)])), (af, .inl (cI, 1000, .inl (nIf fr))), (at_, .inl (cI, 1000, .inl (nIf tt))), (ac, .inl (cJ, 1000, .inr (.inl (lNf ct)))), (al, .inl (cZ, 1000, .inl (bIf fa)))] H := hP
  have hD : va_D A [(h, .inr (2, [.ref af, .ref at_, .ref ac, .ref al, .int (nI 0)])), (af, .inl (cI, 1000, .inl (nIf fr))), (at_, .inl (cI, 1000, .inl (nIf tt))), (ac, .inl (cJ, 1000, .inr (.inl (lNf ct)))), (al, .inl (cZ, 1000, .inl (bIf fa)))] := hD
  exact e_mv () hAe hx hb hr hlocks dX2_forget_5 hP hD hS trivial

theorem fl_X2_isBefore_15 : Cond.fieldLink RX2 15 "BlockRows$Ways" "to" "[I" ∈ wsX2_isBefore := by decide +kernel
theorem fl_X2_isBefore_18 : Cond.fieldLink RX2 18 "BlockRows$Ways" "counts" "[J" ∈ wsX2_isBefore := by decide +kernel
theorem fl_X2_isBefore_9 : Cond.fieldLink RX2 9 "BlockRows$Ways" "from" "[I" ∈ wsX2_isBefore := by decide +kernel
theorem in_X2_isBefore_X2 : ∀ w ∈ wsX20, w ∈ wsX2_isBefore := by decide +kernel
set_option maxHeartbeats 4000000 in
set_option maxRecDepth 100000 in
/-- Ways.isBefore(a, b) -/
theorem c_isBefore (l : Launch) (D : va_G) (cI cJ cZ : ClassId) (h af at_ ac al kn : Nat) (fr tt ct : Nat → Nat) (fa : Nat → Bool) (hB : WB fr tt ct) (i j : Nat) (hi : i < 1000) (hj : j < 1000) : Met l yX2_isBefore wsX2_isBefore ({ frames := 0, cells := 0, slots := 0, locals := 0 }) (PcR D cI cJ cZ [.ref h, .int (nI i), .int (nI j)] [(h, .inr (2, [.ref af, .ref at_, .ref ac, .ref al, .int (nI kn)])), (af, .inl (cI, 1000, .inl (nIf fr))), (at_, .inl (cI, 1000, .inl (nIf tt))), (ac, .inl (cJ, 1000, .inr (.inl (lNf ct)))), (al, .inl (cZ, 1000, .inl (bIf fa)))]) (vp_Si (fun r => r = bI (bef (pk fr tt ct fa i) (pk fr tt ct fa j)))) 0 0 (fun _ => False) := by
  refine startR (cc := cX2_isBefore) (maxL := 3) (ret := (some .boolean)) (by decide) rfl (Nat.le_of_ble_eq_true rfl) ?_
  intro p e s m below meth c ls hx hb hr hml hown hts hlocks hE hP hl
  have hl : lv_has ls 3 [(0, .ref h), (1, .int (nI i)), (2, .int (nI j))] := hl
  have b1 := hB i
  have b2 := hB j
  refine lv_aload_n hx hb dX2_isBefore_0 rfl (lv_at hl 0 rfl) ?_
  refine va_get (D := D) (ci := 2) (v := .ref ac) (C := RX2) (T := TX2) (N := 5) hx hb hts in_X2_isBefore_X2 hown hE.1 hP 0 rfl rfl 2 (by decide) (hts _ fl_X2_isBefore_18) (fun _ h9 => h9) rfl dX2_isBefore_1 ?_
  refine lv_iload_n hx hb dX2_isBefore_4 rfl (lv_at hl 1 rfl) ?_
  refine r_lld hx hb hE hP 3 rfl (k := i) (by omega) (by decide) dX2_isBefore_5 ?_
  refine lv_aload_n hx hb dX2_isBefore_6 rfl (lv_at hl 0 rfl) ?_
  refine va_get (D := D) (ci := 2) (v := .ref ac) (C := RX2) (T := TX2) (N := 5) hx hb hts in_X2_isBefore_X2 hown hE.1 hP 0 rfl rfl 2 (by decide) (hts _ fl_X2_isBefore_18) (fun _ h9 => h9) rfl dX2_isBefore_7 ?_
  refine lv_iload_n hx hb dX2_isBefore_10 rfl (lv_at hl 2 rfl) ?_
  refine r_lld hx hb hE hP 3 rfl (k := j) (by omega) (by decide) dX2_isBefore_11 ?_
  refine r_l_eq (tgt := 38) hx hb (x := ct i) (y := ct j) (by omega) (by omega) dX2_isBefore_12 dX2_isBefore_13 (by decide) (fun c_12 => ?_) (fun c_12 => ?_)
  · skip
    refine lv_aload_n hx hb dX2_isBefore_38 rfl (lv_at hl 0 rfl) ?_
    refine va_get (D := D) (ci := 2) (v := .ref af) (C := RX2) (T := TX2) (N := 5) hx hb hts in_X2_isBefore_X2 hown hE.1 hP 0 rfl rfl 0 (by decide) (hts _ fl_X2_isBefore_9) (fun _ h9 => h9) rfl dX2_isBefore_39 ?_
    refine lv_iload_n hx hb dX2_isBefore_42 rfl (lv_at hl 1 rfl) ?_
    refine r_nld hx hb hE hP 1 rfl (k := i) (by omega) (by decide) dX2_isBefore_43 ?_
    refine lv_aload_n hx hb dX2_isBefore_44 rfl (lv_at hl 0 rfl) ?_
    refine va_get (D := D) (ci := 2) (v := .ref af) (C := RX2) (T := TX2) (N := 5) hx hb hts in_X2_isBefore_X2 hown hE.1 hP 0 rfl rfl 0 (by decide) (hts _ fl_X2_isBefore_9) (fun _ h9 => h9) rfl dX2_isBefore_45 ?_
    refine lv_iload_n hx hb dX2_isBefore_48 rfl (lv_at hl 2 rfl) ?_
    refine r_nld hx hb hE hP 1 rfl (k := j) (by omega) (by decide) dX2_isBefore_49 ?_
    refine r_icmp_eq (tgt := 74) hx hb (x := fr i) (y := fr j) (by omega) (by omega) dX2_isBefore_50 (by decide) (fun c_50 => ?_) (fun c_50 => ?_)
    · skip
      refine lv_aload_n hx hb dX2_isBefore_74 rfl (lv_at hl 0 rfl) ?_
      refine va_get (D := D) (ci := 2) (v := .ref at_) (C := RX2) (T := TX2) (N := 5) hx hb hts in_X2_isBefore_X2 hown hE.1 hP 0 rfl rfl 1 (by decide) (hts _ fl_X2_isBefore_15) (fun _ h9 => h9) rfl dX2_isBefore_75 ?_
      refine lv_iload_n hx hb dX2_isBefore_78 rfl (lv_at hl 1 rfl) ?_
      refine r_nld hx hb hE hP 2 rfl (k := i) (by omega) (by decide) dX2_isBefore_79 ?_
      refine lv_aload_n hx hb dX2_isBefore_80 rfl (lv_at hl 0 rfl) ?_
      refine va_get (D := D) (ci := 2) (v := .ref at_) (C := RX2) (T := TX2) (N := 5) hx hb hts in_X2_isBefore_X2 hown hE.1 hP 0 rfl rfl 1 (by decide) (hts _ fl_X2_isBefore_15) (fun _ h9 => h9) rfl dX2_isBefore_81 ?_
      refine lv_iload_n hx hb dX2_isBefore_84 rfl (lv_at hl 2 rfl) ?_
      refine r_nld hx hb hE hP 2 rfl (k := j) (by omega) (by decide) dX2_isBefore_85 ?_
      refine r_icmp_ge (tgt := 93) hx hb (x := tt i) (y := tt j) (by omega) (by omega) dX2_isBefore_86 (by decide) (fun c_86 => ?_) (fun c_86 => ?_)
      · skip
        refine lv_iconst (v := bI false) hx hb dX2_isBefore_93 (by decide) ?_
        exact e_z false rfl hx hb hr hlocks dX2_isBefore_94 (by show bI false = bI _; congr 1; unfold bef pk; simp only; repeat' split; all_goals simp only [decide_eq_true_eq, decide_eq_false_iff_not, eq_comm (a := true), eq_comm (a := false)]; all_goals omega)
      · skip
        refine lv_iconst (v := bI true) hx hb dX2_isBefore_89 (by decide) ?_
        refine lv_goto (tgt := 94) hx hb dX2_isBefore_90 (by decide) ?_
        exact e_z true rfl hx hb hr hlocks dX2_isBefore_94 (by show bI true = bI _; congr 1; unfold bef pk; simp only; repeat' split; all_goals simp only [decide_eq_true_eq, decide_eq_false_iff_not, eq_comm (a := true), eq_comm (a := false)]; all_goals omega)
    · skip
      refine lv_aload_n hx hb dX2_isBefore_53 rfl (lv_at hl 0 rfl) ?_
      refine va_get (D := D) (ci := 2) (v := .ref af) (C := RX2) (T := TX2) (N := 5) hx hb hts in_X2_isBefore_X2 hown hE.1 hP 0 rfl rfl 0 (by decide) (hts _ fl_X2_isBefore_9) (fun _ h9 => h9) rfl dX2_isBefore_54 ?_
      refine lv_iload_n hx hb dX2_isBefore_57 rfl (lv_at hl 1 rfl) ?_
      refine r_nld hx hb hE hP 1 rfl (k := i) (by omega) (by decide) dX2_isBefore_58 ?_
      refine lv_aload_n hx hb dX2_isBefore_59 rfl (lv_at hl 0 rfl) ?_
      refine va_get (D := D) (ci := 2) (v := .ref af) (C := RX2) (T := TX2) (N := 5) hx hb hts in_X2_isBefore_X2 hown hE.1 hP 0 rfl rfl 0 (by decide) (hts _ fl_X2_isBefore_9) (fun _ h9 => h9) rfl dX2_isBefore_60 ?_
      refine lv_iload_n hx hb dX2_isBefore_63 rfl (lv_at hl 2 rfl) ?_
      refine r_nld hx hb hE hP 1 rfl (k := j) (by omega) (by decide) dX2_isBefore_64 ?_
      refine r_icmp_ge (tgt := 72) hx hb (x := fr i) (y := fr j) (by omega) (by omega) dX2_isBefore_65 (by decide) (fun c_65 => ?_) (fun c_65 => ?_)
      · skip
        refine lv_iconst (v := bI false) hx hb dX2_isBefore_72 (by decide) ?_
        exact e_z false rfl hx hb hr hlocks dX2_isBefore_73 (by show bI false = bI _; congr 1; unfold bef pk; simp only; repeat' split; all_goals simp only [decide_eq_true_eq, decide_eq_false_iff_not, eq_comm (a := true), eq_comm (a := false)]; all_goals omega)
      · skip
        refine lv_iconst (v := bI true) hx hb dX2_isBefore_68 (by decide) ?_
        refine lv_goto (tgt := 73) hx hb dX2_isBefore_69 (by decide) ?_
        exact e_z true rfl hx hb hr hlocks dX2_isBefore_73 (by show bI true = bI _; congr 1; unfold bef pk; simp only; repeat' split; all_goals simp only [decide_eq_true_eq, decide_eq_false_iff_not, eq_comm (a := true), eq_comm (a := false)]; all_goals omega)
  · skip
    refine lv_aload_n hx hb dX2_isBefore_16 rfl (lv_at hl 0 rfl) ?_
    refine va_get (D := D) (ci := 2) (v := .ref ac) (C := RX2) (T := TX2) (N := 5) hx hb hts in_X2_isBefore_X2 hown hE.1 hP 0 rfl rfl 2 (by decide) (hts _ fl_X2_isBefore_18) (fun _ h9 => h9) rfl dX2_isBefore_17 ?_
    refine lv_iload_n hx hb dX2_isBefore_20 rfl (lv_at hl 1 rfl) ?_
    refine r_lld hx hb hE hP 3 rfl (k := i) (by omega) (by decide) dX2_isBefore_21 ?_
    refine lv_aload_n hx hb dX2_isBefore_22 rfl (lv_at hl 0 rfl) ?_
    refine va_get (D := D) (ci := 2) (v := .ref ac) (C := RX2) (T := TX2) (N := 5) hx hb hts in_X2_isBefore_X2 hown hE.1 hP 0 rfl rfl 2 (by decide) (hts _ fl_X2_isBefore_18) (fun _ h9 => h9) rfl dX2_isBefore_23 ?_
    refine lv_iload_n hx hb dX2_isBefore_26 rfl (lv_at hl 2 rfl) ?_
    refine r_lld hx hb hE hP 3 rfl (k := j) (by omega) (by decide) dX2_isBefore_27 ?_
    refine r_l_le (tgt := 36) hx hb (x := ct i) (y := ct j) (by omega) (by omega) dX2_isBefore_28 dX2_isBefore_29 (by decide) (fun c_28 => ?_) (fun c_28 => ?_)
    · skip
      refine lv_iconst (v := bI false) hx hb dX2_isBefore_36 (by decide) ?_
      exact e_z false rfl hx hb hr hlocks dX2_isBefore_37 (by show bI false = bI _; congr 1; unfold bef pk; simp only; repeat' split; all_goals simp only [decide_eq_true_eq, decide_eq_false_iff_not, eq_comm (a := true), eq_comm (a := false)]; all_goals omega)
    · skip
      refine lv_iconst (v := bI true) hx hb dX2_isBefore_32 (by decide) ?_
      refine lv_goto (tgt := 37) hx hb dX2_isBefore_33 (by decide) ?_
      exact e_z true rfl hx hb hr hlocks dX2_isBefore_37 (by show bI true = bI _; congr 1; unfold bef pk; simp only; repeat' split; all_goals simp only [decide_eq_true_eq, decide_eq_false_iff_not, eq_comm (a := true), eq_comm (a := false)]; all_goals omega)

theorem fl_X2_swap_15 : Cond.fieldLink RX2 15 "BlockRows$Ways" "to" "[I" ∈ wsX2_swap := by decide +kernel
theorem fl_X2_swap_18 : Cond.fieldLink RX2 18 "BlockRows$Ways" "counts" "[J" ∈ wsX2_swap := by decide +kernel
theorem fl_X2_swap_22 : Cond.fieldLink RX2 22 "BlockRows$Ways" "falling" "[Z" ∈ wsX2_swap := by decide +kernel
theorem fl_X2_swap_9 : Cond.fieldLink RX2 9 "BlockRows$Ways" "from" "[I" ∈ wsX2_swap := by decide +kernel
theorem in_X2_swap_X2 : ∀ w ∈ wsX20, w ∈ wsX2_swap := by decide +kernel
set_option maxHeartbeats 4000000 in
set_option maxRecDepth 100000 in
/-- Ways.swap(a, b) -/
theorem c_swap (l : Launch) (D : va_G) (cI cJ cZ : ClassId) (h af at_ ac al kn : Nat) (fr tt ct : Nat → Nat) (fa : Nat → Bool) (sz : Nat) (i j : Nat) (hi : i < 1000) (hj : j < 1000) : Met l yX2_swap wsX2_swap ({ frames := 0, cells := 0, slots := 0, locals := 0 }) (PcM D cI cJ cZ [.ref h, .int (nI i), .int (nI j)] [(h, .inr (2, [.ref af, .ref at_, .ref ac, .ref al, .int (nI kn)])), (af, .inl (cI, 1000, .inl (nIf fr))), (at_, .inl (cI, 1000, .inl (nIf tt))), (ac, .inl (cJ, 1000, .inr (.inl (lNf ct)))), (al, .inl (cZ, 1000, .inl (bIf fa)))] sz) (va_Qv (fun _ : Unit => True) (Bm D [(h, .inr (2, [.ref af, .ref at_, .ref ac, .ref al, .int (nI kn)])), (af, .inl (cI, 1000, .inl (nIf fr))), (at_, .inl (cI, 1000, .inl (nIf tt))), (ac, .inl (cJ, 1000, .inr (.inl (lNf ct)))), (al, .inl (cZ, 1000, .inl (bIf fa)))] sz (fun _ : Unit => [(h, .inr (2, [.ref af, .ref at_, .ref ac, .ref al, .int (nI kn)])), (af, .inl (cI, 1000, .inl (nIf (sw fr i j)))), (at_, .inl (cI, 1000, .inl (nIf (sw tt i j)))), (ac, .inl (cJ, 1000, .inr (.inl (lNf (sw ct i j))))), (al, .inl (cZ, 1000, .inl (bIf (sw fa i j))))])) (va_A [(h, .inr (2, [.ref af, .ref at_, .ref ac, .ref al, .int (nI kn)])), (af, .inl (cI, 1000, .inl (nIf fr))), (at_, .inl (cI, 1000, .inl (nIf tt))), (ac, .inl (cJ, 1000, .inr (.inl (lNf ct)))), (al, .inl (cZ, 1000, .inl (bIf fa)))] sz)) 0 0 (va_A [(h, .inr (2, [.ref af, .ref at_, .ref ac, .ref al, .int (nI kn)])), (af, .inl (cI, 1000, .inl (nIf fr))), (at_, .inl (cI, 1000, .inl (nIf tt))), (ac, .inl (cJ, 1000, .inr (.inl (lNf ct)))), (al, .inl (cZ, 1000, .inl (bIf fa)))] sz) := by
  refine startM (cc := cX2_swap) (maxL := 8) (ret := none) (by decide) rfl (Nat.le_of_ble_eq_true rfl) ?_
  intro p e s m below meth c ls A hA hAe hx hb hr hml hown hts hlocks hin hE hP hD hS hl
  have hl : lv_has ls 8 [(0, .ref h), (1, .int (nI i)), (2, .int (nI j))] := hl
  refine lv_aload_n hx hb dX2_swap_0 rfl (lv_at hl 0 rfl) ?_
  refine va_get (D := D) (ci := 2) (v := .ref af) (C := RX2) (T := TX2) (N := 5) hx hb hts in_X2_swap_X2 hown hE.1 hP 0 rfl rfl 0 (by decide) (hts _ fl_X2_swap_9) (fun _ h9 => h9) rfl dX2_swap_1 ?_
  refine lv_iload_n hx hb dX2_swap_4 rfl (lv_at hl 1 rfl) ?_
  refine r_nld hx hb hE hP 1 rfl (k := i) (by omega) (by decide) dX2_swap_5 ?_
  refine lv_istore_n (lv' := [(3, .int (nI (fr i))), (0, .ref h), (1, .int (nI i)), (2, .int (nI j))]) hx hb dX2_swap_6 rfl hl (by decide) rfl (fun ls hl => ?_)
  refine lv_aload_n hx hb dX2_swap_7 rfl (lv_at hl 1 rfl) ?_
  refine va_get (D := D) (ci := 2) (v := .ref at_) (C := RX2) (T := TX2) (N := 5) hx hb hts in_X2_swap_X2 hown hE.1 hP 0 rfl rfl 1 (by decide) (hts _ fl_X2_swap_15) (fun _ h9 => h9) rfl dX2_swap_8 ?_
  refine lv_iload_n hx hb dX2_swap_11 rfl (lv_at hl 2 rfl) ?_
  refine r_nld hx hb hE hP 2 rfl (k := i) (by omega) (by decide) dX2_swap_12 ?_
  refine lv_istore (lv' := [(4, .int (nI (tt i))), (3, .int (nI (fr i))), (0, .ref h), (1, .int (nI i)), (2, .int (nI j))]) hx hb dX2_swap_13 hl (by decide) rfl (fun ls hl => ?_)
  refine lv_aload_n hx hb dX2_swap_15 rfl (lv_at hl 2 rfl) ?_
  refine va_get (D := D) (ci := 2) (v := .ref ac) (C := RX2) (T := TX2) (N := 5) hx hb hts in_X2_swap_X2 hown hE.1 hP 0 rfl rfl 2 (by decide) (hts _ fl_X2_swap_18) (fun _ h9 => h9) rfl dX2_swap_16 ?_
  refine lv_iload_n hx hb dX2_swap_19 rfl (lv_at hl 3 rfl) ?_
  refine r_lld hx hb hE hP 3 rfl (k := i) (by omega) (by decide) dX2_swap_20 ?_
  refine lv_lstore (lv' := [(5, .long (lN (ct i))), (4, .int (nI (tt i))), (3, .int (nI (fr i))), (0, .ref h), (1, .int (nI i)), (2, .int (nI j))]) hx hb dX2_swap_21 hl (by decide) rfl (fun ls hl => ?_)
  refine lv_aload_n hx hb dX2_swap_23 rfl (lv_at hl 3 rfl) ?_
  refine va_get (D := D) (ci := 2) (v := .ref al) (C := RX2) (T := TX2) (N := 5) hx hb hts in_X2_swap_X2 hown hE.1 hP 0 rfl rfl 3 (by decide) (hts _ fl_X2_swap_22) (fun _ h9 => h9) rfl dX2_swap_24 ?_
  refine lv_iload_n hx hb dX2_swap_27 rfl (lv_at hl 4 rfl) ?_
  refine r_bld hx hb hE hP 4 rfl (k := i) (by omega) (by decide) dX2_swap_28 ?_
  refine lv_istore (lv' := [(7, .int (bI (fa i))), (5, .long (lN (ct i))), (4, .int (nI (tt i))), (3, .int (nI (fr i))), (0, .ref h), (1, .int (nI i)), (2, .int (nI j))]) hx hb dX2_swap_29 hl (by decide) rfl (fun ls hl => ?_)
  refine lv_aload_n hx hb dX2_swap_31 rfl (lv_at hl 4 rfl) ?_
  refine va_get (D := D) (ci := 2) (v := .ref af) (C := RX2) (T := TX2) (N := 5) hx hb hts in_X2_swap_X2 hown hE.1 hP 0 rfl rfl 0 (by decide) (hts _ fl_X2_swap_9) (fun _ h9 => h9) rfl dX2_swap_32 ?_
  refine lv_iload_n hx hb dX2_swap_35 rfl (lv_at hl 5 rfl) ?_
  refine lv_aload_n hx hb dX2_swap_36 rfl (lv_at hl 4 rfl) ?_
  refine va_get (D := D) (ci := 2) (v := .ref af) (C := RX2) (T := TX2) (N := 5) hx hb hts in_X2_swap_X2 hown hE.1 hP 0 rfl rfl 0 (by decide) (hts _ fl_X2_swap_9) (fun _ h9 => h9) rfl dX2_swap_37 ?_
  refine lv_iload_n hx hb dX2_swap_40 rfl (lv_at hl 6 rfl) ?_
  refine r_nld hx hb hE hP 1 rfl (k := j) (by omega) (by decide) dX2_swap_41 ?_
  refine r_nst hx hb hE hP hD hS 1 rfl (k := i) (x := fr j) (by omega) (by decide) dX2_swap_42 (fun H locs hP hD hS => ?_)
  have hP : va_P D vwCl [(h, .inr (2, [.ref af, .ref at_, .ref ac, .ref al, .int (nI kn)])), (af, .inl (cI, 1000, .inl (nIf (va_up fr i (fr j))))), (at_, .inl (cI, 1000, .inl (nIf tt))), (ac, .inl (cJ, 1000, .inr (.inl (lNf ct)))), (al, .inl (cZ, 1000, .inl (bIf fa)))] H := hP
  have hD : va_D A [(h, .inr (2, [.ref af, .ref at_, .ref ac, .ref al, .int (nI kn)])), (af, .inl (cI, 1000, .inl (nIf (va_up fr i (fr j))))), (at_, .inl (cI, 1000, .inl (nIf tt))), (ac, .inl (cJ, 1000, .inr (.inl (lNf ct)))), (al, .inl (cZ, 1000, .inl (bIf fa)))] := hD
  refine lv_aload_n hx hb dX2_swap_43 rfl (lv_at hl 4 rfl) ?_
  refine va_get (D := D) (ci := 2) (v := .ref at_) (C := RX2) (T := TX2) (N := 5) hx hb hts in_X2_swap_X2 hown hE.1 hP 0 rfl rfl 1 (by decide) (hts _ fl_X2_swap_15) (fun _ h9 => h9) rfl dX2_swap_44 ?_
  refine lv_iload_n hx hb dX2_swap_47 rfl (lv_at hl 5 rfl) ?_
  refine lv_aload_n hx hb dX2_swap_48 rfl (lv_at hl 4 rfl) ?_
  refine va_get (D := D) (ci := 2) (v := .ref at_) (C := RX2) (T := TX2) (N := 5) hx hb hts in_X2_swap_X2 hown hE.1 hP 0 rfl rfl 1 (by decide) (hts _ fl_X2_swap_15) (fun _ h9 => h9) rfl dX2_swap_49 ?_
  refine lv_iload_n hx hb dX2_swap_52 rfl (lv_at hl 6 rfl) ?_
  refine r_nld hx hb hE hP 2 rfl (k := j) (by omega) (by decide) dX2_swap_53 ?_
  refine r_nst hx hb hE hP hD hS 2 rfl (k := i) (x := tt j) (by omega) (by decide) dX2_swap_54 (fun H locs hP hD hS => ?_)
  have hP : va_P D vwCl [(h, .inr (2, [.ref af, .ref at_, .ref ac, .ref al, .int (nI kn)])), (af, .inl (cI, 1000, .inl (nIf (va_up fr i (fr j))))), (at_, .inl (cI, 1000, .inl (nIf (va_up tt i (tt j))))), (ac, .inl (cJ, 1000, .inr (.inl (lNf ct)))), (al, .inl (cZ, 1000, .inl (bIf fa)))] H := hP
  have hD : va_D A [(h, .inr (2, [.ref af, .ref at_, .ref ac, .ref al, .int (nI kn)])), (af, .inl (cI, 1000, .inl (nIf (va_up fr i (fr j))))), (at_, .inl (cI, 1000, .inl (nIf (va_up tt i (tt j))))), (ac, .inl (cJ, 1000, .inr (.inl (lNf ct)))), (al, .inl (cZ, 1000, .inl (bIf fa)))] := hD
  refine lv_aload_n hx hb dX2_swap_55 rfl (lv_at hl 4 rfl) ?_
  refine va_get (D := D) (ci := 2) (v := .ref ac) (C := RX2) (T := TX2) (N := 5) hx hb hts in_X2_swap_X2 hown hE.1 hP 0 rfl rfl 2 (by decide) (hts _ fl_X2_swap_18) (fun _ h9 => h9) rfl dX2_swap_56 ?_
  refine lv_iload_n hx hb dX2_swap_59 rfl (lv_at hl 5 rfl) ?_
  refine lv_aload_n hx hb dX2_swap_60 rfl (lv_at hl 4 rfl) ?_
  refine va_get (D := D) (ci := 2) (v := .ref ac) (C := RX2) (T := TX2) (N := 5) hx hb hts in_X2_swap_X2 hown hE.1 hP 0 rfl rfl 2 (by decide) (hts _ fl_X2_swap_18) (fun _ h9 => h9) rfl dX2_swap_61 ?_
  refine lv_iload_n hx hb dX2_swap_64 rfl (lv_at hl 6 rfl) ?_
  refine r_lld hx hb hE hP 3 rfl (k := j) (by omega) (by decide) dX2_swap_65 ?_
  refine r_lst hx hb hE hP hD hS 3 rfl (k := i) (x := ct j) (by omega) (by decide) dX2_swap_66 (fun H locs hP hD hS => ?_)
  have hP : va_P D vwCl [(h, .inr (2, [.ref af, .ref at_, .ref ac, .ref al, .int (nI kn)])), (af, .inl (cI, 1000, .inl (nIf (va_up fr i (fr j))))), (at_, .inl (cI, 1000, .inl (nIf (va_up tt i (tt j))))), (ac, .inl (cJ, 1000, .inr (.inl (lNf (va_up ct i (ct j)))))), (al, .inl (cZ, 1000, .inl (bIf fa)))] H := hP
  have hD : va_D A [(h, .inr (2, [.ref af, .ref at_, .ref ac, .ref al, .int (nI kn)])), (af, .inl (cI, 1000, .inl (nIf (va_up fr i (fr j))))), (at_, .inl (cI, 1000, .inl (nIf (va_up tt i (tt j))))), (ac, .inl (cJ, 1000, .inr (.inl (lNf (va_up ct i (ct j)))))), (al, .inl (cZ, 1000, .inl (bIf fa)))] := hD
  refine lv_aload_n hx hb dX2_swap_67 rfl (lv_at hl 4 rfl) ?_
  refine va_get (D := D) (ci := 2) (v := .ref al) (C := RX2) (T := TX2) (N := 5) hx hb hts in_X2_swap_X2 hown hE.1 hP 0 rfl rfl 3 (by decide) (hts _ fl_X2_swap_22) (fun _ h9 => h9) rfl dX2_swap_68 ?_
  refine lv_iload_n hx hb dX2_swap_71 rfl (lv_at hl 5 rfl) ?_
  refine lv_aload_n hx hb dX2_swap_72 rfl (lv_at hl 4 rfl) ?_
  refine va_get (D := D) (ci := 2) (v := .ref al) (C := RX2) (T := TX2) (N := 5) hx hb hts in_X2_swap_X2 hown hE.1 hP 0 rfl rfl 3 (by decide) (hts _ fl_X2_swap_22) (fun _ h9 => h9) rfl dX2_swap_73 ?_
  refine lv_iload_n hx hb dX2_swap_76 rfl (lv_at hl 6 rfl) ?_
  refine r_bld hx hb hE hP 4 rfl (k := j) (by omega) (by decide) dX2_swap_77 ?_
  refine r_bst hx hb hE hP hD hS 4 rfl (k := i) (fa j) rfl (by omega) (by decide) dX2_swap_78 (fun H locs hP hD hS => ?_)
  have hP : va_P D vwCl [(h, .inr (2, [.ref af, .ref at_, .ref ac, .ref al, .int (nI kn)])), (af, .inl (cI, 1000, .inl (nIf (va_up fr i (fr j))))), (at_, .inl (cI, 1000, .inl (nIf (va_up tt i (tt j))))), (ac, .inl (cJ, 1000, .inr (.inl (lNf (va_up ct i (ct j)))))), (al, .inl (cZ, 1000, .inl (bIf (va_up fa i (fa j)))))] H := hP
  have hD : va_D A [(h, .inr (2, [.ref af, .ref at_, .ref ac, .ref al, .int (nI kn)])), (af, .inl (cI, 1000, .inl (nIf (va_up fr i (fr j))))), (at_, .inl (cI, 1000, .inl (nIf (va_up tt i (tt j))))), (ac, .inl (cJ, 1000, .inr (.inl (lNf (va_up ct i (ct j)))))), (al, .inl (cZ, 1000, .inl (bIf (va_up fa i (fa j)))))] := hD
  refine lv_aload_n hx hb dX2_swap_79 rfl (lv_at hl 4 rfl) ?_
  refine va_get (D := D) (ci := 2) (v := .ref af) (C := RX2) (T := TX2) (N := 5) hx hb hts in_X2_swap_X2 hown hE.1 hP 0 rfl rfl 0 (by decide) (hts _ fl_X2_swap_9) (fun _ h9 => h9) rfl dX2_swap_80 ?_
  refine lv_iload_n hx hb dX2_swap_83 rfl (lv_at hl 6 rfl) ?_
  refine lv_iload_n hx hb dX2_swap_84 rfl (lv_at hl 3 rfl) ?_
  refine r_nst hx hb hE hP hD hS 1 rfl (k := j) (x := fr i) (by omega) (by decide) dX2_swap_85 (fun H locs hP hD hS => ?_)
  have hP : va_P D vwCl [(h, .inr (2, [.ref af, .ref at_, .ref ac, .ref al, .int (nI kn)])), (af, .inl (cI, 1000, .inl (nIf (va_up (va_up fr i (fr j)) j (fr i))))), (at_, .inl (cI, 1000, .inl (nIf (va_up tt i (tt j))))), (ac, .inl (cJ, 1000, .inr (.inl (lNf (va_up ct i (ct j)))))), (al, .inl (cZ, 1000, .inl (bIf (va_up fa i (fa j)))))] H := hP
  have hD : va_D A [(h, .inr (2, [.ref af, .ref at_, .ref ac, .ref al, .int (nI kn)])), (af, .inl (cI, 1000, .inl (nIf (va_up (va_up fr i (fr j)) j (fr i))))), (at_, .inl (cI, 1000, .inl (nIf (va_up tt i (tt j))))), (ac, .inl (cJ, 1000, .inr (.inl (lNf (va_up ct i (ct j)))))), (al, .inl (cZ, 1000, .inl (bIf (va_up fa i (fa j)))))] := hD
  refine lv_aload_n hx hb dX2_swap_86 rfl (lv_at hl 4 rfl) ?_
  refine va_get (D := D) (ci := 2) (v := .ref at_) (C := RX2) (T := TX2) (N := 5) hx hb hts in_X2_swap_X2 hown hE.1 hP 0 rfl rfl 1 (by decide) (hts _ fl_X2_swap_15) (fun _ h9 => h9) rfl dX2_swap_87 ?_
  refine lv_iload_n hx hb dX2_swap_90 rfl (lv_at hl 6 rfl) ?_
  refine lv_iload hx hb dX2_swap_91 (lv_at hl 2 rfl) ?_
  refine r_nst hx hb hE hP hD hS 2 rfl (k := j) (x := tt i) (by omega) (by decide) dX2_swap_93 (fun H locs hP hD hS => ?_)
  have hP : va_P D vwCl [(h, .inr (2, [.ref af, .ref at_, .ref ac, .ref al, .int (nI kn)])), (af, .inl (cI, 1000, .inl (nIf (va_up (va_up fr i (fr j)) j (fr i))))), (at_, .inl (cI, 1000, .inl (nIf (va_up (va_up tt i (tt j)) j (tt i))))), (ac, .inl (cJ, 1000, .inr (.inl (lNf (va_up ct i (ct j)))))), (al, .inl (cZ, 1000, .inl (bIf (va_up fa i (fa j)))))] H := hP
  have hD : va_D A [(h, .inr (2, [.ref af, .ref at_, .ref ac, .ref al, .int (nI kn)])), (af, .inl (cI, 1000, .inl (nIf (va_up (va_up fr i (fr j)) j (fr i))))), (at_, .inl (cI, 1000, .inl (nIf (va_up (va_up tt i (tt j)) j (tt i))))), (ac, .inl (cJ, 1000, .inr (.inl (lNf (va_up ct i (ct j)))))), (al, .inl (cZ, 1000, .inl (bIf (va_up fa i (fa j)))))] := hD
  refine lv_aload_n hx hb dX2_swap_94 rfl (lv_at hl 4 rfl) ?_
  refine va_get (D := D) (ci := 2) (v := .ref ac) (C := RX2) (T := TX2) (N := 5) hx hb hts in_X2_swap_X2 hown hE.1 hP 0 rfl rfl 2 (by decide) (hts _ fl_X2_swap_18) (fun _ h9 => h9) rfl dX2_swap_95 ?_
  refine lv_iload_n hx hb dX2_swap_98 rfl (lv_at hl 6 rfl) ?_
  refine lv_lload hx hb dX2_swap_99 (lv_at hl 1 rfl) ?_
  refine r_lst hx hb hE hP hD hS 3 rfl (k := j) (x := ct i) (by omega) (by decide) dX2_swap_101 (fun H locs hP hD hS => ?_)
  have hP : va_P D vwCl [(h, .inr (2, [.ref af, .ref at_, .ref ac, .ref al, .int (nI kn)])), (af, .inl (cI, 1000, .inl (nIf (va_up (va_up fr i (fr j)) j (fr i))))), (at_, .inl (cI, 1000, .inl (nIf (va_up (va_up tt i (tt j)) j (tt i))))), (ac, .inl (cJ, 1000, .inr (.inl (lNf (va_up (va_up ct i (ct j)) j (ct i)))))), (al, .inl (cZ, 1000, .inl (bIf (va_up fa i (fa j)))))] H := hP
  have hD : va_D A [(h, .inr (2, [.ref af, .ref at_, .ref ac, .ref al, .int (nI kn)])), (af, .inl (cI, 1000, .inl (nIf (va_up (va_up fr i (fr j)) j (fr i))))), (at_, .inl (cI, 1000, .inl (nIf (va_up (va_up tt i (tt j)) j (tt i))))), (ac, .inl (cJ, 1000, .inr (.inl (lNf (va_up (va_up ct i (ct j)) j (ct i)))))), (al, .inl (cZ, 1000, .inl (bIf (va_up fa i (fa j)))))] := hD
  refine lv_aload_n hx hb dX2_swap_102 rfl (lv_at hl 4 rfl) ?_
  refine va_get (D := D) (ci := 2) (v := .ref al) (C := RX2) (T := TX2) (N := 5) hx hb hts in_X2_swap_X2 hown hE.1 hP 0 rfl rfl 3 (by decide) (hts _ fl_X2_swap_22) (fun _ h9 => h9) rfl dX2_swap_103 ?_
  refine lv_iload_n hx hb dX2_swap_106 rfl (lv_at hl 6 rfl) ?_
  refine lv_iload hx hb dX2_swap_107 (lv_at hl 0 rfl) ?_
  refine r_bst hx hb hE hP hD hS 4 rfl (k := j) (fa i) rfl (by omega) (by decide) dX2_swap_109 (fun H locs hP hD hS => ?_)
  have hP : va_P D vwCl [(h, .inr (2, [.ref af, .ref at_, .ref ac, .ref al, .int (nI kn)])), (af, .inl (cI, 1000, .inl (nIf (va_up (va_up fr i (fr j)) j (fr i))))), (at_, .inl (cI, 1000, .inl (nIf (va_up (va_up tt i (tt j)) j (tt i))))), (ac, .inl (cJ, 1000, .inr (.inl (lNf (va_up (va_up ct i (ct j)) j (ct i)))))), (al, .inl (cZ, 1000, .inl (bIf (va_up (va_up fa i (fa j)) j (fa i)))))] H := hP
  have hD : va_D A [(h, .inr (2, [.ref af, .ref at_, .ref ac, .ref al, .int (nI kn)])), (af, .inl (cI, 1000, .inl (nIf (va_up (va_up fr i (fr j)) j (fr i))))), (at_, .inl (cI, 1000, .inl (nIf (va_up (va_up tt i (tt j)) j (tt i))))), (ac, .inl (cJ, 1000, .inr (.inl (lNf (va_up (va_up ct i (ct j)) j (ct i)))))), (al, .inl (cZ, 1000, .inl (bIf (va_up (va_up fa i (fa j)) j (fa i)))))] := hD
  exact e_mv () hAe hx hb hr hlocks dX2_swap_110 hP hD hS trivial

set_option maxHeartbeats 4000000 in
set_option maxRecDepth 100000 in
/-- Ways.moveForward(k) -/
theorem c_moveForward (l : Launch) (D : va_G) (cI cJ cZ : ClassId) (h af at_ ac al kn : Nat) (fr tt ct : Nat → Nat) (fa : Nat → Bool) (sz k0 : Nat) (hkn : kn ≤ 1000) (hB : WB fr tt ct) (hM : MF kn (pk fr tt ct fa) (pk fr tt ct fa) k0) : Met l yX2_moveForward wsX2_moveForward ({ frames := 1, cells := 0, slots := 0, locals := 27 }) (PcM D cI cJ cZ [.ref h, .int (nI k0)] [(h, .inr (2, [.ref af, .ref at_, .ref ac, .ref al, .int (nI kn)])), (af, .inl (cI, 1000, .inl (nIf fr))), (at_, .inl (cI, 1000, .inl (nIf tt))), (ac, .inl (cJ, 1000, .inr (.inl (lNf ct)))), (al, .inl (cZ, 1000, .inl (bIf fa)))] sz) (va_Qv (fun u : (Nat → Nat) × (Nat → Nat) × (Nat → Nat) × (Nat → Bool) => WB u.1 u.2.1 u.2.2.1 ∧ (wl kn (pk u.1 u.2.1 u.2.2.1 u.2.2.2)).Perm (wl kn (pk fr tt ct fa)) ∧ Srt kn (pk u.1 u.2.1 u.2.2.1 u.2.2.2)) (Bm D [(h, .inr (2, [.ref af, .ref at_, .ref ac, .ref al, .int (nI kn)])), (af, .inl (cI, 1000, .inl (nIf fr))), (at_, .inl (cI, 1000, .inl (nIf tt))), (ac, .inl (cJ, 1000, .inr (.inl (lNf ct)))), (al, .inl (cZ, 1000, .inl (bIf fa)))] sz (fun u : (Nat → Nat) × (Nat → Nat) × (Nat → Nat) × (Nat → Bool) => [(h, .inr (2, [.ref af, .ref at_, .ref ac, .ref al, .int (nI kn)])), (af, .inl (cI, 1000, .inl (nIf u.1))), (at_, .inl (cI, 1000, .inl (nIf u.2.1))), (ac, .inl (cJ, 1000, .inr (.inl (lNf u.2.2.1)))), (al, .inl (cZ, 1000, .inl (bIf u.2.2.2)))])) (va_A [(h, .inr (2, [.ref af, .ref at_, .ref ac, .ref al, .int (nI kn)])), (af, .inl (cI, 1000, .inl (nIf fr))), (at_, .inl (cI, 1000, .inl (nIf tt))), (ac, .inl (cJ, 1000, .inr (.inl (lNf ct)))), (al, .inl (cZ, 1000, .inl (bIf fa)))] sz)) 0 0 (va_A [(h, .inr (2, [.ref af, .ref at_, .ref ac, .ref al, .int (nI kn)])), (af, .inl (cI, 1000, .inl (nIf fr))), (at_, .inl (cI, 1000, .inl (nIf tt))), (ac, .inl (cJ, 1000, .inr (.inl (lNf ct)))), (al, .inl (cZ, 1000, .inl (bIf fa)))] sz) := by
  refine startM (cc := cX2_moveForward) (maxL := 3) (ret := none) (by decide) rfl (Nat.le_of_ble_eq_true rfl) ?_
  intro p e s m below meth c ls A hA hAe hx hb hr hml hown hts hlocks hin hE hP hD hS hl
  have hl : lv_has ls 3 [(0, .ref h), (1, .int (nI k0))] := hl
  refine lv_iload_n hx hb dX2_moveForward_0 rfl (lv_at hl 1 rfl) ?_
  refine lv_istore_n (lv' := [(2, .int (nI k0)), (0, .ref h), (1, .int (nI k0))]) hx hb dX2_moveForward_1 rfl hl (by decide) rfl (fun ls hl => ?_)
  refine r_loop (σ := Nat × (Nat → Nat) × (Nat → Nat) × (Nat → Nat) × (Nat → Bool)) (fun z0 => z0.1) (fun z0 H locs ls => (MF kn (pk fr tt ct fa) (pk z0.2.1 z0.2.2.1 z0.2.2.2.1 z0.2.2.2.2) z0.1 ∧ WB z0.2.1 z0.2.2.1 z0.2.2.2.1) ∧ va_P D vwCl [(h, .inr (2, [.ref af, .ref at_, .ref ac, .ref al, .int (nI kn)])), (af, .inl (cI, 1000, .inl (nIf z0.2.1))), (at_, .inl (cI, 1000, .inl (nIf z0.2.2.1))), (ac, .inl (cJ, 1000, .inr (.inl (lNf z0.2.2.2.1)))), (al, .inl (cZ, 1000, .inl (bIf z0.2.2.2.2)))] H ∧ va_D A [(h, .inr (2, [.ref af, .ref at_, .ref ac, .ref al, .int (nI kn)])), (af, .inl (cI, 1000, .inl (nIf z0.2.1))), (at_, .inl (cI, 1000, .inl (nIf z0.2.2.1))), (ac, .inl (cJ, 1000, .inr (.inl (lNf z0.2.2.2.1)))), (al, .inl (cZ, 1000, .inl (bIf z0.2.2.2.2)))] ∧ va_S A s.heap H locs ∧ lv_has ls 3 [(0, .ref h), (2, .int (nI z0.1))]) ?_ (k0, fr, tt, ct, fa) ⟨⟨hM, hB⟩, hP.sub [0, 1, 2, 3, 4] rfl, hD.sub [0, 1, 2, 3, 4] (by decide) rfl, hS, lv_sub hl [1, 0] rfl⟩
  rintro ⟨k, f1, f2, f3, f4⟩ H locs ls ⟨hi_2, hP, hD, hS, hl⟩ ih_2
  have hi_2 : MF kn (pk fr tt ct fa) (pk f1 f2 f3 f4) k ∧ WB f1 f2 f3 := hi_2
  have hP : va_P D vwCl [(h, .inr (2, [.ref af, .ref at_, .ref ac, .ref al, .int (nI kn)])), (af, .inl (cI, 1000, .inl (nIf f1))), (at_, .inl (cI, 1000, .inl (nIf f2))), (ac, .inl (cJ, 1000, .inr (.inl (lNf f3)))), (al, .inl (cZ, 1000, .inl (bIf f4)))] H := hP
  have hD : va_D A [(h, .inr (2, [.ref af, .ref at_, .ref ac, .ref al, .int (nI kn)])), (af, .inl (cI, 1000, .inl (nIf f1))), (at_, .inl (cI, 1000, .inl (nIf f2))), (ac, .inl (cJ, 1000, .inr (.inl (lNf f3)))), (al, .inl (cZ, 1000, .inl (bIf f4)))] := hD
  have hl : lv_has ls 3 [(0, .ref h), (2, .int (nI k))] := hl
  have hk0 := hi_2.1.1
  refine lv_iload_n hx hb dX2_moveForward_2 rfl (lv_at hl 1 rfl) ?_
  refine r_if_le (tgt := 31) hx hb (x := k) (by omega) dX2_moveForward_3 (by decide) (fun c_3 => ?_) (fun c_3 => ?_)
  · skip
    exact e_mv (f1, f2, f3, f4) hAe hx hb hr hlocks dX2_moveForward_31 hP hD hS ⟨hi_2.2, MF_end hi_2.1 (Or.inl c_3)⟩
  · skip
    refine lv_aload_n hx hb dX2_moveForward_6 rfl (lv_at hl 0 rfl) ?_
    refine lv_iload_n hx hb dX2_moveForward_7 rfl (lv_at hl 1 rfl) ?_
    refine lv_iload_n hx hb dX2_moveForward_8 rfl (lv_at hl 1 rfl) ?_
    refine lv_iconst (v := nI 1) hx hb dX2_moveForward_9 (by decide) ?_
    refine r_isub hx hb (by omega) dX2_moveForward_10 ?_
    refine callRi (As := [.int (nI k), .int (nI (k - 1))]) (rest := []) ⟨hx, hb, hml, hown, hts⟩ (c_isBefore l D cI cJ cZ h af at_ ac al kn f1 f2 f3 f4 hi_2.2 k (k - 1) (by omega) (by omega)) (cwV 2 hts gX2_moveForward_X2_isBefore rfl rfl rfl (by decide +kernel) ⟨Nat.le_of_ble_eq_true rfl, Nat.le_of_ble_eq_true rfl⟩) (preR hE hP 2 0 rfl rfl rfl [0, 1, 2, 3, 4] rfl) rfl hl.1 (Nat.le_of_ble_eq_true rfl) dX2_moveForward_11 ⟨Nat.zero_le _, Nat.zero_le _⟩ rfl (fun r1 hr1 => ?_)
    subst hr1
    refine r_b_eq (tgt := 31) hx hb dX2_moveForward_14 (by decide) (fun c_14 => ?_) (fun c_14 => ?_)
    · skip
      exact e_mv (f1, f2, f3, f4) hAe hx hb hr hlocks dX2_moveForward_31 hP hD hS ⟨hi_2.2, MF_end hi_2.1 (Or.inr c_14)⟩
    · skip
      refine lv_aload_n hx hb dX2_moveForward_17 rfl (lv_at hl 0 rfl) ?_
      refine lv_iload_n hx hb dX2_moveForward_18 rfl (lv_at hl 1 rfl) ?_
      refine lv_iload_n hx hb dX2_moveForward_19 rfl (lv_at hl 1 rfl) ?_
      refine lv_iconst (v := nI 1) hx hb dX2_moveForward_20 (by decide) ?_
      refine r_isub hx hb (by omega) dX2_moveForward_21 ?_
      refine callMv (As := [.int (nI k), .int (nI (k - 1))]) (rest := []) (wr := []) ⟨hx, hb, hml, hown, hts⟩ (c_swap l D cI cJ cZ h af at_ ac al kn f1 f2 f3 f4 _ k (k - 1) (by omega) (by omega)) (cwV 2 hts gX2_moveForward_X2_swap rfl rfl rfl (by decide +kernel) ⟨Nat.le_of_ble_eq_true rfl, Nat.le_of_ble_eq_true rfl⟩) (preM hE hP hD 2 0 rfl rfl rfl [0, 1, 2, 3, 4] rfl rfl rfl) rfl hl.1 (Nat.le_of_ble_eq_true rfl) dX2_moveForward_22 ⟨Nat.zero_le _, Nat.zero_le _⟩ rfl hP hD hS hA [0, 1, 2, 3, 4] [] rfl rfl (by decide) (by decide) (fun u H locs hu hP hD hS => ?_)
      have hP : va_P D vwCl [(h, .inr (2, [.ref af, .ref at_, .ref ac, .ref al, .int (nI kn)])), (af, .inl (cI, 1000, .inl (nIf (sw f1 k (k - 1))))), (at_, .inl (cI, 1000, .inl (nIf (sw f2 k (k - 1))))), (ac, .inl (cJ, 1000, .inr (.inl (lNf (sw f3 k (k - 1)))))), (al, .inl (cZ, 1000, .inl (bIf (sw f4 k (k - 1)))))] H := hP
      have hD : va_D A [(h, .inr (2, [.ref af, .ref at_, .ref ac, .ref al, .int (nI kn)])), (af, .inl (cI, 1000, .inl (nIf (sw f1 k (k - 1))))), (at_, .inl (cI, 1000, .inl (nIf (sw f2 k (k - 1))))), (ac, .inl (cJ, 1000, .inr (.inl (lNf (sw f3 k (k - 1)))))), (al, .inl (cZ, 1000, .inl (bIf (sw f4 k (k - 1)))))] := hD
      refine lv_iinc (v := (nI (k - 1))) (lv' := [(2, .int (nI (k - 1))), (0, .ref h)]) hx hb dX2_moveForward_25 hl (k := 1) rfl (sb_m1 (by omega)) (by decide) rfl (fun ls hl => ?_)
      refine lv_goto (tgt := 2) hx hb dX2_moveForward_28 (by decide) ?_
      exact ih_2 (k - 1, sw f1 k (k - 1), sw f2 k (k - 1), sw f3 k (k - 1), sw f4 k (k - 1)) _ _ _ ⟨(show MF kn (pk fr tt ct fa) (pk (sw f1 k (k - 1)) (sw f2 k (k - 1)) (sw f3 k (k - 1)) (sw f4 k (k - 1))) (k - 1) ∧ WB (sw f1 k (k - 1)) (sw f2 k (k - 1)) (sw f3 k (k - 1)) from ⟨by rw [pk_sw]; exact MF_swap hi_2.1 c_3 c_14, hi_2.2.sw _ _⟩), hP.sub [0, 1, 2, 3, 4] rfl, hD.sub [0, 1, 2, 3, 4] (by decide) rfl, hS, lv_sub hl [1, 0] rfl⟩ (by show (k - 1) < k; omega)
end
section
/-! sums; what a telling does to the list of the ways -/
def sumN (f : Nat → Nat) : Nat → Nat
  | 0 => 0
  | k + 1 => sumN f k + f k
def wgt (fr tt ct : Nat → Nat) (fa : Nat → Bool) (pl : Nat → Option Nat) (k : Nat) : Nat := if (fa k && gOnB pl (fr k) (tt k)) = true then ct k else 0
section MinRow
variable {p : Program} {l : Launch} {e : Env} {R : Room} {s : State} {m : MethodId} {args : Array Value} {below : List Frame} {meth : Method} {c : Code} {H : Heap} {locs : List Loc} {cells slots : Nat} {Q : State → Prop} {cc : ByteArray} {pc : Nat} {ls : Array Slot} {rest : List Value}
theorem r_lmin (hexec : p.tables.exec = Jvm.exec) (hb : c.code = cc) (hml : c.maxLocals = ls.size) {own : String} {index : Nat} (hown : s.vm.findClass own = some m.cls) (hlink : (Cond.methodLink own index Lib.MathLoose.min_long.x).before args s = true) (hstat : (Cond.static Lib.MathLoose.min_long.x).before args s = true) (hini : (Cond.initialized "java/lang/Math").before args s = true) (hcode : (Cond.code Lib.MathLoose.min_long.x Lib.MathLoose.min_long.code 4 (some .long)).before args s = true)
    (hframes : 1 ≤ R.frames) (hlocals : (rest.map fun v => v.category).sum + 15 ≤ R.locals) (hc : cells ≤ R.cells) (hs : slots ≤ R.slots) {x y : Nat} (hx : x < 2 ^ 63) (hy : y < 2 ^ 63) (hdg : decode cc pc = .ok (.invokestatic index, 3))
    (kk : W p l e R s m args below meth c H locs cells slots Q (F0 m (pc + 3) ls (.long (lN (min x y)) :: rest))) : W p l e R s m args below meth c H locs cells slots Q (F0 m pc ls (.long (lN y) :: .long (lN x) :: rest)) := by
  refine va_mmin_long hexec hb hml hown hlink hstat hini hcode hframes hlocals hc hs hdg ?_
  have e1 : (if lN y < lN x then lN y else lN x) = lN (min x y) := by
    by_cases h : y < x
    · rw [if_pos ((pk_lLT hy hx).mpr h), Nat.min_eq_right (by omega)]
    · rw [if_neg (fun q => h ((pk_lLT hy hx).mp q)), Nat.min_eq_left (by omega)]
  rw [e1]
  exact kk
end MinRow
theorem KdL.uniq {L : List Wy} (h : KdL L) : ∀ a ∈ L, ∀ b ∈ L, a.1 = b.1 → a.2.1 = b.2.1 → a = b := by
  induction L with
  | nil => intro a ha; cases ha
  | cons x L ih =>
    have h' := List.pairwise_cons.mp h
    intro a ha b hb e1 e2
    rcases List.mem_cons.mp ha with qa | ha2
    · rcases List.mem_cons.mp hb with qb | hb2
      · rw [qa, qb]
      · exact absurd ⟨qa ▸ e1, qa ▸ e2⟩ (h'.1 b hb2)
    · rcases List.mem_cons.mp hb with qb | hb2
      · exact absurd ⟨(qb ▸ e1).symm, (qb ▸ e2).symm⟩ (h'.1 a ha2)
      · exact ih h'.2 a ha2 b hb2 e1 e2
def kyB (u v : Nat) (w : Wy) : Bool := decide (w.1 = u ∧ w.2.1 = v)
theorem kyB_iff {u v : Nat} {w : Wy} : kyB u v w = true ↔ w.1 = u ∧ w.2.1 = v := by simp [kyB]
def hasL (u v : Nat) (L : List Wy) : Bool := L.any (kyB u v)
theorem hasL_iff {u v : Nat} {L : List Wy} : hasL u v L = true ↔ ∃ w ∈ L, w.1 = u ∧ w.2.1 = v := by
  unfold hasL
  rw [List.any_eq_true]
  exact ⟨fun ⟨w, h1, h2⟩ => ⟨w, h1, kyB_iff.mp h2⟩, fun ⟨w, h1, h2⟩ => ⟨w, h1, kyB_iff.mpr h2⟩⟩
def cntL (u v : Nat) (L : List Wy) : Nat := match L.find? (kyB u v) with
  | some w => w.2.2.1
  | none => 0
theorem cntL_of {u v : Nat} {L : List Wy} (h : KdL L) {w : Wy} (hw : w ∈ L) (h1 : w.1 = u) (h2 : w.2.1 = v) : cntL u v L = w.2.2.1 := by
  unfold cntL
  cases hf : L.find? (kyB u v) with
  | none =>
    have := List.find?_eq_none.mp hf w hw
    exact absurd (kyB_iff.mpr ⟨h1, h2⟩) this
  | some w2 =>
    have a1 := List.mem_of_find?_eq_some hf
    have a2 := kyB_iff.mp (List.find?_some hf)
    rw [h.uniq w hw w2 a1 (h1.trans a2.1.symm) (h2.trans a2.2.symm)]
theorem cntL_none {u v : Nat} {L : List Wy} (h : hasL u v L = false) : cntL u v L = 0 := by
  unfold cntL
  cases hf : L.find? (kyB u v) with
  | none => rfl
  | some w2 =>
    have a1 := List.mem_of_find?_eq_some hf
    have a2 := kyB_iff.mp (List.find?_some hf)
    rw [hasL_iff.mpr ⟨w2, a1, a2⟩] at h
    cases h
def tellL (u v c : Nat) (f : Bool) (L : List Wy) : List Wy := if hasL u v L = true then L.map (fun w => if kyB u v w = true then (u, v, min 1000000000000000 (w.2.2.1 + c), f) else w) else L ++ [(u, v, min 1000000000000000 c, f)]
def tellFull (u v : Nat) (L : List Wy) : Bool := !hasL u v L && decide (1000 ≤ L.length)
def tellR (u v c : Nat) (L : List Wy) : Int64 := if tellFull u v L = true then -3 else lN (min 1000000000000000 (cntL u v L + c))
def tellS (u v c : Nat) (f : Bool) (L : List Wy) : List Wy := if tellFull u v L = true then L else tellL u v c f L
def TellPost (L : List Wy) (u v c : Nat) (f : Bool) (r : Int64) (kn : Nat) (g : Nat → Wy) : Prop := r = tellR u v c L ∧ (wl kn g).Perm (tellS u v c f L) ∧ Srt kn g ∧ kn ≤ 1000
section Tell
variable {fr tt ct : Nat → Nat} {fa : Nat → Bool} {kn u v c1 cn k : Nat} {fl : Bool}
theorem tl_WB1 (hB : WB fr tt ct) (hc : c1 ≤ 1000000000000000) : WB fr tt (va_up ct k c1) := by
  intro i
  obtain ⟨a, b, d⟩ := hB i
  refine ⟨a, b, ?_⟩
  unfold va_up
  split
  · exact hc
  · exact d
theorem tl_WB2 (hB : WB fr tt ct) (hu : u < 200) (hv : v < 200) (hc : c1 ≤ 1000000000000000) : WB (va_up fr kn u) (va_up tt kn v) (va_up (va_up ct kn 0) kn c1) := by
  intro i
  obtain ⟨a, b, d⟩ := hB i
  unfold va_up
  split
  · exact ⟨hu, hv, hc⟩
  · exact ⟨a, b, d⟩
theorem bef_more {a b : Wy} {c : Nat} {f : Bool} (h : bef a b = true) (hc : a.2.2.1 ≤ c) : bef (a.1, a.2.1, c, f) b = true := by
  unfold bef at *
  dsimp only
  split at h
  · split at h <;> simp only [decide_eq_true_eq] at h <;> (repeat' split) <;> simp only [decide_eq_true_eq] <;> omega
  · simp only [decide_eq_true_eq] at h
    (repeat' split) <;> simp only [decide_eq_true_eq] <;> omega
theorem bef_key {a b : Wy} {f f' : Bool} (h : bef a b = true) : bef (a.1, a.2.1, a.2.2.1, f) (b.1, b.2.1, b.2.2.1, f') = true := h
theorem pk1_ne {i : Nat} (h : i ≠ k) : pk fr tt (va_up ct k c1) (va_up fa k fl) i = pk fr tt ct fa i := by
  unfold pk
  rw [va_up_ne _ _ h, va_up_ne _ _ h]
theorem pk1_eq : pk fr tt (va_up ct k c1) (va_up fa k fl) k = (fr k, tt k, c1, fl) := by
  unfold pk
  rw [va_up_self, va_up_self]
theorem KdL_keys {L M : List Wy} (h : KdL L) (e : M.map (fun w => (w.1, w.2.1)) = L.map (fun w => (w.1, w.2.1))) : KdL M := by
  have a : ∀ N : List Wy, KdL N ↔ (N.map (fun w => (w.1, w.2.1))).Pairwise (fun a b => ¬ (a.1 = b.1 ∧ a.2 = b.2)) := fun N => by
    unfold KdL
    rw [List.pairwise_map]
  rw [a, e, ← a]
  exact h
theorem tl_MF1 (hS0 : Srt kn (pk fr tt ct fa)) (hK0 : KdL (wl kn (pk fr tt ct fa))) (hk : k < kn) (hc : ct k ≤ c1) : MF kn (pk fr tt (va_up ct k c1) (va_up fa k fl)) (pk fr tt (va_up ct k c1) (va_up fa k fl)) k := by
  refine MF_of hk (KdL_keys hK0 ?_) ?_ ?_
  · unfold wl
    rw [List.map_map, List.map_map]
    rfl
  · intro i j hij hj hi2 hj2
    rw [pk1_ne hi2, pk1_ne hj2]
    exact hS0 i j hij hj
  · intro j hkj hj
    rw [pk1_ne (i := j) (by omega), pk1_eq]
    exact bef_more (hS0 k j hkj hj) hc
theorem pk2_ne {i : Nat} (h : i ≠ kn) : pk (va_up fr kn u) (va_up tt kn v) (va_up (va_up ct kn 0) kn c1) (va_up fa kn fl) i = pk fr tt ct fa i := by
  unfold pk
  rw [va_up_ne _ _ h, va_up_ne _ _ h, va_up_ne _ _ h, va_up_ne _ _ h, va_up_ne _ _ h]
theorem pk2_eq : pk (va_up fr kn u) (va_up tt kn v) (va_up (va_up ct kn 0) kn c1) (va_up fa kn fl) kn = (u, v, c1, fl) := by
  unfold pk
  rw [va_up_self, va_up_self, va_up_self, va_up_self]
theorem wl2 : wl (kn + 1) (pk (va_up fr kn u) (va_up tt kn v) (va_up (va_up ct kn 0) kn c1) (va_up fa kn fl)) = wl kn (pk fr tt ct fa) ++ [(u, v, c1, fl)] := by
  rw [wl_succ, pk2_eq, wl_congr (h := pk fr tt ct fa) (fun i hi => pk2_ne (by omega))]
theorem fnd_none (hB : WB fr tt ct) (hu : u < 200) (hv : v < 200) (hF : Fnd fr tt kn (nI u) (nI v) none) : hasL u v (wl kn (pk fr tt ct fa)) = false := by
  cases h : hasL u v (wl kn (pk fr tt ct fa)) with
  | false => rfl
  | true =>
    obtain ⟨w, hw, e1, e2⟩ := hasL_iff.mp h
    obtain ⟨i, hi, rfl⟩ := wl_mem.mp hw
    have e1 : fr i = u := e1
    have e2 : tt i = v := e2
    exact absurd ⟨by rw [e1], by rw [e2]⟩ (hF i hi)
theorem fnd_some (hB : WB fr tt ct) (hu : u < 200) (hv : v < 200) (hF : Fnd fr tt kn (nI u) (nI v) (some k)) : k < kn ∧ fr k = u ∧ tt k = v := by
  have b := hB k
  exact ⟨hF.1, nI_inj (by omega) (by omega) hF.2.1, nI_inj (by omega) (by omega) hF.2.2⟩
theorem tl_MF2 (hS0 : Srt kn (pk fr tt ct fa)) (hK0 : KdL (wl kn (pk fr tt ct fa))) (hB : WB fr tt ct) (hu : u < 200) (hv : v < 200) (hF : Fnd fr tt kn (nI u) (nI v) none) : MF (kn + 1) (pk (va_up fr kn u) (va_up tt kn v) (va_up (va_up ct kn 0) kn c1) (va_up fa kn fl)) (pk (va_up fr kn u) (va_up tt kn v) (va_up (va_up ct kn 0) kn c1) (va_up fa kn fl)) kn := by
  refine MF_of (by omega) ?_ ?_ (fun j h1 h2 => by omega)
  · rw [wl2]
    refine List.pairwise_append.mpr ⟨hK0, List.pairwise_singleton _ _, fun a ha b hb => ?_⟩
    rw [List.mem_singleton] at hb
    subst hb
    intro ⟨e1, e2⟩
    have := fnd_none (fa := fa) hB hu hv hF
    rw [hasL_iff.mpr ⟨a, ha, e1, e2⟩] at this
    cases this
  · intro i j hij hj hi2 hj2
    rw [pk2_ne hi2, pk2_ne hj2]
    exact hS0 i j hij (by omega)
theorem tl_full (hB : WB fr tt ct) (hu : u < 200) (hv : v < 200) (hF : Fnd fr tt kn (nI u) (nI v) none) (hk : kn = 1000) (hS0 : Srt kn (pk fr tt ct fa)) : TellPost (wl kn (pk fr tt ct fa)) u v cn fl (-3) kn (pk fr tt ct fa) ∧ WB fr tt ct := by
  have h1 := fnd_none (fa := fa) hB hu hv hF
  have h2 : tellFull u v (wl kn (pk fr tt ct fa)) = true := by
    unfold tellFull
    rw [h1, wl_len]
    simp [hk]
  refine ⟨⟨?_, ?_, hS0, by omega⟩, hB⟩
  · unfold tellR
    rw [if_pos h2]
  · unfold tellS
    rw [if_pos h2]
theorem tl_new {f1 f2 f3 : Nat → Nat} {f4 : Nat → Bool} (hB : WB fr tt ct) (hu : u < 200) (hv : v < 200) (hF : Fnd fr tt kn (nI u) (nI v) none) (hk : kn < 1000) (hc : c1 = min 1000000000000000 (0 + cn)) (h1 : WB f1 f2 f3) (h2 : (wl (kn + 1) (pk f1 f2 f3 f4)).Perm (wl (kn + 1) (pk (va_up fr kn u) (va_up tt kn v) (va_up (va_up ct kn 0) kn c1) (va_up fa kn fl)))) (h3 : Srt (kn + 1) (pk f1 f2 f3 f4)) : TellPost (wl kn (pk fr tt ct fa)) u v cn fl (lN c1) (kn + 1) (pk f1 f2 f3 f4) ∧ WB f1 f2 f3 := by
  have g1 := fnd_none (fa := fa) hB hu hv hF
  have g2 : ¬ tellFull u v (wl kn (pk fr tt ct fa)) = true := by
    unfold tellFull
    rw [g1, wl_len]
    simp
    omega
  refine ⟨⟨?_, ?_, h3, by omega⟩, h1⟩
  · unfold tellR
    rw [if_neg g2, cntL_none g1, hc]
  · unfold tellS
    rw [if_neg g2]
    unfold tellL
    rw [if_neg (by rw [g1]; decide)]
    rw [wl2, hc, Nat.zero_add] at h2
    exact h2
theorem tl_old {f1 f2 f3 : Nat → Nat} {f4 : Nat → Bool} (hB : WB fr tt ct) (hK0 : KdL (wl kn (pk fr tt ct fa))) (hu : u < 200) (hv : v < 200) (hkn : kn ≤ 1000) (hF : Fnd fr tt kn (nI u) (nI v) (some k)) (hc : c1 = min 1000000000000000 (ct k + cn)) (h1 : WB f1 f2 f3) (h2 : (wl kn (pk f1 f2 f3 f4)).Perm (wl kn (pk fr tt (va_up ct k c1) (va_up fa k fl)))) (h3 : Srt kn (pk f1 f2 f3 f4)) : TellPost (wl kn (pk fr tt ct fa)) u v cn fl (lN c1) kn (pk f1 f2 f3 f4) ∧ WB f1 f2 f3 := by
  obtain ⟨a1, a2, a3⟩ := fnd_some hB hu hv hF
  have hm : pk fr tt ct fa k ∈ wl kn (pk fr tt ct fa) := wl_mem.mpr ⟨k, a1, rfl⟩
  have g1 : hasL u v (wl kn (pk fr tt ct fa)) = true := hasL_iff.mpr ⟨_, hm, a2, a3⟩
  have g2 : ¬ tellFull u v (wl kn (pk fr tt ct fa)) = true := by
    unfold tellFull
    rw [g1]
    simp
  refine ⟨⟨?_, ?_, h3, hkn⟩, h1⟩
  · unfold tellR
    rw [if_neg g2, cntL_of hK0 hm a2 a3, hc]
    rfl
  · unfold tellS
    rw [if_neg g2]
    unfold tellL
    rw [if_pos g1]
    refine h2.trans ?_
    have e : wl kn (pk fr tt (va_up ct k c1) (va_up fa k fl)) = (wl kn (pk fr tt ct fa)).map (fun w => if kyB u v w = true then (u, v, min 1000000000000000 (w.2.2.1 + cn), fl) else w) := by
      unfold wl
      rw [List.map_map]
      refine List.map_congr_left (fun i hi => ?_)
      have hi := List.mem_range.mp hi
      show _ = if kyB u v (pk fr tt ct fa i) = true then _ else _
      by_cases hik : i = k
      · subst hik
        rw [if_pos (kyB_iff.mpr ⟨a2, a3⟩), pk1_eq, hc, a2, a3]
        rfl
      · rw [if_neg, pk1_ne hik]
        intro q
        obtain ⟨q1, q2⟩ := kyB_iff.mp q
        exact hik (hK0.inj i k hi a1 (q1.trans a2.symm) (q2.trans a3.symm))
    rw [e]
end Tell
end
section
theorem fl_X2_add_15 : Cond.fieldLink RX2 15 "BlockRows$Ways" "to" "[I" ∈ wsX2_add := by decide +kernel
theorem fl_X2_add_18 : Cond.fieldLink RX2 18 "BlockRows$Ways" "counts" "[J" ∈ wsX2_add := by decide +kernel
theorem fl_X2_add_26 : Cond.fieldLink RX2 26 "BlockRows$Ways" "known" "I" ∈ wsX2_add := by decide +kernel
theorem fl_X2_add_9 : Cond.fieldLink RX2 9 "BlockRows$Ways" "from" "[I" ∈ wsX2_add := by decide +kernel
theorem in_X2_add_X2 : ∀ w ∈ wsX20, w ∈ wsX2_add := by decide +kernel
set_option maxHeartbeats 4000000 in
set_option maxRecDepth 100000 in
/-- Ways.add: there is room -/
theorem c_addOk (l : Launch) (D : va_G) (cI cJ cZ : ClassId) (h af at_ ac al kn : Nat) (fr tt ct : Nat → Nat) (fa : Nat → Bool) (sz : Nat) (hkn : kn < 1000) (u v : Nat) : Met l yX2_add wsX2_add ({ frames := 0, cells := 0, slots := 0, locals := 0 }) (PcM D cI cJ cZ [.ref h, .int (nI u), .int (nI v)] [(h, .inr (2, [.ref af, .ref at_, .ref ac, .ref al, .int (nI kn)])), (af, .inl (cI, 1000, .inl (nIf fr))), (at_, .inl (cI, 1000, .inl (nIf tt))), (ac, .inl (cJ, 1000, .inr (.inl (lNf ct)))), (al, .inl (cZ, 1000, .inl (bIf fa)))] sz) (va_Qi (fun r (_ : Unit) => r = nI kn) (Bm D [(h, .inr (2, [.ref af, .ref at_, .ref ac, .ref al, .int (nI kn)])), (af, .inl (cI, 1000, .inl (nIf fr))), (at_, .inl (cI, 1000, .inl (nIf tt))), (ac, .inl (cJ, 1000, .inr (.inl (lNf ct)))), (al, .inl (cZ, 1000, .inl (bIf fa)))] sz (fun _ : Unit => [(h, .inr (2, [.ref af, .ref at_, .ref ac, .ref al, .int (nI (kn + 1))])), (af, .inl (cI, 1000, .inl (nIf (va_up fr kn u)))), (at_, .inl (cI, 1000, .inl (nIf (va_up tt kn v)))), (ac, .inl (cJ, 1000, .inr (.inl (lNf (va_up ct kn 0))))), (al, .inl (cZ, 1000, .inl (bIf fa)))])) (va_A [(h, .inr (2, [.ref af, .ref at_, .ref ac, .ref al, .int (nI kn)])), (af, .inl (cI, 1000, .inl (nIf fr))), (at_, .inl (cI, 1000, .inl (nIf tt))), (ac, .inl (cJ, 1000, .inr (.inl (lNf ct)))), (al, .inl (cZ, 1000, .inl (bIf fa)))] sz)) 0 0 (va_A [(h, .inr (2, [.ref af, .ref at_, .ref ac, .ref al, .int (nI kn)])), (af, .inl (cI, 1000, .inl (nIf fr))), (at_, .inl (cI, 1000, .inl (nIf tt))), (ac, .inl (cJ, 1000, .inr (.inl (lNf ct)))), (al, .inl (cZ, 1000, .inl (bIf fa)))] sz) := by
  refine startM (cc := cX2_add) (maxL := 4) (ret := (some .int)) (by decide) rfl (Nat.le_of_ble_eq_true rfl) ?_
  intro p e s m below meth c ls A hA hAe hx hb hr hml hown hts hlocks hin hE hP hD hS hl
  have hl : lv_has ls 4 [(0, .ref h), (1, .int (nI u)), (2, .int (nI v))] := hl
  refine lv_aload_n hx hb dX2_add_0 rfl (lv_at hl 0 rfl) ?_
  refine va_get (D := D) (ci := 2) (v := .int (nI kn)) (C := RX2) (T := TX2) (N := 5) hx hb hts in_X2_add_X2 hown hE.1 hP 0 rfl rfl 4 (by decide) (hts _ fl_X2_add_26) (fun _ h9 => h9) rfl dX2_add_1 ?_
  refine lv_sipush (v := nI 1000) hx hb dX2_add_4 (by decide) ?_
  refine r_icmp_lt (tgt := 12) hx hb (x := kn) (y := 1000) (by omega) (by omega) dX2_add_7 (by decide) (fun c_7 => ?_) (fun c_7 => ?_)
  · skip
    refine lv_aload_n hx hb dX2_add_12 rfl (lv_at hl 0 rfl) ?_
    refine va_get (D := D) (ci := 2) (v := .int (nI kn)) (C := RX2) (T := TX2) (N := 5) hx hb hts in_X2_add_X2 hown hE.1 hP 0 rfl rfl 4 (by decide) (hts _ fl_X2_add_26) (fun _ h9 => h9) rfl dX2_add_13 ?_
    refine lv_istore_n (lv' := [(3, .int (nI kn)), (0, .ref h), (1, .int (nI u)), (2, .int (nI v))]) hx hb dX2_add_16 rfl hl (by decide) rfl (fun ls hl => ?_)
    refine lv_aload_n hx hb dX2_add_17 rfl (lv_at hl 1 rfl) ?_
    refine va_get (D := D) (ci := 2) (v := .ref af) (C := RX2) (T := TX2) (N := 5) hx hb hts in_X2_add_X2 hown hE.1 hP 0 rfl rfl 0 (by decide) (hts _ fl_X2_add_9) (fun _ h9 => h9) rfl dX2_add_18 ?_
    refine lv_iload_n hx hb dX2_add_21 rfl (lv_at hl 0 rfl) ?_
    refine lv_iload_n hx hb dX2_add_22 rfl (lv_at hl 2 rfl) ?_
    refine r_nst hx hb hE hP hD hS 1 rfl (k := kn) (x := u) (by omega) (by decide) dX2_add_23 (fun H locs hP hD hS => ?_)
    have hP : va_P D vwCl [(h, .inr (2, [.ref af, .ref at_, .ref ac, .ref al, .int (nI kn)])), (af, .inl (cI, 1000, .inl (nIf (va_up fr kn u)))), (at_, .inl (cI, 1000, .inl (nIf tt))), (ac, .inl (cJ, 1000, .inr (.inl (lNf ct)))), (al, .inl (cZ, 1000, .inl (bIf fa)))] H := hP
    have hD : va_D A [(h, .inr (2, [.ref af, .ref at_, .ref ac, .ref al, .int (nI kn)])), (af, .inl (cI, 1000, .inl (nIf (va_up fr kn u)))), (at_, .inl (cI, 1000, .inl (nIf tt))), (ac, .inl (cJ, 1000, .inr (.inl (lNf ct)))), (al, .inl (cZ, 1000, .inl (bIf fa)))] := hD
    refine lv_aload_n hx hb dX2_add_24 rfl (lv_at hl 1 rfl) ?_
    refine va_get (D := D) (ci := 2) (v := .ref at_) (C := RX2) (T := TX2) (N := 5) hx hb hts in_X2_add_X2 hown hE.1 hP 0 rfl rfl 1 (by decide) (hts _ fl_X2_add_15) (fun _ h9 => h9) rfl dX2_add_25 ?_
    refine lv_iload_n hx hb dX2_add_28 rfl (lv_at hl 0 rfl) ?_
    refine lv_iload_n hx hb dX2_add_29 rfl (lv_at hl 3 rfl) ?_
    refine r_nst hx hb hE hP hD hS 2 rfl (k := kn) (x := v) (by omega) (by decide) dX2_add_30 (fun H locs hP hD hS => ?_)
    have hP : va_P D vwCl [(h, .inr (2, [.ref af, .ref at_, .ref ac, .ref al, .int (nI kn)])), (af, .inl (cI, 1000, .inl (nIf (va_up fr kn u)))), (at_, .inl (cI, 1000, .inl (nIf (va_up tt kn v)))), (ac, .inl (cJ, 1000, .inr (.inl (lNf ct)))), (al, .inl (cZ, 1000, .inl (bIf fa)))] H := hP
    have hD : va_D A [(h, .inr (2, [.ref af, .ref at_, .ref ac, .ref al, .int (nI kn)])), (af, .inl (cI, 1000, .inl (nIf (va_up fr kn u)))), (at_, .inl (cI, 1000, .inl (nIf (va_up tt kn v)))), (ac, .inl (cJ, 1000, .inr (.inl (lNf ct)))), (al, .inl (cZ, 1000, .inl (bIf fa)))] := hD
    refine lv_aload_n hx hb dX2_add_31 rfl (lv_at hl 1 rfl) ?_
    refine va_get (D := D) (ci := 2) (v := .ref ac) (C := RX2) (T := TX2) (N := 5) hx hb hts in_X2_add_X2 hown hE.1 hP 0 rfl rfl 2 (by decide) (hts _ fl_X2_add_18) (fun _ h9 => h9) rfl dX2_add_32 ?_
    refine lv_iload_n hx hb dX2_add_35 rfl (lv_at hl 0 rfl) ?_
    refine lv_lconst (v := lN 0) hx hb dX2_add_36 (by decide) ?_
    refine r_lst hx hb hE hP hD hS 3 rfl (k := kn) (x := 0) (by omega) (by decide) dX2_add_37 (fun H locs hP hD hS => ?_)
    have hP : va_P D vwCl [(h, .inr (2, [.ref af, .ref at_, .ref ac, .ref al, .int (nI kn)])), (af, .inl (cI, 1000, .inl (nIf (va_up fr kn u)))), (at_, .inl (cI, 1000, .inl (nIf (va_up tt kn v)))), (ac, .inl (cJ, 1000, .inr (.inl (lNf (va_up ct kn 0))))), (al, .inl (cZ, 1000, .inl (bIf fa)))] H := hP
    have hD : va_D A [(h, .inr (2, [.ref af, .ref at_, .ref ac, .ref al, .int (nI kn)])), (af, .inl (cI, 1000, .inl (nIf (va_up fr kn u)))), (at_, .inl (cI, 1000, .inl (nIf (va_up tt kn v)))), (ac, .inl (cJ, 1000, .inr (.inl (lNf (va_up ct kn 0))))), (al, .inl (cZ, 1000, .inl (bIf fa)))] := hD
    refine lv_aload_n hx hb dX2_add_38 rfl (lv_at hl 1 rfl) ?_
    refine lv_dup hx hb dX2_add_39 rfl ?_
    refine va_get (D := D) (ci := 2) (v := .int (nI kn)) (C := RX2) (T := TX2) (N := 5) hx hb hts in_X2_add_X2 hown hE.1 hP 0 rfl rfl 4 (by decide) (hts _ fl_X2_add_26) (fun _ h9 => h9) rfl dX2_add_40 ?_
    refine lv_iconst (v := nI 1) hx hb dX2_add_43 (by decide) ?_
    refine r_iadd hx hb dX2_add_44 ?_
    refine va_put (D := D) (ci := 2) (v := .int (nI (kn + 1))) (ty := .int) (C := RX2) (T := TX2) (N := 5) hx hb hts in_X2_add_X2 tyX2 tyX2_ok nmX2 hown hE.1 hP hD hS 0 rfl rfl 4 (by decide) (hts _ fl_X2_add_26) (fun _ h9 => h9) rfl (by decide +kernel) rfl rfl (Nat.le_of_ble_eq_true rfl) dX2_add_45 (fun H locs hP hD hS => ?_)
    have hP : va_P D vwCl [(h, .inr (2, [.ref af, .ref at_, .ref ac, .ref al, .int (nI (kn + 1))])), (af, .inl (cI, 1000, .inl (nIf (va_up fr kn u)))), (at_, .inl (cI, 1000, .inl (nIf (va_up tt kn v)))), (ac, .inl (cJ, 1000, .inr (.inl (lNf (va_up ct kn 0))))), (al, .inl (cZ, 1000, .inl (bIf fa)))] H := hP
    have hD : va_D A [(h, .inr (2, [.ref af, .ref at_, .ref ac, .ref al, .int (nI (kn + 1))])), (af, .inl (cI, 1000, .inl (nIf (va_up fr kn u)))), (at_, .inl (cI, 1000, .inl (nIf (va_up tt kn v)))), (ac, .inl (cJ, 1000, .inr (.inl (lNf (va_up ct kn 0))))), (al, .inl (cZ, 1000, .inl (bIf fa)))] := hD
    refine lv_iload_n hx hb dX2_add_48 rfl (lv_at hl 0 rfl) ?_
    exact e_mi () hAe hx hb hr hlocks dX2_add_49 hP hD hS rfl
  · skip
    exact absurd c_7 (by omega)

theorem flf_X2_add_26 : Cond.fieldLink RX2 26 "BlockRows$Ways" "known" "I" ∈ wsX2_add := by decide +kernel
theorem inf_X2_add_X2 : ∀ w ∈ wsX20, w ∈ wsX2_add := by decide +kernel
set_option maxHeartbeats 4000000 in
set_option maxRecDepth 100000 in
/-- Ways.add: no room -/
theorem c_addFull (l : Launch) (D : va_G) (cI cJ cZ : ClassId) (h af at_ ac al kn : Nat) (fr tt ct : Nat → Nat) (fa : Nat → Bool) (sz : Nat) (hkn : kn = 1000) (u v : Nat) : Met l yX2_add wsX2_add ({ frames := 0, cells := 0, slots := 0, locals := 0 }) (PcM D cI cJ cZ [.ref h, .int (nI u), .int (nI v)] [(h, .inr (2, [.ref af, .ref at_, .ref ac, .ref al, .int (nI kn)])), (af, .inl (cI, 1000, .inl (nIf fr))), (at_, .inl (cI, 1000, .inl (nIf tt))), (ac, .inl (cJ, 1000, .inr (.inl (lNf ct)))), (al, .inl (cZ, 1000, .inl (bIf fa)))] sz) (va_Qi (fun r (_ : Unit) => r = -1) (Bm D [(h, .inr (2, [.ref af, .ref at_, .ref ac, .ref al, .int (nI kn)])), (af, .inl (cI, 1000, .inl (nIf fr))), (at_, .inl (cI, 1000, .inl (nIf tt))), (ac, .inl (cJ, 1000, .inr (.inl (lNf ct)))), (al, .inl (cZ, 1000, .inl (bIf fa)))] sz (fun _ : Unit => [(h, .inr (2, [.ref af, .ref at_, .ref ac, .ref al, .int (nI kn)])), (af, .inl (cI, 1000, .inl (nIf fr))), (at_, .inl (cI, 1000, .inl (nIf tt))), (ac, .inl (cJ, 1000, .inr (.inl (lNf ct)))), (al, .inl (cZ, 1000, .inl (bIf fa)))])) (va_A [(h, .inr (2, [.ref af, .ref at_, .ref ac, .ref al, .int (nI kn)])), (af, .inl (cI, 1000, .inl (nIf fr))), (at_, .inl (cI, 1000, .inl (nIf tt))), (ac, .inl (cJ, 1000, .inr (.inl (lNf ct)))), (al, .inl (cZ, 1000, .inl (bIf fa)))] sz)) 0 0 (va_A [(h, .inr (2, [.ref af, .ref at_, .ref ac, .ref al, .int (nI kn)])), (af, .inl (cI, 1000, .inl (nIf fr))), (at_, .inl (cI, 1000, .inl (nIf tt))), (ac, .inl (cJ, 1000, .inr (.inl (lNf ct)))), (al, .inl (cZ, 1000, .inl (bIf fa)))] sz) := by
  refine startM (cc := cX2_add) (maxL := 4) (ret := (some .int)) (by decide) rfl (Nat.le_of_ble_eq_true rfl) ?_
  intro p e s m below meth c ls A hA hAe hx hb hr hml hown hts hlocks hin hE hP hD hS hl
  have hl : lv_has ls 4 [(0, .ref h), (1, .int (nI u)), (2, .int (nI v))] := hl
  refine lv_aload_n hx hb dX2_add_0 rfl (lv_at hl 0 rfl) ?_
  refine va_get (D := D) (ci := 2) (v := .int (nI kn)) (C := RX2) (T := TX2) (N := 5) hx hb hts inf_X2_add_X2 hown hE.1 hP 0 rfl rfl 4 (by decide) (hts _ flf_X2_add_26) (fun _ h9 => h9) rfl dX2_add_1 ?_
  refine lv_sipush (v := nI 1000) hx hb dX2_add_4 (by decide) ?_
  refine r_icmp_lt (tgt := 12) hx hb (x := kn) (y := 1000) (by omega) (by omega) dX2_add_7 (by decide) (fun c_7 => ?_) (fun c_7 => ?_)
  · skip
    exact absurd c_7 (by omega)
  · skip
    refine lv_iconst (v := -1) hx hb dX2_add_10 (by decide) ?_
    exact e_mi () hAe hx hb hr hlocks dX2_add_11 hP hD hS rfl

theorem fl_X2_tell_18 : Cond.fieldLink RX2 18 "BlockRows$Ways" "counts" "[J" ∈ wsX2_tell := by decide +kernel
theorem fl_X2_tell_22 : Cond.fieldLink RX2 22 "BlockRows$Ways" "falling" "[Z" ∈ wsX2_tell := by decide +kernel
theorem in_X2_tell_X2 : ∀ w ∈ wsX20, w ∈ wsX2_tell := by decide +kernel
theorem wd_X2_tell_c37 : Cond.constantLong RX2 37 (-3) ∈ wsX2_tell := by decide +kernel
theorem wd_X2_tell_c39 : Cond.constantLong RX2 39 (1000000000000000) ∈ wsX2_tell := by decide +kernel
theorem wd_X2_tell_min0 : Cond.methodLink RX2 41 Lib.MathLoose.min_long.x ∈ wsX2_tell := by decide +kernel
theorem wd_X2_tell_min1 : Cond.static Lib.MathLoose.min_long.x ∈ wsX2_tell := by decide +kernel
theorem wd_X2_tell_min2 : Cond.initialized "java/lang/Math" ∈ wsX2_tell := by decide +kernel
theorem wd_X2_tell_min3 : Cond.code Lib.MathLoose.min_long.x Lib.MathLoose.min_long.code 4 (some .long) ∈ wsX2_tell := by decide +kernel
set_option maxHeartbeats 4000000 in
set_option maxRecDepth 100000 in
/-- Ways.tell -/
theorem c_tell (l : Launch) (D : va_G) (cI cJ cZ : ClassId) (h af at_ ac al kn : Nat) (fr tt ct : Nat → Nat) (fa : Nat → Bool) (sz : Nat) (hkn : kn ≤ 1000) (hB : WB fr tt ct) (hS0 : Srt kn (pk fr tt ct fa)) (hK0 : KdL (wl kn (pk fr tt ct fa))) (u v cn : Nat) (fl : Bool) (hu2 : u < 200) (hv2 : v < 200) (hcn : cn ≤ 1000000000) : Met l yX2_tell wsX2_tell ({ frames := 2, cells := 0, slots := 0, locals := 49 }) (PcM D cI cJ cZ [.ref h, .int (nI u), .int (nI v), .int (nI cn), .int (bI fl)] [(h, .inr (2, [.ref af, .ref at_, .ref ac, .ref al, .int (nI kn)])), (af, .inl (cI, 1000, .inl (nIf fr))), (at_, .inl (cI, 1000, .inl (nIf tt))), (ac, .inl (cJ, 1000, .inr (.inl (lNf ct)))), (al, .inl (cZ, 1000, .inl (bIf fa)))] sz) (va_Ql (fun r (z : (Nat → Nat) × (Nat → Nat) × (Nat → Nat) × (Nat → Bool) × Nat) => TellPost (wl kn (pk fr tt ct fa)) u v cn fl r z.2.2.2.2 (pk z.1 z.2.1 z.2.2.1 z.2.2.2.1) ∧ WB z.1 z.2.1 z.2.2.1) (Bm D [(h, .inr (2, [.ref af, .ref at_, .ref ac, .ref al, .int (nI kn)])), (af, .inl (cI, 1000, .inl (nIf fr))), (at_, .inl (cI, 1000, .inl (nIf tt))), (ac, .inl (cJ, 1000, .inr (.inl (lNf ct)))), (al, .inl (cZ, 1000, .inl (bIf fa)))] sz (fun z : (Nat → Nat) × (Nat → Nat) × (Nat → Nat) × (Nat → Bool) × Nat => [(h, .inr (2, [.ref af, .ref at_, .ref ac, .ref al, .int (nI z.2.2.2.2)])), (af, .inl (cI, 1000, .inl (nIf z.1))), (at_, .inl (cI, 1000, .inl (nIf z.2.1))), (ac, .inl (cJ, 1000, .inr (.inl (lNf z.2.2.1)))), (al, .inl (cZ, 1000, .inl (bIf z.2.2.2.1)))])) (va_A [(h, .inr (2, [.ref af, .ref at_, .ref ac, .ref al, .int (nI kn)])), (af, .inl (cI, 1000, .inl (nIf fr))), (at_, .inl (cI, 1000, .inl (nIf tt))), (ac, .inl (cJ, 1000, .inr (.inl (lNf ct)))), (al, .inl (cZ, 1000, .inl (bIf fa)))] sz)) 0 0 (va_A [(h, .inr (2, [.ref af, .ref at_, .ref ac, .ref al, .int (nI kn)])), (af, .inl (cI, 1000, .inl (nIf fr))), (at_, .inl (cI, 1000, .inl (nIf tt))), (ac, .inl (cJ, 1000, .inr (.inl (lNf ct)))), (al, .inl (cZ, 1000, .inl (bIf fa)))] sz) := by
  refine startM (cc := cX2_tell) (maxL := 8) (ret := (some .long)) (by decide) rfl (Nat.le_of_ble_eq_true rfl) ?_
  intro p e s m below meth c ls A hA hAe hx hb hr hml hown hts hlocks hin hE hP hD hS hl
  have hl : lv_has ls 8 [(0, .ref h), (1, .int (nI u)), (2, .int (nI v)), (3, .int (nI cn)), (4, .int (bI fl))] := hl
  refine lv_aload_n hx hb dX2_tell_0 rfl (lv_at hl 0 rfl) ?_
  refine lv_iload_n hx hb dX2_tell_1 rfl (lv_at hl 1 rfl) ?_
  refine lv_iload_n hx hb dX2_tell_2 rfl (lv_at hl 2 rfl) ?_
  refine callRi (As := [.int (nI u), .int (nI v)]) (rest := []) ⟨hx, hb, hml, hown, hts⟩ (c_find l D cI cJ cZ h af at_ ac al kn fr tt ct fa hkn (nI u) (nI v)) (cwV 2 hts gX2_tell_X2_find rfl rfl rfl (by decide +kernel) ⟨Nat.le_of_ble_eq_true rfl, Nat.le_of_ble_eq_true rfl⟩) (preR hE hP 2 0 rfl rfl rfl [0, 1, 2, 3, 4] rfl) rfl hl.1 (Nat.le_of_ble_eq_true rfl) dX2_tell_3 ⟨Nat.zero_le _, Nat.zero_le _⟩ rfl (fun r1 hr1 => ?_)
  obtain ⟨o, rfl, hF⟩ := hr1
  have hob : ∀ j, o = some j → j < 1000 := fun j hj => by subst hj; exact Nat.lt_of_lt_of_le hF.1 hkn
  refine lv_istore (lv' := [(5, .int (oI o)), (0, .ref h), (1, .int (nI u)), (2, .int (nI v)), (3, .int (nI cn)), (4, .int (bI fl))]) hx hb dX2_tell_6 hl (by decide) rfl (fun ls hl => ?_)
  refine lv_iload hx hb dX2_tell_8 (lv_at hl 0 rfl) ?_
  refine lv_iconst (v := -1) hx hb dX2_tell_10 (by decide) ?_
  refine r_o_ne (tgt := 22) hx hb (o := o) (q := none) rfl rfl (fun j hj => by have := hob j hj; omega) (fun j h => by cases h) dX2_tell_11 (by decide) (fun c_11 => ?_) (fun c_11 => ?_)
  · skip
    obtain ⟨k, rfl⟩ := Option.ne_none_iff_exists'.mp c_11
    have hk2 := hob k rfl
    have hctk := (hB k).2.2
    have hl : lv_has ls 8 [(5, .int (nI k)), (0, .ref h), (1, .int (nI u)), (2, .int (nI v)), (3, .int (nI cn)), (4, .int (bI fl))] := hl
    refine lv_iload hx hb dX2_tell_22 (lv_at hl 0 rfl) ?_
    refine lv_iconst (v := -1) hx hb dX2_tell_24 (by decide) ?_
    refine r_o_ne (tgt := 32) hx hb (o := some k) (q := none) rfl rfl (fun j h => by cases h; omega) (fun j h => by cases h) dX2_tell_25 (by decide) (fun c_25 => ?_) (fun c_25 => ?_)
    · skip
      refine lv_ldc2 (v := 1000000000000000) hx hb hown (hts _ wd_X2_tell_c39) dX2_tell_32 ?_
      refine r_as (w := .long (lN 1000000000000000)) (by decide) ?_
      refine lv_aload_n hx hb dX2_tell_35 rfl (lv_at hl 1 rfl) ?_
      refine va_get (D := D) (ci := 2) (v := .ref ac) (C := RX2) (T := TX2) (N := 5) hx hb hts in_X2_tell_X2 hown hE.1 hP 0 rfl rfl 2 (by decide) (hts _ fl_X2_tell_18) (fun _ h9 => h9) rfl dX2_tell_36 ?_
      refine lv_iload hx hb dX2_tell_39 (lv_at hl 0 rfl) ?_
      refine r_lld hx hb hE hP 3 rfl (k := k) (by omega) (by decide) dX2_tell_41 ?_
      refine lv_iload_n hx hb dX2_tell_42 rfl (lv_at hl 4 rfl) ?_
      refine r_i2l hx hb (by omega) dX2_tell_43 ?_
      refine r_ladd hx hb dX2_tell_44 ?_
      refine r_lmin hx hb (hml.trans hl.1.symm) hown (hts _ wd_X2_tell_min0) (hts _ wd_X2_tell_min1) (hts _ wd_X2_tell_min2) (hts _ wd_X2_tell_min3) (Nat.le_of_ble_eq_true rfl) (Nat.le_of_ble_eq_true rfl) (Nat.zero_le _) (Nat.zero_le _) (x := 1000000000000000) (y := (ct k) + cn) (by decide) (by omega) dX2_tell_45 ?_
      obtain ⟨c1, hc1⟩ : ∃ c1, c1 = min 1000000000000000 ((ct k) + cn) := ⟨_, rfl⟩
      rw [← hc1]
      refine lv_lstore (lv' := [(6, .long (lN c1)), (5, .int (nI k)), (0, .ref h), (1, .int (nI u)), (2, .int (nI v)), (3, .int (nI cn)), (4, .int (bI fl))]) hx hb dX2_tell_48 hl (by decide) rfl (fun ls hl => ?_)
      refine lv_aload_n hx hb dX2_tell_50 rfl (lv_at hl 2 rfl) ?_
      refine va_get (D := D) (ci := 2) (v := .ref ac) (C := RX2) (T := TX2) (N := 5) hx hb hts in_X2_tell_X2 hown hE.1 hP 0 rfl rfl 2 (by decide) (hts _ fl_X2_tell_18) (fun _ h9 => h9) rfl dX2_tell_51 ?_
      refine lv_iload hx hb dX2_tell_54 (lv_at hl 1 rfl) ?_
      refine lv_lload hx hb dX2_tell_56 (lv_at hl 0 rfl) ?_
      refine r_lst hx hb hE hP hD hS 3 rfl (k := k) (x := c1) (by omega) (by decide) dX2_tell_58 (fun H locs hP hD hS => ?_)
      have hP : va_P D vwCl [(h, .inr (2, [.ref af, .ref at_, .ref ac, .ref al, .int (nI kn)])), (af, .inl (cI, 1000, .inl (nIf fr))), (at_, .inl (cI, 1000, .inl (nIf tt))), (ac, .inl (cJ, 1000, .inr (.inl (lNf (va_up ct k c1))))), (al, .inl (cZ, 1000, .inl (bIf fa)))] H := hP
      have hD : va_D A [(h, .inr (2, [.ref af, .ref at_, .ref ac, .ref al, .int (nI kn)])), (af, .inl (cI, 1000, .inl (nIf fr))), (at_, .inl (cI, 1000, .inl (nIf tt))), (ac, .inl (cJ, 1000, .inr (.inl (lNf (va_up ct k c1))))), (al, .inl (cZ, 1000, .inl (bIf fa)))] := hD
      refine lv_aload_n hx hb dX2_tell_59 rfl (lv_at hl 2 rfl) ?_
      refine va_get (D := D) (ci := 2) (v := .ref al) (C := RX2) (T := TX2) (N := 5) hx hb hts in_X2_tell_X2 hown hE.1 hP 0 rfl rfl 3 (by decide) (hts _ fl_X2_tell_22) (fun _ h9 => h9) rfl dX2_tell_60 ?_
      refine lv_iload hx hb dX2_tell_63 (lv_at hl 1 rfl) ?_
      refine lv_iload hx hb dX2_tell_65 (lv_at hl 6 rfl) ?_
      refine r_bst hx hb hE hP hD hS 4 rfl (k := k) fl rfl (by omega) (by decide) dX2_tell_67 (fun H locs hP hD hS => ?_)
      have hP : va_P D vwCl [(h, .inr (2, [.ref af, .ref at_, .ref ac, .ref al, .int (nI kn)])), (af, .inl (cI, 1000, .inl (nIf fr))), (at_, .inl (cI, 1000, .inl (nIf tt))), (ac, .inl (cJ, 1000, .inr (.inl (lNf (va_up ct k c1))))), (al, .inl (cZ, 1000, .inl (bIf (va_up fa k fl))))] H := hP
      have hD : va_D A [(h, .inr (2, [.ref af, .ref at_, .ref ac, .ref al, .int (nI kn)])), (af, .inl (cI, 1000, .inl (nIf fr))), (at_, .inl (cI, 1000, .inl (nIf tt))), (ac, .inl (cJ, 1000, .inr (.inl (lNf (va_up ct k c1))))), (al, .inl (cZ, 1000, .inl (bIf (va_up fa k fl))))] := hD
      refine lv_aload_n hx hb dX2_tell_68 rfl (lv_at hl 2 rfl) ?_
      refine lv_iload hx hb dX2_tell_69 (lv_at hl 1 rfl) ?_
      refine callMv (As := [.int (nI k)]) (rest := []) (wr := []) ⟨hx, hb, hml, hown, hts⟩ (c_moveForward l D cI cJ cZ h af at_ ac al kn fr tt (va_up ct k c1) (va_up fa k fl) _ k hkn (tl_WB1 hB (by omega)) (tl_MF1 hS0 hK0 hF.1 (by omega))) (cwV 1 hts gX2_tell_X2_moveForward rfl rfl rfl (by decide +kernel) ⟨Nat.le_of_ble_eq_true rfl, Nat.le_of_ble_eq_true rfl⟩) (preM hE hP hD 2 0 rfl rfl rfl [0, 1, 2, 3, 4] rfl rfl rfl) rfl hl.1 (Nat.le_of_ble_eq_true rfl) dX2_tell_71 ⟨Nat.zero_le _, Nat.zero_le _⟩ rfl hP hD hS hA [0, 1, 2, 3, 4] [] rfl rfl (by decide) (by decide) (fun u_ H locs hu hP hD hS => ?_)
      have hP : va_P D vwCl [(h, .inr (2, [.ref af, .ref at_, .ref ac, .ref al, .int (nI kn)])), (af, .inl (cI, 1000, .inl (nIf u_.1))), (at_, .inl (cI, 1000, .inl (nIf u_.2.1))), (ac, .inl (cJ, 1000, .inr (.inl (lNf u_.2.2.1)))), (al, .inl (cZ, 1000, .inl (bIf u_.2.2.2)))] H := hP
      have hD : va_D A [(h, .inr (2, [.ref af, .ref at_, .ref ac, .ref al, .int (nI kn)])), (af, .inl (cI, 1000, .inl (nIf u_.1))), (at_, .inl (cI, 1000, .inl (nIf u_.2.1))), (ac, .inl (cJ, 1000, .inr (.inl (lNf u_.2.2.1)))), (al, .inl (cZ, 1000, .inl (bIf u_.2.2.2)))] := hD
      refine lv_lload hx hb dX2_tell_74 (lv_at hl 0 rfl) ?_
      exact e_ml (u_.1, u_.2.1, u_.2.2.1, u_.2.2.2, kn) hAe hx hb hr hlocks dX2_tell_76 hP hD hS (tl_old hB hK0 hu2 hv2 hkn hF hc1 hu.1 hu.2.1 hu.2.2)
    · skip
      exact absurd c_25 (by intro h; cases h)
  · skip
    rw [c_11] at hF
    refine lv_aload_n hx hb dX2_tell_14 rfl (lv_at hl 1 rfl) ?_
    refine lv_iload_n hx hb dX2_tell_15 rfl (lv_at hl 2 rfl) ?_
    refine lv_iload_n hx hb dX2_tell_16 rfl (lv_at hl 3 rfl) ?_
    rcases Nat.lt_or_ge kn 1000 with hkl | hkl
    · skip
      refine callMi (As := [.int (nI u), .int (nI v)]) (rest := []) (wr := []) ⟨hx, hb, hml, hown, hts⟩ (c_addOk l D cI cJ cZ h af at_ ac al kn fr tt ct fa _ hkl u v) (cwV 2 hts gX2_tell_X2_add rfl rfl rfl (by decide +kernel) ⟨Nat.le_of_ble_eq_true rfl, Nat.le_of_ble_eq_true rfl⟩) (preM hE hP hD 2 0 rfl rfl rfl [0, 1, 2, 3, 4] rfl rfl rfl) rfl hl.1 (Nat.le_of_ble_eq_true rfl) dX2_tell_17 ⟨Nat.zero_le _, Nat.zero_le _⟩ rfl hP hD hS hA [0, 1, 2, 3, 4] [] rfl rfl (by decide) (by decide) (fun r2 u_ H locs hu hP hD hS => ?_)
      have hP : va_P D vwCl [(h, .inr (2, [.ref af, .ref at_, .ref ac, .ref al, .int (nI (kn + 1))])), (af, .inl (cI, 1000, .inl (nIf (va_up fr kn u)))), (at_, .inl (cI, 1000, .inl (nIf (va_up tt kn v)))), (ac, .inl (cJ, 1000, .inr (.inl (lNf (va_up ct kn 0))))), (al, .inl (cZ, 1000, .inl (bIf fa)))] H := hP
      have hD : va_D A [(h, .inr (2, [.ref af, .ref at_, .ref ac, .ref al, .int (nI (kn + 1))])), (af, .inl (cI, 1000, .inl (nIf (va_up fr kn u)))), (at_, .inl (cI, 1000, .inl (nIf (va_up tt kn v)))), (ac, .inl (cJ, 1000, .inr (.inl (lNf (va_up ct kn 0))))), (al, .inl (cZ, 1000, .inl (bIf fa)))] := hD
      subst hu
      have hctk : va_up ct kn 0 kn ≤ 1000000000000000 := by rw [va_up_self]; omega
      refine lv_istore (lv' := [(5, .int (nI kn)), (0, .ref h), (1, .int (nI u)), (2, .int (nI v)), (3, .int (nI cn)), (4, .int (bI fl))]) hx hb dX2_tell_20 hl (by decide) rfl (fun ls hl => ?_)
      refine lv_iload hx hb dX2_tell_22 (lv_at hl 0 rfl) ?_
      refine lv_iconst (v := -1) hx hb dX2_tell_24 (by decide) ?_
      refine r_o_ne (tgt := 32) hx hb (o := some kn) (q := none) rfl rfl (fun j h => by cases h; omega) (fun j h => by cases h) dX2_tell_25 (by decide) (fun c_25 => ?_) (fun c_25 => ?_)
      · skip
        refine lv_ldc2 (v := 1000000000000000) hx hb hown (hts _ wd_X2_tell_c39) dX2_tell_32 ?_
        refine r_as (w := .long (lN 1000000000000000)) (by decide) ?_
        refine lv_aload_n hx hb dX2_tell_35 rfl (lv_at hl 1 rfl) ?_
        refine va_get (D := D) (ci := 2) (v := .ref ac) (C := RX2) (T := TX2) (N := 5) hx hb hts in_X2_tell_X2 hown hE.1 hP 0 rfl rfl 2 (by decide) (hts _ fl_X2_tell_18) (fun _ h9 => h9) rfl dX2_tell_36 ?_
        refine lv_iload hx hb dX2_tell_39 (lv_at hl 0 rfl) ?_
        refine r_lld hx hb hE hP 3 rfl (k := kn) (by omega) (by decide) dX2_tell_41 ?_
        refine lv_iload_n hx hb dX2_tell_42 rfl (lv_at hl 4 rfl) ?_
        refine r_i2l hx hb (by omega) dX2_tell_43 ?_
        refine r_ladd hx hb dX2_tell_44 ?_
        refine r_lmin hx hb (hml.trans hl.1.symm) hown (hts _ wd_X2_tell_min0) (hts _ wd_X2_tell_min1) (hts _ wd_X2_tell_min2) (hts _ wd_X2_tell_min3) (Nat.le_of_ble_eq_true rfl) (Nat.le_of_ble_eq_true rfl) (Nat.zero_le _) (Nat.zero_le _) (x := 1000000000000000) (y := ((va_up ct kn 0) kn) + cn) (by decide) (by omega) dX2_tell_45 ?_
        obtain ⟨c1, hc1⟩ : ∃ c1, c1 = min 1000000000000000 (((va_up ct kn 0) kn) + cn) := ⟨_, rfl⟩
        rw [← hc1]
        refine lv_lstore (lv' := [(6, .long (lN c1)), (5, .int (nI kn)), (0, .ref h), (1, .int (nI u)), (2, .int (nI v)), (3, .int (nI cn)), (4, .int (bI fl))]) hx hb dX2_tell_48 hl (by decide) rfl (fun ls hl => ?_)
        refine lv_aload_n hx hb dX2_tell_50 rfl (lv_at hl 2 rfl) ?_
        refine va_get (D := D) (ci := 2) (v := .ref ac) (C := RX2) (T := TX2) (N := 5) hx hb hts in_X2_tell_X2 hown hE.1 hP 0 rfl rfl 2 (by decide) (hts _ fl_X2_tell_18) (fun _ h9 => h9) rfl dX2_tell_51 ?_
        refine lv_iload hx hb dX2_tell_54 (lv_at hl 1 rfl) ?_
        refine lv_lload hx hb dX2_tell_56 (lv_at hl 0 rfl) ?_
        refine r_lst hx hb hE hP hD hS 3 rfl (k := kn) (x := c1) (by omega) (by decide) dX2_tell_58 (fun H locs hP hD hS => ?_)
        have hP : va_P D vwCl [(h, .inr (2, [.ref af, .ref at_, .ref ac, .ref al, .int (nI (kn + 1))])), (af, .inl (cI, 1000, .inl (nIf (va_up fr kn u)))), (at_, .inl (cI, 1000, .inl (nIf (va_up tt kn v)))), (ac, .inl (cJ, 1000, .inr (.inl (lNf (va_up (va_up ct kn 0) kn c1))))), (al, .inl (cZ, 1000, .inl (bIf fa)))] H := hP
        have hD : va_D A [(h, .inr (2, [.ref af, .ref at_, .ref ac, .ref al, .int (nI (kn + 1))])), (af, .inl (cI, 1000, .inl (nIf (va_up fr kn u)))), (at_, .inl (cI, 1000, .inl (nIf (va_up tt kn v)))), (ac, .inl (cJ, 1000, .inr (.inl (lNf (va_up (va_up ct kn 0) kn c1))))), (al, .inl (cZ, 1000, .inl (bIf fa)))] := hD
        refine lv_aload_n hx hb dX2_tell_59 rfl (lv_at hl 2 rfl) ?_
        refine va_get (D := D) (ci := 2) (v := .ref al) (C := RX2) (T := TX2) (N := 5) hx hb hts in_X2_tell_X2 hown hE.1 hP 0 rfl rfl 3 (by decide) (hts _ fl_X2_tell_22) (fun _ h9 => h9) rfl dX2_tell_60 ?_
        refine lv_iload hx hb dX2_tell_63 (lv_at hl 1 rfl) ?_
        refine lv_iload hx hb dX2_tell_65 (lv_at hl 6 rfl) ?_
        refine r_bst hx hb hE hP hD hS 4 rfl (k := kn) fl rfl (by omega) (by decide) dX2_tell_67 (fun H locs hP hD hS => ?_)
        have hP : va_P D vwCl [(h, .inr (2, [.ref af, .ref at_, .ref ac, .ref al, .int (nI (kn + 1))])), (af, .inl (cI, 1000, .inl (nIf (va_up fr kn u)))), (at_, .inl (cI, 1000, .inl (nIf (va_up tt kn v)))), (ac, .inl (cJ, 1000, .inr (.inl (lNf (va_up (va_up ct kn 0) kn c1))))), (al, .inl (cZ, 1000, .inl (bIf (va_up fa kn fl))))] H := hP
        have hD : va_D A [(h, .inr (2, [.ref af, .ref at_, .ref ac, .ref al, .int (nI (kn + 1))])), (af, .inl (cI, 1000, .inl (nIf (va_up fr kn u)))), (at_, .inl (cI, 1000, .inl (nIf (va_up tt kn v)))), (ac, .inl (cJ, 1000, .inr (.inl (lNf (va_up (va_up ct kn 0) kn c1))))), (al, .inl (cZ, 1000, .inl (bIf (va_up fa kn fl))))] := hD
        refine lv_aload_n hx hb dX2_tell_68 rfl (lv_at hl 2 rfl) ?_
        refine lv_iload hx hb dX2_tell_69 (lv_at hl 1 rfl) ?_
        refine callMv (As := [.int (nI kn)]) (rest := []) (wr := []) ⟨hx, hb, hml, hown, hts⟩ (c_moveForward l D cI cJ cZ h af at_ ac al (kn + 1) (va_up fr kn u) (va_up tt kn v) (va_up (va_up ct kn 0) kn c1) (va_up fa kn fl) _ kn (by omega) (tl_WB2 hB hu2 hv2 (by omega)) (tl_MF2 hS0 hK0 hB hu2 hv2 hF)) (cwV 1 hts gX2_tell_X2_moveForward rfl rfl rfl (by decide +kernel) ⟨Nat.le_of_ble_eq_true rfl, Nat.le_of_ble_eq_true rfl⟩) (preM hE hP hD 2 0 rfl rfl rfl [0, 1, 2, 3, 4] rfl rfl rfl) rfl hl.1 (Nat.le_of_ble_eq_true rfl) dX2_tell_71 ⟨Nat.zero_le _, Nat.zero_le _⟩ rfl hP hD hS hA [0, 1, 2, 3, 4] [] rfl rfl (by decide) (by decide) (fun u_ H locs hu hP hD hS => ?_)
        have hP : va_P D vwCl [(h, .inr (2, [.ref af, .ref at_, .ref ac, .ref al, .int (nI (kn + 1))])), (af, .inl (cI, 1000, .inl (nIf u_.1))), (at_, .inl (cI, 1000, .inl (nIf u_.2.1))), (ac, .inl (cJ, 1000, .inr (.inl (lNf u_.2.2.1)))), (al, .inl (cZ, 1000, .inl (bIf u_.2.2.2)))] H := hP
        have hD : va_D A [(h, .inr (2, [.ref af, .ref at_, .ref ac, .ref al, .int (nI (kn + 1))])), (af, .inl (cI, 1000, .inl (nIf u_.1))), (at_, .inl (cI, 1000, .inl (nIf u_.2.1))), (ac, .inl (cJ, 1000, .inr (.inl (lNf u_.2.2.1)))), (al, .inl (cZ, 1000, .inl (bIf u_.2.2.2)))] := hD
        refine lv_lload hx hb dX2_tell_74 (lv_at hl 0 rfl) ?_
        exact e_ml (u_.1, u_.2.1, u_.2.2.1, u_.2.2.2, kn + 1) hAe hx hb hr hlocks dX2_tell_76 hP hD hS (tl_new hB hu2 hv2 hF hkl (by rw [hc1, va_up_self]) hu.1 hu.2.1 hu.2.2)
      · skip
        exact absurd c_25 (by intro h; cases h)
    · skip
      refine callMi (As := [.int (nI u), .int (nI v)]) (rest := []) (wr := []) ⟨hx, hb, hml, hown, hts⟩ (c_addFull l D cI cJ cZ h af at_ ac al kn fr tt ct fa _ (by omega) u v) (cwV 2 hts gX2_tell_X2_add rfl rfl rfl (by decide +kernel) ⟨Nat.le_of_ble_eq_true rfl, Nat.le_of_ble_eq_true rfl⟩) (preM hE hP hD 2 0 rfl rfl rfl [0, 1, 2, 3, 4] rfl rfl rfl) rfl hl.1 (Nat.le_of_ble_eq_true rfl) dX2_tell_17 ⟨Nat.zero_le _, Nat.zero_le _⟩ rfl hP hD hS hA [0, 1, 2, 3, 4] [] rfl rfl (by decide) (by decide) (fun r2 u_ H locs hu hP hD hS => ?_)
      have hP : va_P D vwCl [(h, .inr (2, [.ref af, .ref at_, .ref ac, .ref al, .int (nI kn)])), (af, .inl (cI, 1000, .inl (nIf fr))), (at_, .inl (cI, 1000, .inl (nIf tt))), (ac, .inl (cJ, 1000, .inr (.inl (lNf ct)))), (al, .inl (cZ, 1000, .inl (bIf fa)))] H := hP
      have hD : va_D A [(h, .inr (2, [.ref af, .ref at_, .ref ac, .ref al, .int (nI kn)])), (af, .inl (cI, 1000, .inl (nIf fr))), (at_, .inl (cI, 1000, .inl (nIf tt))), (ac, .inl (cJ, 1000, .inr (.inl (lNf ct)))), (al, .inl (cZ, 1000, .inl (bIf fa)))] := hD
      subst hu
      refine lv_istore (lv' := [(5, .int (-1)), (0, .ref h), (1, .int (nI u)), (2, .int (nI v)), (3, .int (nI cn)), (4, .int (bI fl))]) hx hb dX2_tell_20 hl (by decide) rfl (fun ls hl => ?_)
      refine lv_iload hx hb dX2_tell_22 (lv_at hl 0 rfl) ?_
      refine lv_iconst (v := -1) hx hb dX2_tell_24 (by decide) ?_
      refine r_o_ne (tgt := 32) hx hb (o := none) (q := none) rfl rfl (fun j h => by cases h) (fun j h => by cases h) dX2_tell_25 (by decide) (fun c_25 => ?_) (fun c_25 => ?_)
      · skip
        exact absurd rfl c_25
      · skip
        refine lv_ldc2 (v := (-3)) hx hb hown (hts _ wd_X2_tell_c37) dX2_tell_28 ?_
        exact e_ml (fr, tt, ct, fa, kn) hAe hx hb hr hlocks dX2_tell_31 hP hD hS (tl_full hB hu2 hv2 hF (by omega) hS0)

theorem fl_X2_weigh_15 : Cond.fieldLink RX2 15 "BlockRows$Ways" "to" "[I" ∈ wsX2_weigh := by decide +kernel
theorem fl_X2_weigh_18 : Cond.fieldLink RX2 18 "BlockRows$Ways" "counts" "[J" ∈ wsX2_weigh := by decide +kernel
theorem fl_X2_weigh_22 : Cond.fieldLink RX2 22 "BlockRows$Ways" "falling" "[Z" ∈ wsX2_weigh := by decide +kernel
theorem fl_X2_weigh_26 : Cond.fieldLink RX2 26 "BlockRows$Ways" "known" "I" ∈ wsX2_weigh := by decide +kernel
theorem fl_X2_weigh_9 : Cond.fieldLink RX2 9 "BlockRows$Ways" "from" "[I" ∈ wsX2_weigh := by decide +kernel
theorem in_X2_weigh_X2 : ∀ w ∈ wsX20, w ∈ wsX2_weigh := by decide +kernel
set_option maxHeartbeats 4000000 in
set_option maxRecDepth 100000 in
/-- Ways.weigh(line) -/
theorem c_weigh (l : Launch) (D : va_G) (cI cJ cZ : ClassId) (h af at_ ac al kn : Nat) (fr tt ct : Nat → Nat) (fa : Nat → Bool) (q qm qp nn : Nat) (me : Nat → Nat) (pl : Nat → Option Nat) (hkn : kn ≤ 1000) (hB : WB fr tt ct) (hpl : ∀ i j, pl i = some j → j < 200) : Met l yX2_weigh wsX2_weigh ({ frames := 2, cells := 0, slots := 0, locals := 43 }) (PcR D cI cJ cZ [.ref h, .ref q] [(h, .inr (2, [.ref af, .ref at_, .ref ac, .ref al, .int (nI kn)])), (af, .inl (cI, 1000, .inl (nIf fr))), (at_, .inl (cI, 1000, .inl (nIf tt))), (ac, .inl (cJ, 1000, .inr (.inl (lNf ct)))), (al, .inl (cZ, 1000, .inl (bIf fa))), (q, .inr (1, [.ref qm, .ref qp, .int (nI nn)])), (qm, .inl (cI, 200, .inl (nIf me))), (qp, .inl (cI, 200, .inl (oIf pl)))]) (vp_Sl (fun r => r = lN (sumN (wgt fr tt ct fa pl) kn))) 0 0 (fun _ => False) := by
  refine startR (cc := cX2_weigh) (maxL := 5) (ret := (some .long)) (by decide) rfl (Nat.le_of_ble_eq_true rfl) ?_
  intro p e s m below meth c ls hx hb hr hml hown hts hlocks hE hP hl
  have hl : lv_has ls 5 [(0, .ref h), (1, .ref q)] := hl
  refine lv_lconst (v := lN 0) hx hb dX2_weigh_0 (by decide) ?_
  refine lv_lstore_n (lv' := [(2, .long (lN 0)), (0, .ref h), (1, .ref q)]) hx hb dX2_weigh_1 rfl hl (by decide) rfl (fun ls hl => ?_)
  refine lv_iconst (v := nI 0) hx hb dX2_weigh_2 (by decide) ?_
  refine lv_istore (lv' := [(4, .int (nI 0)), (2, .long (lN 0)), (0, .ref h), (1, .ref q)]) hx hb dX2_weigh_3 hl (by decide) rfl (fun ls hl => ?_)
  refine r_loopR (σ := Nat) (fun z0 => kn - z0) (fun z0 ls => (z0 ≤ kn) ∧ lv_has ls 5 [(0, .ref h), (1, .ref q), (4, .int (nI z0)), (2, .long (lN (sumN (wgt fr tt ct fa pl) z0)))]) ?_ 0 ⟨Nat.zero_le _, lv_sub hl [2, 3, 0, 1] rfl⟩
  rintro k ls ⟨hi_5, hl⟩ ih_5
  have hi_5 : k ≤ kn := hi_5
  have hl : lv_has ls 5 [(0, .ref h), (1, .ref q), (4, .int (nI k)), (2, .long (lN (sumN (wgt fr tt ct fa pl) k)))] := hl
  have b1 := hB k
  refine lv_iload hx hb dX2_weigh_5 (lv_at hl 2 rfl) ?_
  refine lv_aload_n hx hb dX2_weigh_7 rfl (lv_at hl 0 rfl) ?_
  refine va_get (D := D) (ci := 2) (v := .int (nI kn)) (C := RX2) (T := TX2) (N := 5) hx hb hts in_X2_weigh_X2 hown hE.1 hP 0 rfl rfl 4 (by decide) (hts _ fl_X2_weigh_26) (fun _ h9 => h9) rfl dX2_weigh_8 ?_
  refine r_icmp_ge (tgt := 61) hx hb (x := k) (y := kn) (by omega) (by omega) dX2_weigh_11 (by decide) (fun c_11 => ?_) (fun c_11 => ?_)
  · skip
    refine lv_lload_n hx hb dX2_weigh_61 rfl (lv_at hl 3 rfl) ?_
    exact e_l hx hb hr hlocks dX2_weigh_62 (by rw [show k = kn by omega])
  · skip
    refine lv_aload_n hx hb dX2_weigh_14 rfl (lv_at hl 0 rfl) ?_
    refine va_get (D := D) (ci := 2) (v := .ref al) (C := RX2) (T := TX2) (N := 5) hx hb hts in_X2_weigh_X2 hown hE.1 hP 0 rfl rfl 3 (by decide) (hts _ fl_X2_weigh_22) (fun _ h9 => h9) rfl dX2_weigh_15 ?_
    refine lv_iload hx hb dX2_weigh_18 (lv_at hl 2 rfl) ?_
    refine r_bld hx hb hE hP 4 rfl (k := k) (by omega) (by decide) dX2_weigh_20 ?_
    refine r_b_eq (tgt := 55) hx hb dX2_weigh_21 (by decide) (fun c_21 => ?_) (fun c_21 => ?_)
    · skip
      have hs1 : sumN (wgt fr tt ct fa pl) k = sumN (wgt fr tt ct fa pl) (k + 1) := by simp [sumN, wgt, c_21]
      rw [hs1] at hl
      have hl : lv_has ls 5 [(0, .ref h), (1, .ref q), (4, .int (nI k)), (2, .long (lN (sumN (wgt fr tt ct fa pl) (k + 1))))] := hl
      refine lv_iinc (v := (nI (k + 1))) (lv' := [(4, .int (nI (k + 1))), (0, .ref h), (1, .ref q), (2, .long (lN (sumN (wgt fr tt ct fa pl) (k + 1))))]) hx hb dX2_weigh_55 hl (k := 2) rfl (nI_1 _) (by decide) rfl (fun ls hl => ?_)
      refine lv_goto (tgt := 5) hx hb dX2_weigh_58 (by decide) ?_
      exact ih_5 (k + 1) _ ⟨(show (k + 1) ≤ kn from by omega), lv_sub hl [1, 2, 0, 3] rfl⟩ (by show kn - (k + 1) < kn - k; omega)
    · skip
      refine lv_aload_n hx hb dX2_weigh_24 rfl (lv_at hl 1 rfl) ?_
      refine lv_aload_n hx hb dX2_weigh_25 rfl (lv_at hl 0 rfl) ?_
      refine va_get (D := D) (ci := 2) (v := .ref af) (C := RX2) (T := TX2) (N := 5) hx hb hts in_X2_weigh_X2 hown hE.1 hP 0 rfl rfl 0 (by decide) (hts _ fl_X2_weigh_9) (fun _ h9 => h9) rfl dX2_weigh_26 ?_
      refine lv_iload hx hb dX2_weigh_29 (lv_at hl 2 rfl) ?_
      refine r_nld hx hb hE hP 1 rfl (k := k) (by omega) (by decide) dX2_weigh_31 ?_
      refine lv_aload_n hx hb dX2_weigh_32 rfl (lv_at hl 0 rfl) ?_
      refine va_get (D := D) (ci := 2) (v := .ref at_) (C := RX2) (T := TX2) (N := 5) hx hb hts in_X2_weigh_X2 hown hE.1 hP 0 rfl rfl 1 (by decide) (hts _ fl_X2_weigh_15) (fun _ h9 => h9) rfl dX2_weigh_33 ?_
      refine lv_iload hx hb dX2_weigh_36 (lv_at hl 2 rfl) ?_
      refine r_nld hx hb hE hP 2 rfl (k := k) (by omega) (by decide) dX2_weigh_38 ?_
      refine callRi (As := [.int (nI (fr k)), .int (nI (tt k))]) (rest := []) ⟨hx, hb, hml, hown, hts⟩ (c_goesOn l D cI cJ cZ q qm qp nn me pl hpl (fr k) (tt k) b1.1 b1.2.1) (cwV 2 hts gX2_weigh_X1_goesOn rfl rfl rfl (by decide +kernel) ⟨Nat.le_of_ble_eq_true rfl, Nat.le_of_ble_eq_true rfl⟩) (preR hE hP 1 5 rfl rfl rfl [5, 6, 7] rfl) rfl hl.1 (Nat.le_of_ble_eq_true rfl) dX2_weigh_39 ⟨Nat.zero_le _, Nat.zero_le _⟩ rfl (fun r1 hr1 => ?_)
      subst hr1
      refine r_b_eq (tgt := 55) hx hb dX2_weigh_42 (by decide) (fun c_42 => ?_) (fun c_42 => ?_)
      · skip
        have hs1 : sumN (wgt fr tt ct fa pl) k = sumN (wgt fr tt ct fa pl) (k + 1) := by simp [sumN, wgt, c_21, c_42]
        rw [hs1] at hl
        have hl : lv_has ls 5 [(0, .ref h), (1, .ref q), (4, .int (nI k)), (2, .long (lN (sumN (wgt fr tt ct fa pl) (k + 1))))] := hl
        refine lv_iinc (v := (nI (k + 1))) (lv' := [(4, .int (nI (k + 1))), (0, .ref h), (1, .ref q), (2, .long (lN (sumN (wgt fr tt ct fa pl) (k + 1))))]) hx hb dX2_weigh_55 hl (k := 2) rfl (nI_1 _) (by decide) rfl (fun ls hl => ?_)
        refine lv_goto (tgt := 5) hx hb dX2_weigh_58 (by decide) ?_
        exact ih_5 (k + 1) _ ⟨(show (k + 1) ≤ kn from by omega), lv_sub hl [1, 2, 0, 3] rfl⟩ (by show kn - (k + 1) < kn - k; omega)
      · skip
        refine lv_lload_n hx hb dX2_weigh_45 rfl (lv_at hl 3 rfl) ?_
        refine lv_aload_n hx hb dX2_weigh_46 rfl (lv_at hl 0 rfl) ?_
        refine va_get (D := D) (ci := 2) (v := .ref ac) (C := RX2) (T := TX2) (N := 5) hx hb hts in_X2_weigh_X2 hown hE.1 hP 0 rfl rfl 2 (by decide) (hts _ fl_X2_weigh_18) (fun _ h9 => h9) rfl dX2_weigh_47 ?_
        refine lv_iload hx hb dX2_weigh_50 (lv_at hl 2 rfl) ?_
        refine r_lld hx hb hE hP 3 rfl (k := k) (by omega) (by decide) dX2_weigh_52 ?_
        refine r_ladd hx hb dX2_weigh_53 ?_
        refine lv_lstore_n (lv' := [(2, .long (lN ((sumN (wgt fr tt ct fa pl) k) + (ct k)))), (0, .ref h), (1, .ref q), (4, .int (nI k))]) hx hb dX2_weigh_54 rfl hl (by decide) rfl (fun ls hl => ?_)
        have hs1 : (sumN (wgt fr tt ct fa pl) k) + (ct k) = sumN (wgt fr tt ct fa pl) (k + 1) := by simp [sumN, wgt, c_21, c_42]
        rw [hs1] at hl
        have hl : lv_has ls 5 [(2, .long (lN (sumN (wgt fr tt ct fa pl) (k + 1)))), (0, .ref h), (1, .ref q), (4, .int (nI k))] := hl
        refine lv_iinc (v := (nI (k + 1))) (lv' := [(4, .int (nI (k + 1))), (2, .long (lN (sumN (wgt fr tt ct fa pl) (k + 1)))), (0, .ref h), (1, .ref q)]) hx hb dX2_weigh_55 hl (k := 3) rfl (nI_1 _) (by decide) rfl (fun ls hl => ?_)
        refine lv_goto (tgt := 5) hx hb dX2_weigh_58 (by decide) ?_
        exact ih_5 (k + 1) _ ⟨(show (k + 1) ≤ kn from by omega), lv_sub hl [2, 3, 0, 1] rfl⟩ (by show kn - (k + 1) < kn - k; omega)
end
section
set_option maxHeartbeats 4000000 in
set_option maxRecDepth 100000 in
/-- Arrays.fill -/
theorem c_fillI (l : Launch) (D : va_G) (cI cJ cZ : ClassId) (a n : Nat) (f : Nat → Int32) (x : Int32) (sz : Nat) (hn : n < 100000) : Met l yJ7_fill_53178 wsJ7_fill_53178 ({ frames := 0, cells := 0, slots := 0, locals := 0 }) (PcM D cI cJ cZ [.ref a, .int x] [(a, .inl (cI, n, .inl f))] sz) (va_Qv (fun _ : Unit => True) (Bm D [(a, .inl (cI, n, .inl f))] sz (fun _ : Unit => [(a, .inl (cI, n, .inl (fun _ => x)))])) (va_A [(a, .inl (cI, n, .inl f))] sz)) 0 0 (va_A [(a, .inl (cI, n, .inl f))] sz) := by
  refine startM (cc := cJ7_fill_53178) (maxL := 4) (ret := none) (by decide) rfl (Nat.le_of_ble_eq_true rfl) ?_
  intro p e s m below meth c ls A hA hAe hx hb hr hml hown hts hlocks hin hE hP hD hS hl
  have hl : lv_has ls 4 [(0, .ref a), (1, .int x)] := hl
  have hP : va_P D vwCl [(a, .inl (cI, n, .inl (fun j => if j < 0 then x else f j)))] s.heap := by rw [show (fun j => if j < 0 then x else f j) = f from funext fun j => if_neg (by omega)]; exact hP
  have hD : va_D A [(a, .inl (cI, n, .inl (fun j => if j < 0 then x else f j)))] := by rw [show (fun j => if j < 0 then x else f j) = f from funext fun j => if_neg (by omega)]; exact hD
  refine lv_iconst (v := nI 0) hx hb dJ7_fill_53178_0 (by decide) ?_
  refine lv_istore_n (lv' := [(2, .int (nI 0)), (0, .ref a), (1, .int x)]) hx hb dJ7_fill_53178_1 rfl hl (by decide) rfl (fun ls hl => ?_)
  refine lv_aload_n hx hb dJ7_fill_53178_2 rfl (lv_at hl 1 rfl) ?_
  refine va_alen hx hb hE.1 hP 0 0 rfl rfl (v := nI n) rfl dJ7_fill_53178_3 ?_
  refine lv_istore_n (lv' := [(3, .int (nI n)), (2, .int (nI 0)), (0, .ref a), (1, .int x)]) hx hb dJ7_fill_53178_4 rfl hl (by decide) rfl (fun ls hl => ?_)
  refine r_loop (σ := Nat) (fun z0 => n - z0) (fun z0 H locs ls => (z0 ≤ n) ∧ va_P D vwCl [(a, .inl (cI, n, .inl (fun j => if j < z0 then x else f j)))] H ∧ va_D A [(a, .inl (cI, n, .inl (fun j => if j < z0 then x else f j)))] ∧ va_S A s.heap H locs ∧ lv_has ls 4 [(0, .ref a), (1, .int x), (2, .int (nI z0)), (3, .int (nI n))]) ?_ 0 ⟨Nat.zero_le _, hP.sub [0] rfl, hD.sub [0] (by decide) rfl, hS, lv_sub hl [2, 3, 1, 0] rfl⟩
  rintro k H locs ls ⟨hi_5, hP, hD, hS, hl⟩ ih_5
  have hi_5 : k ≤ n := hi_5
  have hP : va_P D vwCl [(a, .inl (cI, n, .inl (fun j => if j < k then x else f j)))] H := hP
  have hD : va_D A [(a, .inl (cI, n, .inl (fun j => if j < k then x else f j)))] := hD
  have hl : lv_has ls 4 [(0, .ref a), (1, .int x), (2, .int (nI k)), (3, .int (nI n))] := hl
  refine lv_iload_n hx hb dJ7_fill_53178_5 rfl (lv_at hl 2 rfl) ?_
  refine lv_iload_n hx hb dJ7_fill_53178_6 rfl (lv_at hl 3 rfl) ?_
  refine r_icmp_ge (tgt := 20) hx hb (x := k) (y := n) (by omega) (by omega) dJ7_fill_53178_7 (by decide) (fun c_7 => ?_) (fun c_7 => ?_)
  · skip
    have hk : k = n := by omega
    subst hk
    exact e_mv () hAe hx hb hr hlocks dJ7_fill_53178_20 (P_extI hP 0 (fun _ => x) rfl (fun j hj => if_pos hj)) (D_ext hD 0 rfl) hS trivial
  · skip
    refine lv_aload_n hx hb dJ7_fill_53178_10 rfl (lv_at hl 0 rfl) ?_
    refine lv_iload_n hx hb dJ7_fill_53178_11 rfl (lv_at hl 2 rfl) ?_
    refine lv_iload_n hx hb dJ7_fill_53178_12 rfl (lv_at hl 1 rfl) ?_
    refine va_iast hx hb hE.1 hP hD hS 0 0 rfl rfl (vp_in_nI (n := k) (N := n) c_7 (by omega)) dJ7_fill_53178_13 (fun H locs hP hD hS => ?_)
    have hu : upd (fun j => if j < k then x else f j) (nI k).toNatClampNeg x = (fun j => if j < k + 1 then x else f j) := by
      rw [nI_clamp (by omega)]
      funext j
      show (if j = k then x else if j < k then x else f j) = if j < k + 1 then x else f j
      by_cases h1 : j = k
      · rw [if_pos h1, if_pos (by omega)]
      · rw [if_neg h1]
        by_cases h2 : j < k
        · rw [if_pos h2, if_pos (by omega)]
        · rw [if_neg h2, if_neg (by omega)]
    rw [hu] at hP hD
    have hP : va_P D vwCl [(a, .inl (cI, n, .inl (fun j => if j < (k + 1) then x else f j)))] H := hP
    have hD : va_D A [(a, .inl (cI, n, .inl (fun j => if j < (k + 1) then x else f j)))] := hD
    refine lv_iinc (v := (nI (k + 1))) (lv' := [(2, .int (nI (k + 1))), (0, .ref a), (1, .int x), (3, .int (nI n))]) hx hb dJ7_fill_53178_14 hl (k := 2) rfl (nI_1 _) (by decide) rfl (fun ls hl => ?_)
    refine lv_goto (tgt := 5) hx hb dJ7_fill_53178_17 (by decide) ?_
    exact ih_5 (k + 1) _ _ _ ⟨(show (k + 1) ≤ n from by omega), hP.sub [0] rfl, hD.sub [0] (by decide) rfl, hS, lv_sub hl [1, 2, 0, 3] rfl⟩ (by show n - (k + 1) < n - k; omega)

set_option maxHeartbeats 4000000 in
set_option maxRecDepth 100000 in
/-- Arrays.fill -/
theorem c_fillL (l : Launch) (D : va_G) (cI cJ cZ : ClassId) (a n : Nat) (f : Nat → Int64) (x : Int64) (sz : Nat) (hn : n < 100000) : Met l yJ7_fill_d0a16 wsJ7_fill_d0a16 ({ frames := 0, cells := 0, slots := 0, locals := 0 }) (PcM D cI cJ cZ [.ref a, .long x] [(a, .inl (cJ, n, .inr (.inl f)))] sz) (va_Qv (fun _ : Unit => True) (Bm D [(a, .inl (cJ, n, .inr (.inl f)))] sz (fun _ : Unit => [(a, .inl (cJ, n, .inr (.inl (fun _ => x))))])) (va_A [(a, .inl (cJ, n, .inr (.inl f)))] sz)) 0 0 (va_A [(a, .inl (cJ, n, .inr (.inl f)))] sz) := by
  refine startM (cc := cJ7_fill_d0a16) (maxL := 5) (ret := none) (by decide) rfl (Nat.le_of_ble_eq_true rfl) ?_
  intro p e s m below meth c ls A hA hAe hx hb hr hml hown hts hlocks hin hE hP hD hS hl
  have hl : lv_has ls 5 [(0, .ref a), (1, .long x)] := hl
  have hP : va_P D vwCl [(a, .inl (cJ, n, .inr (.inl (fun j => if j < 0 then x else f j))))] s.heap := by rw [show (fun j => if j < 0 then x else f j) = f from funext fun j => if_neg (by omega)]; exact hP
  have hD : va_D A [(a, .inl (cJ, n, .inr (.inl (fun j => if j < 0 then x else f j))))] := by rw [show (fun j => if j < 0 then x else f j) = f from funext fun j => if_neg (by omega)]; exact hD
  refine lv_iconst (v := nI 0) hx hb dJ7_fill_d0a16_0 (by decide) ?_
  refine lv_istore_n (lv' := [(3, .int (nI 0)), (0, .ref a), (1, .long x)]) hx hb dJ7_fill_d0a16_1 rfl hl (by decide) rfl (fun ls hl => ?_)
  refine lv_aload_n hx hb dJ7_fill_d0a16_2 rfl (lv_at hl 1 rfl) ?_
  refine va_alen hx hb hE.1 hP 0 1 rfl rfl (v := nI n) rfl dJ7_fill_d0a16_3 ?_
  refine lv_istore (lv' := [(4, .int (nI n)), (3, .int (nI 0)), (0, .ref a), (1, .long x)]) hx hb dJ7_fill_d0a16_4 hl (by decide) rfl (fun ls hl => ?_)
  refine r_loop (σ := Nat) (fun z0 => n - z0) (fun z0 H locs ls => (z0 ≤ n) ∧ va_P D vwCl [(a, .inl (cJ, n, .inr (.inl (fun j => if j < z0 then x else f j))))] H ∧ va_D A [(a, .inl (cJ, n, .inr (.inl (fun j => if j < z0 then x else f j))))] ∧ va_S A s.heap H locs ∧ lv_has ls 5 [(0, .ref a), (1, .long x), (3, .int (nI z0)), (4, .int (nI n))]) ?_ 0 ⟨Nat.zero_le _, hP.sub [0] rfl, hD.sub [0] (by decide) rfl, hS, lv_sub hl [2, 3, 1, 0] rfl⟩
  rintro k H locs ls ⟨hi_6, hP, hD, hS, hl⟩ ih_6
  have hi_6 : k ≤ n := hi_6
  have hP : va_P D vwCl [(a, .inl (cJ, n, .inr (.inl (fun j => if j < k then x else f j))))] H := hP
  have hD : va_D A [(a, .inl (cJ, n, .inr (.inl (fun j => if j < k then x else f j))))] := hD
  have hl : lv_has ls 5 [(0, .ref a), (1, .long x), (3, .int (nI k)), (4, .int (nI n))] := hl
  refine lv_iload_n hx hb dJ7_fill_d0a16_6 rfl (lv_at hl 2 rfl) ?_
  refine lv_iload hx hb dJ7_fill_d0a16_7 (lv_at hl 3 rfl) ?_
  refine r_icmp_ge (tgt := 22) hx hb (x := k) (y := n) (by omega) (by omega) dJ7_fill_d0a16_9 (by decide) (fun c_9 => ?_) (fun c_9 => ?_)
  · skip
    have hk : k = n := by omega
    subst hk
    exact e_mv () hAe hx hb hr hlocks dJ7_fill_d0a16_22 (P_extL hP 0 (fun _ => x) rfl (fun j hj => if_pos hj)) (D_ext hD 0 rfl) hS trivial
  · skip
    refine lv_aload_n hx hb dJ7_fill_d0a16_12 rfl (lv_at hl 0 rfl) ?_
    refine lv_iload_n hx hb dJ7_fill_d0a16_13 rfl (lv_at hl 2 rfl) ?_
    refine lv_lload_n hx hb dJ7_fill_d0a16_14 rfl (lv_at hl 1 rfl) ?_
    refine va_last hx hb hE.1 hP hD hS 0 1 rfl rfl (vp_in_nI (n := k) (N := n) c_9 (by omega)) dJ7_fill_d0a16_15 (fun H locs hP hD hS => ?_)
    have hu : vp_updL (fun j => if j < k then x else f j) (nI k).toNatClampNeg x = (fun j => if j < k + 1 then x else f j) := by
      rw [nI_clamp (by omega)]
      funext j
      show (if j = k then x else if j < k then x else f j) = if j < k + 1 then x else f j
      by_cases h1 : j = k
      · rw [if_pos h1, if_pos (by omega)]
      · rw [if_neg h1]
        by_cases h2 : j < k
        · rw [if_pos h2, if_pos (by omega)]
        · rw [if_neg h2, if_neg (by omega)]
    rw [hu] at hP hD
    have hP : va_P D vwCl [(a, .inl (cJ, n, .inr (.inl (fun j => if j < (k + 1) then x else f j))))] H := hP
    have hD : va_D A [(a, .inl (cJ, n, .inr (.inl (fun j => if j < (k + 1) then x else f j))))] := hD
    refine lv_iinc (v := (nI (k + 1))) (lv' := [(3, .int (nI (k + 1))), (0, .ref a), (1, .long x), (4, .int (nI n))]) hx hb dJ7_fill_d0a16_16 hl (k := 2) rfl (nI_1 _) (by decide) rfl (fun ls hl => ?_)
    refine lv_goto (tgt := 6) hx hb dJ7_fill_d0a16_19 (by decide) ?_
    exact ih_6 (k + 1) _ _ _ ⟨(show (k + 1) ≤ n from by omega), hP.sub [0] rfl, hD.sub [0] (by decide) rfl, hS, lv_sub hl [1, 2, 0, 3] rfl⟩ (by show n - (k + 1) < n - k; omega)

section CallS
variable {p : Program} {l : Launch} {e : Env} {R : Room} {s : State} {m : MethodId} {args : Array Value} {below : List Frame} {meth : Method} {c : Code} {H : Heap} {locs : List Loc} {cells slots : Nat} {Q : State → Prop} {cc bytes : ByteArray} {pc : Nat} {ls : Array Slot} {rest As : List Value} {D : va_G} {cI cJ cZ : ClassId} {ws wc wr : va_W} {A : Nat → Prop} {H0 : Heap} {b : Nat} {Ts wsy : List Cond} {own C : String} {index nL maxL n mc ms : Nat} {y : MethodName} {ret : Option FieldType} {rm : Room} {S : Type} {w1 : S → va_W}
theorem preMS (hE : Ev D cI cJ cZ s) (hP : va_P D vwCl ws H) (hD : va_D A ws) (is : List Nat) (hn : va_nd is = true) (hs : is.filterMap (fun i => ws[i]?) = wc) (hs2 : is.map (fun i => ws[i]?) = wc.map some) : PreS s H (PcM D cI cJ cZ As wc H.size) As :=
  ⟨PcM_blind, fun U hU hW => ⟨rfl, by rw [hU], by rw [hU]; exact hP.sub is hs, hE.warm hW, (hD.sub is hn hs2).weaken (fun _ _ _ _ => trivial)⟩⟩
theorem callSv {post : S → Prop} (SF : CallFix p m c cc nL s args Ts own) (hM : Met l y wsy rm (PcM D cI cJ cZ As wc H.size) (va_Qv post (Bm D wc H.size w1) (va_A wc H.size)) mc ms (va_A wc H.size)) (cw : CallB R s args own index y bytes maxL ret wsy rm mc ms n ∧ (Cond.static y).before args s = true) (hp : PreS s H (PcM D cI cJ cZ As wc H.size) As)
    (hn : As.length = n) (hsize : ls.size = nL) (hW : (rest.map fun v => v.category).sum ≤ 8) (hdg : decode cc pc = .ok (.invokestatic index, 3)) (hf : cells + mc ≤ R.cells ∧ slots + ms ≤ R.slots) {st : List Value} (hst : st = As.reverse ++ rest)
    (hP : va_P D vwCl ws H) (hD : va_D A ws) (hS : va_S A H0 H locs) (hA : ∀ q, H0.size ≤ q → A q) (isC isR : List Nat) (hC : isC.map (fun i => ws[i]?) = wc.map some) (hR : isR.map (fun i => ws[i]?) = wr.map some) (hnr : va_nd isR = true) (hdis : ∀ i ∈ isR, i ∉ isC)
    (kk : ∀ (u : S) (H1 : Heap) (locs1 : List Loc), post u → va_P D vwCl (wr ++ w1 u) H1 → va_D A (wr ++ w1 u) → va_S A H0 H1 locs1 → W p l e R s m args below meth c H1 locs1 (cells + mc) (slots + ms) Q (F0 m (pc + 3) ls rest)) : W p l e R s m args below meth c H locs cells slots Q (F0 m pc ls st) := by
  subst hst
  have hF := va_free hD hS hA isC hC
  refine va_callv (va_runS (g := F0 m pc ls (As.reverse ++ rest)) (rest := rest) SF hM cw hp rfl hn hsize rfl (lv_room hW) hdg hf) hS (fun q _ h => hF q h) hF (fun u t H1 locs1 ht hvm hw hB hz1 hk1 hS1 => ?_)
  obtain ⟨hP1, hD1⟩ := hB
  rw [ht] at hP1
  obtain ⟨hP2, hD2⟩ := va_join hP hD isC isR hC hR hnr hdis hk1 hF hP1 hD1
  exact kk u H1 locs1 hw hP2 hD2 hS1
end CallS

theorem fl_X1_empty_15 : Cond.fieldLink RX1 15 "BlockRows$Line" "places" "[I" ∈ wsX1_empty := by decide +kernel
theorem fl_X1_empty_18 : Cond.fieldLink RX1 18 "BlockRows$Line" "filled" "I" ∈ wsX1_empty := by decide +kernel
theorem in_X1_empty_X1 : ∀ w ∈ wsX10, w ∈ wsX1_empty := by decide +kernel
set_option maxHeartbeats 4000000 in
set_option maxRecDepth 100000 in
/-- Line.empty() -/
theorem c_empty (l : Launch) (D : va_G) (cI cJ cZ : ClassId) (h am ap n : Nat) (me : Nat → Nat) (pl : Nat → Option Nat) (sz : Nat) : Met l yX1_empty wsX1_empty ({ frames := 1, cells := 0, slots := 0, locals := 23 }) (PcM D cI cJ cZ [.ref h] [(h, .inr (1, [.ref am, .ref ap, .int (nI n)])), (am, .inl (cI, 200, .inl (nIf me))), (ap, .inl (cI, 200, .inl (oIf pl)))] sz) (va_Qv (fun _ : Unit => True) (Bm D [(h, .inr (1, [.ref am, .ref ap, .int (nI n)])), (am, .inl (cI, 200, .inl (nIf me))), (ap, .inl (cI, 200, .inl (oIf pl)))] sz (fun _ : Unit => [(h, .inr (1, [.ref am, .ref ap, .int (nI 0)])), (am, .inl (cI, 200, .inl (nIf me))), (ap, .inl (cI, 200, .inl (oIf (fun _ => none))))])) (va_A [(h, .inr (1, [.ref am, .ref ap, .int (nI n)])), (am, .inl (cI, 200, .inl (nIf me))), (ap, .inl (cI, 200, .inl (oIf pl)))] sz)) 0 0 (va_A [(h, .inr (1, [.ref am, .ref ap, .int (nI n)])), (am, .inl (cI, 200, .inl (nIf me))), (ap, .inl (cI, 200, .inl (oIf pl)))] sz) := by
  refine startM (cc := cX1_empty) (maxL := 1) (ret := none) (by decide) rfl (Nat.le_of_ble_eq_true rfl) ?_
  intro p e s m below meth c ls A hA hAe hx hb hr hml hown hts hlocks hin hE hP hD hS hl
  have hl : lv_has ls 1 [(0, .ref h)] := hl
  refine lv_aload_n hx hb dX1_empty_0 rfl (lv_at hl 0 rfl) ?_
  refine lv_iconst (v := nI 0) hx hb dX1_empty_1 (by decide) ?_
  refine va_put (D := D) (ci := 1) (v := .int (nI 0)) (ty := .int) (C := RX1) (T := TX1) (N := 3) hx hb hts in_X1_empty_X1 tyX1 tyX1_ok nmX1 hown hE.1 hP hD hS 0 rfl rfl 2 (by decide) (hts _ fl_X1_empty_18) (fun _ h9 => h9) rfl (by decide +kernel) rfl rfl (Nat.le_of_ble_eq_true rfl) dX1_empty_2 (fun H locs hP hD hS => ?_)
  have hP : va_P D vwCl [(h, .inr (1, [.ref am, .ref ap, .int (nI 0)])), (am, .inl (cI, 200, .inl (nIf me))), (ap, .inl (cI, 200, .inl (oIf pl)))] H := hP
  have hD : va_D A [(h, .inr (1, [.ref am, .ref ap, .int (nI 0)])), (am, .inl (cI, 200, .inl (nIf me))), (ap, .inl (cI, 200, .inl (oIf pl)))] := hD
  refine lv_aload_n hx hb dX1_empty_5 rfl (lv_at hl 0 rfl) ?_
  refine va_get (D := D) (ci := 1) (v := .ref ap) (C := RX1) (T := TX1) (N := 3) hx hb hts in_X1_empty_X1 hown hE.1 hP 0 rfl rfl 1 (by decide) (hts _ fl_X1_empty_15) (fun _ h9 => h9) rfl dX1_empty_6 ?_
  refine lv_iconst (v := -1) hx hb dX1_empty_9 (by decide) ?_
  refine callSv (As := [.ref ap, .int (-1)]) (rest := []) (wr := [(h, .inr (1, [.ref am, .ref ap, .int (nI 0)])), (am, .inl (cI, 200, .inl (nIf me)))]) (w1 := fun _ : Unit => [(ap, .inl (cI, 200, .inl (oIf (fun _ => none))))]) ⟨hx, hb, hml, hown, hts⟩ (c_fillI l D cI cJ cZ ap 200 _ (-1) _ (by omega)) (va_cwS 2 hts gX1_empty_J7_fill_53178 rfl rfl rfl (by decide +kernel) ⟨Nat.le_of_ble_eq_true rfl, Nat.le_of_ble_eq_true rfl⟩) (preMS hE hP hD [2] rfl rfl rfl) rfl hl.1 (Nat.le_of_ble_eq_true rfl) dX1_empty_10 ⟨Nat.zero_le _, Nat.zero_le _⟩ rfl hP hD hS hA [2] [0, 1] rfl rfl (by decide) (by decide) (fun u_ H locs hu hP hD hS => ?_)
  have hP : va_P D vwCl [(h, .inr (1, [.ref am, .ref ap, .int (nI 0)])), (am, .inl (cI, 200, .inl (nIf me))), (ap, .inl (cI, 200, .inl (oIf (fun _ => none))))] H := hP
  have hD : va_D A [(h, .inr (1, [.ref am, .ref ap, .int (nI 0)])), (am, .inl (cI, 200, .inl (nIf me))), (ap, .inl (cI, 200, .inl (oIf (fun _ => none))))] := hD
  exact e_mv () hAe hx hb hr hlocks dX1_empty_13 hP hD hS trivial

def mjB (fs nx : Nat → Option Nat) (u v : Nat) : Bool := (fs u).isSome && (nx u).isNone && decide (fs v = some v) && decide (fs u ≠ some v) && decide (v ≠ 0)
theorem fl_X0_mayJoin_15 : Cond.fieldLink RX0 15 "BlockRows$Chains" "next" "[I" ∈ wsX0_mayJoin := by decide +kernel
theorem fl_X0_mayJoin_9 : Cond.fieldLink RX0 9 "BlockRows$Chains" "first" "[I" ∈ wsX0_mayJoin := by decide +kernel
theorem in_X0_mayJoin_X0 : ∀ w ∈ wsX00, w ∈ wsX0_mayJoin := by decide +kernel
set_option maxHeartbeats 4000000 in
set_option maxRecDepth 100000 in
/-- Chains.mayJoin(u, v) -/
theorem c_mayJoin (l : Launch) (D : va_G) (cI cJ cZ : ClassId) (h cf cn cp : Nat) (fs nx : Nat → Option Nat) (pu : Nat → Nat) (hfs : ∀ i j, fs i = some j → j < 200) (hnx : ∀ i j, nx i = some j → j < 200) (u v : Nat) (hu : u < 200) (hv : v < 200) : Met l yX0_mayJoin wsX0_mayJoin ({ frames := 0, cells := 0, slots := 0, locals := 0 }) (PcR D cI cJ cZ [.ref h, .int (nI u), .int (nI v)] [(h, .inr (0, [.ref cf, .ref cn, .ref cp])), (cf, .inl (cI, 200, .inl (oIf fs))), (cn, .inl (cI, 200, .inl (oIf nx))), (cp, .inl (cJ, 200, .inr (.inl (lNf pu))))]) (vp_Si (fun r => r = bI (mjB fs nx u v))) 0 0 (fun _ => False) := by
  refine startR (cc := cX0_mayJoin) (maxL := 5) (ret := (some .boolean)) (by decide) rfl (Nat.le_of_ble_eq_true rfl) ?_
  intro p e s m below meth c ls hx hb hr hml hown hts hlocks hE hP hl
  have hl : lv_has ls 5 [(0, .ref h), (1, .int (nI u)), (2, .int (nI v))] := hl
  refine lv_aload_n hx hb dX0_mayJoin_0 rfl (lv_at hl 0 rfl) ?_
  refine va_get (D := D) (ci := 0) (v := .ref cf) (C := RX0) (T := TX0) (N := 3) hx hb hts in_X0_mayJoin_X0 hown hE.1 hP 0 rfl rfl 0 (by decide) (hts _ fl_X0_mayJoin_9) (fun _ h9 => h9) rfl dX0_mayJoin_1 ?_
  refine lv_iload_n hx hb dX0_mayJoin_4 rfl (lv_at hl 1 rfl) ?_
  refine r_old hx hb hE hP 1 rfl (k := u) (by omega) (by decide) dX0_mayJoin_5 ?_
  refine lv_iconst (v := -1) hx hb dX0_mayJoin_6 (by decide) ?_
  refine r_o_eq (tgt := 24) hx hb (o := fs u) (q := none) rfl rfl (fun j h => by have := hfs _ _ h; omega) (fun j h => by cases h) dX0_mayJoin_7 (by decide) (fun c_7 => ?_) (fun c_7 => ?_)
  · skip
    refine lv_iconst (v := bI false) hx hb dX0_mayJoin_24 (by decide) ?_
    refine lv_istore_n (lv' := [(3, .int (bI false)), (0, .ref h), (1, .int (nI u)), (2, .int (nI v))]) hx hb dX0_mayJoin_25 rfl hl (by decide) rfl (fun ls hl => ?_)
    refine lv_aload_n hx hb dX0_mayJoin_26 rfl (lv_at hl 1 rfl) ?_
    refine va_get (D := D) (ci := 0) (v := .ref cf) (C := RX0) (T := TX0) (N := 3) hx hb hts in_X0_mayJoin_X0 hown hE.1 hP 0 rfl rfl 0 (by decide) (hts _ fl_X0_mayJoin_9) (fun _ h9 => h9) rfl dX0_mayJoin_27 ?_
    refine lv_iload_n hx hb dX0_mayJoin_30 rfl (lv_at hl 3 rfl) ?_
    refine r_old hx hb hE hP 1 rfl (k := v) (by omega) (by decide) dX0_mayJoin_31 ?_
    refine lv_iload_n hx hb dX0_mayJoin_32 rfl (lv_at hl 3 rfl) ?_
    refine r_o_ne (tgt := 40) hx hb (o := fs v) (q := some v) rfl rfl (fun j h => by have := hfs _ _ h; omega) (fun j h => by cases h; omega) dX0_mayJoin_33 (by decide) (fun c_33 => ?_) (fun c_33 => ?_)
    · skip
      refine lv_iconst (v := bI false) hx hb dX0_mayJoin_40 (by decide) ?_
      refine lv_istore (lv' := [(4, .int (bI false)), (3, .int (bI false)), (0, .ref h), (1, .int (nI u)), (2, .int (nI v))]) hx hb dX0_mayJoin_41 hl (by decide) rfl (fun ls hl => ?_)
      refine lv_iload_n hx hb dX0_mayJoin_43 rfl (lv_at hl 1 rfl) ?_
      refine r_b_eq (tgt := 70) hx hb dX0_mayJoin_44 (by decide) (fun _ => ?_) (fun c => absurd c (by decide))
      refine lv_iconst (v := bI false) hx hb dX0_mayJoin_70 (by decide) ?_
      exact e_z false rfl hx hb hr hlocks dX0_mayJoin_71 (by show bI false = bI _; congr 1; unfold mjB; simp [Option.isSome_iff_ne_none, c_7, c_33])
    · skip
      refine lv_iconst (v := bI true) hx hb dX0_mayJoin_36 (by decide) ?_
      refine lv_goto (tgt := 41) hx hb dX0_mayJoin_37 (by decide) ?_
      refine lv_istore (lv' := [(4, .int (bI true)), (3, .int (bI false)), (0, .ref h), (1, .int (nI u)), (2, .int (nI v))]) hx hb dX0_mayJoin_41 hl (by decide) rfl (fun ls hl => ?_)
      refine lv_iload_n hx hb dX0_mayJoin_43 rfl (lv_at hl 1 rfl) ?_
      refine r_b_eq (tgt := 70) hx hb dX0_mayJoin_44 (by decide) (fun _ => ?_) (fun c => absurd c (by decide))
      refine lv_iconst (v := bI false) hx hb dX0_mayJoin_70 (by decide) ?_
      exact e_z false rfl hx hb hr hlocks dX0_mayJoin_71 (by show bI false = bI _; congr 1; unfold mjB; simp [Option.isSome_iff_ne_none, c_7, c_33])
  · skip
    refine lv_aload_n hx hb dX0_mayJoin_10 rfl (lv_at hl 0 rfl) ?_
    refine va_get (D := D) (ci := 0) (v := .ref cn) (C := RX0) (T := TX0) (N := 3) hx hb hts in_X0_mayJoin_X0 hown hE.1 hP 0 rfl rfl 1 (by decide) (hts _ fl_X0_mayJoin_15) (fun _ h9 => h9) rfl dX0_mayJoin_11 ?_
    refine lv_iload_n hx hb dX0_mayJoin_14 rfl (lv_at hl 1 rfl) ?_
    refine r_old hx hb hE hP 2 rfl (k := u) (by omega) (by decide) dX0_mayJoin_15 ?_
    refine lv_iconst (v := -1) hx hb dX0_mayJoin_16 (by decide) ?_
    refine r_o_ne (tgt := 24) hx hb (o := nx u) (q := none) rfl rfl (fun j h => by have := hnx _ _ h; omega) (fun j h => by cases h) dX0_mayJoin_17 (by decide) (fun c_17 => ?_) (fun c_17 => ?_)
    · skip
      refine lv_iconst (v := bI false) hx hb dX0_mayJoin_24 (by decide) ?_
      refine lv_istore_n (lv' := [(3, .int (bI false)), (0, .ref h), (1, .int (nI u)), (2, .int (nI v))]) hx hb dX0_mayJoin_25 rfl hl (by decide) rfl (fun ls hl => ?_)
      refine lv_aload_n hx hb dX0_mayJoin_26 rfl (lv_at hl 1 rfl) ?_
      refine va_get (D := D) (ci := 0) (v := .ref cf) (C := RX0) (T := TX0) (N := 3) hx hb hts in_X0_mayJoin_X0 hown hE.1 hP 0 rfl rfl 0 (by decide) (hts _ fl_X0_mayJoin_9) (fun _ h9 => h9) rfl dX0_mayJoin_27 ?_
      refine lv_iload_n hx hb dX0_mayJoin_30 rfl (lv_at hl 3 rfl) ?_
      refine r_old hx hb hE hP 1 rfl (k := v) (by omega) (by decide) dX0_mayJoin_31 ?_
      refine lv_iload_n hx hb dX0_mayJoin_32 rfl (lv_at hl 3 rfl) ?_
      refine r_o_ne (tgt := 40) hx hb (o := fs v) (q := some v) rfl rfl (fun j h => by have := hfs _ _ h; omega) (fun j h => by cases h; omega) dX0_mayJoin_33 (by decide) (fun c_33 => ?_) (fun c_33 => ?_)
      · skip
        refine lv_iconst (v := bI false) hx hb dX0_mayJoin_40 (by decide) ?_
        refine lv_istore (lv' := [(4, .int (bI false)), (3, .int (bI false)), (0, .ref h), (1, .int (nI u)), (2, .int (nI v))]) hx hb dX0_mayJoin_41 hl (by decide) rfl (fun ls hl => ?_)
        refine lv_iload_n hx hb dX0_mayJoin_43 rfl (lv_at hl 1 rfl) ?_
        refine r_b_eq (tgt := 70) hx hb dX0_mayJoin_44 (by decide) (fun _ => ?_) (fun c => absurd c (by decide))
        refine lv_iconst (v := bI false) hx hb dX0_mayJoin_70 (by decide) ?_
        exact e_z false rfl hx hb hr hlocks dX0_mayJoin_71 (by show bI false = bI _; congr 1; unfold mjB; simp [Option.isSome_iff_ne_none, c_7, c_17, c_33])
      · skip
        refine lv_iconst (v := bI true) hx hb dX0_mayJoin_36 (by decide) ?_
        refine lv_goto (tgt := 41) hx hb dX0_mayJoin_37 (by decide) ?_
        refine lv_istore (lv' := [(4, .int (bI true)), (3, .int (bI false)), (0, .ref h), (1, .int (nI u)), (2, .int (nI v))]) hx hb dX0_mayJoin_41 hl (by decide) rfl (fun ls hl => ?_)
        refine lv_iload_n hx hb dX0_mayJoin_43 rfl (lv_at hl 1 rfl) ?_
        refine r_b_eq (tgt := 70) hx hb dX0_mayJoin_44 (by decide) (fun _ => ?_) (fun c => absurd c (by decide))
        refine lv_iconst (v := bI false) hx hb dX0_mayJoin_70 (by decide) ?_
        exact e_z false rfl hx hb hr hlocks dX0_mayJoin_71 (by show bI false = bI _; congr 1; unfold mjB; simp [Option.isSome_iff_ne_none, c_7, c_17, c_33])
    · skip
      refine lv_iconst (v := bI true) hx hb dX0_mayJoin_20 (by decide) ?_
      refine lv_goto (tgt := 25) hx hb dX0_mayJoin_21 (by decide) ?_
      refine lv_istore_n (lv' := [(3, .int (bI true)), (0, .ref h), (1, .int (nI u)), (2, .int (nI v))]) hx hb dX0_mayJoin_25 rfl hl (by decide) rfl (fun ls hl => ?_)
      refine lv_aload_n hx hb dX0_mayJoin_26 rfl (lv_at hl 1 rfl) ?_
      refine va_get (D := D) (ci := 0) (v := .ref cf) (C := RX0) (T := TX0) (N := 3) hx hb hts in_X0_mayJoin_X0 hown hE.1 hP 0 rfl rfl 0 (by decide) (hts _ fl_X0_mayJoin_9) (fun _ h9 => h9) rfl dX0_mayJoin_27 ?_
      refine lv_iload_n hx hb dX0_mayJoin_30 rfl (lv_at hl 3 rfl) ?_
      refine r_old hx hb hE hP 1 rfl (k := v) (by omega) (by decide) dX0_mayJoin_31 ?_
      refine lv_iload_n hx hb dX0_mayJoin_32 rfl (lv_at hl 3 rfl) ?_
      refine r_o_ne (tgt := 40) hx hb (o := fs v) (q := some v) rfl rfl (fun j h => by have := hfs _ _ h; omega) (fun j h => by cases h; omega) dX0_mayJoin_33 (by decide) (fun c_33 => ?_) (fun c_33 => ?_)
      · skip
        refine lv_iconst (v := bI false) hx hb dX0_mayJoin_40 (by decide) ?_
        refine lv_istore (lv' := [(4, .int (bI false)), (3, .int (bI true)), (0, .ref h), (1, .int (nI u)), (2, .int (nI v))]) hx hb dX0_mayJoin_41 hl (by decide) rfl (fun ls hl => ?_)
        refine lv_iload_n hx hb dX0_mayJoin_43 rfl (lv_at hl 1 rfl) ?_
        refine r_b_eq (tgt := 70) hx hb dX0_mayJoin_44 (by decide) (fun c => absurd c (by decide)) (fun _ => ?_)
        refine lv_iload hx hb dX0_mayJoin_47 (lv_at hl 0 rfl) ?_
        refine r_b_eq (tgt := 70) hx hb dX0_mayJoin_49 (by decide) (fun _ => ?_) (fun c => absurd c (by decide))
        refine lv_iconst (v := bI false) hx hb dX0_mayJoin_70 (by decide) ?_
        exact e_z false rfl hx hb hr hlocks dX0_mayJoin_71 (by show bI false = bI _; congr 1; unfold mjB; simp [Option.isSome_iff_ne_none, c_7, c_17, c_33])
      · skip
        refine lv_iconst (v := bI true) hx hb dX0_mayJoin_36 (by decide) ?_
        refine lv_goto (tgt := 41) hx hb dX0_mayJoin_37 (by decide) ?_
        refine lv_istore (lv' := [(4, .int (bI true)), (3, .int (bI true)), (0, .ref h), (1, .int (nI u)), (2, .int (nI v))]) hx hb dX0_mayJoin_41 hl (by decide) rfl (fun ls hl => ?_)
        refine lv_iload_n hx hb dX0_mayJoin_43 rfl (lv_at hl 1 rfl) ?_
        refine r_b_eq (tgt := 70) hx hb dX0_mayJoin_44 (by decide) (fun c => absurd c (by decide)) (fun _ => ?_)
        refine lv_iload hx hb dX0_mayJoin_47 (lv_at hl 0 rfl) ?_
        refine r_b_eq (tgt := 70) hx hb dX0_mayJoin_49 (by decide) (fun c => absurd c (by decide)) (fun _ => ?_)
        refine lv_aload_n hx hb dX0_mayJoin_52 rfl (lv_at hl 2 rfl) ?_
        refine va_get (D := D) (ci := 0) (v := .ref cf) (C := RX0) (T := TX0) (N := 3) hx hb hts in_X0_mayJoin_X0 hown hE.1 hP 0 rfl rfl 0 (by decide) (hts _ fl_X0_mayJoin_9) (fun _ h9 => h9) rfl dX0_mayJoin_53 ?_
        refine lv_iload_n hx hb dX0_mayJoin_56 rfl (lv_at hl 3 rfl) ?_
        refine r_old hx hb hE hP 1 rfl (k := u) (by omega) (by decide) dX0_mayJoin_57 ?_
        refine lv_iload_n hx hb dX0_mayJoin_58 rfl (lv_at hl 4 rfl) ?_
        refine r_o_eq (tgt := 70) hx hb (o := fs u) (q := some v) rfl rfl (fun j h => by have := hfs _ _ h; omega) (fun j h => by cases h; omega) dX0_mayJoin_59 (by decide) (fun c_59 => ?_) (fun c_59 => ?_)
        · skip
          refine lv_iconst (v := bI false) hx hb dX0_mayJoin_70 (by decide) ?_
          exact e_z false rfl hx hb hr hlocks dX0_mayJoin_71 (by show bI false = bI _; congr 1; unfold mjB; simp [Option.isSome_iff_ne_none, c_7, c_17, c_33, c_59])
        · skip
          refine lv_iload_n hx hb dX0_mayJoin_62 rfl (lv_at hl 4 rfl) ?_
          refine r_if_eq (tgt := 70) hx hb (x := v) (by omega) dX0_mayJoin_63 (by decide) (fun c_63 => ?_) (fun c_63 => ?_)
          · skip
            refine lv_iconst (v := bI false) hx hb dX0_mayJoin_70 (by decide) ?_
            exact e_z false rfl hx hb hr hlocks dX0_mayJoin_71 (by show bI false = bI _; congr 1; unfold mjB; simp [Option.isSome_iff_ne_none, c_7, c_17, c_33, c_59, c_63])
          · skip
            refine lv_iconst (v := bI true) hx hb dX0_mayJoin_66 (by decide) ?_
            refine lv_goto (tgt := 71) hx hb dX0_mayJoin_67 (by decide) ?_
            exact e_z true rfl hx hb hr hlocks dX0_mayJoin_71 (by show bI true = bI _; congr 1; unfold mjB; simp [Option.isSome_iff_ne_none, c_7, c_17, c_33, c_59]; omega)
end
section
/-! chains: T c is the chain that begins with c (empty, where none does) -/
def nameT (T : Nat → List Nat) (b : Nat) : Option Nat := (List.range 200).find? (fun c => decide (b ∈ T c))
def CI (T : Nat → List Nat) : Prop := (∀ c b, b ∈ T c → b < 200) ∧ (∀ c, T c ≠ [] → (T c)[0]? = some c) ∧ (∀ c d b, b ∈ T c → b ∈ T d → c = d) ∧ (∀ c, (T c).Nodup)
def CR (T : Nat → List Nat) (fs nx : Nat → Option Nat) : Prop := (CI T ∧ ∀ b, (∀ c, b ∉ T c) → nx b = none) ∧ (∀ b c, fs b = some c ↔ b ∈ T c) ∧ (∀ c i b, (T c)[i]? = some b → nx b = (T c)[i + 1]?)
def joinT (T : Nat → List Nat) (a v : Nat) : Nat → List Nat := fun c => if c = a then T a ++ T v else if c = v then [] else T c
def stepT (T : Nat → List Nat) (w : Wy) : Nat → List Nat := match nameT T w.1 with
  | none => T
  | some a => if w.2.2.2 = true ∧ 0 < w.2.2.1 ∧ (T a).getLast? = some w.1 ∧ T w.2.1 ≠ [] ∧ a ≠ w.2.1 ∧ w.2.1 ≠ 0 then joinT T a w.2.1 else T
theorem ix_lt {l : List Nat} {i b : Nat} (h : l[i]? = some b) : i + 1 ≤ l.length := (List.getElem?_eq_some_iff.mp h).1
theorem ix_ge {l : List Nat} {i : Nat} (h : l[i]? = none) : l.length ≤ i := List.getElem?_eq_none_iff.mp h
theorem nodup_len : ∀ (n : Nat) (L : List Nat), L.Nodup → (∀ b ∈ L, b < n) → L.length ≤ n := by
  intro n
  induction n with
  | zero =>
    intro L _ h
    cases L with
    | nil => exact Nat.le_refl _
    | cons x L => exact absurd (h x List.mem_cons_self) (by omega)
  | succ n ih =>
    intro L hn h
    by_cases hm : n ∈ L
    · have h1 := ih (L.erase n) (hn.erase n) (fun b hb => by
        have h2 := (List.Nodup.mem_erase_iff hn).mp hb
        have := h b h2.2
        have := h2.1
        omega)
      rw [List.length_erase_of_mem hm] at h1
      omega
    · have h1 := ih L hn (fun b hb => by
        have := h b hb
        have : b ≠ n := fun q => hm (q ▸ hb)
        omega)
      omega
theorem CI.mem_self {T : Nat → List Nat} (h : CI T) {c b : Nat} (hb : b ∈ T c) : c ∈ T c := List.mem_of_getElem? (h.2.1 c (fun q => by rw [q] at hb; cases hb))
theorem CI.lt {T : Nat → List Nat} (h : CI T) {c b : Nat} (hb : b ∈ T c) : c < 200 := h.1 c c (h.mem_self hb)
theorem name_iff {T : Nat → List Nat} (h : CI T) {b c : Nat} : nameT T b = some c ↔ b ∈ T c := by
  unfold nameT
  constructor
  · intro q
    have := List.find?_some q
    simpa using this
  · intro q
    cases hf : (List.range 200).find? (fun c => decide (b ∈ T c)) with
    | none =>
      have := List.find?_eq_none.mp hf c (List.mem_range.mpr (h.lt q))
      simp [q] at this
    | some d =>
      have h1 := List.find?_some hf
      have h2 : b ∈ T d := by simpa using h1
      rw [h.2.2.1 c d b q h2]
theorem name_none {T : Nat → List Nat} (h : CI T) {b : Nat} : nameT T b = none ↔ ∀ c, b ∉ T c := by
  constructor
  · intro q c hc
    rw [(name_iff h).mpr hc] at q
    cases q
  · intro q
    cases hf : nameT T b with
    | none => rfl
    | some c => exact absurd ((name_iff h).mp hf) (q c)
section CRows
variable {T : Nat → List Nat} {fs nx f g : Nat → Option Nat} {u v a b i j : Nat}
theorem CR_name (h : CR T fs nx) (b : Nat) : fs b = nameT T b := by
  cases hf : nameT T b with
  | none =>
    have h1 := (name_none h.1.1).mp hf
    cases hq : fs b with
    | none => rfl
    | some c => exact absurd ((h.2.1 b c).mp hq) (h1 c)
  | some c => exact (h.2.1 b c).mpr ((name_iff h.1.1).mp hf)
theorem CR_f (h : CR T fs nx) : ∀ i j, fs i = some j → j < 200 := fun i j q => h.1.1.lt ((h.2.1 i j).mp q)
theorem CR_n (h : CR T fs nx) : ∀ i j, nx i = some j → j < 200 := by
  intro i j q
  by_cases hc : ∃ c, i ∈ T c
  · obtain ⟨c, hc⟩ := hc
    obtain ⟨k, hk⟩ := List.getElem?_of_mem hc
    rw [h.2.2 c k i hk] at q
    exact h.1.1.1 c j (List.mem_of_getElem? q)
  · rw [h.1.2 i (fun c q => hc ⟨c, q⟩)] at q
    cases q
theorem T_len (h : CR T fs nx) (v : Nat) : (T v).length ≤ 200 := nodup_len 200 _ (h.1.1.2.2.2 v) (fun b hb => h.1.1.1 v b hb)
theorem T_lt (h : CR T fs nx) (hj : (T v)[i]? = some j) : j < 200 := h.1.1.1 v j (List.mem_of_getElem? hj)
theorem T_head (h : CR T fs nx) (ht : T v ≠ []) : (T v)[0]? = some v := h.1.1.2.1 v ht
def JI (T : Nat → List Nat) (a v : Nat) (fs : Nat → Option Nat) (i : Nat) (f : Nat → Option Nat) : Prop := ∀ x, f x = if x ∈ (T v).take i then some a else fs x
theorem JI_0 : JI T a v fs 0 fs := fun x => by simp
theorem JI_step (h : JI T a v fs i f) (hb : (T v)[i]? = some b) (hf : f u = some a) : JI T a v fs (i + 1) (va_up f b (f u)) := by
  intro x
  rw [hf]
  have e : (T v).take (i + 1) = (T v).take i ++ [b] := by rw [List.take_add_one, hb]; rfl
  rw [e]
  unfold va_up
  by_cases hx : x = b
  · rw [if_pos hx, if_pos (by simp [hx])]
  · rw [if_neg hx, h x]
    simp [hx]
theorem last_mem {l : List Nat} (h : l.getLast? = some u) : u ∈ l := List.mem_of_getLast? h
theorem JI_u (h : CR T fs nx) (ha : fs u = some a) (hav : a ≠ v) (hul : (T a).getLast? = some u) (hi : JI T a v fs i f) : f u = some a := by
  rw [hi u, if_neg, ha]
  intro q
  exact hav (h.1.1.2.2.1 a v u (last_mem hul) (List.mem_of_mem_take q))
theorem JI_ne (h : CR T fs nx) (ha : fs u = some a) (hav : a ≠ v) (hul : (T a).getLast? = some u) (hb : (T v)[i]? = some b) : b ≠ u := by
  intro q
  subst q
  exact hav (h.1.1.2.2.1 a v b (last_mem hul) (List.mem_of_getElem? hb))
theorem join_a : joinT T a v a = T a ++ T v := by simp [joinT]
theorem join_v (hav : a ≠ v) : joinT T a v v = [] := by simp [joinT, Ne.symm hav]
theorem join_o {c : Nat} (h1 : c ≠ a) (h2 : c ≠ v) : joinT T a v c = T c := by simp [joinT, h1, h2]
theorem join_mem (hav : a ≠ v) {x : Nat} : (∃ c, x ∈ joinT T a v c) ↔ ∃ c, x ∈ T c := by
  constructor
  · rintro ⟨c, hc⟩
    by_cases h1 : c = a
    · subst h1
      rw [join_a] at hc
      rcases List.mem_append.mp hc with q | q
      · exact ⟨c, q⟩
      · exact ⟨v, q⟩
    · by_cases h2 : c = v
      · subst h2
        rw [join_v hav] at hc
        cases hc
      · rw [join_o h1 h2] at hc
        exact ⟨c, hc⟩
  · rintro ⟨c, hc⟩
    by_cases h1 : c = a
    · subst h1
      exact ⟨c, by rw [join_a]; exact List.mem_append_left _ hc⟩
    · by_cases h2 : c = v
      · subst h2
        exact ⟨a, by rw [join_a]; exact List.mem_append_right _ hc⟩
      · exact ⟨c, by rw [join_o h1 h2]; exact hc⟩
theorem join_CI (h : CI T) (hav : a ≠ v) (hta : T a ≠ []) : CI (joinT T a v) := by
  have key : ∀ c b, b ∈ joinT T a v c → (c = a ∧ (b ∈ T a ∨ b ∈ T v)) ∨ (c ≠ a ∧ c ≠ v ∧ b ∈ T c) := by
    intro c b hb
    by_cases h1 : c = a
    · subst h1
      rw [join_a] at hb
      exact Or.inl ⟨rfl, List.mem_append.mp hb⟩
    · by_cases h2 : c = v
      · subst h2
        rw [join_v hav] at hb
        cases hb
      · rw [join_o h1 h2] at hb
        exact Or.inr ⟨h1, h2, hb⟩
  refine ⟨?_, ?_, ?_, ?_⟩
  · intro c b hb
    rcases key c b hb with ⟨-, q | q⟩ | ⟨-, -, q⟩
    · exact h.1 _ _ q
    · exact h.1 _ _ q
    · exact h.1 _ _ q
  · intro c hc
    by_cases h1 : c = a
    · subst h1
      rw [join_a, List.getElem?_append_left (by
        cases hq : T c with
        | nil => exact absurd hq hta
        | cons x l => simp)]
      exact h.2.1 c hta
    · by_cases h2 : c = v
      · subst h2
        exact absurd (join_v hav) hc
      · rw [join_o h1 h2] at hc ⊢
        exact h.2.1 c hc
  · intro c d b hc hd
    rcases key c b hc with ⟨rfl, q⟩ | ⟨c1, c2, q⟩
    · rcases key d b hd with ⟨rfl, -⟩ | ⟨d1, d2, q'⟩
      · rfl
      · rcases q with q | q
        · exact h.2.2.1 _ _ b q q'
        · exact absurd (h.2.2.1 _ _ b q q').symm d2
    · rcases key d b hd with ⟨rfl, q'⟩ | ⟨d1, d2, q'⟩
      · rcases q' with q' | q'
        · exact h.2.2.1 _ _ b q q'
        · exact absurd (h.2.2.1 _ _ b q q') c2
      · exact h.2.2.1 _ _ b q q'
  · intro c
    by_cases h1 : c = a
    · subst h1
      rw [join_a]
      refine List.nodup_append.mpr ⟨h.2.2.2 c, h.2.2.2 v, ?_⟩
      intro x hx y hy e
      subst e
      exact hav (h.2.2.1 c v x hx hy)
    · by_cases h2 : c = v
      · subst h2
        rw [join_v hav]
        exact List.nodup_nil
      · rw [join_o h1 h2]
        exact h.2.2.2 c
theorem JI_end (h : CR T fs nx) (ha : fs u = some a) (hav : a ≠ v) (hul : (T a).getLast? = some u) (htv : T v ≠ []) (hi : JI T a v fs i f) (hlen : (T v).length ≤ i) : CR (joinT T a v) f (va_up nx u (some v)) := by
  have hua : u ∈ T a := last_mem hul
  have hta : T a ≠ [] := fun q => by rw [q] at hua; cases hua
  have hi : ∀ x, f x = if x ∈ T v then some a else fs x := fun x => by rw [hi x, List.take_of_length_le hlen]
  have hCI := join_CI h.1.1 hav hta
  refine ⟨⟨hCI, ?_⟩, ?_, ?_⟩
  · intro b hb
    have h1 : ∀ c, b ∉ T c := fun c hc => by
      obtain ⟨d, hd⟩ := (join_mem (T := T) hav).mpr ⟨c, hc⟩
      exact hb d hd
    have hbu : b ≠ u := fun q => h1 a (by rw [q]; exact hua)
    rw [va_up_ne _ _ hbu]
    exact h.1.2 b h1
  · intro b c
    rw [hi b]
    by_cases hbv : b ∈ T v
    · rw [if_pos hbv]
      constructor
      · intro q
        cases q
        rw [join_a]
        exact List.mem_append_right _ hbv
      · intro q
        have : b ∈ joinT T a v a := by rw [join_a]; exact List.mem_append_right _ hbv
        rw [hCI.2.2.1 a c b this q]
    · rw [if_neg hbv]
      rw [h.2.1 b c]
      by_cases h1 : c = a
      · subst h1
        rw [join_a]
        constructor
        · exact fun q => List.mem_append_left _ q
        · intro q
          rcases List.mem_append.mp q with q | q
          · exact q
          · exact absurd q hbv
      · by_cases h2 : c = v
        · subst h2
          rw [join_v hav]
          exact ⟨fun q => absurd q hbv, fun q => by cases q⟩
        · rw [join_o h1 h2]
  · intro c k b hk
    by_cases h1 : c = a
    · subst h1
      rw [join_a] at hk ⊢
      by_cases hkl : k < (T c).length
      · rw [List.getElem?_append_left hkl] at hk
        by_cases hk2 : k + 1 < (T c).length
        · have hbu : b ≠ u := by
            intro q
            subst q
            have e1 := h.2.2 c k b hk
            rw [List.getLast?_eq_getElem?] at hul
            have e2 := h.2.2 c _ b hul
            rw [e1, show (T c).length - 1 + 1 = (T c).length by omega, List.getElem?_eq_none (Nat.le_refl _)] at e2
            have := ix_ge e2
            omega
          rw [va_up_ne _ _ hbu, List.getElem?_append_left hk2]
          exact h.2.2 c k b hk
        · have e0 : k = (T c).length - 1 := by omega
          rw [List.getLast?_eq_getElem?, ← e0, hk] at hul
          cases hul
          rw [va_up_self, List.getElem?_append_right (by omega), show k + 1 - (T c).length = 0 by omega]
          exact (h.1.1.2.1 v htv).symm
      · rw [List.getElem?_append_right (by omega)] at hk ⊢
        have hbu : b ≠ u := by
          intro q
          subst q
          exact hav (h.1.1.2.2.1 c v b hua (List.mem_of_getElem? hk))
        rw [va_up_ne _ _ hbu, h.2.2 v _ b hk, show k + 1 - (T c).length = k - (T c).length + 1 by omega]
    · by_cases h2 : c = v
      · subst h2
        rw [join_v hav] at hk
        cases hk
      · rw [join_o h1 h2] at hk ⊢
        have hbu : b ≠ u := by
          intro q
          subst q
          exact h1 (h.1.1.2.2.1 c a b (List.mem_of_getElem? hk) hua)
        rw [va_up_ne _ _ hbu]
        exact h.2.2 c k b hk
theorem mj_spec (h : CR T fs nx) (hm : mjB fs nx u v = true) : ∃ a, fs u = some a ∧ (T a).getLast? = some u ∧ T v ≠ [] ∧ a ≠ v ∧ v ≠ 0 := by
  unfold mjB at hm
  simp only [Bool.and_eq_true, decide_eq_true_eq] at hm
  obtain ⟨⟨⟨⟨h1, h2⟩, h3⟩, h4⟩, h5⟩ := hm
  obtain ⟨a, ha⟩ := Option.isSome_iff_exists.mp h1
  have hua := (h.2.1 u a).mp ha
  obtain ⟨k, hk⟩ := List.getElem?_of_mem hua
  have e1 := h.2.2 a k u hk
  rw [Option.isNone_iff_eq_none.mp h2] at e1
  have e2 := ix_ge e1.symm
  have e3 := ix_lt hk
  have hv := (h.2.1 v v).mp h3
  have htv : T v ≠ [] := fun q => by rw [q] at hv; cases hv
  have hav : a ≠ v := fun q => h4 (by rw [ha, q])
  refine ⟨a, ha, ?_, htv, hav, h5⟩
  rw [List.getLast?_eq_getElem?, show (T a).length - 1 = k by omega]
  exact hk
theorem mj_conv (h : CR T fs nx) (ha : fs u = some a) (hul : (T a).getLast? = some u) (htv : T v ≠ []) (hav : a ≠ v) (hv0 : v ≠ 0) : mjB fs nx u v = true := by
  unfold mjB
  simp only [Bool.and_eq_true, decide_eq_true_eq]
  have hv : v ∈ T v := List.mem_of_getElem? (h.1.1.2.1 v htv)
  have hua : u ∈ T a := last_mem hul
  refine ⟨⟨⟨⟨by rw [ha]; rfl, ?_⟩, (h.2.1 v v).mpr hv⟩, by rw [ha]; exact fun q => hav (Option.some.inj q)⟩, hv0⟩
  rw [List.getLast?_eq_getElem?] at hul
  rw [h.2.2 a _ u hul]
  have : 0 < (T a).length := List.length_pos_of_mem hua
  rw [show (T a).length - 1 + 1 = (T a).length by omega, List.getElem?_eq_none (Nat.le_refl _)]
  rfl
variable {fr tt ct : Nat → Nat} {fa : Nat → Bool} {k : Nat}
theorem TK_succ : (wl (k + 1) (pk fr tt ct fa)).foldl stepT T = stepT ((wl k (pk fr tt ct fa)).foldl stepT T) (fr k, tt k, ct k, fa k) := by
  rw [wl_succ, List.foldl_append]
  rfl
theorem ja_skip (h : CR ((wl k (pk fr tt ct fa)).foldl stepT T) f g) (hs : fa k = false ∨ ct k ≤ 0 ∨ mjB f g (fr k) (tt k) = false) : CR ((wl (k + 1) (pk fr tt ct fa)).foldl stepT T) f g := by
  rw [TK_succ]
  generalize (wl k (pk fr tt ct fa)).foldl stepT T = T2 at h
  have e : stepT T2 (fr k, tt k, ct k, fa k) = T2 := by
    unfold stepT
    rw [← CR_name h]
    cases hf : f (fr k) with
    | none => rfl
    | some a =>
      dsimp only
      rw [if_neg]
      rintro ⟨h1, h2, h3, h4, h5, h6⟩
      rcases hs with q | q | q
      · rw [q] at h1; cases h1
      · omega
      · rw [mj_conv h hf h3 h4 h5 h6] at q; cases q
  rw [e]
  exact h
theorem ja_join {z1 z2 : Nat → Option Nat} (h : CR ((wl k (pk fr tt ct fa)).foldl stepT T) f g) (hf : fa k = true) (hc : 0 < ct k) (ha : f (fr k) = some a) (hul : (((wl k (pk fr tt ct fa)).foldl stepT T) a).getLast? = some (fr k)) (htv : ((wl k (pk fr tt ct fa)).foldl stepT T) (tt k) ≠ []) (hav : a ≠ tt k) (hv0 : tt k ≠ 0) (hz : CR (joinT ((wl k (pk fr tt ct fa)).foldl stepT T) a (tt k)) z1 z2) : CR ((wl (k + 1) (pk fr tt ct fa)).foldl stepT T) z1 z2 := by
  rw [TK_succ]
  generalize (wl k (pk fr tt ct fa)).foldl stepT T = T2 at h hul htv hz
  have e : stepT T2 (fr k, tt k, ct k, fa k) = joinT T2 a (tt k) := by
    unfold stepT
    rw [← CR_name h]
    dsimp only
    rw [ha]
    dsimp only
    rw [if_pos ⟨hf, hc, hul, htv, hav, hv0⟩]
  rw [e]
  exact hz
end CRows
end
section
def stF (pl : Nat → Option Nat) (b : Nat) : Option Nat := if (pl b).isSome = true then some b else none
theorem fl_X0_start_15 : Cond.fieldLink RX0 15 "BlockRows$Chains" "next" "[I" ∈ wsX0_start := by decide +kernel
theorem fl_X0_start_9 : Cond.fieldLink RX0 9 "BlockRows$Chains" "first" "[I" ∈ wsX0_start := by decide +kernel
theorem in_X0_start_X0 : ∀ w ∈ wsX00, w ∈ wsX0_start := by decide +kernel
set_option maxHeartbeats 4000000 in
set_option maxRecDepth 100000 in
/-- Chains.start(line) -/
theorem c_start (l : Launch) (D : va_G) (cI cJ cZ : ClassId) (h cf cn cp : Nat) (fs nx : Nat → Option Nat) (pu : Nat → Nat) (q qm qp nn : Nat) (me : Nat → Nat) (pl : Nat → Option Nat) (hpl : ∀ i j, pl i = some j → j < 200) (sz : Nat) : Met l yX0_start wsX0_start ({ frames := 1, cells := 0, slots := 0, locals := 23 }) (PcM D cI cJ cZ [.ref h, .ref q] [(h, .inr (0, [.ref cf, .ref cn, .ref cp])), (cf, .inl (cI, 200, .inl (oIf fs))), (cn, .inl (cI, 200, .inl (oIf nx))), (cp, .inl (cJ, 200, .inr (.inl (lNf pu)))), (q, .inr (1, [.ref qm, .ref qp, .int (nI nn)])), (qm, .inl (cI, 200, .inl (nIf me))), (qp, .inl (cI, 200, .inl (oIf pl)))] sz) (va_Qv (fun _ : Unit => True) (Bm D [(h, .inr (0, [.ref cf, .ref cn, .ref cp])), (cf, .inl (cI, 200, .inl (oIf fs))), (cn, .inl (cI, 200, .inl (oIf nx))), (cp, .inl (cJ, 200, .inr (.inl (lNf pu)))), (q, .inr (1, [.ref qm, .ref qp, .int (nI nn)])), (qm, .inl (cI, 200, .inl (nIf me))), (qp, .inl (cI, 200, .inl (oIf pl)))] sz (fun _ : Unit => [(h, .inr (0, [.ref cf, .ref cn, .ref cp])), (cf, .inl (cI, 200, .inl (oIf (stF pl)))), (cn, .inl (cI, 200, .inl (oIf (fun _ => none)))), (cp, .inl (cJ, 200, .inr (.inl (lNf pu)))), (q, .inr (1, [.ref qm, .ref qp, .int (nI nn)])), (qm, .inl (cI, 200, .inl (nIf me))), (qp, .inl (cI, 200, .inl (oIf pl)))])) (va_A [(h, .inr (0, [.ref cf, .ref cn, .ref cp])), (cf, .inl (cI, 200, .inl (oIf fs))), (cn, .inl (cI, 200, .inl (oIf nx))), (cp, .inl (cJ, 200, .inr (.inl (lNf pu)))), (q, .inr (1, [.ref qm, .ref qp, .int (nI nn)])), (qm, .inl (cI, 200, .inl (nIf me))), (qp, .inl (cI, 200, .inl (oIf pl)))] sz)) 0 0 (va_A [(h, .inr (0, [.ref cf, .ref cn, .ref cp])), (cf, .inl (cI, 200, .inl (oIf fs))), (cn, .inl (cI, 200, .inl (oIf nx))), (cp, .inl (cJ, 200, .inr (.inl (lNf pu)))), (q, .inr (1, [.ref qm, .ref qp, .int (nI nn)])), (qm, .inl (cI, 200, .inl (nIf me))), (qp, .inl (cI, 200, .inl (oIf pl)))] sz) := by
  refine startM (cc := cX0_start) (maxL := 3) (ret := none) (by decide) rfl (Nat.le_of_ble_eq_true rfl) ?_
  intro p e s m below meth c ls A hA hAe hx hb hr hml hown hts hlocks hin hE hP hD hS hl
  have hl : lv_has ls 3 [(0, .ref h), (1, .ref q)] := hl
  refine lv_aload_n hx hb dX0_start_0 rfl (lv_at hl 0 rfl) ?_
  refine va_get (D := D) (ci := 0) (v := .ref cn) (C := RX0) (T := TX0) (N := 3) hx hb hts in_X0_start_X0 hown hE.1 hP 0 rfl rfl 1 (by decide) (hts _ fl_X0_start_15) (fun _ h9 => h9) rfl dX0_start_1 ?_
  refine lv_iconst (v := -1) hx hb dX0_start_4 (by decide) ?_
  refine callSv (As := [.ref cn, .int (-1)]) (rest := []) (wr := [(h, .inr (0, [.ref cf, .ref cn, .ref cp])), (cf, .inl (cI, 200, .inl (oIf fs))), (cp, .inl (cJ, 200, .inr (.inl (lNf pu)))), (q, .inr (1, [.ref qm, .ref qp, .int (nI nn)])), (qm, .inl (cI, 200, .inl (nIf me))), (qp, .inl (cI, 200, .inl (oIf pl)))]) (w1 := fun _ : Unit => [(cn, .inl (cI, 200, .inl (oIf (fun _ => none))))]) ⟨hx, hb, hml, hown, hts⟩ (c_fillI l D cI cJ cZ cn 200 _ (-1) _ (by omega)) (va_cwS 2 hts gX0_start_J7_fill_53178 rfl rfl rfl (by decide +kernel) ⟨Nat.le_of_ble_eq_true rfl, Nat.le_of_ble_eq_true rfl⟩) (preMS hE hP hD [2] rfl rfl rfl) rfl hl.1 (Nat.le_of_ble_eq_true rfl) dX0_start_5 ⟨Nat.zero_le _, Nat.zero_le _⟩ rfl hP hD hS hA [2] [0, 1, 3, 4, 5, 6] rfl rfl (by decide) (by decide) (fun u_ H locs hu hP hD hS => ?_)
  have hP : va_P D vwCl [(h, .inr (0, [.ref cf, .ref cn, .ref cp])), (cf, .inl (cI, 200, .inl (oIf fs))), (cp, .inl (cJ, 200, .inr (.inl (lNf pu)))), (q, .inr (1, [.ref qm, .ref qp, .int (nI nn)])), (qm, .inl (cI, 200, .inl (nIf me))), (qp, .inl (cI, 200, .inl (oIf pl))), (cn, .inl (cI, 200, .inl (oIf (fun _ => none))))] H := hP
  have hD : va_D A [(h, .inr (0, [.ref cf, .ref cn, .ref cp])), (cf, .inl (cI, 200, .inl (oIf fs))), (cp, .inl (cJ, 200, .inr (.inl (lNf pu)))), (q, .inr (1, [.ref qm, .ref qp, .int (nI nn)])), (qm, .inl (cI, 200, .inl (nIf me))), (qp, .inl (cI, 200, .inl (oIf pl))), (cn, .inl (cI, 200, .inl (oIf (fun _ => none))))] := hD
  refine lv_iconst (v := nI 0) hx hb dX0_start_8 (by decide) ?_
  refine lv_istore_n (lv' := [(2, .int (nI 0)), (0, .ref h), (1, .ref q)]) hx hb dX0_start_9 rfl hl (by decide) rfl (fun ls hl => ?_)
  refine r_loop (σ := Nat × (Nat → Option Nat)) (fun z0 => 200 - z0.1) (fun z0 H locs ls => (z0.1 ≤ 200 ∧ ∀ j, j < z0.1 → z0.2 j = stF pl j) ∧ va_P D vwCl [(h, .inr (0, [.ref cf, .ref cn, .ref cp])), (cf, .inl (cI, 200, .inl (oIf z0.2))), (cn, .inl (cI, 200, .inl (oIf (fun _ => none)))), (cp, .inl (cJ, 200, .inr (.inl (lNf pu)))), (q, .inr (1, [.ref qm, .ref qp, .int (nI nn)])), (qm, .inl (cI, 200, .inl (nIf me))), (qp, .inl (cI, 200, .inl (oIf pl)))] H ∧ va_D A [(h, .inr (0, [.ref cf, .ref cn, .ref cp])), (cf, .inl (cI, 200, .inl (oIf z0.2))), (cn, .inl (cI, 200, .inl (oIf (fun _ => none)))), (cp, .inl (cJ, 200, .inr (.inl (lNf pu)))), (q, .inr (1, [.ref qm, .ref qp, .int (nI nn)])), (qm, .inl (cI, 200, .inl (nIf me))), (qp, .inl (cI, 200, .inl (oIf pl)))] ∧ va_S A s.heap H locs ∧ lv_has ls 3 [(0, .ref h), (1, .ref q), (2, .int (nI z0.1))]) ?_ (0, fs) ⟨⟨by omega, fun j hj => by omega⟩, hP.sub [0, 1, 6, 2, 3, 4, 5] rfl, hD.sub [0, 1, 6, 2, 3, 4, 5] (by decide) rfl, hS, lv_sub hl [1, 2, 0] rfl⟩
  rintro ⟨k, f⟩ H locs ls ⟨hi_10, hP, hD, hS, hl⟩ ih_10
  have hi_10 : k ≤ 200 ∧ ∀ j, j < k → f j = stF pl j := hi_10
  have hP : va_P D vwCl [(h, .inr (0, [.ref cf, .ref cn, .ref cp])), (cf, .inl (cI, 200, .inl (oIf f))), (cn, .inl (cI, 200, .inl (oIf (fun _ => none)))), (cp, .inl (cJ, 200, .inr (.inl (lNf pu)))), (q, .inr (1, [.ref qm, .ref qp, .int (nI nn)])), (qm, .inl (cI, 200, .inl (nIf me))), (qp, .inl (cI, 200, .inl (oIf pl)))] H := hP
  have hD : va_D A [(h, .inr (0, [.ref cf, .ref cn, .ref cp])), (cf, .inl (cI, 200, .inl (oIf f))), (cn, .inl (cI, 200, .inl (oIf (fun _ => none)))), (cp, .inl (cJ, 200, .inr (.inl (lNf pu)))), (q, .inr (1, [.ref qm, .ref qp, .int (nI nn)])), (qm, .inl (cI, 200, .inl (nIf me))), (qp, .inl (cI, 200, .inl (oIf pl)))] := hD
  have hl : lv_has ls 3 [(0, .ref h), (1, .ref q), (2, .int (nI k))] := hl
  obtain ⟨hi_a, hi_b⟩ := id hi_10
  refine lv_iload_n hx hb dX0_start_10 rfl (lv_at hl 2 rfl) ?_
  refine lv_sipush (v := nI 200) hx hb dX0_start_11 (by decide) ?_
  refine r_icmp_ge (tgt := 42) hx hb (x := k) (y := 200) (by omega) (by omega) dX0_start_14 (by decide) (fun c_14 => ?_) (fun c_14 => ?_)
  · skip
    exact e_mv () hAe hx hb hr hlocks dX0_start_42 (P_extI hP 1 (oIf (stF pl)) rfl (fun j hj => congrArg oI (hi_b j (by omega)))) (D_ext hD 1 rfl) hS trivial
  · skip
    refine lv_aload_n hx hb dX0_start_17 rfl (lv_at hl 0 rfl) ?_
    refine va_get (D := D) (ci := 0) (v := .ref cf) (C := RX0) (T := TX0) (N := 3) hx hb hts in_X0_start_X0 hown hE.1 hP 0 rfl rfl 0 (by decide) (hts _ fl_X0_start_9) (fun _ h9 => h9) rfl dX0_start_18 ?_
    refine lv_iload_n hx hb dX0_start_21 rfl (lv_at hl 2 rfl) ?_
    refine lv_aload_n hx hb dX0_start_22 rfl (lv_at hl 1 rfl) ?_
    refine lv_iload_n hx hb dX0_start_23 rfl (lv_at hl 2 rfl) ?_
    refine callRi (As := [.int (nI k)]) (rest := [.int (nI k), .ref cf]) ⟨hx, hb, hml, hown, hts⟩ (c_holds l D cI cJ cZ q qm qp nn me pl hpl k (by omega)) (cwV 1 hts gX0_start_X1_holds rfl rfl rfl (by decide +kernel) ⟨Nat.le_of_ble_eq_true rfl, Nat.le_of_ble_eq_true rfl⟩) (preR hE hP 1 4 rfl rfl rfl [4, 5, 6] rfl) rfl hl.1 (Nat.le_of_ble_eq_true rfl) dX0_start_24 ⟨Nat.zero_le _, Nat.zero_le _⟩ rfl (fun r1 hr1 => ?_)
    subst hr1
    refine r_b_eq (tgt := 34) hx hb dX0_start_27 (by decide) (fun c_27 => ?_) (fun c_27 => ?_)
    · skip
      refine lv_iconst (v := -1) hx hb dX0_start_34 (by decide) ?_
      refine r_ost hx hb hE hP hD hS 1 rfl (k := k) none rfl (by omega) (by decide) dX0_start_35 (fun H locs hP hD hS => ?_)
      have hP : va_P D vwCl [(h, .inr (0, [.ref cf, .ref cn, .ref cp])), (cf, .inl (cI, 200, .inl (oIf (va_up f k none)))), (cn, .inl (cI, 200, .inl (oIf (fun _ => none)))), (cp, .inl (cJ, 200, .inr (.inl (lNf pu)))), (q, .inr (1, [.ref qm, .ref qp, .int (nI nn)])), (qm, .inl (cI, 200, .inl (nIf me))), (qp, .inl (cI, 200, .inl (oIf pl)))] H := hP
      have hD : va_D A [(h, .inr (0, [.ref cf, .ref cn, .ref cp])), (cf, .inl (cI, 200, .inl (oIf (va_up f k none)))), (cn, .inl (cI, 200, .inl (oIf (fun _ => none)))), (cp, .inl (cJ, 200, .inr (.inl (lNf pu)))), (q, .inr (1, [.ref qm, .ref qp, .int (nI nn)])), (qm, .inl (cI, 200, .inl (nIf me))), (qp, .inl (cI, 200, .inl (oIf pl)))] := hD
      refine lv_iinc (v := (nI (k + 1))) (lv' := [(2, .int (nI (k + 1))), (0, .ref h), (1, .ref q)]) hx hb dX0_start_36 hl (k := 2) rfl (nI_1 _) (by decide) rfl (fun ls hl => ?_)
      refine lv_goto (tgt := 10) hx hb dX0_start_39 (by decide) ?_
      exact ih_10 (k + 1, va_up f k none) _ _ _ ⟨(show (k + 1) ≤ 200 ∧ ∀ j, j < (k + 1) → (va_up f k none) j = stF pl j from ⟨by omega, lt_s (fun j hj => by rw [va_up_ne _ _ (by omega)]; exact hi_10.2 j hj) (by rw [va_up_self]; unfold stF; simp [c_27])⟩), hP.sub [0, 1, 2, 3, 4, 5, 6] rfl, hD.sub [0, 1, 2, 3, 4, 5, 6] (by decide) rfl, hS, lv_sub hl [1, 2, 0] rfl⟩ (by show 200 - (k + 1) < 200 - k; omega)
    · skip
      refine lv_iload_n hx hb dX0_start_30 rfl (lv_at hl 2 rfl) ?_
      refine lv_goto (tgt := 35) hx hb dX0_start_31 (by decide) ?_
      refine r_ost hx hb hE hP hD hS 1 rfl (k := k) (some k) rfl (by omega) (by decide) dX0_start_35 (fun H locs hP hD hS => ?_)
      have hP : va_P D vwCl [(h, .inr (0, [.ref cf, .ref cn, .ref cp])), (cf, .inl (cI, 200, .inl (oIf (va_up f k (some k))))), (cn, .inl (cI, 200, .inl (oIf (fun _ => none)))), (cp, .inl (cJ, 200, .inr (.inl (lNf pu)))), (q, .inr (1, [.ref qm, .ref qp, .int (nI nn)])), (qm, .inl (cI, 200, .inl (nIf me))), (qp, .inl (cI, 200, .inl (oIf pl)))] H := hP
      have hD : va_D A [(h, .inr (0, [.ref cf, .ref cn, .ref cp])), (cf, .inl (cI, 200, .inl (oIf (va_up f k (some k))))), (cn, .inl (cI, 200, .inl (oIf (fun _ => none)))), (cp, .inl (cJ, 200, .inr (.inl (lNf pu)))), (q, .inr (1, [.ref qm, .ref qp, .int (nI nn)])), (qm, .inl (cI, 200, .inl (nIf me))), (qp, .inl (cI, 200, .inl (oIf pl)))] := hD
      refine lv_iinc (v := (nI (k + 1))) (lv' := [(2, .int (nI (k + 1))), (0, .ref h), (1, .ref q)]) hx hb dX0_start_36 hl (k := 2) rfl (nI_1 _) (by decide) rfl (fun ls hl => ?_)
      refine lv_goto (tgt := 10) hx hb dX0_start_39 (by decide) ?_
      exact ih_10 (k + 1, va_up f k (some k)) _ _ _ ⟨(show (k + 1) ≤ 200 ∧ ∀ j, j < (k + 1) → (va_up f k (some k)) j = stF pl j from ⟨by omega, lt_s (fun j hj => by rw [va_up_ne _ _ (by omega)]; exact hi_10.2 j hj) (by rw [va_up_self]; unfold stF; simp [c_27])⟩), hP.sub [0, 1, 2, 3, 4, 5, 6] rfl, hD.sub [0, 1, 2, 3, 4, 5, 6] (by decide) rfl, hS, lv_sub hl [1, 2, 0] rfl⟩ (by show 200 - (k + 1) < 200 - k; omega)

theorem fl_X0_join_15 : Cond.fieldLink RX0 15 "BlockRows$Chains" "next" "[I" ∈ wsX0_join := by decide +kernel
theorem fl_X0_join_9 : Cond.fieldLink RX0 9 "BlockRows$Chains" "first" "[I" ∈ wsX0_join := by decide +kernel
theorem in_X0_join_X0 : ∀ w ∈ wsX00, w ∈ wsX0_join := by decide +kernel
set_option maxHeartbeats 4000000 in
set_option maxRecDepth 100000 in
/-- Chains.join(u, v) -/
theorem c_join (l : Launch) (D : va_G) (cI cJ cZ : ClassId) (h cf cn cp : Nat) (fs nx : Nat → Option Nat) (pu : Nat → Nat) (T : Nat → List Nat) (hR : CR T fs nx) (sz u v a : Nat) (hu : u < 200) (hv : v < 200) (ha : fs u = some a) (hul : (T a).getLast? = some u) (htv : T v ≠ []) (hav : a ≠ v) : Met l yX0_join wsX0_join ({ frames := 0, cells := 0, slots := 0, locals := 0 }) (PcM D cI cJ cZ [.ref h, .int (nI u), .int (nI v)] [(h, .inr (0, [.ref cf, .ref cn, .ref cp])), (cf, .inl (cI, 200, .inl (oIf fs))), (cn, .inl (cI, 200, .inl (oIf nx))), (cp, .inl (cJ, 200, .inr (.inl (lNf pu))))] sz) (va_Qv (fun z : (Nat → Option Nat) × (Nat → Option Nat) => CR (joinT T a v) z.1 z.2) (Bm D [(h, .inr (0, [.ref cf, .ref cn, .ref cp])), (cf, .inl (cI, 200, .inl (oIf fs))), (cn, .inl (cI, 200, .inl (oIf nx))), (cp, .inl (cJ, 200, .inr (.inl (lNf pu))))] sz (fun z : (Nat → Option Nat) × (Nat → Option Nat) => [(h, .inr (0, [.ref cf, .ref cn, .ref cp])), (cf, .inl (cI, 200, .inl (oIf z.1))), (cn, .inl (cI, 200, .inl (oIf z.2))), (cp, .inl (cJ, 200, .inr (.inl (lNf pu))))])) (va_A [(h, .inr (0, [.ref cf, .ref cn, .ref cp])), (cf, .inl (cI, 200, .inl (oIf fs))), (cn, .inl (cI, 200, .inl (oIf nx))), (cp, .inl (cJ, 200, .inr (.inl (lNf pu))))] sz)) 0 0 (va_A [(h, .inr (0, [.ref cf, .ref cn, .ref cp])), (cf, .inl (cI, 200, .inl (oIf fs))), (cn, .inl (cI, 200, .inl (oIf nx))), (cp, .inl (cJ, 200, .inr (.inl (lNf pu))))] sz) := by
  refine startM (cc := cX0_join) (maxL := 5) (ret := none) (by decide) rfl (Nat.le_of_ble_eq_true rfl) ?_
  intro p e s m below meth c ls A hA hAe hx hb hr hml hown hts hlocks hin hE hP hD hS hl
  have hl : lv_has ls 5 [(0, .ref h), (1, .int (nI u)), (2, .int (nI v))] := hl
  have hT := hR.1
  refine lv_aload_n hx hb dX0_join_0 rfl (lv_at hl 0 rfl) ?_
  refine va_get (D := D) (ci := 0) (v := .ref cn) (C := RX0) (T := TX0) (N := 3) hx hb hts in_X0_join_X0 hown hE.1 hP 0 rfl rfl 1 (by decide) (hts _ fl_X0_join_15) (fun _ h9 => h9) rfl dX0_join_1 ?_
  refine lv_iload_n hx hb dX0_join_4 rfl (lv_at hl 1 rfl) ?_
  refine lv_iload_n hx hb dX0_join_5 rfl (lv_at hl 2 rfl) ?_
  refine r_ost hx hb hE hP hD hS 2 rfl (k := u) (some v) rfl (by omega) (by decide) dX0_join_6 (fun H locs hP hD hS => ?_)
  have hP : va_P D vwCl [(h, .inr (0, [.ref cf, .ref cn, .ref cp])), (cf, .inl (cI, 200, .inl (oIf fs))), (cn, .inl (cI, 200, .inl (oIf (va_up nx u (some v))))), (cp, .inl (cJ, 200, .inr (.inl (lNf pu))))] H := hP
  have hD : va_D A [(h, .inr (0, [.ref cf, .ref cn, .ref cp])), (cf, .inl (cI, 200, .inl (oIf fs))), (cn, .inl (cI, 200, .inl (oIf (va_up nx u (some v))))), (cp, .inl (cJ, 200, .inr (.inl (lNf pu))))] := hD
  refine lv_iload_n hx hb dX0_join_7 rfl (lv_at hl 2 rfl) ?_
  refine lv_istore_n (lv' := [(3, .int (nI v)), (0, .ref h), (1, .int (nI u)), (2, .int (nI v))]) hx hb dX0_join_8 rfl hl (by decide) rfl (fun ls hl => ?_)
  refine lv_iconst (v := nI 0) hx hb dX0_join_9 (by decide) ?_
  refine lv_istore (lv' := [(4, .int (nI 0)), (3, .int (nI v)), (0, .ref h), (1, .int (nI u)), (2, .int (nI v))]) hx hb dX0_join_10 hl (by decide) rfl (fun ls hl => ?_)
  have hl : lv_has ls 5 [(4, .int (nI 0)), (3, .int (oI ((T v)[0]?))), (0, .ref h), (1, .int (nI u)), (2, .int (nI v))] := by rw [T_head hR htv]; exact hl
  refine r_loop (σ := Nat × (Nat → Option Nat)) (fun z0 => 200 - z0.1) (fun z0 H locs ls => (z0.1 ≤ (T v).length ∧ JI T a v fs z0.1 z0.2) ∧ va_P D vwCl [(h, .inr (0, [.ref cf, .ref cn, .ref cp])), (cf, .inl (cI, 200, .inl (oIf z0.2))), (cn, .inl (cI, 200, .inl (oIf (va_up nx u (some v))))), (cp, .inl (cJ, 200, .inr (.inl (lNf pu))))] H ∧ va_D A [(h, .inr (0, [.ref cf, .ref cn, .ref cp])), (cf, .inl (cI, 200, .inl (oIf z0.2))), (cn, .inl (cI, 200, .inl (oIf (va_up nx u (some v))))), (cp, .inl (cJ, 200, .inr (.inl (lNf pu))))] ∧ va_S A s.heap H locs ∧ lv_has ls 5 [(0, .ref h), (1, .int (nI u)), (2, .int (nI v)), (3, .int (oI ((T v)[z0.1]?))), (4, .int (nI z0.1))]) ?_ (0, fs) ⟨⟨Nat.zero_le _, JI_0⟩, hP.sub [0, 1, 2, 3] rfl, hD.sub [0, 1, 2, 3] (by decide) rfl, hS, lv_sub hl [2, 3, 4, 1, 0] rfl⟩
  rintro ⟨i, f⟩ H locs ls ⟨hi_12, hP, hD, hS, hl⟩ ih_12
  have hi_12 : i ≤ (T v).length ∧ JI T a v fs i f := hi_12
  have hP : va_P D vwCl [(h, .inr (0, [.ref cf, .ref cn, .ref cp])), (cf, .inl (cI, 200, .inl (oIf f))), (cn, .inl (cI, 200, .inl (oIf (va_up nx u (some v))))), (cp, .inl (cJ, 200, .inr (.inl (lNf pu))))] H := hP
  have hD : va_D A [(h, .inr (0, [.ref cf, .ref cn, .ref cp])), (cf, .inl (cI, 200, .inl (oIf f))), (cn, .inl (cI, 200, .inl (oIf (va_up nx u (some v))))), (cp, .inl (cJ, 200, .inr (.inl (lNf pu))))] := hD
  have hl : lv_has ls 5 [(0, .ref h), (1, .int (nI u)), (2, .int (nI v)), (3, .int (oI ((T v)[i]?))), (4, .int (nI i))] := hl
  have hlen := T_len hR v
  have hob : ∀ j, (T v)[i]? = some j → j < 200 := fun j hj => T_lt hR hj
  refine lv_iload hx hb dX0_join_12 (lv_at hl 4 rfl) ?_
  refine lv_sipush (v := nI 200) hx hb dX0_join_14 (by decide) ?_
  refine r_icmp_ge (tgt := 50) hx hb (x := i) (y := 200) (by omega) (by omega) dX0_join_17 (by decide) (fun c_17 => ?_) (fun c_17 => ?_)
  · skip
    exact e_mv (f, va_up nx u (some v)) hAe hx hb hr hlocks dX0_join_50 hP hD hS (JI_end hR ha hav hul htv hi_12.2 (by omega))
  · skip
    refine lv_iload_n hx hb dX0_join_20 rfl (lv_at hl 3 rfl) ?_
    refine lv_iconst (v := -1) hx hb dX0_join_21 (by decide) ?_
    refine r_o_eq (tgt := 50) hx hb (o := (T v)[i]?) (q := none) rfl rfl (fun j hj => by have := hob j hj; omega) (fun j h => by cases h) dX0_join_22 (by decide) (fun c_22 => ?_) (fun c_22 => ?_)
    · skip
      exact e_mv (f, va_up nx u (some v)) hAe hx hb hr hlocks dX0_join_50 hP hD hS (JI_end hR ha hav hul htv hi_12.2 (ix_ge c_22))
    · skip
      obtain ⟨b, hb3⟩ := Option.ne_none_iff_exists'.mp c_22
      have hb200 := hob b hb3
      rw [hb3] at hl
      have hl : lv_has ls 5 [(0, .ref h), (1, .int (nI u)), (2, .int (nI v)), (3, .int (nI b)), (4, .int (nI i))] := hl
      refine lv_aload_n hx hb dX0_join_25 rfl (lv_at hl 0 rfl) ?_
      refine va_get (D := D) (ci := 0) (v := .ref cf) (C := RX0) (T := TX0) (N := 3) hx hb hts in_X0_join_X0 hown hE.1 hP 0 rfl rfl 0 (by decide) (hts _ fl_X0_join_9) (fun _ h9 => h9) rfl dX0_join_26 ?_
      refine lv_iload_n hx hb dX0_join_29 rfl (lv_at hl 3 rfl) ?_
      refine lv_aload_n hx hb dX0_join_30 rfl (lv_at hl 0 rfl) ?_
      refine va_get (D := D) (ci := 0) (v := .ref cf) (C := RX0) (T := TX0) (N := 3) hx hb hts in_X0_join_X0 hown hE.1 hP 0 rfl rfl 0 (by decide) (hts _ fl_X0_join_9) (fun _ h9 => h9) rfl dX0_join_31 ?_
      refine lv_iload_n hx hb dX0_join_34 rfl (lv_at hl 1 rfl) ?_
      refine r_old hx hb hE hP 1 rfl (k := u) (by omega) (by decide) dX0_join_35 ?_
      refine r_ost hx hb hE hP hD hS 1 rfl (k := b) (f u) rfl (by omega) (by decide) dX0_join_36 (fun H locs hP hD hS => ?_)
      have hP : va_P D vwCl [(h, .inr (0, [.ref cf, .ref cn, .ref cp])), (cf, .inl (cI, 200, .inl (oIf (va_up f b (f u))))), (cn, .inl (cI, 200, .inl (oIf (va_up nx u (some v))))), (cp, .inl (cJ, 200, .inr (.inl (lNf pu))))] H := hP
      have hD : va_D A [(h, .inr (0, [.ref cf, .ref cn, .ref cp])), (cf, .inl (cI, 200, .inl (oIf (va_up f b (f u))))), (cn, .inl (cI, 200, .inl (oIf (va_up nx u (some v))))), (cp, .inl (cJ, 200, .inr (.inl (lNf pu))))] := hD
      refine lv_aload_n hx hb dX0_join_37 rfl (lv_at hl 0 rfl) ?_
      refine va_get (D := D) (ci := 0) (v := .ref cn) (C := RX0) (T := TX0) (N := 3) hx hb hts in_X0_join_X0 hown hE.1 hP 0 rfl rfl 1 (by decide) (hts _ fl_X0_join_15) (fun _ h9 => h9) rfl dX0_join_38 ?_
      refine lv_iload_n hx hb dX0_join_41 rfl (lv_at hl 3 rfl) ?_
      refine r_old hx hb hE hP 2 rfl (k := b) (by omega) (by decide) dX0_join_42 ?_
      refine r_as (w := .int (oI (T v)[i + 1]?)) (by rw [va_up_ne _ _ (JI_ne hR ha hav hul hb3)]; rw [hR.2.2 v i b hb3]) ?_
      refine lv_istore_n (lv' := [(3, .int (oI ((T v)[i + 1]?))), (0, .ref h), (1, .int (nI u)), (2, .int (nI v)), (4, .int (nI i))]) hx hb dX0_join_43 rfl hl (by decide) rfl (fun ls hl => ?_)
      refine lv_iinc (v := (nI (i + 1))) (lv' := [(4, .int (nI (i + 1))), (3, .int (oI ((T v)[i + 1]?))), (0, .ref h), (1, .int (nI u)), (2, .int (nI v))]) hx hb dX0_join_44 hl (k := 4) rfl (nI_1 _) (by decide) rfl (fun ls hl => ?_)
      refine lv_goto (tgt := 12) hx hb dX0_join_47 (by decide) ?_
      exact ih_12 (i + 1, va_up f b (f u)) _ _ _ ⟨(show (i + 1) ≤ (T v).length ∧ JI T a v fs (i + 1) (va_up f b (f u)) from ⟨ix_lt hb3, JI_step hi_12.2 hb3 (JI_u hR ha hav hul hi_12.2)⟩), hP.sub [0, 1, 2, 3] rfl, hD.sub [0, 1, 2, 3] (by decide) rfl, hS, lv_sub hl [2, 3, 4, 1, 0] rfl⟩ (by show 200 - (i + 1) < 200 - i; omega)

theorem in_X0_joinAlong_X2 : ∀ w ∈ wsX20, w ∈ wsX0_joinAlong := by decide +kernel
set_option maxHeartbeats 4000000 in
set_option maxRecDepth 100000 in
/-- Chains.joinAlong(ways) -/
theorem c_joinAlong (l : Launch) (D : va_G) (cI cJ cZ : ClassId) (h cf cn cp : Nat) (fs nx : Nat → Option Nat) (pu : Nat → Nat) (q qf qt qc ql kn : Nat) (fr tt ct : Nat → Nat) (fa : Nat → Bool) (hkn : kn ≤ 1000) (hB : WB fr tt ct) (T : Nat → List Nat) (hR : CR T fs nx) (sz : Nat) : Met l yX0_joinAlong wsX0_joinAlong ({ frames := 1, cells := 0, slots := 0, locals := 24 }) (PcM D cI cJ cZ [.ref h, .ref q] [(h, .inr (0, [.ref cf, .ref cn, .ref cp])), (cf, .inl (cI, 200, .inl (oIf fs))), (cn, .inl (cI, 200, .inl (oIf nx))), (cp, .inl (cJ, 200, .inr (.inl (lNf pu)))), (q, .inr (2, [.ref qf, .ref qt, .ref qc, .ref ql, .int (nI kn)])), (qf, .inl (cI, 1000, .inl (nIf fr))), (qt, .inl (cI, 1000, .inl (nIf tt))), (qc, .inl (cJ, 1000, .inr (.inl (lNf ct)))), (ql, .inl (cZ, 1000, .inl (bIf fa)))] sz) (va_Qv (fun z : (Nat → Option Nat) × (Nat → Option Nat) => CR ((wl kn (pk fr tt ct fa)).foldl stepT T) z.1 z.2) (Bm D [(h, .inr (0, [.ref cf, .ref cn, .ref cp])), (cf, .inl (cI, 200, .inl (oIf fs))), (cn, .inl (cI, 200, .inl (oIf nx))), (cp, .inl (cJ, 200, .inr (.inl (lNf pu)))), (q, .inr (2, [.ref qf, .ref qt, .ref qc, .ref ql, .int (nI kn)])), (qf, .inl (cI, 1000, .inl (nIf fr))), (qt, .inl (cI, 1000, .inl (nIf tt))), (qc, .inl (cJ, 1000, .inr (.inl (lNf ct)))), (ql, .inl (cZ, 1000, .inl (bIf fa)))] sz (fun z : (Nat → Option Nat) × (Nat → Option Nat) => [(h, .inr (0, [.ref cf, .ref cn, .ref cp])), (cf, .inl (cI, 200, .inl (oIf z.1))), (cn, .inl (cI, 200, .inl (oIf z.2))), (cp, .inl (cJ, 200, .inr (.inl (lNf pu)))), (q, .inr (2, [.ref qf, .ref qt, .ref qc, .ref ql, .int (nI kn)])), (qf, .inl (cI, 1000, .inl (nIf fr))), (qt, .inl (cI, 1000, .inl (nIf tt))), (qc, .inl (cJ, 1000, .inr (.inl (lNf ct)))), (ql, .inl (cZ, 1000, .inl (bIf fa)))])) (va_A [(h, .inr (0, [.ref cf, .ref cn, .ref cp])), (cf, .inl (cI, 200, .inl (oIf fs))), (cn, .inl (cI, 200, .inl (oIf nx))), (cp, .inl (cJ, 200, .inr (.inl (lNf pu)))), (q, .inr (2, [.ref qf, .ref qt, .ref qc, .ref ql, .int (nI kn)])), (qf, .inl (cI, 1000, .inl (nIf fr))), (qt, .inl (cI, 1000, .inl (nIf tt))), (qc, .inl (cJ, 1000, .inr (.inl (lNf ct)))), (ql, .inl (cZ, 1000, .inl (bIf fa)))] sz)) 0 0 (va_A [(h, .inr (0, [.ref cf, .ref cn, .ref cp])), (cf, .inl (cI, 200, .inl (oIf fs))), (cn, .inl (cI, 200, .inl (oIf nx))), (cp, .inl (cJ, 200, .inr (.inl (lNf pu)))), (q, .inr (2, [.ref qf, .ref qt, .ref qc, .ref ql, .int (nI kn)])), (qf, .inl (cI, 1000, .inl (nIf fr))), (qt, .inl (cI, 1000, .inl (nIf tt))), (qc, .inl (cJ, 1000, .inr (.inl (lNf ct)))), (ql, .inl (cZ, 1000, .inl (bIf fa)))] sz) := by
  refine startM (cc := cX0_joinAlong) (maxL := 5) (ret := none) (by decide) rfl (Nat.le_of_ble_eq_true rfl) ?_
  intro p e s m below meth c ls A hA hAe hx hb hr hml hown hts hlocks hin hE hP hD hS hl
  have hl : lv_has ls 5 [(0, .ref h), (1, .ref q)] := hl
  refine lv_iconst (v := nI 0) hx hb dX0_joinAlong_0 (by decide) ?_
  refine lv_istore_n (lv' := [(2, .int (nI 0)), (0, .ref h), (1, .ref q)]) hx hb dX0_joinAlong_1 rfl hl (by decide) rfl (fun ls hl => ?_)
  refine r_loop (σ := Nat × (Nat → Option Nat) × (Nat → Option Nat)) (fun z0 => kn - z0.1) (fun z0 H locs ls => (z0.1 ≤ kn ∧ CR ((wl z0.1 (pk fr tt ct fa)).foldl stepT T) z0.2.1 z0.2.2) ∧ va_P D vwCl [(h, .inr (0, [.ref cf, .ref cn, .ref cp])), (cf, .inl (cI, 200, .inl (oIf z0.2.1))), (cn, .inl (cI, 200, .inl (oIf z0.2.2))), (cp, .inl (cJ, 200, .inr (.inl (lNf pu)))), (q, .inr (2, [.ref qf, .ref qt, .ref qc, .ref ql, .int (nI kn)])), (qf, .inl (cI, 1000, .inl (nIf fr))), (qt, .inl (cI, 1000, .inl (nIf tt))), (qc, .inl (cJ, 1000, .inr (.inl (lNf ct)))), (ql, .inl (cZ, 1000, .inl (bIf fa)))] H ∧ va_D A [(h, .inr (0, [.ref cf, .ref cn, .ref cp])), (cf, .inl (cI, 200, .inl (oIf z0.2.1))), (cn, .inl (cI, 200, .inl (oIf z0.2.2))), (cp, .inl (cJ, 200, .inr (.inl (lNf pu)))), (q, .inr (2, [.ref qf, .ref qt, .ref qc, .ref ql, .int (nI kn)])), (qf, .inl (cI, 1000, .inl (nIf fr))), (qt, .inl (cI, 1000, .inl (nIf tt))), (qc, .inl (cJ, 1000, .inr (.inl (lNf ct)))), (ql, .inl (cZ, 1000, .inl (bIf fa)))] ∧ va_S A s.heap H locs ∧ lv_has ls 5 [(0, .ref h), (1, .ref q), (2, .int (nI z0.1))]) ?_ (0, fs, nx) ⟨⟨Nat.zero_le _, hR⟩, hP.sub [0, 1, 2, 3, 4, 5, 6, 7, 8] rfl, hD.sub [0, 1, 2, 3, 4, 5, 6, 7, 8] (by decide) rfl, hS, lv_sub hl [1, 2, 0] rfl⟩
  rintro ⟨k, f, g⟩ H locs ls ⟨hi_2, hP, hD, hS, hl⟩ ih_2
  have hi_2 : k ≤ kn ∧ CR ((wl k (pk fr tt ct fa)).foldl stepT T) f g := hi_2
  have hP : va_P D vwCl [(h, .inr (0, [.ref cf, .ref cn, .ref cp])), (cf, .inl (cI, 200, .inl (oIf f))), (cn, .inl (cI, 200, .inl (oIf g))), (cp, .inl (cJ, 200, .inr (.inl (lNf pu)))), (q, .inr (2, [.ref qf, .ref qt, .ref qc, .ref ql, .int (nI kn)])), (qf, .inl (cI, 1000, .inl (nIf fr))), (qt, .inl (cI, 1000, .inl (nIf tt))), (qc, .inl (cJ, 1000, .inr (.inl (lNf ct)))), (ql, .inl (cZ, 1000, .inl (bIf fa)))] H := hP
  have hD : va_D A [(h, .inr (0, [.ref cf, .ref cn, .ref cp])), (cf, .inl (cI, 200, .inl (oIf f))), (cn, .inl (cI, 200, .inl (oIf g))), (cp, .inl (cJ, 200, .inr (.inl (lNf pu)))), (q, .inr (2, [.ref qf, .ref qt, .ref qc, .ref ql, .int (nI kn)])), (qf, .inl (cI, 1000, .inl (nIf fr))), (qt, .inl (cI, 1000, .inl (nIf tt))), (qc, .inl (cJ, 1000, .inr (.inl (lNf ct)))), (ql, .inl (cZ, 1000, .inl (bIf fa)))] := hD
  have hl : lv_has ls 5 [(0, .ref h), (1, .ref q), (2, .int (nI k))] := hl
  have b1 := hB k
  have hfs := CR_f hi_2.2
  have hgs := CR_n hi_2.2
  refine lv_iload_n hx hb dX0_joinAlong_2 rfl (lv_at hl 2 rfl) ?_
  refine lv_aload_n hx hb dX0_joinAlong_3 rfl (lv_at hl 1 rfl) ?_
  refine va_getN (D := D) (ci := 2) (v := .int (nI kn)) (C := RX2) (T := TX2) (N := 5) hx hb hts in_X0_joinAlong_X2 hown hE.1 hP 4 rfl rfl 4 (by decide) (va_Nw.use rfl hE.2.1.2.2.2.2) (fun _ h9 => h9) rfl dX0_joinAlong_4 ?_
  refine r_icmp_ge (tgt := 68) hx hb (x := k) (y := kn) (by omega) (by omega) dX0_joinAlong_7 (by decide) (fun c_7 => ?_) (fun c_7 => ?_)
  · skip
    exact e_mv (f, g) hAe hx hb hr hlocks dX0_joinAlong_68 (hP.sub [0, 1, 2, 3, 4, 5, 6, 7, 8] rfl) (hD.sub [0, 1, 2, 3, 4, 5, 6, 7, 8] (by decide) rfl) hS (by have e9 : k = kn := (by omega); subst e9; exact hi_2.2)
  · skip
    refine lv_aload_n hx hb dX0_joinAlong_10 rfl (lv_at hl 1 rfl) ?_
    refine va_getN (D := D) (ci := 2) (v := .ref qf) (C := RX2) (T := TX2) (N := 5) hx hb hts in_X0_joinAlong_X2 hown hE.1 hP 4 rfl rfl 0 (by decide) (va_Nw.use rfl hE.2.1.1) (fun _ h9 => h9) rfl dX0_joinAlong_11 ?_
    refine lv_iload_n hx hb dX0_joinAlong_14 rfl (lv_at hl 2 rfl) ?_
    refine r_nld hx hb hE hP 5 rfl (k := k) (by omega) (by decide) dX0_joinAlong_15 ?_
    refine lv_istore_n (lv' := [(3, .int (nI (fr k))), (0, .ref h), (1, .ref q), (2, .int (nI k))]) hx hb dX0_joinAlong_16 rfl hl (by decide) rfl (fun ls hl => ?_)
    refine lv_aload_n hx hb dX0_joinAlong_17 rfl (lv_at hl 2 rfl) ?_
    refine va_getN (D := D) (ci := 2) (v := .ref qt) (C := RX2) (T := TX2) (N := 5) hx hb hts in_X0_joinAlong_X2 hown hE.1 hP 4 rfl rfl 1 (by decide) (va_Nw.use rfl hE.2.1.2.1) (fun _ h9 => h9) rfl dX0_joinAlong_18 ?_
    refine lv_iload_n hx hb dX0_joinAlong_21 rfl (lv_at hl 3 rfl) ?_
    refine r_nld hx hb hE hP 6 rfl (k := k) (by omega) (by decide) dX0_joinAlong_22 ?_
    refine lv_istore (lv' := [(4, .int (nI (tt k))), (3, .int (nI (fr k))), (0, .ref h), (1, .ref q), (2, .int (nI k))]) hx hb dX0_joinAlong_23 hl (by decide) rfl (fun ls hl => ?_)
    refine lv_aload_n hx hb dX0_joinAlong_25 rfl (lv_at hl 3 rfl) ?_
    refine va_getN (D := D) (ci := 2) (v := .ref ql) (C := RX2) (T := TX2) (N := 5) hx hb hts in_X0_joinAlong_X2 hown hE.1 hP 4 rfl rfl 3 (by decide) (va_Nw.use rfl hE.2.1.2.2.2.1) (fun _ h9 => h9) rfl dX0_joinAlong_26 ?_
    refine lv_iload_n hx hb dX0_joinAlong_29 rfl (lv_at hl 4 rfl) ?_
    refine r_bld hx hb hE hP 8 rfl (k := k) (by omega) (by decide) dX0_joinAlong_30 ?_
    refine r_b_eq (tgt := 62) hx hb dX0_joinAlong_31 (by decide) (fun c_31 => ?_) (fun c_31 => ?_)
    · skip
      refine lv_iinc (v := (nI (k + 1))) (lv' := [(2, .int (nI (k + 1))), (4, .int (nI (tt k))), (3, .int (nI (fr k))), (0, .ref h), (1, .ref q)]) hx hb dX0_joinAlong_62 hl (k := 4) rfl (nI_1 _) (by decide) rfl (fun ls hl => ?_)
      refine lv_goto (tgt := 2) hx hb dX0_joinAlong_65 (by decide) ?_
      exact ih_2 (k + 1, f, g) _ _ _ ⟨(show (k + 1) ≤ kn ∧ CR ((wl (k + 1) (pk fr tt ct fa)).foldl stepT T) f g from ⟨by omega, ja_skip hi_2.2 (Or.inl c_31)⟩), hP.sub [0, 1, 2, 3, 4, 5, 6, 7, 8] rfl, hD.sub [0, 1, 2, 3, 4, 5, 6, 7, 8] (by decide) rfl, hS, lv_sub hl [3, 4, 0] rfl⟩ (by show kn - (k + 1) < kn - k; omega)
    · skip
      refine lv_aload_n hx hb dX0_joinAlong_34 rfl (lv_at hl 3 rfl) ?_
      refine va_getN (D := D) (ci := 2) (v := .ref qc) (C := RX2) (T := TX2) (N := 5) hx hb hts in_X0_joinAlong_X2 hown hE.1 hP 4 rfl rfl 2 (by decide) (va_Nw.use rfl hE.2.1.2.2.1) (fun _ h9 => h9) rfl dX0_joinAlong_35 ?_
      refine lv_iload_n hx hb dX0_joinAlong_38 rfl (lv_at hl 4 rfl) ?_
      refine r_lld hx hb hE hP 7 rfl (k := k) (by omega) (by decide) dX0_joinAlong_39 ?_
      refine lv_lconst (v := lN 0) hx hb dX0_joinAlong_40 (by decide) ?_
      refine r_l_le (tgt := 62) hx hb (x := ct k) (y := 0) (by omega) (by omega) dX0_joinAlong_41 dX0_joinAlong_42 (by decide) (fun c_41 => ?_) (fun c_41 => ?_)
      · skip
        refine lv_iinc (v := (nI (k + 1))) (lv' := [(2, .int (nI (k + 1))), (4, .int (nI (tt k))), (3, .int (nI (fr k))), (0, .ref h), (1, .ref q)]) hx hb dX0_joinAlong_62 hl (k := 4) rfl (nI_1 _) (by decide) rfl (fun ls hl => ?_)
        refine lv_goto (tgt := 2) hx hb dX0_joinAlong_65 (by decide) ?_
        exact ih_2 (k + 1, f, g) _ _ _ ⟨(show (k + 1) ≤ kn ∧ CR ((wl (k + 1) (pk fr tt ct fa)).foldl stepT T) f g from ⟨by omega, ja_skip hi_2.2 (Or.inr (Or.inl c_41))⟩), hP.sub [0, 1, 2, 3, 4, 5, 6, 7, 8] rfl, hD.sub [0, 1, 2, 3, 4, 5, 6, 7, 8] (by decide) rfl, hS, lv_sub hl [3, 4, 0] rfl⟩ (by show kn - (k + 1) < kn - k; omega)
      · skip
        refine lv_aload_n hx hb dX0_joinAlong_45 rfl (lv_at hl 2 rfl) ?_
        refine lv_iload_n hx hb dX0_joinAlong_46 rfl (lv_at hl 1 rfl) ?_
        refine lv_iload hx hb dX0_joinAlong_47 (lv_at hl 0 rfl) ?_
        refine callRi (As := [.int (nI (fr k)), .int (nI (tt k))]) (rest := []) ⟨hx, hb, hml, hown, hts⟩ (c_mayJoin l D cI cJ cZ h cf cn cp f g pu hfs hgs (fr k) (tt k) b1.1 b1.2.1) (cwV 2 hts gX0_joinAlong_X0_mayJoin rfl rfl rfl (by decide +kernel) ⟨Nat.le_of_ble_eq_true rfl, Nat.le_of_ble_eq_true rfl⟩) (preR hE hP 0 0 rfl rfl rfl [0, 1, 2, 3] rfl) rfl hl.1 (Nat.le_of_ble_eq_true rfl) dX0_joinAlong_49 ⟨Nat.zero_le _, Nat.zero_le _⟩ rfl (fun r1 hr1 => ?_)
        subst hr1
        refine r_b_eq (tgt := 62) hx hb dX0_joinAlong_52 (by decide) (fun c_52 => ?_) (fun c_52 => ?_)
        · skip
          refine lv_iinc (v := (nI (k + 1))) (lv' := [(2, .int (nI (k + 1))), (4, .int (nI (tt k))), (3, .int (nI (fr k))), (0, .ref h), (1, .ref q)]) hx hb dX0_joinAlong_62 hl (k := 4) rfl (nI_1 _) (by decide) rfl (fun ls hl => ?_)
          refine lv_goto (tgt := 2) hx hb dX0_joinAlong_65 (by decide) ?_
          exact ih_2 (k + 1, f, g) _ _ _ ⟨(show (k + 1) ≤ kn ∧ CR ((wl (k + 1) (pk fr tt ct fa)).foldl stepT T) f g from ⟨by omega, ja_skip hi_2.2 (Or.inr (Or.inr c_52))⟩), hP.sub [0, 1, 2, 3, 4, 5, 6, 7, 8] rfl, hD.sub [0, 1, 2, 3, 4, 5, 6, 7, 8] (by decide) rfl, hS, lv_sub hl [3, 4, 0] rfl⟩ (by show kn - (k + 1) < kn - k; omega)
        · skip
          obtain ⟨a, ha, hul, htv, hav, hv0⟩ := mj_spec hi_2.2 c_52
          refine lv_aload_n hx hb dX0_joinAlong_55 rfl (lv_at hl 2 rfl) ?_
          refine lv_iload_n hx hb dX0_joinAlong_56 rfl (lv_at hl 1 rfl) ?_
          refine lv_iload hx hb dX0_joinAlong_57 (lv_at hl 0 rfl) ?_
          refine callMv (As := [.int (nI (fr k)), .int (nI (tt k))]) (rest := []) (wr := [(q, .inr (2, [.ref qf, .ref qt, .ref qc, .ref ql, .int (nI kn)])), (qf, .inl (cI, 1000, .inl (nIf fr))), (qt, .inl (cI, 1000, .inl (nIf tt))), (qc, .inl (cJ, 1000, .inr (.inl (lNf ct)))), (ql, .inl (cZ, 1000, .inl (bIf fa)))]) ⟨hx, hb, hml, hown, hts⟩ (c_join l D cI cJ cZ h cf cn cp f g pu ((wl k (pk fr tt ct fa)).foldl stepT T) hi_2.2 _ (fr k) (tt k) a b1.1 b1.2.1 ha hul htv hav) (cwV 2 hts gX0_joinAlong_X0_join rfl rfl rfl (by decide +kernel) ⟨Nat.le_of_ble_eq_true rfl, Nat.le_of_ble_eq_true rfl⟩) (preM hE hP hD 0 0 rfl rfl rfl [0, 1, 2, 3] rfl rfl rfl) rfl hl.1 (Nat.le_of_ble_eq_true rfl) dX0_joinAlong_59 ⟨Nat.zero_le _, Nat.zero_le _⟩ rfl hP hD hS hA [0, 1, 2, 3] [4, 5, 6, 7, 8] rfl rfl (by decide) (by decide) (fun z H locs hu hP hD hS => ?_)
          have hP : va_P D vwCl [(q, .inr (2, [.ref qf, .ref qt, .ref qc, .ref ql, .int (nI kn)])), (qf, .inl (cI, 1000, .inl (nIf fr))), (qt, .inl (cI, 1000, .inl (nIf tt))), (qc, .inl (cJ, 1000, .inr (.inl (lNf ct)))), (ql, .inl (cZ, 1000, .inl (bIf fa))), (h, .inr (0, [.ref cf, .ref cn, .ref cp])), (cf, .inl (cI, 200, .inl (oIf z.1))), (cn, .inl (cI, 200, .inl (oIf z.2))), (cp, .inl (cJ, 200, .inr (.inl (lNf pu))))] H := hP
          have hD : va_D A [(q, .inr (2, [.ref qf, .ref qt, .ref qc, .ref ql, .int (nI kn)])), (qf, .inl (cI, 1000, .inl (nIf fr))), (qt, .inl (cI, 1000, .inl (nIf tt))), (qc, .inl (cJ, 1000, .inr (.inl (lNf ct)))), (ql, .inl (cZ, 1000, .inl (bIf fa))), (h, .inr (0, [.ref cf, .ref cn, .ref cp])), (cf, .inl (cI, 200, .inl (oIf z.1))), (cn, .inl (cI, 200, .inl (oIf z.2))), (cp, .inl (cJ, 200, .inr (.inl (lNf pu))))] := hD
          have hu9 := ja_join hi_2.2 c_31 c_41 ha hul htv hav hv0 hu
          refine lv_iinc (v := (nI (k + 1))) (lv' := [(2, .int (nI (k + 1))), (4, .int (nI (tt k))), (3, .int (nI (fr k))), (0, .ref h), (1, .ref q)]) hx hb dX0_joinAlong_62 hl (k := 4) rfl (nI_1 _) (by decide) rfl (fun ls hl => ?_)
          refine lv_goto (tgt := 2) hx hb dX0_joinAlong_65 (by decide) ?_
          exact ih_2 (k + 1, z.1, z.2) _ _ _ ⟨(show (k + 1) ≤ kn ∧ CR ((wl (k + 1) (pk fr tt ct fa)).foldl stepT T) z.1 z.2 from ⟨by omega, hu9⟩), hP.sub [5, 6, 7, 8, 0, 1, 2, 3, 4] rfl, hD.sub [5, 6, 7, 8, 0, 1, 2, 3, 4] (by decide) rfl, hS, lv_sub hl [3, 4, 0] rfl⟩ (by show kn - (k + 1) < kn - k; omega)
end
section
/-! a line of blocks; the most pulled chain; pulls -/
def LR (P : List Nat) (n : Nat) (me : Nat → Nat) (pl : Nat → Option Nat) : Prop := n = P.length ∧ (∀ i b, P[i]? = some b → me i = b) ∧ (∀ b i, pl b = some i ↔ P[i]? = some b)
theorem LR_nil {me : Nat → Nat} : LR [] 0 me (fun _ => none) := ⟨rfl, fun i b h => by simp at h, fun b i => by simp⟩
theorem LR_push {P : List Nat} {n b : Nat} {me : Nat → Nat} {pl : Nat → Option Nat} (h : LR P n me pl) (hb : b ∉ P) : LR (P ++ [b]) (n + 1) (va_up me n b) (va_up pl b (some n)) := by
  obtain ⟨h1, h2, h3⟩ := h
  subst h1
  have key : ∀ i x, (P ++ [b])[i]? = some x ↔ (P[i]? = some x ∨ (i = P.length ∧ x = b)) := by
    intro i x
    by_cases hi : i < P.length
    · rw [List.getElem?_append_left hi]
      exact ⟨Or.inl, fun q => q.elim id (fun z => by omega)⟩
    · rw [List.getElem?_append_right (by omega)]
      by_cases hi2 : i = P.length
      · subst hi2
        simp [eq_comm]
      · have e1 : ([b] : List Nat)[i - P.length]? = none := List.getElem?_eq_none (by simp; omega)
        have e2 : P[i]? = none := List.getElem?_eq_none (by omega)
        rw [e1, e2]
        simp [hi2]
  refine ⟨by simp, ?_, ?_⟩
  · intro i x hx
    rcases (key i x).mp hx with q | ⟨q1, q2⟩
    · have hl := (List.getElem?_eq_some_iff.mp q).1
      rw [va_up_ne _ _ (by omega)]
      exact h2 i x q
    · rw [q1, va_up_self, q2]
  · intro x i
    rw [key i x]
    by_cases hx : x = b
    · subst hx
      rw [va_up_self]
      constructor
      · intro q
        exact Or.inr ⟨(Option.some.inj q).symm, rfl⟩
      · rintro (q | q)
        · exact absurd (List.mem_of_getElem? q) hb
        · rw [q.1]
    · rw [va_up_ne _ _ hx, h3 x i]
      exact ⟨Or.inl, fun q => q.elim id (fun z => absurd z.2 hx)⟩
theorem LR_n {P Q : List Nat} {i n3 : Nat} {me3 : Nat → Nat} {pl3 : Nat → Option Nat} (h : LR (P ++ Q.take i) n3 me3 pl3) (hi : i ≤ Q.length) : n3 = P.length + i := by
  rw [h.1]
  simp
  omega
theorem LR_take {P Q : List Nat} {i n3 b : Nat} {me3 : Nat → Nat} {pl3 : Nat → Option Nat} (h : LR (P ++ Q.take i) n3 me3 pl3) (hb : Q[i]? = some b) (hn : Q.Nodup) (hdj : ∀ b, b ∈ Q → b ∉ P) : LR (P ++ Q.take (i + 1)) (n3 + 1) (va_up me3 n3 b) (va_up pl3 b (some n3)) := by
  have e : Q.take (i + 1) = Q.take i ++ [b] := by rw [List.take_add_one, hb]; rfl
  rw [e, ← List.append_assoc]
  refine LR_push h ?_
  intro q
  rcases List.mem_append.mp q with q | q
  · exact hdj b (List.mem_of_getElem? hb) q
  · have h1 : (Q.take i ++ Q.drop i).Nodup := by rw [List.take_append_drop]; exact hn
    have h2 : b ∈ Q.drop i := List.mem_of_getElem? (i := 0) (by rw [List.getElem?_drop]; exact hb)
    exact (List.nodup_append.mp h1).2.2 b q b h2 rfl
theorem LR_b {P : List Nat} {n : Nat} {me : Nat → Nat} {pl : Nat → Option Nat} (h : LR P n me pl) (hle : P.length ≤ 200) : ∀ i j, pl i = some j → j < 200 := by
  intro i j q
  have := ix_lt ((h.2.2 i j).mp q)
  omega
theorem LR_nodup {P : List Nat} {n : Nat} {me : Nat → Nat} {pl : Nat → Option Nat} (h : LR P n me pl) : P.Nodup := by
  refine List.pairwise_iff_getElem.mpr (fun i j hi hj hij e => ?_)
  have e1 := (h.2.2 (P[i]) i).mpr (List.getElem?_eq_getElem hi)
  have e2 := (h.2.2 (P[j]) j).mpr (List.getElem?_eq_getElem hj)
  rw [e, e2] at e1
  have := Option.some.inj e1
  omega
theorem LR_mem {P : List Nat} {n b : Nat} {me : Nat → Nat} {pl : Nat → Option Nat} (h : LR P n me pl) : (pl b).isSome = true ↔ b ∈ P := by
  constructor
  · intro q
    obtain ⟨i, hi⟩ := Option.isSome_iff_exists.mp q
    exact List.mem_of_getElem? ((h.2.2 b i).mp hi)
  · intro q
    obtain ⟨i, hi⟩ := List.getElem?_of_mem q
    rw [(h.2.2 b i).mpr hi]
    rfl
theorem LR_none {P : List Nat} {n b : Nat} {me : Nat → Nat} {pl : Nat → Option Nat} (h : LR P n me pl) : pl b = none ↔ b ∉ P := by
  rw [← LR_mem h]
  cases pl b <;> simp
def bestF (fs : Nat → Option Nat) (pu : Nat → Nat) (pl2 : Nat → Option Nat) (me : Nat → Nat) : Nat → Option Nat
  | 0 => none
  | k + 1 => if (pl2 (me k)).isSome = true then bestF fs pu pl2 me k else match bestF fs pu pl2 me k, fs (me k) with
    | none, q => q
    | some c, some d => if pu c < pu d then some d else some c
    | some c, none => some c
theorem best_bd {fs pl2 : Nat → Option Nat} {pu me : Nat → Nat} {k : Nat} {Bd : Nat → Prop} (h : ∀ c, bestF fs pu pl2 me k = some c → Bd c) (h2 : pl2 (me k) = none → ∀ d, fs (me k) = some d → Bd d) : ∀ c, bestF fs pu pl2 me (k + 1) = some c → Bd c := by
  intro c hc
  simp only [bestF] at hc
  split at hc
  · exact h c hc
  · next hz =>
    have hz : pl2 (me k) = none := by simpa using hz
    cases hb : bestF fs pu pl2 me k with
    | none =>
      rw [hb] at hc
      exact h2 hz c hc
    | some c1 =>
      cases hf : fs (me k) with
      | none =>
        rw [hb, hf] at hc
        cases hc
        exact h _ hb
      | some d1 =>
        rw [hb, hf] at hc
        dsimp only at hc
        split at hc
        · cases hc
          exact h2 hz _ hf
        · cases hc
          exact h _ hb
def adT (x y : Option Nat) (c q : Nat) (p : Nat → Nat) : Nat → Nat := fun d => p d + (if x = some c ∧ y = some d then q else 0)
theorem adT_no {x y : Option Nat} {c q : Nat} {p : Nat → Nat} (h : x ≠ some c ∨ y = none) : p = adT x y c q p := by
  funext d
  unfold adT
  rw [if_neg]
  · rfl
  · rintro ⟨h1, h2⟩
    rcases h with z | z
    · exact z h1
    · rw [z] at h2
      cases h2
theorem adT_yes {x y : Option Nat} {c q d : Nat} {p : Nat → Nat} (h1 : x = some c) (h2 : y = some d) : va_up p d (p d + q) = adT x y c q p := by
  funext j
  unfold adT va_up
  rw [h1, h2]
  by_cases hj : j = d
  · subst hj
    simp
  · rw [if_neg hj, if_neg]
    · rfl
    · rintro ⟨-, z⟩
      exact hj (Option.some.inj z).symm
def plF (fs : Nat → Option Nat) (c : Nat) (fr tt ct pu : Nat → Nat) : Nat → Nat → Nat
  | 0 => pu
  | k + 1 => adT (fs (tt k)) (fs (fr k)) c (ct k) (adT (fs (fr k)) (fs (tt k)) c (ct k) (plF fs c fr tt ct pu k))
end
section
theorem fl_X0_mostPulled_18 : Cond.fieldLink RX0 18 "BlockRows$Chains" "pulls" "[J" ∈ wsX0_mostPulled := by decide +kernel
theorem fl_X0_mostPulled_9 : Cond.fieldLink RX0 9 "BlockRows$Chains" "first" "[I" ∈ wsX0_mostPulled := by decide +kernel
theorem in_X0_mostPulled_X0 : ∀ w ∈ wsX00, w ∈ wsX0_mostPulled := by decide +kernel
theorem in_X0_mostPulled_X1 : ∀ w ∈ wsX10, w ∈ wsX0_mostPulled := by decide +kernel
set_option maxHeartbeats 4000000 in
set_option maxRecDepth 100000 in
/-- Chains.mostPulled -/
theorem c_mostPulled (l : Launch) (D : va_G) (cI cJ cZ : ClassId) (h cf cn cp : Nat) (fs nx : Nat → Option Nat) (pu : Nat → Nat) (q qm qp nn : Nat) (me : Nat → Nat) (pl : Nat → Option Nat) (r rm rp n2 : Nat) (me2 : Nat → Nat) (pl2 : Nat → Option Nat) (hfs : ∀ i j, fs i = some j → j < 200) (hnn : nn ≤ 200) (hpl2 : ∀ i j, pl2 i = some j → j < 200) (hme : ∀ k, k < nn → me k < 200 ∧ ∃ d, fs (me k) = some d) (hpu : ∀ k, k < nn → pl2 (me k) = none → ∀ d, fs (me k) = some d → pu d < 2 ^ 63) : Met l yX0_mostPulled wsX0_mostPulled ({ frames := 1, cells := 0, slots := 0, locals := 21 }) (PcR D cI cJ cZ [.ref h, .ref q, .ref r] [(h, .inr (0, [.ref cf, .ref cn, .ref cp])), (cf, .inl (cI, 200, .inl (oIf fs))), (cn, .inl (cI, 200, .inl (oIf nx))), (cp, .inl (cJ, 200, .inr (.inl (lNf pu)))), (q, .inr (1, [.ref qm, .ref qp, .int (nI nn)])), (qm, .inl (cI, 200, .inl (nIf me))), (qp, .inl (cI, 200, .inl (oIf pl))), (r, .inr (1, [.ref rm, .ref rp, .int (nI n2)])), (rm, .inl (cI, 200, .inl (nIf me2))), (rp, .inl (cI, 200, .inl (oIf pl2)))]) (vp_Si (fun r_ => r_ = oI (bestF fs pu pl2 me nn))) 0 0 (fun _ => False) := by
  refine startR (cc := cX0_mostPulled) (maxL := 6) (ret := (some .int)) (by decide) rfl (Nat.le_of_ble_eq_true rfl) ?_
  intro p e s m below meth c ls hx hb hr hml hown hts hlocks hE hP hl
  have hl : lv_has ls 6 [(0, .ref h), (1, .ref q), (2, .ref r)] := hl
  refine lv_iconst (v := -1) hx hb dX0_mostPulled_0 (by decide) ?_
  refine lv_istore_n (lv' := [(3, .int (-1)), (0, .ref h), (1, .ref q), (2, .ref r)]) hx hb dX0_mostPulled_1 rfl hl (by decide) rfl (fun ls hl => ?_)
  refine lv_iconst (v := nI 0) hx hb dX0_mostPulled_2 (by decide) ?_
  refine lv_istore (lv' := [(4, .int (nI 0)), (3, .int (-1)), (0, .ref h), (1, .ref q), (2, .ref r)]) hx hb dX0_mostPulled_3 hl (by decide) rfl (fun ls hl => ?_)
  have hl : lv_has ls 6 [(4, .int (nI 0)), (3, .int (oI (bestF fs pu pl2 me 0))), (0, .ref h), (1, .ref q), (2, .ref r)] := hl
  refine r_loopR (σ := Nat) (fun z0 => nn - z0) (fun z0 ls => (z0 ≤ nn ∧ ∀ c, bestF fs pu pl2 me z0 = some c → c < 200 ∧ pu c < 2 ^ 63) ∧ lv_has ls 6 [(0, .ref h), (1, .ref q), (2, .ref r), (3, .int (oI (bestF fs pu pl2 me z0))), (4, .int (nI z0))]) ?_ 0 ⟨⟨Nat.zero_le _, fun c hc => by cases hc⟩, lv_sub hl [2, 3, 4, 1, 0] rfl⟩
  rintro k ls ⟨hi_5, hl⟩ ih_5
  have hi_5 : k ≤ nn ∧ ∀ c, bestF fs pu pl2 me k = some c → c < 200 ∧ pu c < 2 ^ 63 := hi_5
  have hl : lv_has ls 6 [(0, .ref h), (1, .ref q), (2, .ref r), (3, .int (oI (bestF fs pu pl2 me k))), (4, .int (nI k))] := hl
  obtain ⟨hi_a, hi_b⟩ := id hi_5
  refine lv_iload hx hb dX0_mostPulled_5 (lv_at hl 4 rfl) ?_
  refine lv_aload_n hx hb dX0_mostPulled_7 rfl (lv_at hl 1 rfl) ?_
  refine va_getN (D := D) (ci := 1) (v := .int (nI nn)) (C := RX1) (T := TX1) (N := 3) hx hb hts in_X0_mostPulled_X1 hown hE.1 hP 4 rfl rfl 2 (by decide) (va_Nw.use rfl hE.2.2.1.2.2.1) (fun _ h9 => h9) rfl dX0_mostPulled_8 ?_
  refine r_icmp_ge (tgt := 76) hx hb (x := k) (y := nn) (by omega) (by omega) dX0_mostPulled_11 (by decide) (fun c_11 => ?_) (fun c_11 => ?_)
  · skip
    refine lv_iload_n hx hb dX0_mostPulled_76 rfl (lv_at hl 3 rfl) ?_
    exact e_i hx hb hr hlocks dX0_mostPulled_77 (by rw [show k = nn by omega])
  · skip
    have b1 := hme k c_11
    obtain ⟨d, hd⟩ := b1.2
    have hd200 := hfs _ _ hd
    refine lv_aload_n hx hb dX0_mostPulled_14 rfl (lv_at hl 1 rfl) ?_
    refine va_getN (D := D) (ci := 1) (v := .ref qm) (C := RX1) (T := TX1) (N := 3) hx hb hts in_X0_mostPulled_X1 hown hE.1 hP 4 rfl rfl 0 (by decide) (va_Nw.use rfl hE.2.2.1.2.1) (fun _ h9 => h9) rfl dX0_mostPulled_15 ?_
    refine lv_iload hx hb dX0_mostPulled_18 (lv_at hl 4 rfl) ?_
    refine r_nld hx hb hE hP 5 rfl (k := k) (by omega) (by decide) dX0_mostPulled_20 ?_
    refine lv_istore (lv' := [(5, .int (nI (me k))), (0, .ref h), (1, .ref q), (2, .ref r), (3, .int (oI (bestF fs pu pl2 me k))), (4, .int (nI k))]) hx hb dX0_mostPulled_21 hl (by decide) rfl (fun ls hl => ?_)
    refine lv_aload_n hx hb dX0_mostPulled_23 rfl (lv_at hl 3 rfl) ?_
    refine lv_iload hx hb dX0_mostPulled_24 (lv_at hl 0 rfl) ?_
    refine callRi (As := [.int (nI (me k))]) (rest := []) ⟨hx, hb, hml, hown, hts⟩ (c_holds l D cI cJ cZ r rm rp n2 me2 pl2 hpl2 (me k) b1.1) (cwV 1 hts gX0_mostPulled_X1_holds rfl rfl rfl (by decide +kernel) ⟨Nat.le_of_ble_eq_true rfl, Nat.le_of_ble_eq_true rfl⟩) (preR hE hP 1 7 rfl rfl rfl [7, 8, 9] rfl) rfl hl.1 (Nat.le_of_ble_eq_true rfl) dX0_mostPulled_26 ⟨Nat.zero_le _, Nat.zero_le _⟩ rfl (fun r1 hr1 => ?_)
    subst hr1
    refine r_b_eq (tgt := 35) hx hb dX0_mostPulled_29 (by decide) (fun c_29 => ?_) (fun c_29 => ?_)
    · skip
      have hz : pl2 (me k) = none := by simpa using c_29
      refine lv_iload_n hx hb dX0_mostPulled_35 rfl (lv_at hl 4 rfl) ?_
      refine lv_iconst (v := -1) hx hb dX0_mostPulled_36 (by decide) ?_
      refine r_o_eq (tgt := 62) hx hb (o := bestF fs pu pl2 me k) (q := none) rfl rfl (fun j hj => by have := (hi_b j hj).1; omega) (fun j h => by cases h) dX0_mostPulled_37 (by decide) (fun c_37 => ?_) (fun c_37 => ?_)
      · skip
        refine lv_aload_n hx hb dX0_mostPulled_62 rfl (lv_at hl 1 rfl) ?_
        refine va_get (D := D) (ci := 0) (v := .ref cf) (C := RX0) (T := TX0) (N := 3) hx hb hts in_X0_mostPulled_X0 hown hE.1 hP 0 rfl rfl 0 (by decide) (hts _ fl_X0_mostPulled_9) (fun _ h9 => h9) rfl dX0_mostPulled_63 ?_
        refine lv_iload hx hb dX0_mostPulled_66 (lv_at hl 0 rfl) ?_
        refine r_old hx hb hE hP 1 rfl (k := me k) (by omega) (by decide) dX0_mostPulled_68 ?_
        refine lv_istore_n (lv' := [(3, .int (oI (fs (me k)))), (5, .int (nI (me k))), (0, .ref h), (1, .ref q), (2, .ref r), (4, .int (nI k))]) hx hb dX0_mostPulled_69 rfl hl (by decide) rfl (fun ls hl => ?_)
        have hbe : bestF fs pu pl2 me (k + 1) = (fs (me k)) := by simp [bestF, c_29, c_37, hz]
        have hl : lv_has ls 6 [(3, .int (oI (bestF fs pu pl2 me (k + 1)))), (5, .int (nI (me k))), (0, .ref h), (1, .ref q), (2, .ref r), (4, .int (nI k))] := by rw [hbe]; exact hl
        refine lv_iinc (v := (nI (k + 1))) (lv' := [(4, .int (nI (k + 1))), (3, .int (oI (bestF fs pu pl2 me (k + 1)))), (5, .int (nI (me k))), (0, .ref h), (1, .ref q), (2, .ref r)]) hx hb dX0_mostPulled_70 hl (k := 5) rfl (nI_1 _) (by decide) rfl (fun ls hl => ?_)
        refine lv_goto (tgt := 5) hx hb dX0_mostPulled_73 (by decide) ?_
        exact ih_5 (k + 1) _ ⟨(show (k + 1) ≤ nn ∧ ∀ c, bestF fs pu pl2 me ((k + 1)) = some c → c < 200 ∧ pu c < 2 ^ 63 from ⟨by omega, best_bd hi_b (fun z d hd => ⟨hfs _ _ hd, hpu k (by omega) z d hd⟩)⟩), lv_sub hl [3, 4, 5, 1, 0] rfl⟩ (by show nn - (k + 1) < nn - k; omega)
      · skip
        obtain ⟨o, ho⟩ := Option.ne_none_iff_exists'.mp c_37
        obtain ⟨hb1, hb2⟩ := hi_b o ho
        have hb3 := hpu k c_11 hz d hd
        rw [ho] at hl
        have hl : lv_has ls 6 [(5, .int (nI (me k))), (0, .ref h), (1, .ref q), (2, .ref r), (3, .int (nI o)), (4, .int (nI k))] := hl
        refine lv_aload_n hx hb dX0_mostPulled_40 rfl (lv_at hl 1 rfl) ?_
        refine va_get (D := D) (ci := 0) (v := .ref cp) (C := RX0) (T := TX0) (N := 3) hx hb hts in_X0_mostPulled_X0 hown hE.1 hP 0 rfl rfl 2 (by decide) (hts _ fl_X0_mostPulled_18) (fun _ h9 => h9) rfl dX0_mostPulled_41 ?_
        refine lv_aload_n hx hb dX0_mostPulled_44 rfl (lv_at hl 1 rfl) ?_
        refine va_get (D := D) (ci := 0) (v := .ref cf) (C := RX0) (T := TX0) (N := 3) hx hb hts in_X0_mostPulled_X0 hown hE.1 hP 0 rfl rfl 0 (by decide) (hts _ fl_X0_mostPulled_9) (fun _ h9 => h9) rfl dX0_mostPulled_45 ?_
        refine lv_iload hx hb dX0_mostPulled_48 (lv_at hl 0 rfl) ?_
        refine r_old hx hb hE hP 1 rfl (k := me k) (by omega) (by decide) dX0_mostPulled_50 ?_
        refine r_as (w := .int (nI d)) (by rw [hd]; rfl) ?_
        refine r_lld hx hb hE hP 3 rfl (k := d) (by omega) (by decide) dX0_mostPulled_51 ?_
        refine lv_aload_n hx hb dX0_mostPulled_52 rfl (lv_at hl 1 rfl) ?_
        refine va_get (D := D) (ci := 0) (v := .ref cp) (C := RX0) (T := TX0) (N := 3) hx hb hts in_X0_mostPulled_X0 hown hE.1 hP 0 rfl rfl 2 (by decide) (hts _ fl_X0_mostPulled_18) (fun _ h9 => h9) rfl dX0_mostPulled_53 ?_
        refine lv_iload_n hx hb dX0_mostPulled_56 rfl (lv_at hl 4 rfl) ?_
        refine r_lld hx hb hE hP 3 rfl (k := o) (by omega) (by decide) dX0_mostPulled_57 ?_
        refine r_l_le (tgt := 70) hx hb (x := pu d) (y := pu o) (by omega) (by omega) dX0_mostPulled_58 dX0_mostPulled_59 (by decide) (fun c_58 => ?_) (fun c_58 => ?_)
        · skip
          have hbe : bestF fs pu pl2 me (k + 1) = some o := by simp [bestF, hz, ho, hd]; omega
          have hl : lv_has ls 6 [(5, .int (nI (me k))), (0, .ref h), (1, .ref q), (2, .ref r), (3, .int (oI (bestF fs pu pl2 me (k + 1)))), (4, .int (nI k))] := by rw [hbe]; exact hl
          refine lv_iinc (v := (nI (k + 1))) (lv' := [(4, .int (nI (k + 1))), (5, .int (nI (me k))), (0, .ref h), (1, .ref q), (2, .ref r), (3, .int (oI (bestF fs pu pl2 me (k + 1))))]) hx hb dX0_mostPulled_70 hl (k := 5) rfl (nI_1 _) (by decide) rfl (fun ls hl => ?_)
          refine lv_goto (tgt := 5) hx hb dX0_mostPulled_73 (by decide) ?_
          exact ih_5 (k + 1) _ ⟨(show (k + 1) ≤ nn ∧ ∀ c, bestF fs pu pl2 me ((k + 1)) = some c → c < 200 ∧ pu c < 2 ^ 63 from ⟨by omega, best_bd hi_b (fun z d hd => ⟨hfs _ _ hd, hpu k (by omega) z d hd⟩)⟩), lv_sub hl [2, 3, 4, 5, 0] rfl⟩ (by show nn - (k + 1) < nn - k; omega)
        · skip
          refine lv_aload_n hx hb dX0_mostPulled_62 rfl (lv_at hl 1 rfl) ?_
          refine va_get (D := D) (ci := 0) (v := .ref cf) (C := RX0) (T := TX0) (N := 3) hx hb hts in_X0_mostPulled_X0 hown hE.1 hP 0 rfl rfl 0 (by decide) (hts _ fl_X0_mostPulled_9) (fun _ h9 => h9) rfl dX0_mostPulled_63 ?_
          refine lv_iload hx hb dX0_mostPulled_66 (lv_at hl 0 rfl) ?_
          refine r_old hx hb hE hP 1 rfl (k := me k) (by omega) (by decide) dX0_mostPulled_68 ?_
          refine lv_istore_n (lv' := [(3, .int (oI (fs (me k)))), (5, .int (nI (me k))), (0, .ref h), (1, .ref q), (2, .ref r), (4, .int (nI k))]) hx hb dX0_mostPulled_69 rfl hl (by decide) rfl (fun ls hl => ?_)
          have hbe : bestF fs pu pl2 me (k + 1) = (fs (me k)) := by simp [bestF, hz, ho, hd]; omega
          have hl : lv_has ls 6 [(3, .int (oI (bestF fs pu pl2 me (k + 1)))), (5, .int (nI (me k))), (0, .ref h), (1, .ref q), (2, .ref r), (4, .int (nI k))] := by rw [hbe]; exact hl
          refine lv_iinc (v := (nI (k + 1))) (lv' := [(4, .int (nI (k + 1))), (3, .int (oI (bestF fs pu pl2 me (k + 1)))), (5, .int (nI (me k))), (0, .ref h), (1, .ref q), (2, .ref r)]) hx hb dX0_mostPulled_70 hl (k := 5) rfl (nI_1 _) (by decide) rfl (fun ls hl => ?_)
          refine lv_goto (tgt := 5) hx hb dX0_mostPulled_73 (by decide) ?_
          exact ih_5 (k + 1) _ ⟨(show (k + 1) ≤ nn ∧ ∀ c, bestF fs pu pl2 me ((k + 1)) = some c → c < 200 ∧ pu c < 2 ^ 63 from ⟨by omega, best_bd hi_b (fun z d hd => ⟨hfs _ _ hd, hpu k (by omega) z d hd⟩)⟩), lv_sub hl [3, 4, 5, 1, 0] rfl⟩ (by show nn - (k + 1) < nn - k; omega)
    · skip
      refine lv_goto (tgt := 70) hx hb dX0_mostPulled_32 (by decide) ?_
      have hbe : bestF fs pu pl2 me (k + 1) = (bestF fs pu pl2 me k) := by simp [bestF, c_29]
      have hl : lv_has ls 6 [(5, .int (nI (me k))), (0, .ref h), (1, .ref q), (2, .ref r), (3, .int (oI (bestF fs pu pl2 me (k + 1)))), (4, .int (nI k))] := by rw [hbe]; exact hl
      refine lv_iinc (v := (nI (k + 1))) (lv' := [(4, .int (nI (k + 1))), (5, .int (nI (me k))), (0, .ref h), (1, .ref q), (2, .ref r), (3, .int (oI (bestF fs pu pl2 me (k + 1))))]) hx hb dX0_mostPulled_70 hl (k := 5) rfl (nI_1 _) (by decide) rfl (fun ls hl => ?_)
      refine lv_goto (tgt := 5) hx hb dX0_mostPulled_73 (by decide) ?_
      exact ih_5 (k + 1) _ ⟨(show (k + 1) ≤ nn ∧ ∀ c, bestF fs pu pl2 me ((k + 1)) = some c → c < 200 ∧ pu c < 2 ^ 63 from ⟨by omega, best_bd hi_b (fun z d hd => ⟨hfs _ _ hd, hpu k (by omega) z d hd⟩)⟩), lv_sub hl [2, 3, 4, 5, 0] rfl⟩ (by show nn - (k + 1) < nn - k; omega)

theorem fl_X0_appendChain_15 : Cond.fieldLink RX0 15 "BlockRows$Chains" "next" "[I" ∈ wsX0_appendChain := by decide +kernel
theorem in_X0_appendChain_X0 : ∀ w ∈ wsX00, w ∈ wsX0_appendChain := by decide +kernel
set_option maxHeartbeats 4000000 in
set_option maxRecDepth 100000 in
/-- Chains.appendChain -/
theorem c_appendChain (l : Launch) (D : va_G) (cI cJ cZ : ClassId) (h cf cn cp : Nat) (fs nx : Nat → Option Nat) (pu : Nat → Nat) (r rm rp n2 : Nat) (me2 : Nat → Nat) (pl2 : Nat → Option Nat) (T : Nat → List Nat) (hR : CR T fs nx) (P : List Nat) (hLR : LR P n2 me2 pl2) (sz c0 : Nat) (htc : T c0 ≠ []) (hdj : ∀ b, b ∈ T c0 → b ∉ P) (hroom : P.length + (T c0).length ≤ 200) : Met l yX0_appendChain wsX0_appendChain ({ frames := 1, cells := 0, slots := 0, locals := 21 }) (PcM D cI cJ cZ [.ref h, .int (nI c0), .ref r] [(h, .inr (0, [.ref cf, .ref cn, .ref cp])), (cf, .inl (cI, 200, .inl (oIf fs))), (cn, .inl (cI, 200, .inl (oIf nx))), (cp, .inl (cJ, 200, .inr (.inl (lNf pu)))), (r, .inr (1, [.ref rm, .ref rp, .int (nI n2)])), (rm, .inl (cI, 200, .inl (nIf me2))), (rp, .inl (cI, 200, .inl (oIf pl2)))] sz) (va_Qv (fun z : Nat × (Nat → Nat) × (Nat → Option Nat) => LR (P ++ T c0) z.1 z.2.1 z.2.2) (Bm D [(h, .inr (0, [.ref cf, .ref cn, .ref cp])), (cf, .inl (cI, 200, .inl (oIf fs))), (cn, .inl (cI, 200, .inl (oIf nx))), (cp, .inl (cJ, 200, .inr (.inl (lNf pu)))), (r, .inr (1, [.ref rm, .ref rp, .int (nI n2)])), (rm, .inl (cI, 200, .inl (nIf me2))), (rp, .inl (cI, 200, .inl (oIf pl2)))] sz (fun z : Nat × (Nat → Nat) × (Nat → Option Nat) => [(h, .inr (0, [.ref cf, .ref cn, .ref cp])), (cf, .inl (cI, 200, .inl (oIf fs))), (cn, .inl (cI, 200, .inl (oIf nx))), (cp, .inl (cJ, 200, .inr (.inl (lNf pu)))), (r, .inr (1, [.ref rm, .ref rp, .int (nI z.1)])), (rm, .inl (cI, 200, .inl (nIf z.2.1))), (rp, .inl (cI, 200, .inl (oIf z.2.2)))])) (va_A [(h, .inr (0, [.ref cf, .ref cn, .ref cp])), (cf, .inl (cI, 200, .inl (oIf fs))), (cn, .inl (cI, 200, .inl (oIf nx))), (cp, .inl (cJ, 200, .inr (.inl (lNf pu)))), (r, .inr (1, [.ref rm, .ref rp, .int (nI n2)])), (rm, .inl (cI, 200, .inl (nIf me2))), (rp, .inl (cI, 200, .inl (oIf pl2)))] sz)) 0 0 (va_A [(h, .inr (0, [.ref cf, .ref cn, .ref cp])), (cf, .inl (cI, 200, .inl (oIf fs))), (cn, .inl (cI, 200, .inl (oIf nx))), (cp, .inl (cJ, 200, .inr (.inl (lNf pu)))), (r, .inr (1, [.ref rm, .ref rp, .int (nI n2)])), (rm, .inl (cI, 200, .inl (nIf me2))), (rp, .inl (cI, 200, .inl (oIf pl2)))] sz) := by
  refine startM (cc := cX0_appendChain) (maxL := 5) (ret := none) (by decide) rfl (Nat.le_of_ble_eq_true rfl) ?_
  intro p e s m below meth c ls A hA hAe hx hb hr hml hown hts hlocks hin hE hP hD hS hl
  have hl : lv_has ls 5 [(0, .ref h), (1, .int (nI c0)), (2, .ref r)] := hl
  refine lv_iload_n hx hb dX0_appendChain_0 rfl (lv_at hl 1 rfl) ?_
  refine lv_istore_n (lv' := [(3, .int (nI c0)), (0, .ref h), (1, .int (nI c0)), (2, .ref r)]) hx hb dX0_appendChain_1 rfl hl (by decide) rfl (fun ls hl => ?_)
  refine lv_iconst (v := nI 0) hx hb dX0_appendChain_2 (by decide) ?_
  refine lv_istore (lv' := [(4, .int (nI 0)), (3, .int (nI c0)), (0, .ref h), (1, .int (nI c0)), (2, .ref r)]) hx hb dX0_appendChain_3 hl (by decide) rfl (fun ls hl => ?_)
  have hl : lv_has ls 5 [(4, .int (nI 0)), (3, .int (oI ((T c0)[0]?))), (0, .ref h), (1, .int (nI c0)), (2, .ref r)] := by rw [T_head hR htc]; exact hl
  refine r_loop (σ := Nat × Nat × (Nat → Nat) × (Nat → Option Nat)) (fun z0 => 200 - z0.1) (fun z0 H locs ls => (z0.1 ≤ (T c0).length ∧ LR (P ++ (T c0).take z0.1) z0.2.1 z0.2.2.1 z0.2.2.2) ∧ va_P D vwCl [(h, .inr (0, [.ref cf, .ref cn, .ref cp])), (cf, .inl (cI, 200, .inl (oIf fs))), (cn, .inl (cI, 200, .inl (oIf nx))), (cp, .inl (cJ, 200, .inr (.inl (lNf pu)))), (r, .inr (1, [.ref rm, .ref rp, .int (nI z0.2.1)])), (rm, .inl (cI, 200, .inl (nIf z0.2.2.1))), (rp, .inl (cI, 200, .inl (oIf z0.2.2.2)))] H ∧ va_D A [(h, .inr (0, [.ref cf, .ref cn, .ref cp])), (cf, .inl (cI, 200, .inl (oIf fs))), (cn, .inl (cI, 200, .inl (oIf nx))), (cp, .inl (cJ, 200, .inr (.inl (lNf pu)))), (r, .inr (1, [.ref rm, .ref rp, .int (nI z0.2.1)])), (rm, .inl (cI, 200, .inl (nIf z0.2.2.1))), (rp, .inl (cI, 200, .inl (oIf z0.2.2.2)))] ∧ va_S A s.heap H locs ∧ lv_has ls 5 [(0, .ref h), (2, .ref r), (3, .int (oI ((T c0)[z0.1]?))), (4, .int (nI z0.1))]) ?_ (0, n2, me2, pl2) ⟨⟨Nat.zero_le _, by simpa using hLR⟩, hP.sub [0, 1, 2, 3, 4, 5, 6] rfl, hD.sub [0, 1, 2, 3, 4, 5, 6] (by decide) rfl, hS, lv_sub hl [2, 4, 1, 0] rfl⟩
  rintro ⟨i, n3, me3, pl3⟩ H locs ls ⟨hi_5, hP, hD, hS, hl⟩ ih_5
  have hi_5 : i ≤ (T c0).length ∧ LR (P ++ (T c0).take i) n3 me3 pl3 := hi_5
  have hP : va_P D vwCl [(h, .inr (0, [.ref cf, .ref cn, .ref cp])), (cf, .inl (cI, 200, .inl (oIf fs))), (cn, .inl (cI, 200, .inl (oIf nx))), (cp, .inl (cJ, 200, .inr (.inl (lNf pu)))), (r, .inr (1, [.ref rm, .ref rp, .int (nI n3)])), (rm, .inl (cI, 200, .inl (nIf me3))), (rp, .inl (cI, 200, .inl (oIf pl3)))] H := hP
  have hD : va_D A [(h, .inr (0, [.ref cf, .ref cn, .ref cp])), (cf, .inl (cI, 200, .inl (oIf fs))), (cn, .inl (cI, 200, .inl (oIf nx))), (cp, .inl (cJ, 200, .inr (.inl (lNf pu)))), (r, .inr (1, [.ref rm, .ref rp, .int (nI n3)])), (rm, .inl (cI, 200, .inl (nIf me3))), (rp, .inl (cI, 200, .inl (oIf pl3)))] := hD
  have hl : lv_has ls 5 [(0, .ref h), (2, .ref r), (3, .int (oI ((T c0)[i]?))), (4, .int (nI i))] := hl
  have hlen := T_len hR c0
  have hn3 := LR_n hi_5.2 hi_5.1
  have hob : ∀ j, (T c0)[i]? = some j → j < 200 := fun j hj => T_lt hR hj
  refine lv_iload hx hb dX0_appendChain_5 (lv_at hl 3 rfl) ?_
  refine lv_sipush (v := nI 200) hx hb dX0_appendChain_7 (by decide) ?_
  refine r_icmp_ge (tgt := 36) hx hb (x := i) (y := 200) (by omega) (by omega) dX0_appendChain_10 (by decide) (fun c_10 => ?_) (fun c_10 => ?_)
  · skip
    exact e_mv (n3, me3, pl3) hAe hx hb hr hlocks dX0_appendChain_36 (hP.sub [0, 1, 2, 3, 4, 5, 6] rfl) (hD.sub [0, 1, 2, 3, 4, 5, 6] (by decide) rfl) hS (by have h9 := hi_5.2; rw [List.take_of_length_le (by omega)] at h9; exact h9)
  · skip
    refine lv_iload_n hx hb dX0_appendChain_13 rfl (lv_at hl 2 rfl) ?_
    refine lv_iconst (v := -1) hx hb dX0_appendChain_14 (by decide) ?_
    refine r_o_eq (tgt := 36) hx hb (o := (T c0)[i]?) (q := none) rfl rfl (fun j hj => by have := hob j hj; omega) (fun j h => by cases h) dX0_appendChain_15 (by decide) (fun c_15 => ?_) (fun c_15 => ?_)
    · skip
      exact e_mv (n3, me3, pl3) hAe hx hb hr hlocks dX0_appendChain_36 (hP.sub [0, 1, 2, 3, 4, 5, 6] rfl) (hD.sub [0, 1, 2, 3, 4, 5, 6] (by decide) rfl) hS (by have h9 := hi_5.2; rw [List.take_of_length_le (ix_ge c_15)] at h9; exact h9)
    · skip
      obtain ⟨b, hb3⟩ := Option.ne_none_iff_exists'.mp c_15
      have hb200 := hob b hb3
      have hil := ix_lt hb3
      rw [hb3] at hl
      have hl : lv_has ls 5 [(0, .ref h), (2, .ref r), (3, .int (nI b)), (4, .int (nI i))] := hl
      refine lv_aload_n hx hb dX0_appendChain_18 rfl (lv_at hl 1 rfl) ?_
      refine lv_iload_n hx hb dX0_appendChain_19 rfl (lv_at hl 2 rfl) ?_
      refine callMv (As := [.int (nI b)]) (rest := []) (wr := [(h, .inr (0, [.ref cf, .ref cn, .ref cp])), (cf, .inl (cI, 200, .inl (oIf fs))), (cn, .inl (cI, 200, .inl (oIf nx))), (cp, .inl (cJ, 200, .inr (.inl (lNf pu))))]) ⟨hx, hb, hml, hown, hts⟩ (c_append l D cI cJ cZ r rm rp n3 me3 pl3 _ b (by omega) hb200) (cwV 1 hts gX0_appendChain_X1_append rfl rfl rfl (by decide +kernel) ⟨Nat.le_of_ble_eq_true rfl, Nat.le_of_ble_eq_true rfl⟩) (preM hE hP hD 1 4 rfl rfl rfl [4, 5, 6] rfl rfl rfl) rfl hl.1 (Nat.le_of_ble_eq_true rfl) dX0_appendChain_20 ⟨Nat.zero_le _, Nat.zero_le _⟩ rfl hP hD hS hA [4, 5, 6] [0, 1, 2, 3] rfl rfl (by decide) (by decide) (fun u_ H locs hu hP hD hS => ?_)
      have hP : va_P D vwCl [(h, .inr (0, [.ref cf, .ref cn, .ref cp])), (cf, .inl (cI, 200, .inl (oIf fs))), (cn, .inl (cI, 200, .inl (oIf nx))), (cp, .inl (cJ, 200, .inr (.inl (lNf pu)))), (r, .inr (1, [.ref rm, .ref rp, .int (nI (n3 + 1))])), (rm, .inl (cI, 200, .inl (nIf (va_up me3 n3 b)))), (rp, .inl (cI, 200, .inl (oIf (va_up pl3 b (some n3)))))] H := hP
      have hD : va_D A [(h, .inr (0, [.ref cf, .ref cn, .ref cp])), (cf, .inl (cI, 200, .inl (oIf fs))), (cn, .inl (cI, 200, .inl (oIf nx))), (cp, .inl (cJ, 200, .inr (.inl (lNf pu)))), (r, .inr (1, [.ref rm, .ref rp, .int (nI (n3 + 1))])), (rm, .inl (cI, 200, .inl (nIf (va_up me3 n3 b)))), (rp, .inl (cI, 200, .inl (oIf (va_up pl3 b (some n3)))))] := hD
      refine lv_aload_n hx hb dX0_appendChain_23 rfl (lv_at hl 0 rfl) ?_
      refine va_get (D := D) (ci := 0) (v := .ref cn) (C := RX0) (T := TX0) (N := 3) hx hb hts in_X0_appendChain_X0 hown hE.1 hP 0 rfl rfl 1 (by decide) (hts _ fl_X0_appendChain_15) (fun _ h9 => h9) rfl dX0_appendChain_24 ?_
      refine lv_iload_n hx hb dX0_appendChain_27 rfl (lv_at hl 2 rfl) ?_
      refine r_old hx hb hE hP 2 rfl (k := b) (by omega) (by decide) dX0_appendChain_28 ?_
      refine r_as (w := .int (oI (T c0)[i + 1]?)) (by rw [hR.2.2 c0 i b hb3]) ?_
      refine lv_istore_n (lv' := [(3, .int (oI ((T c0)[i + 1]?))), (0, .ref h), (2, .ref r), (4, .int (nI i))]) hx hb dX0_appendChain_29 rfl hl (by decide) rfl (fun ls hl => ?_)
      refine lv_iinc (v := (nI (i + 1))) (lv' := [(4, .int (nI (i + 1))), (3, .int (oI ((T c0)[i + 1]?))), (0, .ref h), (2, .ref r)]) hx hb dX0_appendChain_30 hl (k := 3) rfl (nI_1 _) (by decide) rfl (fun ls hl => ?_)
      refine lv_goto (tgt := 5) hx hb dX0_appendChain_33 (by decide) ?_
      exact ih_5 (i + 1, n3 + 1, va_up me3 n3 b, va_up pl3 b (some n3)) _ _ _ ⟨(show (i + 1) ≤ (T c0).length ∧ LR (P ++ (T c0).take ((i + 1))) (n3 + 1) (va_up me3 n3 b) (va_up pl3 b (some n3)) from ⟨ix_lt hb3, LR_take hi_5.2 hb3 (hR.1.1.2.2.2 c0) hdj⟩), hP.sub [0, 1, 2, 3, 4, 5, 6] rfl, hD.sub [0, 1, 2, 3, 4, 5, 6] (by decide) rfl, hS, lv_sub hl [2, 3, 1, 0] rfl⟩ (by show 200 - (i + 1) < 200 - i; omega)

theorem fl_X0_pullTowards_18 : Cond.fieldLink RX0 18 "BlockRows$Chains" "pulls" "[J" ∈ wsX0_pullTowards := by decide +kernel
theorem fl_X0_pullTowards_9 : Cond.fieldLink RX0 9 "BlockRows$Chains" "first" "[I" ∈ wsX0_pullTowards := by decide +kernel
theorem in_X0_pullTowards_X0 : ∀ w ∈ wsX00, w ∈ wsX0_pullTowards := by decide +kernel
theorem in_X0_pullTowards_X2 : ∀ w ∈ wsX20, w ∈ wsX0_pullTowards := by decide +kernel
set_option maxHeartbeats 4000000 in
set_option maxRecDepth 100000 in
/-- Chains.pullTowards -/
theorem c_pullTowards (l : Launch) (D : va_G) (cI cJ cZ : ClassId) (h cf cn cp : Nat) (fs nx : Nat → Option Nat) (pu : Nat → Nat) (q qf qt qc ql kn : Nat) (fr tt ct : Nat → Nat) (fa : Nat → Bool) (hkn : kn ≤ 1000) (hB : WB fr tt ct) (hfs : ∀ i j, fs i = some j → j < 200) (sz c0 : Nat) (hc0 : c0 < 200) : Met l yX0_pullTowards wsX0_pullTowards ({ frames := 0, cells := 0, slots := 0, locals := 0 }) (PcM D cI cJ cZ [.ref h, .int (nI c0), .ref q] [(h, .inr (0, [.ref cf, .ref cn, .ref cp])), (cf, .inl (cI, 200, .inl (oIf fs))), (cn, .inl (cI, 200, .inl (oIf nx))), (cp, .inl (cJ, 200, .inr (.inl (lNf pu)))), (q, .inr (2, [.ref qf, .ref qt, .ref qc, .ref ql, .int (nI kn)])), (qf, .inl (cI, 1000, .inl (nIf fr))), (qt, .inl (cI, 1000, .inl (nIf tt))), (qc, .inl (cJ, 1000, .inr (.inl (lNf ct)))), (ql, .inl (cZ, 1000, .inl (bIf fa)))] sz) (va_Qv (fun _ : Unit => True) (Bm D [(h, .inr (0, [.ref cf, .ref cn, .ref cp])), (cf, .inl (cI, 200, .inl (oIf fs))), (cn, .inl (cI, 200, .inl (oIf nx))), (cp, .inl (cJ, 200, .inr (.inl (lNf pu)))), (q, .inr (2, [.ref qf, .ref qt, .ref qc, .ref ql, .int (nI kn)])), (qf, .inl (cI, 1000, .inl (nIf fr))), (qt, .inl (cI, 1000, .inl (nIf tt))), (qc, .inl (cJ, 1000, .inr (.inl (lNf ct)))), (ql, .inl (cZ, 1000, .inl (bIf fa)))] sz (fun _ : Unit => [(h, .inr (0, [.ref cf, .ref cn, .ref cp])), (cf, .inl (cI, 200, .inl (oIf fs))), (cn, .inl (cI, 200, .inl (oIf nx))), (cp, .inl (cJ, 200, .inr (.inl (lNf (plF fs c0 fr tt ct pu kn))))), (q, .inr (2, [.ref qf, .ref qt, .ref qc, .ref ql, .int (nI kn)])), (qf, .inl (cI, 1000, .inl (nIf fr))), (qt, .inl (cI, 1000, .inl (nIf tt))), (qc, .inl (cJ, 1000, .inr (.inl (lNf ct)))), (ql, .inl (cZ, 1000, .inl (bIf fa)))])) (va_A [(h, .inr (0, [.ref cf, .ref cn, .ref cp])), (cf, .inl (cI, 200, .inl (oIf fs))), (cn, .inl (cI, 200, .inl (oIf nx))), (cp, .inl (cJ, 200, .inr (.inl (lNf pu)))), (q, .inr (2, [.ref qf, .ref qt, .ref qc, .ref ql, .int (nI kn)])), (qf, .inl (cI, 1000, .inl (nIf fr))), (qt, .inl (cI, 1000, .inl (nIf tt))), (qc, .inl (cJ, 1000, .inr (.inl (lNf ct)))), (ql, .inl (cZ, 1000, .inl (bIf fa)))] sz)) 0 0 (va_A [(h, .inr (0, [.ref cf, .ref cn, .ref cp])), (cf, .inl (cI, 200, .inl (oIf fs))), (cn, .inl (cI, 200, .inl (oIf nx))), (cp, .inl (cJ, 200, .inr (.inl (lNf pu)))), (q, .inr (2, [.ref qf, .ref qt, .ref qc, .ref ql, .int (nI kn)])), (qf, .inl (cI, 1000, .inl (nIf fr))), (qt, .inl (cI, 1000, .inl (nIf tt))), (qc, .inl (cJ, 1000, .inr (.inl (lNf ct)))), (ql, .inl (cZ, 1000, .inl (bIf fa)))] sz) := by
  refine startM (cc := cX0_pullTowards) (maxL := 6) (ret := none) (by decide) rfl (Nat.le_of_ble_eq_true rfl) ?_
  intro p e s m below meth c ls A hA hAe hx hb hr hml hown hts hlocks hin hE hP hD hS hl
  have hl : lv_has ls 6 [(0, .ref h), (1, .int (nI c0)), (2, .ref q)] := hl
  refine lv_iconst (v := nI 0) hx hb dX0_pullTowards_0 (by decide) ?_
  refine lv_istore_n (lv' := [(3, .int (nI 0)), (0, .ref h), (1, .int (nI c0)), (2, .ref q)]) hx hb dX0_pullTowards_1 rfl hl (by decide) rfl (fun ls hl => ?_)
  refine r_loop (σ := Nat) (fun z0 => kn - z0) (fun z0 H locs ls => (z0 ≤ kn) ∧ va_P D vwCl [(h, .inr (0, [.ref cf, .ref cn, .ref cp])), (cf, .inl (cI, 200, .inl (oIf fs))), (cn, .inl (cI, 200, .inl (oIf nx))), (cp, .inl (cJ, 200, .inr (.inl (lNf (plF fs c0 fr tt ct pu z0))))), (q, .inr (2, [.ref qf, .ref qt, .ref qc, .ref ql, .int (nI kn)])), (qf, .inl (cI, 1000, .inl (nIf fr))), (qt, .inl (cI, 1000, .inl (nIf tt))), (qc, .inl (cJ, 1000, .inr (.inl (lNf ct)))), (ql, .inl (cZ, 1000, .inl (bIf fa)))] H ∧ va_D A [(h, .inr (0, [.ref cf, .ref cn, .ref cp])), (cf, .inl (cI, 200, .inl (oIf fs))), (cn, .inl (cI, 200, .inl (oIf nx))), (cp, .inl (cJ, 200, .inr (.inl (lNf (plF fs c0 fr tt ct pu z0))))), (q, .inr (2, [.ref qf, .ref qt, .ref qc, .ref ql, .int (nI kn)])), (qf, .inl (cI, 1000, .inl (nIf fr))), (qt, .inl (cI, 1000, .inl (nIf tt))), (qc, .inl (cJ, 1000, .inr (.inl (lNf ct)))), (ql, .inl (cZ, 1000, .inl (bIf fa)))] ∧ va_S A s.heap H locs ∧ lv_has ls 6 [(0, .ref h), (1, .int (nI c0)), (2, .ref q), (3, .int (nI z0))]) ?_ 0 ⟨Nat.zero_le _, hP.sub [0, 1, 2, 3, 4, 5, 6, 7, 8] rfl, hD.sub [0, 1, 2, 3, 4, 5, 6, 7, 8] (by decide) rfl, hS, lv_sub hl [1, 2, 3, 0] rfl⟩
  rintro k H locs ls ⟨hi_2, hP, hD, hS, hl⟩ ih_2
  have hi_2 : k ≤ kn := hi_2
  have hP : va_P D vwCl [(h, .inr (0, [.ref cf, .ref cn, .ref cp])), (cf, .inl (cI, 200, .inl (oIf fs))), (cn, .inl (cI, 200, .inl (oIf nx))), (cp, .inl (cJ, 200, .inr (.inl (lNf (plF fs c0 fr tt ct pu k))))), (q, .inr (2, [.ref qf, .ref qt, .ref qc, .ref ql, .int (nI kn)])), (qf, .inl (cI, 1000, .inl (nIf fr))), (qt, .inl (cI, 1000, .inl (nIf tt))), (qc, .inl (cJ, 1000, .inr (.inl (lNf ct)))), (ql, .inl (cZ, 1000, .inl (bIf fa)))] H := hP
  have hD : va_D A [(h, .inr (0, [.ref cf, .ref cn, .ref cp])), (cf, .inl (cI, 200, .inl (oIf fs))), (cn, .inl (cI, 200, .inl (oIf nx))), (cp, .inl (cJ, 200, .inr (.inl (lNf (plF fs c0 fr tt ct pu k))))), (q, .inr (2, [.ref qf, .ref qt, .ref qc, .ref ql, .int (nI kn)])), (qf, .inl (cI, 1000, .inl (nIf fr))), (qt, .inl (cI, 1000, .inl (nIf tt))), (qc, .inl (cJ, 1000, .inr (.inl (lNf ct)))), (ql, .inl (cZ, 1000, .inl (bIf fa)))] := hD
  have hl : lv_has ls 6 [(0, .ref h), (1, .int (nI c0)), (2, .ref q), (3, .int (nI k))] := hl
  have b1 := hB k
  refine lv_iload_n hx hb dX0_pullTowards_2 rfl (lv_at hl 3 rfl) ?_
  refine lv_aload_n hx hb dX0_pullTowards_3 rfl (lv_at hl 2 rfl) ?_
  refine va_getN (D := D) (ci := 2) (v := .int (nI kn)) (C := RX2) (T := TX2) (N := 5) hx hb hts in_X0_pullTowards_X2 hown hE.1 hP 4 rfl rfl 4 (by decide) (va_Nw.use rfl hE.2.1.2.2.2.2) (fun _ h9 => h9) rfl dX0_pullTowards_4 ?_
  refine r_icmp_ge (tgt := 98) hx hb (x := k) (y := kn) (by omega) (by omega) dX0_pullTowards_7 (by decide) (fun c_7 => ?_) (fun c_7 => ?_)
  · skip
    have e9 : k = kn := by omega
    subst e9
    exact e_mv () hAe hx hb hr hlocks dX0_pullTowards_98 (hP.sub [0, 1, 2, 3, 4, 5, 6, 7, 8] rfl) (hD.sub [0, 1, 2, 3, 4, 5, 6, 7, 8] (by decide) rfl) hS trivial
  · skip
    refine lv_aload_n hx hb dX0_pullTowards_10 rfl (lv_at hl 0 rfl) ?_
    refine va_get (D := D) (ci := 0) (v := .ref cf) (C := RX0) (T := TX0) (N := 3) hx hb hts in_X0_pullTowards_X0 hown hE.1 hP 0 rfl rfl 0 (by decide) (hts _ fl_X0_pullTowards_9) (fun _ h9 => h9) rfl dX0_pullTowards_11 ?_
    refine lv_aload_n hx hb dX0_pullTowards_14 rfl (lv_at hl 2 rfl) ?_
    refine va_getN (D := D) (ci := 2) (v := .ref qf) (C := RX2) (T := TX2) (N := 5) hx hb hts in_X0_pullTowards_X2 hown hE.1 hP 4 rfl rfl 0 (by decide) (va_Nw.use rfl hE.2.1.1) (fun _ h9 => h9) rfl dX0_pullTowards_15 ?_
    refine lv_iload_n hx hb dX0_pullTowards_18 rfl (lv_at hl 3 rfl) ?_
    refine r_nld hx hb hE hP 5 rfl (k := k) (by omega) (by decide) dX0_pullTowards_19 ?_
    refine r_old hx hb hE hP 1 rfl (k := fr k) (by omega) (by decide) dX0_pullTowards_20 ?_
    refine lv_istore (lv' := [(4, .int (oI (fs (fr k)))), (0, .ref h), (1, .int (nI c0)), (2, .ref q), (3, .int (nI k))]) hx hb dX0_pullTowards_21 hl (by decide) rfl (fun ls hl => ?_)
    refine lv_aload_n hx hb dX0_pullTowards_23 rfl (lv_at hl 1 rfl) ?_
    refine va_get (D := D) (ci := 0) (v := .ref cf) (C := RX0) (T := TX0) (N := 3) hx hb hts in_X0_pullTowards_X0 hown hE.1 hP 0 rfl rfl 0 (by decide) (hts _ fl_X0_pullTowards_9) (fun _ h9 => h9) rfl dX0_pullTowards_24 ?_
    refine lv_aload_n hx hb dX0_pullTowards_27 rfl (lv_at hl 3 rfl) ?_
    refine va_getN (D := D) (ci := 2) (v := .ref qt) (C := RX2) (T := TX2) (N := 5) hx hb hts in_X0_pullTowards_X2 hown hE.1 hP 4 rfl rfl 1 (by decide) (va_Nw.use rfl hE.2.1.2.1) (fun _ h9 => h9) rfl dX0_pullTowards_28 ?_
    refine lv_iload_n hx hb dX0_pullTowards_31 rfl (lv_at hl 4 rfl) ?_
    refine r_nld hx hb hE hP 6 rfl (k := k) (by omega) (by decide) dX0_pullTowards_32 ?_
    refine r_old hx hb hE hP 1 rfl (k := tt k) (by omega) (by decide) dX0_pullTowards_33 ?_
    refine lv_istore (lv' := [(5, .int (oI (fs (tt k)))), (4, .int (oI (fs (fr k)))), (0, .ref h), (1, .int (nI c0)), (2, .ref q), (3, .int (nI k))]) hx hb dX0_pullTowards_34 hl (by decide) rfl (fun ls hl => ?_)
    refine lv_iload hx hb dX0_pullTowards_36 (lv_at hl 1 rfl) ?_
    refine lv_iload_n hx hb dX0_pullTowards_38 rfl (lv_at hl 3 rfl) ?_
    refine r_o_ne (tgt := 64) hx hb (o := fs (fr k)) (q := some c0) rfl rfl (fun j h => by have := hfs _ _ h; omega) (fun j h => by cases h; omega) dX0_pullTowards_39 (by decide) (fun c_39 => ?_) (fun c_39 => ?_)
    · skip
      have hfe : plF fs c0 fr tt ct pu k = adT (fs (fr k)) (fs (tt k)) c0 (ct k) (plF fs c0 fr tt ct pu k) := adT_no (Or.inl c_39)
      rw [hfe] at hP hD
      have hP : va_P D vwCl [(h, .inr (0, [.ref cf, .ref cn, .ref cp])), (cf, .inl (cI, 200, .inl (oIf fs))), (cn, .inl (cI, 200, .inl (oIf nx))), (cp, .inl (cJ, 200, .inr (.inl (lNf (adT (fs (fr k)) (fs (tt k)) c0 (ct k) (plF fs c0 fr tt ct pu k)))))), (q, .inr (2, [.ref qf, .ref qt, .ref qc, .ref ql, .int (nI kn)])), (qf, .inl (cI, 1000, .inl (nIf fr))), (qt, .inl (cI, 1000, .inl (nIf tt))), (qc, .inl (cJ, 1000, .inr (.inl (lNf ct)))), (ql, .inl (cZ, 1000, .inl (bIf fa)))] H := hP
      have hD : va_D A [(h, .inr (0, [.ref cf, .ref cn, .ref cp])), (cf, .inl (cI, 200, .inl (oIf fs))), (cn, .inl (cI, 200, .inl (oIf nx))), (cp, .inl (cJ, 200, .inr (.inl (lNf (adT (fs (fr k)) (fs (tt k)) c0 (ct k) (plF fs c0 fr tt ct pu k)))))), (q, .inr (2, [.ref qf, .ref qt, .ref qc, .ref ql, .int (nI kn)])), (qf, .inl (cI, 1000, .inl (nIf fr))), (qt, .inl (cI, 1000, .inl (nIf tt))), (qc, .inl (cJ, 1000, .inr (.inl (lNf ct)))), (ql, .inl (cZ, 1000, .inl (bIf fa)))] := hD
      refine lv_iload hx hb dX0_pullTowards_64 (lv_at hl 0 rfl) ?_
      refine lv_iload_n hx hb dX0_pullTowards_66 rfl (lv_at hl 3 rfl) ?_
      refine r_o_ne (tgt := 92) hx hb (o := fs (tt k)) (q := some c0) rfl rfl (fun j h => by have := hfs _ _ h; omega) (fun j h => by cases h; omega) dX0_pullTowards_67 (by decide) (fun c_67 => ?_) (fun c_67 => ?_)
      · skip
        have hfe : adT (fs (fr k)) (fs (tt k)) c0 (ct k) (plF fs c0 fr tt ct pu k) = adT (fs (tt k)) (fs (fr k)) c0 (ct k) (adT (fs (fr k)) (fs (tt k)) c0 (ct k) (plF fs c0 fr tt ct pu k)) := adT_no (Or.inl c_67)
        rw [hfe] at hP hD
        have hP : va_P D vwCl [(h, .inr (0, [.ref cf, .ref cn, .ref cp])), (cf, .inl (cI, 200, .inl (oIf fs))), (cn, .inl (cI, 200, .inl (oIf nx))), (cp, .inl (cJ, 200, .inr (.inl (lNf (adT (fs (tt k)) (fs (fr k)) c0 (ct k) (adT (fs (fr k)) (fs (tt k)) c0 (ct k) (plF fs c0 fr tt ct pu k))))))), (q, .inr (2, [.ref qf, .ref qt, .ref qc, .ref ql, .int (nI kn)])), (qf, .inl (cI, 1000, .inl (nIf fr))), (qt, .inl (cI, 1000, .inl (nIf tt))), (qc, .inl (cJ, 1000, .inr (.inl (lNf ct)))), (ql, .inl (cZ, 1000, .inl (bIf fa)))] H := hP
        have hD : va_D A [(h, .inr (0, [.ref cf, .ref cn, .ref cp])), (cf, .inl (cI, 200, .inl (oIf fs))), (cn, .inl (cI, 200, .inl (oIf nx))), (cp, .inl (cJ, 200, .inr (.inl (lNf (adT (fs (tt k)) (fs (fr k)) c0 (ct k) (adT (fs (fr k)) (fs (tt k)) c0 (ct k) (plF fs c0 fr tt ct pu k))))))), (q, .inr (2, [.ref qf, .ref qt, .ref qc, .ref ql, .int (nI kn)])), (qf, .inl (cI, 1000, .inl (nIf fr))), (qt, .inl (cI, 1000, .inl (nIf tt))), (qc, .inl (cJ, 1000, .inr (.inl (lNf ct)))), (ql, .inl (cZ, 1000, .inl (bIf fa)))] := hD
        refine lv_iinc (v := (nI (k + 1))) (lv' := [(3, .int (nI (k + 1))), (5, .int (oI (fs (tt k)))), (4, .int (oI (fs (fr k)))), (0, .ref h), (1, .int (nI c0)), (2, .ref q)]) hx hb dX0_pullTowards_92 hl (k := 5) rfl (nI_1 _) (by decide) rfl (fun ls hl => ?_)
        refine lv_goto (tgt := 2) hx hb dX0_pullTowards_95 (by decide) ?_
        exact ih_2 (k + 1) _ _ _ ⟨(show (k + 1) ≤ kn from by omega), hP.sub [0, 1, 2, 3, 4, 5, 6, 7, 8] rfl, hD.sub [0, 1, 2, 3, 4, 5, 6, 7, 8] (by decide) rfl, hS, lv_sub hl [3, 4, 5, 0] rfl⟩ (by show kn - (k + 1) < kn - k; omega)
      · skip
        refine lv_iload hx hb dX0_pullTowards_70 (lv_at hl 1 rfl) ?_
        refine lv_iconst (v := -1) hx hb dX0_pullTowards_72 (by decide) ?_
        refine r_o_eq (tgt := 92) hx hb (o := fs (fr k)) (q := none) rfl rfl (fun j h => by have := hfs _ _ h; omega) (fun j h => by cases h) dX0_pullTowards_73 (by decide) (fun c_73 => ?_) (fun c_73 => ?_)
        · skip
          have hfe : adT (fs (fr k)) (fs (tt k)) c0 (ct k) (plF fs c0 fr tt ct pu k) = adT (fs (tt k)) (fs (fr k)) c0 (ct k) (adT (fs (fr k)) (fs (tt k)) c0 (ct k) (plF fs c0 fr tt ct pu k)) := adT_no (Or.inr c_73)
          rw [hfe] at hP hD
          have hP : va_P D vwCl [(h, .inr (0, [.ref cf, .ref cn, .ref cp])), (cf, .inl (cI, 200, .inl (oIf fs))), (cn, .inl (cI, 200, .inl (oIf nx))), (cp, .inl (cJ, 200, .inr (.inl (lNf (adT (fs (tt k)) (fs (fr k)) c0 (ct k) (adT (fs (fr k)) (fs (tt k)) c0 (ct k) (plF fs c0 fr tt ct pu k))))))), (q, .inr (2, [.ref qf, .ref qt, .ref qc, .ref ql, .int (nI kn)])), (qf, .inl (cI, 1000, .inl (nIf fr))), (qt, .inl (cI, 1000, .inl (nIf tt))), (qc, .inl (cJ, 1000, .inr (.inl (lNf ct)))), (ql, .inl (cZ, 1000, .inl (bIf fa)))] H := hP
          have hD : va_D A [(h, .inr (0, [.ref cf, .ref cn, .ref cp])), (cf, .inl (cI, 200, .inl (oIf fs))), (cn, .inl (cI, 200, .inl (oIf nx))), (cp, .inl (cJ, 200, .inr (.inl (lNf (adT (fs (tt k)) (fs (fr k)) c0 (ct k) (adT (fs (fr k)) (fs (tt k)) c0 (ct k) (plF fs c0 fr tt ct pu k))))))), (q, .inr (2, [.ref qf, .ref qt, .ref qc, .ref ql, .int (nI kn)])), (qf, .inl (cI, 1000, .inl (nIf fr))), (qt, .inl (cI, 1000, .inl (nIf tt))), (qc, .inl (cJ, 1000, .inr (.inl (lNf ct)))), (ql, .inl (cZ, 1000, .inl (bIf fa)))] := hD
          refine lv_iinc (v := (nI (k + 1))) (lv' := [(3, .int (nI (k + 1))), (5, .int (oI (fs (tt k)))), (4, .int (oI (fs (fr k)))), (0, .ref h), (1, .int (nI c0)), (2, .ref q)]) hx hb dX0_pullTowards_92 hl (k := 5) rfl (nI_1 _) (by decide) rfl (fun ls hl => ?_)
          refine lv_goto (tgt := 2) hx hb dX0_pullTowards_95 (by decide) ?_
          exact ih_2 (k + 1) _ _ _ ⟨(show (k + 1) ≤ kn from by omega), hP.sub [0, 1, 2, 3, 4, 5, 6, 7, 8] rfl, hD.sub [0, 1, 2, 3, 4, 5, 6, 7, 8] (by decide) rfl, hS, lv_sub hl [3, 4, 5, 0] rfl⟩ (by show kn - (k + 1) < kn - k; omega)
        · skip
          obtain ⟨a1, ha1⟩ := Option.ne_none_iff_exists'.mp c_73
          have ha1b := hfs _ _ ha1
          rw [ha1] at hl
          have hl : lv_has ls 6 [(5, .int (oI (fs (tt k)))), (4, .int (nI a1)), (0, .ref h), (1, .int (nI c0)), (2, .ref q), (3, .int (nI k))] := hl
          refine lv_aload_n hx hb dX0_pullTowards_76 rfl (lv_at hl 2 rfl) ?_
          refine va_get (D := D) (ci := 0) (v := .ref cp) (C := RX0) (T := TX0) (N := 3) hx hb hts in_X0_pullTowards_X0 hown hE.1 hP 0 rfl rfl 2 (by decide) (hts _ fl_X0_pullTowards_18) (fun _ h9 => h9) rfl dX0_pullTowards_77 ?_
          refine lv_iload hx hb dX0_pullTowards_80 (lv_at hl 1 rfl) ?_
          refine lv_dup2_11 hx hb dX0_pullTowards_82 rfl rfl ?_
          refine r_lld hx hb hE hP 3 rfl (k := a1) (by omega) (by decide) dX0_pullTowards_83 ?_
          refine lv_aload_n hx hb dX0_pullTowards_84 rfl (lv_at hl 4 rfl) ?_
          refine va_getN (D := D) (ci := 2) (v := .ref qc) (C := RX2) (T := TX2) (N := 5) hx hb hts in_X0_pullTowards_X2 hown hE.1 hP 4 rfl rfl 2 (by decide) (va_Nw.use rfl hE.2.1.2.2.1) (fun _ h9 => h9) rfl dX0_pullTowards_85 ?_
          refine lv_iload_n hx hb dX0_pullTowards_88 rfl (lv_at hl 5 rfl) ?_
          refine r_lld hx hb hE hP 7 rfl (k := k) (by omega) (by decide) dX0_pullTowards_89 ?_
          refine r_ladd hx hb dX0_pullTowards_90 ?_
          refine r_lst hx hb hE hP hD hS 3 rfl (k := a1) (x := ((adT (fs (fr k)) (fs (tt k)) c0 (ct k) (plF fs c0 fr tt ct pu k)) a1) + (ct k)) (by omega) (by decide) dX0_pullTowards_91 (fun H locs hP hD hS => ?_)
          have hP : va_P D vwCl [(h, .inr (0, [.ref cf, .ref cn, .ref cp])), (cf, .inl (cI, 200, .inl (oIf fs))), (cn, .inl (cI, 200, .inl (oIf nx))), (cp, .inl (cJ, 200, .inr (.inl (lNf (va_up (adT (fs (fr k)) (fs (tt k)) c0 (ct k) (plF fs c0 fr tt ct pu k)) a1 (((adT (fs (fr k)) (fs (tt k)) c0 (ct k) (plF fs c0 fr tt ct pu k)) a1) + (ct k))))))), (q, .inr (2, [.ref qf, .ref qt, .ref qc, .ref ql, .int (nI kn)])), (qf, .inl (cI, 1000, .inl (nIf fr))), (qt, .inl (cI, 1000, .inl (nIf tt))), (qc, .inl (cJ, 1000, .inr (.inl (lNf ct)))), (ql, .inl (cZ, 1000, .inl (bIf fa)))] H := hP
          have hD : va_D A [(h, .inr (0, [.ref cf, .ref cn, .ref cp])), (cf, .inl (cI, 200, .inl (oIf fs))), (cn, .inl (cI, 200, .inl (oIf nx))), (cp, .inl (cJ, 200, .inr (.inl (lNf (va_up (adT (fs (fr k)) (fs (tt k)) c0 (ct k) (plF fs c0 fr tt ct pu k)) a1 (((adT (fs (fr k)) (fs (tt k)) c0 (ct k) (plF fs c0 fr tt ct pu k)) a1) + (ct k))))))), (q, .inr (2, [.ref qf, .ref qt, .ref qc, .ref ql, .int (nI kn)])), (qf, .inl (cI, 1000, .inl (nIf fr))), (qt, .inl (cI, 1000, .inl (nIf tt))), (qc, .inl (cJ, 1000, .inr (.inl (lNf ct)))), (ql, .inl (cZ, 1000, .inl (bIf fa)))] := hD
          have hfe : va_up (adT (fs (fr k)) (fs (tt k)) c0 (ct k) (plF fs c0 fr tt ct pu k)) a1 (((adT (fs (fr k)) (fs (tt k)) c0 (ct k) (plF fs c0 fr tt ct pu k)) a1) + (ct k)) = adT (fs (tt k)) (fs (fr k)) c0 (ct k) (adT (fs (fr k)) (fs (tt k)) c0 (ct k) (plF fs c0 fr tt ct pu k)) := adT_yes c_67 ha1
          rw [hfe] at hP hD
          have hP : va_P D vwCl [(h, .inr (0, [.ref cf, .ref cn, .ref cp])), (cf, .inl (cI, 200, .inl (oIf fs))), (cn, .inl (cI, 200, .inl (oIf nx))), (cp, .inl (cJ, 200, .inr (.inl (lNf (adT (fs (tt k)) (fs (fr k)) c0 (ct k) (adT (fs (fr k)) (fs (tt k)) c0 (ct k) (plF fs c0 fr tt ct pu k))))))), (q, .inr (2, [.ref qf, .ref qt, .ref qc, .ref ql, .int (nI kn)])), (qf, .inl (cI, 1000, .inl (nIf fr))), (qt, .inl (cI, 1000, .inl (nIf tt))), (qc, .inl (cJ, 1000, .inr (.inl (lNf ct)))), (ql, .inl (cZ, 1000, .inl (bIf fa)))] H := hP
          have hD : va_D A [(h, .inr (0, [.ref cf, .ref cn, .ref cp])), (cf, .inl (cI, 200, .inl (oIf fs))), (cn, .inl (cI, 200, .inl (oIf nx))), (cp, .inl (cJ, 200, .inr (.inl (lNf (adT (fs (tt k)) (fs (fr k)) c0 (ct k) (adT (fs (fr k)) (fs (tt k)) c0 (ct k) (plF fs c0 fr tt ct pu k))))))), (q, .inr (2, [.ref qf, .ref qt, .ref qc, .ref ql, .int (nI kn)])), (qf, .inl (cI, 1000, .inl (nIf fr))), (qt, .inl (cI, 1000, .inl (nIf tt))), (qc, .inl (cJ, 1000, .inr (.inl (lNf ct)))), (ql, .inl (cZ, 1000, .inl (bIf fa)))] := hD
          refine lv_iinc (v := (nI (k + 1))) (lv' := [(3, .int (nI (k + 1))), (5, .int (oI (fs (tt k)))), (4, .int (nI a1)), (0, .ref h), (1, .int (nI c0)), (2, .ref q)]) hx hb dX0_pullTowards_92 hl (k := 5) rfl (nI_1 _) (by decide) rfl (fun ls hl => ?_)
          refine lv_goto (tgt := 2) hx hb dX0_pullTowards_95 (by decide) ?_
          exact ih_2 (k + 1) _ _ _ ⟨(show (k + 1) ≤ kn from by omega), hP.sub [0, 1, 2, 3, 4, 5, 6, 7, 8] rfl, hD.sub [0, 1, 2, 3, 4, 5, 6, 7, 8] (by decide) rfl, hS, lv_sub hl [3, 4, 5, 0] rfl⟩ (by show kn - (k + 1) < kn - k; omega)
    · skip
      refine lv_iload hx hb dX0_pullTowards_42 (lv_at hl 0 rfl) ?_
      refine lv_iconst (v := -1) hx hb dX0_pullTowards_44 (by decide) ?_
      refine r_o_eq (tgt := 64) hx hb (o := fs (tt k)) (q := none) rfl rfl (fun j h => by have := hfs _ _ h; omega) (fun j h => by cases h) dX0_pullTowards_45 (by decide) (fun c_45 => ?_) (fun c_45 => ?_)
      · skip
        have hfe : plF fs c0 fr tt ct pu k = adT (fs (fr k)) (fs (tt k)) c0 (ct k) (plF fs c0 fr tt ct pu k) := adT_no (Or.inr c_45)
        rw [hfe] at hP hD
        have hP : va_P D vwCl [(h, .inr (0, [.ref cf, .ref cn, .ref cp])), (cf, .inl (cI, 200, .inl (oIf fs))), (cn, .inl (cI, 200, .inl (oIf nx))), (cp, .inl (cJ, 200, .inr (.inl (lNf (adT (fs (fr k)) (fs (tt k)) c0 (ct k) (plF fs c0 fr tt ct pu k)))))), (q, .inr (2, [.ref qf, .ref qt, .ref qc, .ref ql, .int (nI kn)])), (qf, .inl (cI, 1000, .inl (nIf fr))), (qt, .inl (cI, 1000, .inl (nIf tt))), (qc, .inl (cJ, 1000, .inr (.inl (lNf ct)))), (ql, .inl (cZ, 1000, .inl (bIf fa)))] H := hP
        have hD : va_D A [(h, .inr (0, [.ref cf, .ref cn, .ref cp])), (cf, .inl (cI, 200, .inl (oIf fs))), (cn, .inl (cI, 200, .inl (oIf nx))), (cp, .inl (cJ, 200, .inr (.inl (lNf (adT (fs (fr k)) (fs (tt k)) c0 (ct k) (plF fs c0 fr tt ct pu k)))))), (q, .inr (2, [.ref qf, .ref qt, .ref qc, .ref ql, .int (nI kn)])), (qf, .inl (cI, 1000, .inl (nIf fr))), (qt, .inl (cI, 1000, .inl (nIf tt))), (qc, .inl (cJ, 1000, .inr (.inl (lNf ct)))), (ql, .inl (cZ, 1000, .inl (bIf fa)))] := hD
        refine lv_iload hx hb dX0_pullTowards_64 (lv_at hl 0 rfl) ?_
        refine lv_iload_n hx hb dX0_pullTowards_66 rfl (lv_at hl 3 rfl) ?_
        refine r_o_ne (tgt := 92) hx hb (o := fs (tt k)) (q := some c0) rfl rfl (fun j h => by have := hfs _ _ h; omega) (fun j h => by cases h; omega) dX0_pullTowards_67 (by decide) (fun c_67 => ?_) (fun c_67 => ?_)
        · skip
          have hfe : adT (fs (fr k)) (fs (tt k)) c0 (ct k) (plF fs c0 fr tt ct pu k) = adT (fs (tt k)) (fs (fr k)) c0 (ct k) (adT (fs (fr k)) (fs (tt k)) c0 (ct k) (plF fs c0 fr tt ct pu k)) := adT_no (Or.inl c_67)
          rw [hfe] at hP hD
          have hP : va_P D vwCl [(h, .inr (0, [.ref cf, .ref cn, .ref cp])), (cf, .inl (cI, 200, .inl (oIf fs))), (cn, .inl (cI, 200, .inl (oIf nx))), (cp, .inl (cJ, 200, .inr (.inl (lNf (adT (fs (tt k)) (fs (fr k)) c0 (ct k) (adT (fs (fr k)) (fs (tt k)) c0 (ct k) (plF fs c0 fr tt ct pu k))))))), (q, .inr (2, [.ref qf, .ref qt, .ref qc, .ref ql, .int (nI kn)])), (qf, .inl (cI, 1000, .inl (nIf fr))), (qt, .inl (cI, 1000, .inl (nIf tt))), (qc, .inl (cJ, 1000, .inr (.inl (lNf ct)))), (ql, .inl (cZ, 1000, .inl (bIf fa)))] H := hP
          have hD : va_D A [(h, .inr (0, [.ref cf, .ref cn, .ref cp])), (cf, .inl (cI, 200, .inl (oIf fs))), (cn, .inl (cI, 200, .inl (oIf nx))), (cp, .inl (cJ, 200, .inr (.inl (lNf (adT (fs (tt k)) (fs (fr k)) c0 (ct k) (adT (fs (fr k)) (fs (tt k)) c0 (ct k) (plF fs c0 fr tt ct pu k))))))), (q, .inr (2, [.ref qf, .ref qt, .ref qc, .ref ql, .int (nI kn)])), (qf, .inl (cI, 1000, .inl (nIf fr))), (qt, .inl (cI, 1000, .inl (nIf tt))), (qc, .inl (cJ, 1000, .inr (.inl (lNf ct)))), (ql, .inl (cZ, 1000, .inl (bIf fa)))] := hD
          refine lv_iinc (v := (nI (k + 1))) (lv' := [(3, .int (nI (k + 1))), (5, .int (oI (fs (tt k)))), (4, .int (oI (fs (fr k)))), (0, .ref h), (1, .int (nI c0)), (2, .ref q)]) hx hb dX0_pullTowards_92 hl (k := 5) rfl (nI_1 _) (by decide) rfl (fun ls hl => ?_)
          refine lv_goto (tgt := 2) hx hb dX0_pullTowards_95 (by decide) ?_
          exact ih_2 (k + 1) _ _ _ ⟨(show (k + 1) ≤ kn from by omega), hP.sub [0, 1, 2, 3, 4, 5, 6, 7, 8] rfl, hD.sub [0, 1, 2, 3, 4, 5, 6, 7, 8] (by decide) rfl, hS, lv_sub hl [3, 4, 5, 0] rfl⟩ (by show kn - (k + 1) < kn - k; omega)
        · skip
          refine lv_iload hx hb dX0_pullTowards_70 (lv_at hl 1 rfl) ?_
          refine lv_iconst (v := -1) hx hb dX0_pullTowards_72 (by decide) ?_
          refine r_o_eq (tgt := 92) hx hb (o := fs (fr k)) (q := none) rfl rfl (fun j h => by have := hfs _ _ h; omega) (fun j h => by cases h) dX0_pullTowards_73 (by decide) (fun c_73 => ?_) (fun c_73 => ?_)
          · skip
            have hfe : adT (fs (fr k)) (fs (tt k)) c0 (ct k) (plF fs c0 fr tt ct pu k) = adT (fs (tt k)) (fs (fr k)) c0 (ct k) (adT (fs (fr k)) (fs (tt k)) c0 (ct k) (plF fs c0 fr tt ct pu k)) := adT_no (Or.inr c_73)
            rw [hfe] at hP hD
            have hP : va_P D vwCl [(h, .inr (0, [.ref cf, .ref cn, .ref cp])), (cf, .inl (cI, 200, .inl (oIf fs))), (cn, .inl (cI, 200, .inl (oIf nx))), (cp, .inl (cJ, 200, .inr (.inl (lNf (adT (fs (tt k)) (fs (fr k)) c0 (ct k) (adT (fs (fr k)) (fs (tt k)) c0 (ct k) (plF fs c0 fr tt ct pu k))))))), (q, .inr (2, [.ref qf, .ref qt, .ref qc, .ref ql, .int (nI kn)])), (qf, .inl (cI, 1000, .inl (nIf fr))), (qt, .inl (cI, 1000, .inl (nIf tt))), (qc, .inl (cJ, 1000, .inr (.inl (lNf ct)))), (ql, .inl (cZ, 1000, .inl (bIf fa)))] H := hP
            have hD : va_D A [(h, .inr (0, [.ref cf, .ref cn, .ref cp])), (cf, .inl (cI, 200, .inl (oIf fs))), (cn, .inl (cI, 200, .inl (oIf nx))), (cp, .inl (cJ, 200, .inr (.inl (lNf (adT (fs (tt k)) (fs (fr k)) c0 (ct k) (adT (fs (fr k)) (fs (tt k)) c0 (ct k) (plF fs c0 fr tt ct pu k))))))), (q, .inr (2, [.ref qf, .ref qt, .ref qc, .ref ql, .int (nI kn)])), (qf, .inl (cI, 1000, .inl (nIf fr))), (qt, .inl (cI, 1000, .inl (nIf tt))), (qc, .inl (cJ, 1000, .inr (.inl (lNf ct)))), (ql, .inl (cZ, 1000, .inl (bIf fa)))] := hD
            refine lv_iinc (v := (nI (k + 1))) (lv' := [(3, .int (nI (k + 1))), (5, .int (oI (fs (tt k)))), (4, .int (oI (fs (fr k)))), (0, .ref h), (1, .int (nI c0)), (2, .ref q)]) hx hb dX0_pullTowards_92 hl (k := 5) rfl (nI_1 _) (by decide) rfl (fun ls hl => ?_)
            refine lv_goto (tgt := 2) hx hb dX0_pullTowards_95 (by decide) ?_
            exact ih_2 (k + 1) _ _ _ ⟨(show (k + 1) ≤ kn from by omega), hP.sub [0, 1, 2, 3, 4, 5, 6, 7, 8] rfl, hD.sub [0, 1, 2, 3, 4, 5, 6, 7, 8] (by decide) rfl, hS, lv_sub hl [3, 4, 5, 0] rfl⟩ (by show kn - (k + 1) < kn - k; omega)
          · skip
            obtain ⟨a1, ha1⟩ := Option.ne_none_iff_exists'.mp c_73
            have ha1b := hfs _ _ ha1
            rw [ha1] at hl
            have hl : lv_has ls 6 [(5, .int (oI (fs (tt k)))), (4, .int (nI a1)), (0, .ref h), (1, .int (nI c0)), (2, .ref q), (3, .int (nI k))] := hl
            refine lv_aload_n hx hb dX0_pullTowards_76 rfl (lv_at hl 2 rfl) ?_
            refine va_get (D := D) (ci := 0) (v := .ref cp) (C := RX0) (T := TX0) (N := 3) hx hb hts in_X0_pullTowards_X0 hown hE.1 hP 0 rfl rfl 2 (by decide) (hts _ fl_X0_pullTowards_18) (fun _ h9 => h9) rfl dX0_pullTowards_77 ?_
            refine lv_iload hx hb dX0_pullTowards_80 (lv_at hl 1 rfl) ?_
            refine lv_dup2_11 hx hb dX0_pullTowards_82 rfl rfl ?_
            refine r_lld hx hb hE hP 3 rfl (k := a1) (by omega) (by decide) dX0_pullTowards_83 ?_
            refine lv_aload_n hx hb dX0_pullTowards_84 rfl (lv_at hl 4 rfl) ?_
            refine va_getN (D := D) (ci := 2) (v := .ref qc) (C := RX2) (T := TX2) (N := 5) hx hb hts in_X0_pullTowards_X2 hown hE.1 hP 4 rfl rfl 2 (by decide) (va_Nw.use rfl hE.2.1.2.2.1) (fun _ h9 => h9) rfl dX0_pullTowards_85 ?_
            refine lv_iload_n hx hb dX0_pullTowards_88 rfl (lv_at hl 5 rfl) ?_
            refine r_lld hx hb hE hP 7 rfl (k := k) (by omega) (by decide) dX0_pullTowards_89 ?_
            refine r_ladd hx hb dX0_pullTowards_90 ?_
            refine r_lst hx hb hE hP hD hS 3 rfl (k := a1) (x := ((adT (fs (fr k)) (fs (tt k)) c0 (ct k) (plF fs c0 fr tt ct pu k)) a1) + (ct k)) (by omega) (by decide) dX0_pullTowards_91 (fun H locs hP hD hS => ?_)
            have hP : va_P D vwCl [(h, .inr (0, [.ref cf, .ref cn, .ref cp])), (cf, .inl (cI, 200, .inl (oIf fs))), (cn, .inl (cI, 200, .inl (oIf nx))), (cp, .inl (cJ, 200, .inr (.inl (lNf (va_up (adT (fs (fr k)) (fs (tt k)) c0 (ct k) (plF fs c0 fr tt ct pu k)) a1 (((adT (fs (fr k)) (fs (tt k)) c0 (ct k) (plF fs c0 fr tt ct pu k)) a1) + (ct k))))))), (q, .inr (2, [.ref qf, .ref qt, .ref qc, .ref ql, .int (nI kn)])), (qf, .inl (cI, 1000, .inl (nIf fr))), (qt, .inl (cI, 1000, .inl (nIf tt))), (qc, .inl (cJ, 1000, .inr (.inl (lNf ct)))), (ql, .inl (cZ, 1000, .inl (bIf fa)))] H := hP
            have hD : va_D A [(h, .inr (0, [.ref cf, .ref cn, .ref cp])), (cf, .inl (cI, 200, .inl (oIf fs))), (cn, .inl (cI, 200, .inl (oIf nx))), (cp, .inl (cJ, 200, .inr (.inl (lNf (va_up (adT (fs (fr k)) (fs (tt k)) c0 (ct k) (plF fs c0 fr tt ct pu k)) a1 (((adT (fs (fr k)) (fs (tt k)) c0 (ct k) (plF fs c0 fr tt ct pu k)) a1) + (ct k))))))), (q, .inr (2, [.ref qf, .ref qt, .ref qc, .ref ql, .int (nI kn)])), (qf, .inl (cI, 1000, .inl (nIf fr))), (qt, .inl (cI, 1000, .inl (nIf tt))), (qc, .inl (cJ, 1000, .inr (.inl (lNf ct)))), (ql, .inl (cZ, 1000, .inl (bIf fa)))] := hD
            have hfe : va_up (adT (fs (fr k)) (fs (tt k)) c0 (ct k) (plF fs c0 fr tt ct pu k)) a1 (((adT (fs (fr k)) (fs (tt k)) c0 (ct k) (plF fs c0 fr tt ct pu k)) a1) + (ct k)) = adT (fs (tt k)) (fs (fr k)) c0 (ct k) (adT (fs (fr k)) (fs (tt k)) c0 (ct k) (plF fs c0 fr tt ct pu k)) := adT_yes c_67 ha1
            rw [hfe] at hP hD
            have hP : va_P D vwCl [(h, .inr (0, [.ref cf, .ref cn, .ref cp])), (cf, .inl (cI, 200, .inl (oIf fs))), (cn, .inl (cI, 200, .inl (oIf nx))), (cp, .inl (cJ, 200, .inr (.inl (lNf (adT (fs (tt k)) (fs (fr k)) c0 (ct k) (adT (fs (fr k)) (fs (tt k)) c0 (ct k) (plF fs c0 fr tt ct pu k))))))), (q, .inr (2, [.ref qf, .ref qt, .ref qc, .ref ql, .int (nI kn)])), (qf, .inl (cI, 1000, .inl (nIf fr))), (qt, .inl (cI, 1000, .inl (nIf tt))), (qc, .inl (cJ, 1000, .inr (.inl (lNf ct)))), (ql, .inl (cZ, 1000, .inl (bIf fa)))] H := hP
            have hD : va_D A [(h, .inr (0, [.ref cf, .ref cn, .ref cp])), (cf, .inl (cI, 200, .inl (oIf fs))), (cn, .inl (cI, 200, .inl (oIf nx))), (cp, .inl (cJ, 200, .inr (.inl (lNf (adT (fs (tt k)) (fs (fr k)) c0 (ct k) (adT (fs (fr k)) (fs (tt k)) c0 (ct k) (plF fs c0 fr tt ct pu k))))))), (q, .inr (2, [.ref qf, .ref qt, .ref qc, .ref ql, .int (nI kn)])), (qf, .inl (cI, 1000, .inl (nIf fr))), (qt, .inl (cI, 1000, .inl (nIf tt))), (qc, .inl (cJ, 1000, .inr (.inl (lNf ct)))), (ql, .inl (cZ, 1000, .inl (bIf fa)))] := hD
            refine lv_iinc (v := (nI (k + 1))) (lv' := [(3, .int (nI (k + 1))), (5, .int (oI (fs (tt k)))), (4, .int (nI a1)), (0, .ref h), (1, .int (nI c0)), (2, .ref q)]) hx hb dX0_pullTowards_92 hl (k := 5) rfl (nI_1 _) (by decide) rfl (fun ls hl => ?_)
            refine lv_goto (tgt := 2) hx hb dX0_pullTowards_95 (by decide) ?_
            exact ih_2 (k + 1) _ _ _ ⟨(show (k + 1) ≤ kn from by omega), hP.sub [0, 1, 2, 3, 4, 5, 6, 7, 8] rfl, hD.sub [0, 1, 2, 3, 4, 5, 6, 7, 8] (by decide) rfl, hS, lv_sub hl [3, 4, 5, 0] rfl⟩ (by show kn - (k + 1) < kn - k; omega)
      · skip
        obtain ⟨d1, hd1⟩ := Option.ne_none_iff_exists'.mp c_45
        have hd1b := hfs _ _ hd1
        rw [hd1] at hl
        have hl : lv_has ls 6 [(5, .int (nI d1)), (4, .int (oI (fs (fr k)))), (0, .ref h), (1, .int (nI c0)), (2, .ref q), (3, .int (nI k))] := hl
        refine lv_aload_n hx hb dX0_pullTowards_48 rfl (lv_at hl 2 rfl) ?_
        refine va_get (D := D) (ci := 0) (v := .ref cp) (C := RX0) (T := TX0) (N := 3) hx hb hts in_X0_pullTowards_X0 hown hE.1 hP 0 rfl rfl 2 (by decide) (hts _ fl_X0_pullTowards_18) (fun _ h9 => h9) rfl dX0_pullTowards_49 ?_
        refine lv_iload hx hb dX0_pullTowards_52 (lv_at hl 0 rfl) ?_
        refine lv_dup2_11 hx hb dX0_pullTowards_54 rfl rfl ?_
        refine r_lld hx hb hE hP 3 rfl (k := d1) (by omega) (by decide) dX0_pullTowards_55 ?_
        refine lv_aload_n hx hb dX0_pullTowards_56 rfl (lv_at hl 4 rfl) ?_
        refine va_getN (D := D) (ci := 2) (v := .ref qc) (C := RX2) (T := TX2) (N := 5) hx hb hts in_X0_pullTowards_X2 hown hE.1 hP 4 rfl rfl 2 (by decide) (va_Nw.use rfl hE.2.1.2.2.1) (fun _ h9 => h9) rfl dX0_pullTowards_57 ?_
        refine lv_iload_n hx hb dX0_pullTowards_60 rfl (lv_at hl 5 rfl) ?_
        refine r_lld hx hb hE hP 7 rfl (k := k) (by omega) (by decide) dX0_pullTowards_61 ?_
        refine r_ladd hx hb dX0_pullTowards_62 ?_
        refine r_lst hx hb hE hP hD hS 3 rfl (k := d1) (x := ((plF fs c0 fr tt ct pu k) d1) + (ct k)) (by omega) (by decide) dX0_pullTowards_63 (fun H locs hP hD hS => ?_)
        have hP : va_P D vwCl [(h, .inr (0, [.ref cf, .ref cn, .ref cp])), (cf, .inl (cI, 200, .inl (oIf fs))), (cn, .inl (cI, 200, .inl (oIf nx))), (cp, .inl (cJ, 200, .inr (.inl (lNf (va_up (plF fs c0 fr tt ct pu k) d1 (((plF fs c0 fr tt ct pu k) d1) + (ct k))))))), (q, .inr (2, [.ref qf, .ref qt, .ref qc, .ref ql, .int (nI kn)])), (qf, .inl (cI, 1000, .inl (nIf fr))), (qt, .inl (cI, 1000, .inl (nIf tt))), (qc, .inl (cJ, 1000, .inr (.inl (lNf ct)))), (ql, .inl (cZ, 1000, .inl (bIf fa)))] H := hP
        have hD : va_D A [(h, .inr (0, [.ref cf, .ref cn, .ref cp])), (cf, .inl (cI, 200, .inl (oIf fs))), (cn, .inl (cI, 200, .inl (oIf nx))), (cp, .inl (cJ, 200, .inr (.inl (lNf (va_up (plF fs c0 fr tt ct pu k) d1 (((plF fs c0 fr tt ct pu k) d1) + (ct k))))))), (q, .inr (2, [.ref qf, .ref qt, .ref qc, .ref ql, .int (nI kn)])), (qf, .inl (cI, 1000, .inl (nIf fr))), (qt, .inl (cI, 1000, .inl (nIf tt))), (qc, .inl (cJ, 1000, .inr (.inl (lNf ct)))), (ql, .inl (cZ, 1000, .inl (bIf fa)))] := hD
        have hfe : va_up (plF fs c0 fr tt ct pu k) d1 (((plF fs c0 fr tt ct pu k) d1) + (ct k)) = adT (fs (fr k)) (fs (tt k)) c0 (ct k) (plF fs c0 fr tt ct pu k) := adT_yes c_39 hd1
        rw [hfe] at hP hD
        have hP : va_P D vwCl [(h, .inr (0, [.ref cf, .ref cn, .ref cp])), (cf, .inl (cI, 200, .inl (oIf fs))), (cn, .inl (cI, 200, .inl (oIf nx))), (cp, .inl (cJ, 200, .inr (.inl (lNf (adT (fs (fr k)) (fs (tt k)) c0 (ct k) (plF fs c0 fr tt ct pu k)))))), (q, .inr (2, [.ref qf, .ref qt, .ref qc, .ref ql, .int (nI kn)])), (qf, .inl (cI, 1000, .inl (nIf fr))), (qt, .inl (cI, 1000, .inl (nIf tt))), (qc, .inl (cJ, 1000, .inr (.inl (lNf ct)))), (ql, .inl (cZ, 1000, .inl (bIf fa)))] H := hP
        have hD : va_D A [(h, .inr (0, [.ref cf, .ref cn, .ref cp])), (cf, .inl (cI, 200, .inl (oIf fs))), (cn, .inl (cI, 200, .inl (oIf nx))), (cp, .inl (cJ, 200, .inr (.inl (lNf (adT (fs (fr k)) (fs (tt k)) c0 (ct k) (plF fs c0 fr tt ct pu k)))))), (q, .inr (2, [.ref qf, .ref qt, .ref qc, .ref ql, .int (nI kn)])), (qf, .inl (cI, 1000, .inl (nIf fr))), (qt, .inl (cI, 1000, .inl (nIf tt))), (qc, .inl (cJ, 1000, .inr (.inl (lNf ct)))), (ql, .inl (cZ, 1000, .inl (bIf fa)))] := hD
        have hl : lv_has ls 6 [(5, .int (oI (fs (tt k)))), (4, .int (oI (fs (fr k)))), (0, .ref h), (1, .int (nI c0)), (2, .ref q), (3, .int (nI k))] := by rw [hd1]; exact hl
        refine lv_iload hx hb dX0_pullTowards_64 (lv_at hl 0 rfl) ?_
        refine lv_iload_n hx hb dX0_pullTowards_66 rfl (lv_at hl 3 rfl) ?_
        refine r_o_ne (tgt := 92) hx hb (o := fs (tt k)) (q := some c0) rfl rfl (fun j h => by have := hfs _ _ h; omega) (fun j h => by cases h; omega) dX0_pullTowards_67 (by decide) (fun c_67 => ?_) (fun c_67 => ?_)
        · skip
          have hfe : adT (fs (fr k)) (fs (tt k)) c0 (ct k) (plF fs c0 fr tt ct pu k) = adT (fs (tt k)) (fs (fr k)) c0 (ct k) (adT (fs (fr k)) (fs (tt k)) c0 (ct k) (plF fs c0 fr tt ct pu k)) := adT_no (Or.inl c_67)
          rw [hfe] at hP hD
          have hP : va_P D vwCl [(h, .inr (0, [.ref cf, .ref cn, .ref cp])), (cf, .inl (cI, 200, .inl (oIf fs))), (cn, .inl (cI, 200, .inl (oIf nx))), (cp, .inl (cJ, 200, .inr (.inl (lNf (adT (fs (tt k)) (fs (fr k)) c0 (ct k) (adT (fs (fr k)) (fs (tt k)) c0 (ct k) (plF fs c0 fr tt ct pu k))))))), (q, .inr (2, [.ref qf, .ref qt, .ref qc, .ref ql, .int (nI kn)])), (qf, .inl (cI, 1000, .inl (nIf fr))), (qt, .inl (cI, 1000, .inl (nIf tt))), (qc, .inl (cJ, 1000, .inr (.inl (lNf ct)))), (ql, .inl (cZ, 1000, .inl (bIf fa)))] H := hP
          have hD : va_D A [(h, .inr (0, [.ref cf, .ref cn, .ref cp])), (cf, .inl (cI, 200, .inl (oIf fs))), (cn, .inl (cI, 200, .inl (oIf nx))), (cp, .inl (cJ, 200, .inr (.inl (lNf (adT (fs (tt k)) (fs (fr k)) c0 (ct k) (adT (fs (fr k)) (fs (tt k)) c0 (ct k) (plF fs c0 fr tt ct pu k))))))), (q, .inr (2, [.ref qf, .ref qt, .ref qc, .ref ql, .int (nI kn)])), (qf, .inl (cI, 1000, .inl (nIf fr))), (qt, .inl (cI, 1000, .inl (nIf tt))), (qc, .inl (cJ, 1000, .inr (.inl (lNf ct)))), (ql, .inl (cZ, 1000, .inl (bIf fa)))] := hD
          refine lv_iinc (v := (nI (k + 1))) (lv' := [(3, .int (nI (k + 1))), (5, .int (oI (fs (tt k)))), (4, .int (oI (fs (fr k)))), (0, .ref h), (1, .int (nI c0)), (2, .ref q)]) hx hb dX0_pullTowards_92 hl (k := 5) rfl (nI_1 _) (by decide) rfl (fun ls hl => ?_)
          refine lv_goto (tgt := 2) hx hb dX0_pullTowards_95 (by decide) ?_
          exact ih_2 (k + 1) _ _ _ ⟨(show (k + 1) ≤ kn from by omega), hP.sub [0, 1, 2, 3, 4, 5, 6, 7, 8] rfl, hD.sub [0, 1, 2, 3, 4, 5, 6, 7, 8] (by decide) rfl, hS, lv_sub hl [3, 4, 5, 0] rfl⟩ (by show kn - (k + 1) < kn - k; omega)
        · skip
          refine lv_iload hx hb dX0_pullTowards_70 (lv_at hl 1 rfl) ?_
          refine lv_iconst (v := -1) hx hb dX0_pullTowards_72 (by decide) ?_
          refine r_o_eq (tgt := 92) hx hb (o := fs (fr k)) (q := none) rfl rfl (fun j h => by have := hfs _ _ h; omega) (fun j h => by cases h) dX0_pullTowards_73 (by decide) (fun c_73 => ?_) (fun c_73 => ?_)
          · skip
            have hfe : adT (fs (fr k)) (fs (tt k)) c0 (ct k) (plF fs c0 fr tt ct pu k) = adT (fs (tt k)) (fs (fr k)) c0 (ct k) (adT (fs (fr k)) (fs (tt k)) c0 (ct k) (plF fs c0 fr tt ct pu k)) := adT_no (Or.inr c_73)
            rw [hfe] at hP hD
            have hP : va_P D vwCl [(h, .inr (0, [.ref cf, .ref cn, .ref cp])), (cf, .inl (cI, 200, .inl (oIf fs))), (cn, .inl (cI, 200, .inl (oIf nx))), (cp, .inl (cJ, 200, .inr (.inl (lNf (adT (fs (tt k)) (fs (fr k)) c0 (ct k) (adT (fs (fr k)) (fs (tt k)) c0 (ct k) (plF fs c0 fr tt ct pu k))))))), (q, .inr (2, [.ref qf, .ref qt, .ref qc, .ref ql, .int (nI kn)])), (qf, .inl (cI, 1000, .inl (nIf fr))), (qt, .inl (cI, 1000, .inl (nIf tt))), (qc, .inl (cJ, 1000, .inr (.inl (lNf ct)))), (ql, .inl (cZ, 1000, .inl (bIf fa)))] H := hP
            have hD : va_D A [(h, .inr (0, [.ref cf, .ref cn, .ref cp])), (cf, .inl (cI, 200, .inl (oIf fs))), (cn, .inl (cI, 200, .inl (oIf nx))), (cp, .inl (cJ, 200, .inr (.inl (lNf (adT (fs (tt k)) (fs (fr k)) c0 (ct k) (adT (fs (fr k)) (fs (tt k)) c0 (ct k) (plF fs c0 fr tt ct pu k))))))), (q, .inr (2, [.ref qf, .ref qt, .ref qc, .ref ql, .int (nI kn)])), (qf, .inl (cI, 1000, .inl (nIf fr))), (qt, .inl (cI, 1000, .inl (nIf tt))), (qc, .inl (cJ, 1000, .inr (.inl (lNf ct)))), (ql, .inl (cZ, 1000, .inl (bIf fa)))] := hD
            refine lv_iinc (v := (nI (k + 1))) (lv' := [(3, .int (nI (k + 1))), (5, .int (oI (fs (tt k)))), (4, .int (oI (fs (fr k)))), (0, .ref h), (1, .int (nI c0)), (2, .ref q)]) hx hb dX0_pullTowards_92 hl (k := 5) rfl (nI_1 _) (by decide) rfl (fun ls hl => ?_)
            refine lv_goto (tgt := 2) hx hb dX0_pullTowards_95 (by decide) ?_
            exact ih_2 (k + 1) _ _ _ ⟨(show (k + 1) ≤ kn from by omega), hP.sub [0, 1, 2, 3, 4, 5, 6, 7, 8] rfl, hD.sub [0, 1, 2, 3, 4, 5, 6, 7, 8] (by decide) rfl, hS, lv_sub hl [3, 4, 5, 0] rfl⟩ (by show kn - (k + 1) < kn - k; omega)
          · skip
            obtain ⟨a1, ha1⟩ := Option.ne_none_iff_exists'.mp c_73
            have ha1b := hfs _ _ ha1
            rw [ha1] at hl
            have hl : lv_has ls 6 [(5, .int (oI (fs (tt k)))), (4, .int (nI a1)), (0, .ref h), (1, .int (nI c0)), (2, .ref q), (3, .int (nI k))] := hl
            refine lv_aload_n hx hb dX0_pullTowards_76 rfl (lv_at hl 2 rfl) ?_
            refine va_get (D := D) (ci := 0) (v := .ref cp) (C := RX0) (T := TX0) (N := 3) hx hb hts in_X0_pullTowards_X0 hown hE.1 hP 0 rfl rfl 2 (by decide) (hts _ fl_X0_pullTowards_18) (fun _ h9 => h9) rfl dX0_pullTowards_77 ?_
            refine lv_iload hx hb dX0_pullTowards_80 (lv_at hl 1 rfl) ?_
            refine lv_dup2_11 hx hb dX0_pullTowards_82 rfl rfl ?_
            refine r_lld hx hb hE hP 3 rfl (k := a1) (by omega) (by decide) dX0_pullTowards_83 ?_
            refine lv_aload_n hx hb dX0_pullTowards_84 rfl (lv_at hl 4 rfl) ?_
            refine va_getN (D := D) (ci := 2) (v := .ref qc) (C := RX2) (T := TX2) (N := 5) hx hb hts in_X0_pullTowards_X2 hown hE.1 hP 4 rfl rfl 2 (by decide) (va_Nw.use rfl hE.2.1.2.2.1) (fun _ h9 => h9) rfl dX0_pullTowards_85 ?_
            refine lv_iload_n hx hb dX0_pullTowards_88 rfl (lv_at hl 5 rfl) ?_
            refine r_lld hx hb hE hP 7 rfl (k := k) (by omega) (by decide) dX0_pullTowards_89 ?_
            refine r_ladd hx hb dX0_pullTowards_90 ?_
            refine r_lst hx hb hE hP hD hS 3 rfl (k := a1) (x := ((adT (fs (fr k)) (fs (tt k)) c0 (ct k) (plF fs c0 fr tt ct pu k)) a1) + (ct k)) (by omega) (by decide) dX0_pullTowards_91 (fun H locs hP hD hS => ?_)
            have hP : va_P D vwCl [(h, .inr (0, [.ref cf, .ref cn, .ref cp])), (cf, .inl (cI, 200, .inl (oIf fs))), (cn, .inl (cI, 200, .inl (oIf nx))), (cp, .inl (cJ, 200, .inr (.inl (lNf (va_up (adT (fs (fr k)) (fs (tt k)) c0 (ct k) (plF fs c0 fr tt ct pu k)) a1 (((adT (fs (fr k)) (fs (tt k)) c0 (ct k) (plF fs c0 fr tt ct pu k)) a1) + (ct k))))))), (q, .inr (2, [.ref qf, .ref qt, .ref qc, .ref ql, .int (nI kn)])), (qf, .inl (cI, 1000, .inl (nIf fr))), (qt, .inl (cI, 1000, .inl (nIf tt))), (qc, .inl (cJ, 1000, .inr (.inl (lNf ct)))), (ql, .inl (cZ, 1000, .inl (bIf fa)))] H := hP
            have hD : va_D A [(h, .inr (0, [.ref cf, .ref cn, .ref cp])), (cf, .inl (cI, 200, .inl (oIf fs))), (cn, .inl (cI, 200, .inl (oIf nx))), (cp, .inl (cJ, 200, .inr (.inl (lNf (va_up (adT (fs (fr k)) (fs (tt k)) c0 (ct k) (plF fs c0 fr tt ct pu k)) a1 (((adT (fs (fr k)) (fs (tt k)) c0 (ct k) (plF fs c0 fr tt ct pu k)) a1) + (ct k))))))), (q, .inr (2, [.ref qf, .ref qt, .ref qc, .ref ql, .int (nI kn)])), (qf, .inl (cI, 1000, .inl (nIf fr))), (qt, .inl (cI, 1000, .inl (nIf tt))), (qc, .inl (cJ, 1000, .inr (.inl (lNf ct)))), (ql, .inl (cZ, 1000, .inl (bIf fa)))] := hD
            have hfe : va_up (adT (fs (fr k)) (fs (tt k)) c0 (ct k) (plF fs c0 fr tt ct pu k)) a1 (((adT (fs (fr k)) (fs (tt k)) c0 (ct k) (plF fs c0 fr tt ct pu k)) a1) + (ct k)) = adT (fs (tt k)) (fs (fr k)) c0 (ct k) (adT (fs (fr k)) (fs (tt k)) c0 (ct k) (plF fs c0 fr tt ct pu k)) := adT_yes c_67 ha1
            rw [hfe] at hP hD
            have hP : va_P D vwCl [(h, .inr (0, [.ref cf, .ref cn, .ref cp])), (cf, .inl (cI, 200, .inl (oIf fs))), (cn, .inl (cI, 200, .inl (oIf nx))), (cp, .inl (cJ, 200, .inr (.inl (lNf (adT (fs (tt k)) (fs (fr k)) c0 (ct k) (adT (fs (fr k)) (fs (tt k)) c0 (ct k) (plF fs c0 fr tt ct pu k))))))), (q, .inr (2, [.ref qf, .ref qt, .ref qc, .ref ql, .int (nI kn)])), (qf, .inl (cI, 1000, .inl (nIf fr))), (qt, .inl (cI, 1000, .inl (nIf tt))), (qc, .inl (cJ, 1000, .inr (.inl (lNf ct)))), (ql, .inl (cZ, 1000, .inl (bIf fa)))] H := hP
            have hD : va_D A [(h, .inr (0, [.ref cf, .ref cn, .ref cp])), (cf, .inl (cI, 200, .inl (oIf fs))), (cn, .inl (cI, 200, .inl (oIf nx))), (cp, .inl (cJ, 200, .inr (.inl (lNf (adT (fs (tt k)) (fs (fr k)) c0 (ct k) (adT (fs (fr k)) (fs (tt k)) c0 (ct k) (plF fs c0 fr tt ct pu k))))))), (q, .inr (2, [.ref qf, .ref qt, .ref qc, .ref ql, .int (nI kn)])), (qf, .inl (cI, 1000, .inl (nIf fr))), (qt, .inl (cI, 1000, .inl (nIf tt))), (qc, .inl (cJ, 1000, .inr (.inl (lNf ct)))), (ql, .inl (cZ, 1000, .inl (bIf fa)))] := hD
            refine lv_iinc (v := (nI (k + 1))) (lv' := [(3, .int (nI (k + 1))), (5, .int (oI (fs (tt k)))), (4, .int (nI a1)), (0, .ref h), (1, .int (nI c0)), (2, .ref q)]) hx hb dX0_pullTowards_92 hl (k := 5) rfl (nI_1 _) (by decide) rfl (fun ls hl => ?_)
            refine lv_goto (tgt := 2) hx hb dX0_pullTowards_95 (by decide) ?_
            exact ih_2 (k + 1) _ _ _ ⟨(show (k + 1) ≤ kn from by omega), hP.sub [0, 1, 2, 3, 4, 5, 6, 7, 8] rfl, hD.sub [0, 1, 2, 3, 4, 5, 6, 7, 8] (by decide) rfl, hS, lv_sub hl [3, 4, 5, 0] rfl⟩ (by show kn - (k + 1) < kn - k; omega)
end
section
/-! placing the chains: the law of it, over lists -/
def pullS (L : List Wy) (T : Nat → List Nat) (P : List Nat) (c : Nat) : Nat := (L.map (fun w => if (w.1 ∈ T c ∧ w.2.1 ∈ P) ∨ (w.2.1 ∈ T c ∧ w.1 ∈ P) then w.2.2.1 else 0)).sum
def bestStep (L : List Wy) (T : Nat → List Nat) (P : List Nat) (o : Option Nat) (b : Nat) : Option Nat := if b ∈ P then o else match o, nameT T b with
  | none, q => q
  | some c, some d => if pullS L T P c < pullS L T P d then some d else some c
  | some c, none => some c
def bestS (L : List Wy) (T : Nat → List Nat) (HB P : List Nat) : Option Nat := HB.foldl (bestStep L T P) none
def placeF (L : List Wy) (T : Nat → List Nat) (HB : List Nat) : Nat → List Nat → List Nat
  | 0, P => P
  | k + 1, P => if P.length < HB.length then (match bestS L T HB P with
    | none => P
    | some c => placeF L T HB k (P ++ T c)) else P
def PI (L : List Wy) (T : Nat → List Nat) (_HB P : List Nat) (pu : Nat → Nat) : Prop := (∀ c, (∀ b, b ∈ T c → b ∈ P) ∨ (∀ b, b ∈ T c → b ∉ P)) ∧ (∀ c, T c ≠ [] → (∀ b, b ∈ T c → b ∉ P) → pu c = pullS L T P c) ∧ (∀ b, b ∈ P → ∃ c, b ∈ T c)
section Placing
variable {L : List Wy} {T : Nat → List Nat} {HB P : List Nat} {pu : Nat → Nat} {fs nx pl pl3 : Nat → Option Nat} {me me3 : Nat → Nat} {nn n3 i c0 j kn : Nat}
theorem pullS_nil (c : Nat) : pullS L T [] c = 0 := by
  unfold pullS
  induction L with
  | nil => rfl
  | cons w L ih =>
    rw [List.map_cons, List.sum_cons, ih]
    simp
theorem PI_nil (_ : True) : PI L T HB [] (fun _ => 0) := ⟨fun c => Or.inr (fun b _ h => by cases h), fun c _ _ => (pullS_nil c).symm, fun b h => by cases h⟩
theorem PI_lt (hR : CR T fs nx) (hp : PI L T HB P pu) : ∀ b, b ∈ P → b < 200 := fun b hb => by
  obtain ⟨c, hc⟩ := hp.2.2 b hb
  exact hR.1.1.1 c b hc
theorem LR_le (hR : CR T fs nx) (h : LR P n3 me3 pl3) (hp : PI L T HB P pu) : P.length ≤ 200 := nodup_len 200 P (LR_nodup h) (PI_lt hR hp)
theorem foldl_best {Q : Nat → Prop} : ∀ (HB : List Nat) (o : Option Nat), (∀ c, o = some c → Q c) → (∀ b, b ∈ HB → b ∉ P → ∀ d, nameT T b = some d → Q d) → ∀ c, HB.foldl (bestStep L T P) o = some c → Q c := by
  intro HB
  induction HB with
  | nil => intro o h1 _ c hc; exact h1 c hc
  | cons b HB ih =>
    intro o h1 h2 c hc
    refine ih (bestStep L T P o b) ?_ (fun x hx => h2 x (List.mem_cons_of_mem _ hx)) c hc
    intro e he
    unfold bestStep at he
    split at he
    · exact h1 e he
    · next hz =>
      cases o with
      | none => exact h2 b List.mem_cons_self hz e he
      | some c1 =>
        cases hf : nameT T b with
        | none =>
          rw [hf] at he
          cases he
          exact h1 _ rfl
        | some d1 =>
          rw [hf] at he
          dsimp only at he
          split at he
          · cases he
            exact h2 b List.mem_cons_self hz _ hf
          · cases he
            exact h1 _ rfl
theorem best_ex (hR : CI T) (h : bestS L T HB P = some j) : ∃ b, b ∈ HB ∧ b ∉ P ∧ b ∈ T j :=
  foldl_best (Q := fun c => ∃ b, b ∈ HB ∧ b ∉ P ∧ b ∈ T c) HB none (fun c h => by cases h) (fun b hb hp d hd => ⟨b, hb, hp, (name_iff hR).mp hd⟩) j h
theorem best_lt (hR : CR T fs nx) (h : bestS L T HB P = some j) : j < 200 := by
  obtain ⟨b, -, -, hb⟩ := best_ex hR.1.1 h
  exact hR.1.1.lt hb
theorem closed_un (hc : ∀ c, (∀ b, b ∈ T c → b ∈ P) ∨ (∀ b, b ∈ T c → b ∉ P)) {b : Nat} (hb : b ∈ T j) (hp : b ∉ P) : ∀ x, x ∈ T j → x ∉ P := by
  rcases hc j with q | q
  · exact absurd (q b hb) hp
  · exact q
theorem best_sp (hR : CR T fs nx) (hp : PI L T HB P pu) (h : bestS L T HB P = some c0) : T c0 ≠ [] ∧ ∀ b, b ∈ T c0 → b ∉ P := by
  obtain ⟨b, -, h1, h2⟩ := best_ex hR.1.1 h
  have h3 : T c0 ≠ [] := fun q => by rw [q] at h2; cases h2
  exact ⟨h3, closed_un hp.1 h2 h1⟩
theorem hb_me (hR : CR T fs nx) (hHB : LR HB nn me pl) (hcv : ∀ b, b ∈ HB ↔ ∃ c, b ∈ T c) : ∀ k, k < nn → me k < 200 ∧ ∃ d, fs (me k) = some d := by
  intro k hk
  rw [hHB.1] at hk
  have e := hHB.2.1 k _ (List.getElem?_eq_getElem hk)
  obtain ⟨c, hc⟩ := (hcv (HB[k])).mp (List.getElem_mem hk)
  rw [e]
  exact ⟨hR.1.1.1 c _ hc, c, (hR.2.1 _ c).mpr hc⟩
theorem pu_lt (hR : CR T fs nx) (_hHB : LR HB nn me pl) (hLR : LR P n3 me3 pl3) (hp : PI L T HB P pu) (hLb : ∀ T P c, pullS L T P c < 2 ^ 63) : ∀ k, k < nn → pl3 (me k) = none → ∀ d, fs (me k) = some d → pu d < 2 ^ 63 := by
  intro k _ hz d hd
  have h1 := (hR.2.1 _ d).mp hd
  have h2 := (LR_none hLR).mp hz
  rw [hp.2.1 d (fun q => by rw [q] at h1; cases h1) (closed_un hp.1 h1 h2)]
  exact hLb _ _ _
theorem pl_room (hR : CR T fs nx) (hLR : LR P n3 me3 pl3) (hp : PI L T HB P pu) (hbc : ∀ b, b ∈ T c0 → b ∉ P) : P.length + (T c0).length ≤ 200 := by
  rw [← List.length_append]
  refine nodup_len 200 _ (List.nodup_append.mpr ⟨LR_nodup hLR, hR.1.1.2.2.2 c0, ?_⟩) ?_
  · intro x hx y hy e
    subst e
    exact hbc x hy hx
  · intro b hb
    rcases List.mem_append.mp hb with q | q
    · exact PI_lt hR hp b q
    · exact hR.1.1.1 c0 b q
theorem best_eq (hR : CR T fs nx) (hHB : LR HB nn me pl) (hLR : LR P n3 me3 pl3) (hp : PI L T HB P pu) : bestF fs pu pl3 me nn = bestS L T HB P := by
  have key : ∀ k, k ≤ nn → bestF fs pu pl3 me k = (HB.take k).foldl (bestStep L T P) none ∧ ∀ c, bestF fs pu pl3 me k = some c → T c ≠ [] ∧ ∀ x, x ∈ T c → x ∉ P := by
    intro k
    induction k with
    | zero => intro _; exact ⟨rfl, fun c h => by cases h⟩
    | succ k ih =>
      intro hk
      obtain ⟨h1, h2⟩ := ih (by omega)
      have hk2 : k < HB.length := by rw [← hHB.1]; omega
      have e : HB.take (k + 1) = HB.take k ++ [me k] := by
        rw [List.take_add_one, List.getElem?_eq_getElem hk2, hHB.2.1 k _ (List.getElem?_eq_getElem hk2)]
        rfl
      have un : pl3 (me k) = none → ∀ d, fs (me k) = some d → T d ≠ [] ∧ ∀ x, x ∈ T d → x ∉ P := by
        intro hz d hd
        have g1 := (hR.2.1 _ d).mp hd
        have g3 : T d ≠ [] := fun q => by rw [q] at g1; cases g1
        exact ⟨g3, closed_un hp.1 g1 ((LR_none hLR).mp hz)⟩
      refine ⟨?_, best_bd h2 un⟩
      rw [e, List.foldl_append, ← h1]
      show bestF fs pu pl3 me (k + 1) = bestStep L T P (bestF fs pu pl3 me k) (me k)
      unfold bestStep
      rw [← CR_name hR]
      simp only [bestF]
      by_cases hz : (pl3 (me k)).isSome = true
      · rw [if_pos hz, if_pos ((LR_mem hLR).mp hz)]
      · rw [if_neg hz, if_neg (fun q => hz ((LR_mem hLR).mpr q))]
        have hz2 : pl3 (me k) = none := by simpa using hz
        cases hb : bestF fs pu pl3 me k with
        | none => rfl
        | some c1 =>
          cases hf : fs (me k) with
          | none => rfl
          | some d1 =>
            dsimp only
            obtain ⟨a1, a2⟩ := h2 c1 hb
            obtain ⟨b1, b2⟩ := un hz2 d1 hf
            rw [hp.2.1 c1 a1 a2, hp.2.1 d1 b1 b2]
  have h := (key nn (Nat.le_refl _)).1
  rw [List.take_of_length_le (by rw [hHB.1]; exact Nat.le_refl _)] at h
  exact h
theorem placeF_0 (h : 200 - i = 0) : placeF L T HB (200 - i) P = P := by
  rw [h]
  rfl
theorem placeF_full {k : Nat} (h : HB.length ≤ P.length) : placeF L T HB k P = P := by
  cases k with
  | zero => rfl
  | succ k =>
    simp only [placeF]
    rw [if_neg (by omega)]
theorem placeF_none {k : Nat} (h : bestS L T HB P = none) : placeF L T HB k P = P := by
  cases k with
  | zero => rfl
  | succ k =>
    simp only [placeF]
    rw [h]
    split <;> rfl
theorem placeF_go (_ : LR P n3 me3 pl3) (hi : i < 200) (h : bestS L T HB P = some c0) (hlt : P.length < HB.length) : placeF L T HB (200 - i) P = placeF L T HB (200 - (i + 1)) (P ++ T c0) := by
  rw [show 200 - i = (200 - (i + 1)) + 1 by omega]
  simp only [placeF]
  rw [if_pos hlt, h]
theorem pullS_succ {g : Nat → Wy} {k c : Nat} : pullS (wl (k + 1) g) T P c = pullS (wl k g) T P c + (if ((g k).1 ∈ T c ∧ (g k).2.1 ∈ P) ∨ ((g k).2.1 ∈ T c ∧ (g k).1 ∈ P) then (g k).2.2.1 else 0) := by
  unfold pullS
  rw [wl_succ, List.map_append, List.sum_append]
  simp
variable {fr tt ct : Nat → Nat} {fa : Nat → Bool}
theorem pullS_bd {B : Nat} (hB : ∀ k, ct k ≤ B) (T : Nat → List Nat) (P : List Nat) (c : Nat) : ∀ k, pullS (wl k (pk fr tt ct fa)) T P c ≤ k * B := by
  intro k
  induction k with
  | zero => simp [wl, pullS]
  | succ k ih =>
    rw [pullS_succ, Nat.succ_mul]
    refine Nat.add_le_add ih ?_
    split
    · exact hB k
    · exact Nat.zero_le _
theorem wl_b (hB : WB fr tt ct) (hkn : kn ≤ 1000) : ∀ (T : Nat → List Nat) (P : List Nat) (c : Nat), pullS (wl kn (pk fr tt ct fa)) T P c < 2 ^ 63 := fun T P c => Nat.lt_of_le_of_lt (pullS_bd (B := 1000000000000000) (fun k => (hB k).2.2) T P c kn) (Nat.lt_of_le_of_lt (Nat.mul_le_mul_right _ hkn) (by decide))
theorem PI_step (hR : CR T fs nx) (hp : PI (wl kn (pk fr tt ct fa)) T HB P pu) (hbc : ∀ b, b ∈ T c0 → b ∉ P) (_hcv : ∀ b, b ∈ HB ↔ ∃ c, b ∈ T c) : PI (wl kn (pk fr tt ct fa)) T HB (P ++ T c0) (plF fs c0 fr tt ct pu kn) := by
  refine ⟨?_, ?_, ?_⟩
  · intro c
    rcases hp.1 c with q | q
    · exact Or.inl (fun b hb => List.mem_append_left _ (q b hb))
    · by_cases hc : c = c0
      · subst hc
        exact Or.inl (fun b hb => List.mem_append_right _ hb)
      · refine Or.inr (fun b hb hx => ?_)
        rcases List.mem_append.mp hx with z | z
        · exact q b hb z
        · exact hc (hR.1.1.2.2.1 c c0 b hb z)
  · intro d hd hun
    have hun1 : ∀ b, b ∈ T d → b ∉ P := fun b hb q => hun b hb (List.mem_append_left _ q)
    have hun2 : ∀ b, b ∈ T d → b ∉ T c0 := fun b hb q => hun b hb (List.mem_append_right _ q)
    have key : ∀ k, plF fs c0 fr tt ct pu k d + pullS (wl k (pk fr tt ct fa)) T P d = pu d + pullS (wl k (pk fr tt ct fa)) T (P ++ T c0) d := by
      intro k
      induction k with
      | zero => rfl
      | succ k ih =>
        rw [pullS_succ, pullS_succ]
        show adT (fs (tt k)) (fs (fr k)) c0 (ct k) (adT (fs (fr k)) (fs (tt k)) c0 (ct k) (plF fs c0 fr tt ct pu k)) d + _ = _
        unfold adT
        have e1 : (pk fr tt ct fa k).1 = fr k := rfl
        have e2 : (pk fr tt ct fa k).2.1 = tt k := rfl
        have e3 : (pk fr tt ct fa k).2.2.1 = ct k := rfl
        rw [e1, e2, e3]
        simp only [hR.2.1, List.mem_append]
        by_cases ha : fr k ∈ T d
        · have a1 := hun1 _ ha
          have a2 := hun2 _ ha
          by_cases hb : tt k ∈ T d
          · have b1 := hun1 _ hb
            have b2 := hun2 _ hb
            simp only [ha, hb, a1, a2, b1, b2, and_true, and_false, or_false, false_and, if_false]
            omega
          · by_cases hs : tt k ∈ T c0
            · have s1 := hbc _ hs
              simp only [ha, hb, a1, a2, hs, s1, and_true, and_false, or_false, false_and, true_and, false_or, or_true, if_false, if_true]
              omega
            · simp only [ha, hb, a1, a2, hs, and_true, and_false, or_false, false_and, true_and, false_or, if_false]
              omega
        · by_cases hb : tt k ∈ T d
          · have b1 := hun1 _ hb
            have b2 := hun2 _ hb
            by_cases hr : fr k ∈ T c0
            · have r1 := hbc _ hr
              simp only [ha, hb, b1, b2, hr, r1, and_true, and_false, or_false, false_and, true_and, false_or, or_true, if_false, if_true]
              omega
            · simp only [ha, hb, b1, b2, hr, and_true, and_false, or_false, false_and, true_and, false_or, if_false]
              omega
          · simp only [ha, hb, and_false, false_and, or_false, if_false]
            omega
    have h1 := key kn
    rw [hp.2.1 d hd hun1] at h1
    omega
  · intro b hb
    rcases List.mem_append.mp hb with q | q
    · exact hp.2.2 b q
    · exact ⟨c0, q⟩
end Placing
end
section
theorem fl_X0_lineUp_18 : Cond.fieldLink RX0 18 "BlockRows$Chains" "pulls" "[J" ∈ wsX0_lineUp := by decide +kernel
theorem in_X0_lineUp_X0 : ∀ w ∈ wsX00, w ∈ wsX0_lineUp := by decide +kernel
theorem in_X0_lineUp_X1 : ∀ w ∈ wsX10, w ∈ wsX0_lineUp := by decide +kernel
set_option maxHeartbeats 4000000 in
set_option maxRecDepth 100000 in
/-- Chains.lineUp -/
theorem c_lineUp (l : Launch) (D : va_G) (cI cJ cZ : ClassId) (h cf cn cp : Nat) (fs nx : Nat → Option Nat) (pu : Nat → Nat) (q qm qp nn : Nat) (me : Nat → Nat) (pl : Nat → Option Nat) (w wf wt wc wl_ kn : Nat) (fr tt ct : Nat → Nat) (fa : Nat → Bool) (r rm rp n2 : Nat) (me2 : Nat → Nat) (pl2 : Nat → Option Nat) (T : Nat → List Nat) (HB : List Nat) (hR : CR T fs nx) (hHB : LR HB nn me pl) (hnn : nn ≤ 200) (hcv : ∀ b, b ∈ HB ↔ ∃ c, b ∈ T c) (hkn : kn ≤ 1000) (hB : WB fr tt ct) (sz : Nat) : Met l yX0_lineUp wsX0_lineUp ({ frames := 2, cells := 0, slots := 0, locals := 46 }) (PcM D cI cJ cZ [.ref h, .ref q, .ref w, .ref r] [(h, .inr (0, [.ref cf, .ref cn, .ref cp])), (cf, .inl (cI, 200, .inl (oIf fs))), (cn, .inl (cI, 200, .inl (oIf nx))), (cp, .inl (cJ, 200, .inr (.inl (lNf pu)))), (q, .inr (1, [.ref qm, .ref qp, .int (nI nn)])), (qm, .inl (cI, 200, .inl (nIf me))), (qp, .inl (cI, 200, .inl (oIf pl))), (w, .inr (2, [.ref wf, .ref wt, .ref wc, .ref wl_, .int (nI kn)])), (wf, .inl (cI, 1000, .inl (nIf fr))), (wt, .inl (cI, 1000, .inl (nIf tt))), (wc, .inl (cJ, 1000, .inr (.inl (lNf ct)))), (wl_, .inl (cZ, 1000, .inl (bIf fa))), (r, .inr (1, [.ref rm, .ref rp, .int (nI n2)])), (rm, .inl (cI, 200, .inl (nIf me2))), (rp, .inl (cI, 200, .inl (oIf pl2)))] sz) (va_Qv (fun z : Nat × (Nat → Nat) × (Nat → Option Nat) × (Nat → Nat) => LR (placeF (wl kn (pk fr tt ct fa)) T HB 200 []) z.1 z.2.1 z.2.2.1) (Bm D [(h, .inr (0, [.ref cf, .ref cn, .ref cp])), (cf, .inl (cI, 200, .inl (oIf fs))), (cn, .inl (cI, 200, .inl (oIf nx))), (cp, .inl (cJ, 200, .inr (.inl (lNf pu)))), (q, .inr (1, [.ref qm, .ref qp, .int (nI nn)])), (qm, .inl (cI, 200, .inl (nIf me))), (qp, .inl (cI, 200, .inl (oIf pl))), (w, .inr (2, [.ref wf, .ref wt, .ref wc, .ref wl_, .int (nI kn)])), (wf, .inl (cI, 1000, .inl (nIf fr))), (wt, .inl (cI, 1000, .inl (nIf tt))), (wc, .inl (cJ, 1000, .inr (.inl (lNf ct)))), (wl_, .inl (cZ, 1000, .inl (bIf fa))), (r, .inr (1, [.ref rm, .ref rp, .int (nI n2)])), (rm, .inl (cI, 200, .inl (nIf me2))), (rp, .inl (cI, 200, .inl (oIf pl2)))] sz (fun z : Nat × (Nat → Nat) × (Nat → Option Nat) × (Nat → Nat) => [(h, .inr (0, [.ref cf, .ref cn, .ref cp])), (cf, .inl (cI, 200, .inl (oIf fs))), (cn, .inl (cI, 200, .inl (oIf nx))), (cp, .inl (cJ, 200, .inr (.inl (lNf z.2.2.2)))), (q, .inr (1, [.ref qm, .ref qp, .int (nI nn)])), (qm, .inl (cI, 200, .inl (nIf me))), (qp, .inl (cI, 200, .inl (oIf pl))), (w, .inr (2, [.ref wf, .ref wt, .ref wc, .ref wl_, .int (nI kn)])), (wf, .inl (cI, 1000, .inl (nIf fr))), (wt, .inl (cI, 1000, .inl (nIf tt))), (wc, .inl (cJ, 1000, .inr (.inl (lNf ct)))), (wl_, .inl (cZ, 1000, .inl (bIf fa))), (r, .inr (1, [.ref rm, .ref rp, .int (nI z.1)])), (rm, .inl (cI, 200, .inl (nIf z.2.1))), (rp, .inl (cI, 200, .inl (oIf z.2.2.1)))])) (va_A [(h, .inr (0, [.ref cf, .ref cn, .ref cp])), (cf, .inl (cI, 200, .inl (oIf fs))), (cn, .inl (cI, 200, .inl (oIf nx))), (cp, .inl (cJ, 200, .inr (.inl (lNf pu)))), (q, .inr (1, [.ref qm, .ref qp, .int (nI nn)])), (qm, .inl (cI, 200, .inl (nIf me))), (qp, .inl (cI, 200, .inl (oIf pl))), (w, .inr (2, [.ref wf, .ref wt, .ref wc, .ref wl_, .int (nI kn)])), (wf, .inl (cI, 1000, .inl (nIf fr))), (wt, .inl (cI, 1000, .inl (nIf tt))), (wc, .inl (cJ, 1000, .inr (.inl (lNf ct)))), (wl_, .inl (cZ, 1000, .inl (bIf fa))), (r, .inr (1, [.ref rm, .ref rp, .int (nI n2)])), (rm, .inl (cI, 200, .inl (nIf me2))), (rp, .inl (cI, 200, .inl (oIf pl2)))] sz)) 0 0 (va_A [(h, .inr (0, [.ref cf, .ref cn, .ref cp])), (cf, .inl (cI, 200, .inl (oIf fs))), (cn, .inl (cI, 200, .inl (oIf nx))), (cp, .inl (cJ, 200, .inr (.inl (lNf pu)))), (q, .inr (1, [.ref qm, .ref qp, .int (nI nn)])), (qm, .inl (cI, 200, .inl (nIf me))), (qp, .inl (cI, 200, .inl (oIf pl))), (w, .inr (2, [.ref wf, .ref wt, .ref wc, .ref wl_, .int (nI kn)])), (wf, .inl (cI, 1000, .inl (nIf fr))), (wt, .inl (cI, 1000, .inl (nIf tt))), (wc, .inl (cJ, 1000, .inr (.inl (lNf ct)))), (wl_, .inl (cZ, 1000, .inl (bIf fa))), (r, .inr (1, [.ref rm, .ref rp, .int (nI n2)])), (rm, .inl (cI, 200, .inl (nIf me2))), (rp, .inl (cI, 200, .inl (oIf pl2)))] sz) := by
  refine startM (cc := cX0_lineUp) (maxL := 6) (ret := none) (by decide) rfl (Nat.le_of_ble_eq_true rfl) ?_
  intro p e s m below meth c ls A hA hAe hx hb hr hml hown hts hlocks hin hE hP hD hS hl
  have hl : lv_has ls 6 [(0, .ref h), (1, .ref q), (2, .ref w), (3, .ref r)] := hl
  have hLb := wl_b (fa := fa) hB hkn
  have hKin : True := trivial
  refine lv_aload_n hx hb dX0_lineUp_0 rfl (lv_at hl 3 rfl) ?_
  refine callMv (As := []) (rest := []) (wr := [(h, .inr (0, [.ref cf, .ref cn, .ref cp])), (cf, .inl (cI, 200, .inl (oIf fs))), (cn, .inl (cI, 200, .inl (oIf nx))), (cp, .inl (cJ, 200, .inr (.inl (lNf pu)))), (q, .inr (1, [.ref qm, .ref qp, .int (nI nn)])), (qm, .inl (cI, 200, .inl (nIf me))), (qp, .inl (cI, 200, .inl (oIf pl))), (w, .inr (2, [.ref wf, .ref wt, .ref wc, .ref wl_, .int (nI kn)])), (wf, .inl (cI, 1000, .inl (nIf fr))), (wt, .inl (cI, 1000, .inl (nIf tt))), (wc, .inl (cJ, 1000, .inr (.inl (lNf ct)))), (wl_, .inl (cZ, 1000, .inl (bIf fa)))]) ⟨hx, hb, hml, hown, hts⟩ (c_empty l D cI cJ cZ r rm rp n2 me2 pl2 _) (cwV 0 hts gX0_lineUp_X1_empty rfl rfl rfl (by decide +kernel) ⟨Nat.le_of_ble_eq_true rfl, Nat.le_of_ble_eq_true rfl⟩) (preM hE hP hD 1 12 rfl rfl rfl [12, 13, 14] rfl rfl rfl) rfl hl.1 (Nat.le_of_ble_eq_true rfl) dX0_lineUp_1 ⟨Nat.zero_le _, Nat.zero_le _⟩ rfl hP hD hS hA [12, 13, 14] [0, 1, 2, 3, 4, 5, 6, 7, 8, 9, 10, 11] rfl rfl (by decide) (by decide) (fun u_ H locs hu hP hD hS => ?_)
  have hP : va_P D vwCl [(h, .inr (0, [.ref cf, .ref cn, .ref cp])), (cf, .inl (cI, 200, .inl (oIf fs))), (cn, .inl (cI, 200, .inl (oIf nx))), (cp, .inl (cJ, 200, .inr (.inl (lNf pu)))), (q, .inr (1, [.ref qm, .ref qp, .int (nI nn)])), (qm, .inl (cI, 200, .inl (nIf me))), (qp, .inl (cI, 200, .inl (oIf pl))), (w, .inr (2, [.ref wf, .ref wt, .ref wc, .ref wl_, .int (nI kn)])), (wf, .inl (cI, 1000, .inl (nIf fr))), (wt, .inl (cI, 1000, .inl (nIf tt))), (wc, .inl (cJ, 1000, .inr (.inl (lNf ct)))), (wl_, .inl (cZ, 1000, .inl (bIf fa))), (r, .inr (1, [.ref rm, .ref rp, .int (nI 0)])), (rm, .inl (cI, 200, .inl (nIf me2))), (rp, .inl (cI, 200, .inl (oIf (fun _ => none))))] H := hP
  have hD : va_D A [(h, .inr (0, [.ref cf, .ref cn, .ref cp])), (cf, .inl (cI, 200, .inl (oIf fs))), (cn, .inl (cI, 200, .inl (oIf nx))), (cp, .inl (cJ, 200, .inr (.inl (lNf pu)))), (q, .inr (1, [.ref qm, .ref qp, .int (nI nn)])), (qm, .inl (cI, 200, .inl (nIf me))), (qp, .inl (cI, 200, .inl (oIf pl))), (w, .inr (2, [.ref wf, .ref wt, .ref wc, .ref wl_, .int (nI kn)])), (wf, .inl (cI, 1000, .inl (nIf fr))), (wt, .inl (cI, 1000, .inl (nIf tt))), (wc, .inl (cJ, 1000, .inr (.inl (lNf ct)))), (wl_, .inl (cZ, 1000, .inl (bIf fa))), (r, .inr (1, [.ref rm, .ref rp, .int (nI 0)])), (rm, .inl (cI, 200, .inl (nIf me2))), (rp, .inl (cI, 200, .inl (oIf (fun _ => none))))] := hD
  refine lv_aload_n hx hb dX0_lineUp_4 rfl (lv_at hl 0 rfl) ?_
  refine va_get (D := D) (ci := 0) (v := .ref cp) (C := RX0) (T := TX0) (N := 3) hx hb hts in_X0_lineUp_X0 hown hE.1 hP 0 rfl rfl 2 (by decide) (hts _ fl_X0_lineUp_18) (fun _ h9 => h9) rfl dX0_lineUp_5 ?_
  refine lv_lconst (v := lN 0) hx hb dX0_lineUp_8 (by decide) ?_
  refine callSv (As := [.ref cp, .long (lN 0)]) (rest := []) (wr := [(h, .inr (0, [.ref cf, .ref cn, .ref cp])), (cf, .inl (cI, 200, .inl (oIf fs))), (cn, .inl (cI, 200, .inl (oIf nx))), (q, .inr (1, [.ref qm, .ref qp, .int (nI nn)])), (qm, .inl (cI, 200, .inl (nIf me))), (qp, .inl (cI, 200, .inl (oIf pl))), (w, .inr (2, [.ref wf, .ref wt, .ref wc, .ref wl_, .int (nI kn)])), (wf, .inl (cI, 1000, .inl (nIf fr))), (wt, .inl (cI, 1000, .inl (nIf tt))), (wc, .inl (cJ, 1000, .inr (.inl (lNf ct)))), (wl_, .inl (cZ, 1000, .inl (bIf fa))), (r, .inr (1, [.ref rm, .ref rp, .int (nI 0)])), (rm, .inl (cI, 200, .inl (nIf me2))), (rp, .inl (cI, 200, .inl (oIf (fun _ => none))))]) (w1 := fun _ : Unit => [(cp, .inl (cJ, 200, .inr (.inl (lNf (fun _ => 0)))))]) ⟨hx, hb, hml, hown, hts⟩ (c_fillL l D cI cJ cZ cp 200 _ (lN 0) _ (by omega)) (va_cwS 2 hts gX0_lineUp_J7_fill_d0a16 rfl rfl rfl (by decide +kernel) ⟨Nat.le_of_ble_eq_true rfl, Nat.le_of_ble_eq_true rfl⟩) (preMS hE hP hD [3] rfl rfl rfl) rfl hl.1 (Nat.le_of_ble_eq_true rfl) dX0_lineUp_9 ⟨Nat.zero_le _, Nat.zero_le _⟩ rfl hP hD hS hA [3] [0, 1, 2, 4, 5, 6, 7, 8, 9, 10, 11, 12, 13, 14] rfl rfl (by decide) (by decide) (fun u_ H locs hu hP hD hS => ?_)
  have hP : va_P D vwCl [(h, .inr (0, [.ref cf, .ref cn, .ref cp])), (cf, .inl (cI, 200, .inl (oIf fs))), (cn, .inl (cI, 200, .inl (oIf nx))), (q, .inr (1, [.ref qm, .ref qp, .int (nI nn)])), (qm, .inl (cI, 200, .inl (nIf me))), (qp, .inl (cI, 200, .inl (oIf pl))), (w, .inr (2, [.ref wf, .ref wt, .ref wc, .ref wl_, .int (nI kn)])), (wf, .inl (cI, 1000, .inl (nIf fr))), (wt, .inl (cI, 1000, .inl (nIf tt))), (wc, .inl (cJ, 1000, .inr (.inl (lNf ct)))), (wl_, .inl (cZ, 1000, .inl (bIf fa))), (r, .inr (1, [.ref rm, .ref rp, .int (nI 0)])), (rm, .inl (cI, 200, .inl (nIf me2))), (rp, .inl (cI, 200, .inl (oIf (fun _ => none)))), (cp, .inl (cJ, 200, .inr (.inl (lNf (fun _ => 0)))))] H := hP
  have hD : va_D A [(h, .inr (0, [.ref cf, .ref cn, .ref cp])), (cf, .inl (cI, 200, .inl (oIf fs))), (cn, .inl (cI, 200, .inl (oIf nx))), (q, .inr (1, [.ref qm, .ref qp, .int (nI nn)])), (qm, .inl (cI, 200, .inl (nIf me))), (qp, .inl (cI, 200, .inl (oIf pl))), (w, .inr (2, [.ref wf, .ref wt, .ref wc, .ref wl_, .int (nI kn)])), (wf, .inl (cI, 1000, .inl (nIf fr))), (wt, .inl (cI, 1000, .inl (nIf tt))), (wc, .inl (cJ, 1000, .inr (.inl (lNf ct)))), (wl_, .inl (cZ, 1000, .inl (bIf fa))), (r, .inr (1, [.ref rm, .ref rp, .int (nI 0)])), (rm, .inl (cI, 200, .inl (nIf me2))), (rp, .inl (cI, 200, .inl (oIf (fun _ => none)))), (cp, .inl (cJ, 200, .inr (.inl (lNf (fun _ => 0)))))] := hD
  refine lv_iconst (v := nI 0) hx hb dX0_lineUp_12 (by decide) ?_
  refine lv_istore (lv' := [(4, .int (nI 0)), (0, .ref h), (1, .ref q), (2, .ref w), (3, .ref r)]) hx hb dX0_lineUp_13 hl (by decide) rfl (fun ls hl => ?_)
  refine r_loop (σ := Nat × (List Nat) × Nat × (Nat → Nat) × (Nat → Option Nat) × (Nat → Nat)) (fun z0 => 200 - z0.1) (fun z0 H locs ls => (z0.1 ≤ 200 ∧ LR z0.2.1 z0.2.2.1 z0.2.2.2.1 z0.2.2.2.2.1 ∧ PI (wl kn (pk fr tt ct fa)) T HB z0.2.1 z0.2.2.2.2.2 ∧ placeF (wl kn (pk fr tt ct fa)) T HB (200 - z0.1) z0.2.1 = placeF (wl kn (pk fr tt ct fa)) T HB 200 []) ∧ va_P D vwCl [(h, .inr (0, [.ref cf, .ref cn, .ref cp])), (cf, .inl (cI, 200, .inl (oIf fs))), (cn, .inl (cI, 200, .inl (oIf nx))), (cp, .inl (cJ, 200, .inr (.inl (lNf z0.2.2.2.2.2)))), (q, .inr (1, [.ref qm, .ref qp, .int (nI nn)])), (qm, .inl (cI, 200, .inl (nIf me))), (qp, .inl (cI, 200, .inl (oIf pl))), (w, .inr (2, [.ref wf, .ref wt, .ref wc, .ref wl_, .int (nI kn)])), (wf, .inl (cI, 1000, .inl (nIf fr))), (wt, .inl (cI, 1000, .inl (nIf tt))), (wc, .inl (cJ, 1000, .inr (.inl (lNf ct)))), (wl_, .inl (cZ, 1000, .inl (bIf fa))), (r, .inr (1, [.ref rm, .ref rp, .int (nI z0.2.2.1)])), (rm, .inl (cI, 200, .inl (nIf z0.2.2.2.1))), (rp, .inl (cI, 200, .inl (oIf z0.2.2.2.2.1)))] H ∧ va_D A [(h, .inr (0, [.ref cf, .ref cn, .ref cp])), (cf, .inl (cI, 200, .inl (oIf fs))), (cn, .inl (cI, 200, .inl (oIf nx))), (cp, .inl (cJ, 200, .inr (.inl (lNf z0.2.2.2.2.2)))), (q, .inr (1, [.ref qm, .ref qp, .int (nI nn)])), (qm, .inl (cI, 200, .inl (nIf me))), (qp, .inl (cI, 200, .inl (oIf pl))), (w, .inr (2, [.ref wf, .ref wt, .ref wc, .ref wl_, .int (nI kn)])), (wf, .inl (cI, 1000, .inl (nIf fr))), (wt, .inl (cI, 1000, .inl (nIf tt))), (wc, .inl (cJ, 1000, .inr (.inl (lNf ct)))), (wl_, .inl (cZ, 1000, .inl (bIf fa))), (r, .inr (1, [.ref rm, .ref rp, .int (nI z0.2.2.1)])), (rm, .inl (cI, 200, .inl (nIf z0.2.2.2.1))), (rp, .inl (cI, 200, .inl (oIf z0.2.2.2.2.1)))] ∧ va_S A s.heap H locs ∧ lv_has ls 6 [(0, .ref h), (1, .ref q), (2, .ref w), (3, .ref r), (4, .int (nI z0.1))]) ?_ (0, [], 0, me2, fun _ => none, fun _ => 0) ⟨⟨by omega, LR_nil, PI_nil hKin, rfl⟩, hP.sub [0, 1, 2, 14, 3, 4, 5, 6, 7, 8, 9, 10, 11, 12, 13] rfl, hD.sub [0, 1, 2, 14, 3, 4, 5, 6, 7, 8, 9, 10, 11, 12, 13] (by decide) rfl, hS, lv_sub hl [1, 2, 3, 4, 0] rfl⟩
  rintro ⟨i, P, n3, me3, pl3, pu3⟩ H locs ls ⟨hi_15, hP, hD, hS, hl⟩ ih_15
  have hi_15 : i ≤ 200 ∧ LR P n3 me3 pl3 ∧ PI (wl kn (pk fr tt ct fa)) T HB P pu3 ∧ placeF (wl kn (pk fr tt ct fa)) T HB (200 - i) P = placeF (wl kn (pk fr tt ct fa)) T HB 200 [] := hi_15
  have hP : va_P D vwCl [(h, .inr (0, [.ref cf, .ref cn, .ref cp])), (cf, .inl (cI, 200, .inl (oIf fs))), (cn, .inl (cI, 200, .inl (oIf nx))), (cp, .inl (cJ, 200, .inr (.inl (lNf pu3)))), (q, .inr (1, [.ref qm, .ref qp, .int (nI nn)])), (qm, .inl (cI, 200, .inl (nIf me))), (qp, .inl (cI, 200, .inl (oIf pl))), (w, .inr (2, [.ref wf, .ref wt, .ref wc, .ref wl_, .int (nI kn)])), (wf, .inl (cI, 1000, .inl (nIf fr))), (wt, .inl (cI, 1000, .inl (nIf tt))), (wc, .inl (cJ, 1000, .inr (.inl (lNf ct)))), (wl_, .inl (cZ, 1000, .inl (bIf fa))), (r, .inr (1, [.ref rm, .ref rp, .int (nI n3)])), (rm, .inl (cI, 200, .inl (nIf me3))), (rp, .inl (cI, 200, .inl (oIf pl3)))] H := hP
  have hD : va_D A [(h, .inr (0, [.ref cf, .ref cn, .ref cp])), (cf, .inl (cI, 200, .inl (oIf fs))), (cn, .inl (cI, 200, .inl (oIf nx))), (cp, .inl (cJ, 200, .inr (.inl (lNf pu3)))), (q, .inr (1, [.ref qm, .ref qp, .int (nI nn)])), (qm, .inl (cI, 200, .inl (nIf me))), (qp, .inl (cI, 200, .inl (oIf pl))), (w, .inr (2, [.ref wf, .ref wt, .ref wc, .ref wl_, .int (nI kn)])), (wf, .inl (cI, 1000, .inl (nIf fr))), (wt, .inl (cI, 1000, .inl (nIf tt))), (wc, .inl (cJ, 1000, .inr (.inl (lNf ct)))), (wl_, .inl (cZ, 1000, .inl (bIf fa))), (r, .inr (1, [.ref rm, .ref rp, .int (nI n3)])), (rm, .inl (cI, 200, .inl (nIf me3))), (rp, .inl (cI, 200, .inl (oIf pl3)))] := hD
  have hl : lv_has ls 6 [(0, .ref h), (1, .ref q), (2, .ref w), (3, .ref r), (4, .int (nI i))] := hl
  obtain ⟨hi_a, hi_b, hi_c, hi_d⟩ := id hi_15
  refine lv_iload hx hb dX0_lineUp_15 (lv_at hl 4 rfl) ?_
  refine lv_sipush (v := nI 200) hx hb dX0_lineUp_17 (by decide) ?_
  refine r_icmp_ge (tgt := 69) hx hb (x := i) (y := 200) (by omega) (by omega) dX0_lineUp_20 (by decide) (fun c_20 => ?_) (fun c_20 => ?_)
  · skip
    exact e_mv (n3, me3, pl3, pu3) hAe hx hb hr hlocks dX0_lineUp_69 (hP.sub [0, 1, 2, 3, 4, 5, 6, 7, 8, 9, 10, 11, 12, 13, 14] rfl) (hD.sub [0, 1, 2, 3, 4, 5, 6, 7, 8, 9, 10, 11, 12, 13, 14] (by decide) rfl) hS (by show LR _ n3 me3 pl3; rw [← hi_d, placeF_0 (by omega)]; exact hi_b)
  · skip
    refine lv_aload_n hx hb dX0_lineUp_23 rfl (lv_at hl 3 rfl) ?_
    refine va_getN (D := D) (ci := 1) (v := .int (nI n3)) (C := RX1) (T := TX1) (N := 3) hx hb hts in_X0_lineUp_X1 hown hE.1 hP 12 rfl rfl 2 (by decide) (va_Nw.use rfl hE.2.2.1.2.2.1) (fun _ h9 => h9) rfl dX0_lineUp_24 ?_
    refine lv_aload_n hx hb dX0_lineUp_27 rfl (lv_at hl 1 rfl) ?_
    refine va_getN (D := D) (ci := 1) (v := .int (nI nn)) (C := RX1) (T := TX1) (N := 3) hx hb hts in_X0_lineUp_X1 hown hE.1 hP 4 rfl rfl 2 (by decide) (va_Nw.use rfl hE.2.2.1.2.2.1) (fun _ h9 => h9) rfl dX0_lineUp_28 ?_
    refine r_icmp_ge (tgt := 69) hx hb (x := n3) (y := nn) (by have := LR_le hR hi_b hi_c; have := hi_b.1; omega) (by omega) dX0_lineUp_31 (by decide) (fun c_31 => ?_) (fun c_31 => ?_)
    · skip
      exact e_mv (n3, me3, pl3, pu3) hAe hx hb hr hlocks dX0_lineUp_69 (hP.sub [0, 1, 2, 3, 4, 5, 6, 7, 8, 9, 10, 11, 12, 13, 14] rfl) (hD.sub [0, 1, 2, 3, 4, 5, 6, 7, 8, 9, 10, 11, 12, 13, 14] (by decide) rfl) hS (by show LR _ n3 me3 pl3; rw [← hi_d, placeF_full (by rw [← hi_b.1, ← hHB.1]; exact c_31)]; exact hi_b)
    · skip
      have hlt : P.length < HB.length := by rw [← hi_b.1, ← hHB.1]; exact c_31
      have hbest := best_eq hR hHB hi_b hi_c
      refine lv_aload_n hx hb dX0_lineUp_34 rfl (lv_at hl 0 rfl) ?_
      refine lv_aload_n hx hb dX0_lineUp_35 rfl (lv_at hl 1 rfl) ?_
      refine lv_aload_n hx hb dX0_lineUp_36 rfl (lv_at hl 3 rfl) ?_
      refine callRi (As := [.ref q, .ref r]) (rest := []) ⟨hx, hb, hml, hown, hts⟩ (c_mostPulled l D cI cJ cZ h cf cn cp fs nx pu3 q qm qp nn me pl r rm rp n3 me3 pl3 (CR_f hR) hnn (LR_b hi_b (LR_le hR hi_b hi_c)) (hb_me hR hHB hcv) (pu_lt hR hHB hi_b hi_c hLb)) (cwV 2 hts gX0_lineUp_X0_mostPulled rfl rfl rfl (by decide +kernel) ⟨Nat.le_of_ble_eq_true rfl, Nat.le_of_ble_eq_true rfl⟩) (preR hE hP 0 0 rfl rfl rfl [0, 1, 2, 3, 4, 5, 6, 12, 13, 14] rfl) rfl hl.1 (Nat.le_of_ble_eq_true rfl) dX0_lineUp_37 ⟨Nat.zero_le _, Nat.zero_le _⟩ rfl (fun r1 hr1 => ?_)
      subst hr1
      rw [hbest]
      have hob : ∀ j, bestS (wl kn (pk fr tt ct fa)) T HB P = some j → j < 200 := fun j hj => best_lt hR hj
      refine lv_istore (lv' := [(5, .int (oI (bestS (wl kn (pk fr tt ct fa)) T HB P))), (0, .ref h), (1, .ref q), (2, .ref w), (3, .ref r), (4, .int (nI i))]) hx hb dX0_lineUp_40 hl (by decide) rfl (fun ls hl => ?_)
      refine lv_iload hx hb dX0_lineUp_42 (lv_at hl 0 rfl) ?_
      refine lv_iconst (v := -1) hx hb dX0_lineUp_44 (by decide) ?_
      refine r_o_ne (tgt := 49) hx hb (o := bestS (wl kn (pk fr tt ct fa)) T HB P) (q := none) rfl rfl (fun j hj => by have := hob j hj; omega) (fun j h => by cases h) dX0_lineUp_45 (by decide) (fun c_45 => ?_) (fun c_45 => ?_)
      · skip
        obtain ⟨c0, hbc2⟩ := Option.ne_none_iff_exists'.mp c_45
        have hc0 := hob c0 hbc2
        obtain ⟨htc, hbc⟩ := best_sp hR hi_c hbc2
        rw [hbc2] at hl
        have hl : lv_has ls 6 [(5, .int (nI c0)), (0, .ref h), (1, .ref q), (2, .ref w), (3, .ref r), (4, .int (nI i))] := hl
        refine lv_aload_n hx hb dX0_lineUp_49 rfl (lv_at hl 1 rfl) ?_
        refine lv_iload hx hb dX0_lineUp_50 (lv_at hl 0 rfl) ?_
        refine lv_aload_n hx hb dX0_lineUp_52 rfl (lv_at hl 4 rfl) ?_
        refine callMv (As := [.int (nI c0), .ref r]) (rest := []) (wr := [(q, .inr (1, [.ref qm, .ref qp, .int (nI nn)])), (qm, .inl (cI, 200, .inl (nIf me))), (qp, .inl (cI, 200, .inl (oIf pl))), (w, .inr (2, [.ref wf, .ref wt, .ref wc, .ref wl_, .int (nI kn)])), (wf, .inl (cI, 1000, .inl (nIf fr))), (wt, .inl (cI, 1000, .inl (nIf tt))), (wc, .inl (cJ, 1000, .inr (.inl (lNf ct)))), (wl_, .inl (cZ, 1000, .inl (bIf fa)))]) ⟨hx, hb, hml, hown, hts⟩ (c_appendChain l D cI cJ cZ h cf cn cp fs nx pu3 r rm rp n3 me3 pl3 T hR P hi_b _ c0 htc hbc (pl_room hR hi_b hi_c hbc)) (cwV 2 hts gX0_lineUp_X0_appendChain rfl rfl rfl (by decide +kernel) ⟨Nat.le_of_ble_eq_true rfl, Nat.le_of_ble_eq_true rfl⟩) (preM hE hP hD 0 0 rfl rfl rfl [0, 1, 2, 3, 12, 13, 14] rfl rfl rfl) rfl hl.1 (Nat.le_of_ble_eq_true rfl) dX0_lineUp_53 ⟨Nat.zero_le _, Nat.zero_le _⟩ rfl hP hD hS hA [0, 1, 2, 3, 12, 13, 14] [4, 5, 6, 7, 8, 9, 10, 11] rfl rfl (by decide) (by decide) (fun z H locs hu hP hD hS => ?_)
        have hP : va_P D vwCl [(q, .inr (1, [.ref qm, .ref qp, .int (nI nn)])), (qm, .inl (cI, 200, .inl (nIf me))), (qp, .inl (cI, 200, .inl (oIf pl))), (w, .inr (2, [.ref wf, .ref wt, .ref wc, .ref wl_, .int (nI kn)])), (wf, .inl (cI, 1000, .inl (nIf fr))), (wt, .inl (cI, 1000, .inl (nIf tt))), (wc, .inl (cJ, 1000, .inr (.inl (lNf ct)))), (wl_, .inl (cZ, 1000, .inl (bIf fa))), (h, .inr (0, [.ref cf, .ref cn, .ref cp])), (cf, .inl (cI, 200, .inl (oIf fs))), (cn, .inl (cI, 200, .inl (oIf nx))), (cp, .inl (cJ, 200, .inr (.inl (lNf pu3)))), (r, .inr (1, [.ref rm, .ref rp, .int (nI z.1)])), (rm, .inl (cI, 200, .inl (nIf z.2.1))), (rp, .inl (cI, 200, .inl (oIf z.2.2)))] H := hP
        have hD : va_D A [(q, .inr (1, [.ref qm, .ref qp, .int (nI nn)])), (qm, .inl (cI, 200, .inl (nIf me))), (qp, .inl (cI, 200, .inl (oIf pl))), (w, .inr (2, [.ref wf, .ref wt, .ref wc, .ref wl_, .int (nI kn)])), (wf, .inl (cI, 1000, .inl (nIf fr))), (wt, .inl (cI, 1000, .inl (nIf tt))), (wc, .inl (cJ, 1000, .inr (.inl (lNf ct)))), (wl_, .inl (cZ, 1000, .inl (bIf fa))), (h, .inr (0, [.ref cf, .ref cn, .ref cp])), (cf, .inl (cI, 200, .inl (oIf fs))), (cn, .inl (cI, 200, .inl (oIf nx))), (cp, .inl (cJ, 200, .inr (.inl (lNf pu3)))), (r, .inr (1, [.ref rm, .ref rp, .int (nI z.1)])), (rm, .inl (cI, 200, .inl (nIf z.2.1))), (rp, .inl (cI, 200, .inl (oIf z.2.2)))] := hD
        have hz1 := hu
        refine lv_aload_n hx hb dX0_lineUp_56 rfl (lv_at hl 1 rfl) ?_
        refine lv_iload hx hb dX0_lineUp_57 (lv_at hl 0 rfl) ?_
        refine lv_aload_n hx hb dX0_lineUp_59 rfl (lv_at hl 3 rfl) ?_
        refine callMv (As := [.int (nI c0), .ref w]) (rest := []) (wr := [(q, .inr (1, [.ref qm, .ref qp, .int (nI nn)])), (qm, .inl (cI, 200, .inl (nIf me))), (qp, .inl (cI, 200, .inl (oIf pl))), (r, .inr (1, [.ref rm, .ref rp, .int (nI z.1)])), (rm, .inl (cI, 200, .inl (nIf z.2.1))), (rp, .inl (cI, 200, .inl (oIf z.2.2)))]) ⟨hx, hb, hml, hown, hts⟩ (c_pullTowards l D cI cJ cZ h cf cn cp fs nx pu3 w wf wt wc wl_ kn fr tt ct fa hkn hB (CR_f hR) _ c0 hc0) (cwV 2 hts gX0_lineUp_X0_pullTowards rfl rfl rfl (by decide +kernel) ⟨Nat.le_of_ble_eq_true rfl, Nat.le_of_ble_eq_true rfl⟩) (preM hE hP hD 0 8 rfl rfl rfl [8, 9, 10, 11, 3, 4, 5, 6, 7] rfl rfl rfl) rfl hl.1 (Nat.le_of_ble_eq_true rfl) dX0_lineUp_60 ⟨Nat.zero_le _, Nat.zero_le _⟩ rfl hP hD hS hA [8, 9, 10, 11, 3, 4, 5, 6, 7] [0, 1, 2, 12, 13, 14] rfl rfl (by decide) (by decide) (fun u_ H locs hu hP hD hS => ?_)
        have hP : va_P D vwCl [(q, .inr (1, [.ref qm, .ref qp, .int (nI nn)])), (qm, .inl (cI, 200, .inl (nIf me))), (qp, .inl (cI, 200, .inl (oIf pl))), (r, .inr (1, [.ref rm, .ref rp, .int (nI z.1)])), (rm, .inl (cI, 200, .inl (nIf z.2.1))), (rp, .inl (cI, 200, .inl (oIf z.2.2))), (h, .inr (0, [.ref cf, .ref cn, .ref cp])), (cf, .inl (cI, 200, .inl (oIf fs))), (cn, .inl (cI, 200, .inl (oIf nx))), (cp, .inl (cJ, 200, .inr (.inl (lNf (plF fs c0 fr tt ct pu3 kn))))), (w, .inr (2, [.ref wf, .ref wt, .ref wc, .ref wl_, .int (nI kn)])), (wf, .inl (cI, 1000, .inl (nIf fr))), (wt, .inl (cI, 1000, .inl (nIf tt))), (wc, .inl (cJ, 1000, .inr (.inl (lNf ct)))), (wl_, .inl (cZ, 1000, .inl (bIf fa)))] H := hP
        have hD : va_D A [(q, .inr (1, [.ref qm, .ref qp, .int (nI nn)])), (qm, .inl (cI, 200, .inl (nIf me))), (qp, .inl (cI, 200, .inl (oIf pl))), (r, .inr (1, [.ref rm, .ref rp, .int (nI z.1)])), (rm, .inl (cI, 200, .inl (nIf z.2.1))), (rp, .inl (cI, 200, .inl (oIf z.2.2))), (h, .inr (0, [.ref cf, .ref cn, .ref cp])), (cf, .inl (cI, 200, .inl (oIf fs))), (cn, .inl (cI, 200, .inl (oIf nx))), (cp, .inl (cJ, 200, .inr (.inl (lNf (plF fs c0 fr tt ct pu3 kn))))), (w, .inr (2, [.ref wf, .ref wt, .ref wc, .ref wl_, .int (nI kn)])), (wf, .inl (cI, 1000, .inl (nIf fr))), (wt, .inl (cI, 1000, .inl (nIf tt))), (wc, .inl (cJ, 1000, .inr (.inl (lNf ct)))), (wl_, .inl (cZ, 1000, .inl (bIf fa)))] := hD
        refine lv_iinc (v := (nI (i + 1))) (lv' := [(4, .int (nI (i + 1))), (5, .int (nI c0)), (0, .ref h), (1, .ref q), (2, .ref w), (3, .ref r)]) hx hb dX0_lineUp_63 hl (k := 5) rfl (nI_1 _) (by decide) rfl (fun ls hl => ?_)
        refine lv_goto (tgt := 15) hx hb dX0_lineUp_66 (by decide) ?_
        exact ih_15 (i + 1, P ++ T c0, z.1, z.2.1, z.2.2, plF fs c0 fr tt ct pu3 kn) _ _ _ ⟨(show (i + 1) ≤ 200 ∧ LR (P ++ T c0) z.1 z.2.1 z.2.2 ∧ PI (wl kn (pk fr tt ct fa)) T HB (P ++ T c0) (plF fs c0 fr tt ct pu3 kn) ∧ placeF (wl kn (pk fr tt ct fa)) T HB (200 - (i + 1)) (P ++ T c0) = placeF (wl kn (pk fr tt ct fa)) T HB 200 [] from ⟨by omega, hz1, PI_step hR hi_c hbc hcv, by rw [← hi_d]; exact (placeF_go hi_b (by omega) hbc2 hlt).symm⟩), hP.sub [6, 7, 8, 9, 0, 1, 2, 10, 11, 12, 13, 14, 3, 4, 5] rfl, hD.sub [6, 7, 8, 9, 0, 1, 2, 10, 11, 12, 13, 14, 3, 4, 5] (by decide) rfl, hS, lv_sub hl [2, 3, 4, 5, 0] rfl⟩ (by show 200 - (i + 1) < 200 - i; omega)
      · skip
        exact e_mv (n3, me3, pl3, pu3) hAe hx hb hr hlocks dX0_lineUp_48 (hP.sub [0, 1, 2, 3, 4, 5, 6, 7, 8, 9, 10, 11, 12, 13, 14] rfl) (hD.sub [0, 1, 2, 3, 4, 5, 6, 7, 8, 9, 10, 11, 12, 13, 14] (by decide) rfl) hS (by show LR _ n3 me3 pl3; rw [← hi_d, placeF_none c_45]; exact hi_b)
end
section
/-! the class's own state, and what its answers are -/
def isB (n : Nat) (x : Int32) : Bool := decide (0 ≤ x.toInt ∧ x.toInt < n)
theorem isB_neg {n : Nat} {x : Int32} (h : x < 0) : isB n x = false := by
  unfold isB
  rw [decide_eq_false_iff_not]
  have h1 : x.toInt < (0 : Int32).toInt := Int32.lt_iff_toInt_lt.mp h
  have h2 : (0 : Int32).toInt = 0 := by decide
  omega
theorem isB_nI {n j : Nat} (hj : j < 2 ^ 31) : isB n (nI j) = decide (j < n) := by
  unfold isB
  rw [nI_toInt hj]
  congr 1
  exact propext ⟨fun h => by omega, fun h => by omega⟩
theorem isB_iff {n : Nat} {x : Int32} (hn : n ≤ 200) : isB n x = true ↔ ∃ j, j < n ∧ x = nI j := by
  constructor
  · intro h
    by_cases hx : x < 0
    · rw [isB_neg hx] at h
      cases h
    · obtain ⟨j, hj, rfl⟩ := nI_of hx
      rw [isB_nI hj] at h
      exact ⟨j, of_decide_eq_true h, rfl⟩
  · rintro ⟨j, hj, rfl⟩
    rw [isB_nI (by omega)]
    exact decide_eq_true hj
/-- the places of a list -/
def plL (P : List Nat) (b : Nat) : Option Nat := (List.range P.length).find? (fun i => decide (P[i]? = some b))
theorem LR_plL {P : List Nat} {n : Nat} {me : Nat → Nat} {pl : Nat → Option Nat} (h : LR P n me pl) : pl = plL P := by
  funext b
  unfold plL
  cases hf : (List.range P.length).find? (fun i => decide (P[i]? = some b)) with
  | none =>
    cases hq : pl b with
    | none => rfl
    | some i =>
      have h1 := (h.2.2 b i).mp hq
      have h2 := List.find?_eq_none.mp hf i (List.mem_range.mpr (ix_lt h1))
      simp [h1] at h2
  | some i =>
    have h1 := List.find?_some hf
    exact (h.2.2 b i).mpr (by simpa using h1)
def wS (L : List Wy) (P : List Nat) : Nat := (L.map (fun w => if (w.2.2.2 && gOnB (plL P) w.1 w.2.1) = true then w.2.2.1 else 0)).sum
theorem wS_sum {fr tt ct : Nat → Nat} {fa : Nat → Bool} {P : List Nat} {n : Nat} {me : Nat → Nat} {pl : Nat → Option Nat} (h : LR P n me pl) : ∀ kn, sumN (wgt fr tt ct fa pl) kn = wS (wl kn (pk fr tt ct fa)) P := by
  intro kn
  rw [LR_plL h]
  induction kn with
  | zero => rfl
  | succ k ih =>
    show sumN _ k + wgt fr tt ct fa (plL P) k = _
    rw [ih]
    unfold wS
    rw [wl_succ, List.map_append, List.sum_append]
    simp [wgt, pk]
theorem wS_bd {fr tt ct : Nat → Nat} {fa : Nat → Bool} {B : Nat} (hB : ∀ k, ct k ≤ B) (P : List Nat) : ∀ k, wS (wl k (pk fr tt ct fa)) P ≤ k * B := by
  intro k
  induction k with
  | zero => simp [wl, wS]
  | succ k ih =>
    unfold wS at *
    rw [wl_succ, List.map_append, List.sum_append, Nat.succ_mul]
    refine Nat.add_le_add ih ?_
    simp only [List.map_cons, List.map_nil, List.sum_cons, List.sum_nil, Nat.add_zero]
    split
    · exact hB k
    · exact Nat.zero_le _
theorem wS_lt {fr tt ct : Nat → Nat} {fa : Nat → Bool} {kn : Nat} (hB : WB fr tt ct) (hkn : kn ≤ 1000) (P : List Nat) : wS (wl kn (pk fr tt ct fa)) P < 2 ^ 63 := Nat.lt_of_le_of_lt (wS_bd (B := 1000000000000000) (fun k => (hB k).2.2) P kn) (Nat.lt_of_le_of_lt (Nat.mul_le_mul_right _ hkn) (by decide))
/-- the hot blocks by number, the chains at first, the chains, the row by chains -/
def hbL (n : Nat) (hot : Nat → Bool) : List Nat := (List.range n).filter hot
def T0 (HB : List Nat) : Nat → List Nat := fun c => if c ∈ HB then [c] else []
def Tof (L : List Wy) (HB : List Nat) : Nat → List Nat := L.foldl stepT (T0 HB)
def finL (L : List Wy) (HB : List Nat) : List Nat := placeF L (Tof L HB) HB 200 []
theorem hbL_mem {n : Nat} {hot : Nat → Bool} {b : Nat} : b ∈ hbL n hot ↔ b < n ∧ hot b = true := by
  unfold hbL
  rw [List.mem_filter, List.mem_range]
theorem hbL_succ {k : Nat} {hot : Nat → Bool} : hbL (k + 1) hot = if hot k = true then hbL k hot ++ [k] else hbL k hot := by
  unfold hbL
  rw [List.range_succ, List.filter_append]
  cases h : hot k <;> simp [h]
theorem hbL_len (n : Nat) (hot : Nat → Bool) : (hbL n hot).length ≤ n := by
  unfold hbL
  exact Nat.le_trans (List.length_filter_le _ _) (by rw [List.length_range]; exact Nat.le_refl _)
theorem T0_CI {HB : List Nat} (h : ∀ b, b ∈ HB → b < 200) : CI (T0 HB) := by
  have key : ∀ c b, b ∈ T0 HB c ↔ b = c ∧ c ∈ HB := by
    intro c b
    unfold T0
    split <;> simp_all
  refine ⟨fun c b hb => ?_, fun c hc => ?_, fun c d b hc hd => ?_, fun c => ?_⟩
  · obtain ⟨rfl, h2⟩ := (key c b).mp hb
    exact h _ h2
  · unfold T0 at *
    split at hc
    · next h1 => rw [if_pos h1]; rfl
    · exact absurd rfl hc
  · exact ((key c b).mp hc).1.symm.trans ((key d b).mp hd).1
  · unfold T0
    split <;> simp
theorem T0_mem {HB : List Nat} {b c : Nat} : b ∈ T0 HB c ↔ b = c ∧ c ∈ HB := by
  unfold T0
  split <;> simp_all
theorem CR_start {HB : List Nat} {n : Nat} {me : Nat → Nat} {pl : Nat → Option Nat} (hL : LR HB n me pl) (h : ∀ b, b ∈ HB → b < 200) : CR (T0 HB) (stF pl) (fun _ => none) := by
  refine ⟨⟨T0_CI h, fun _ _ => rfl⟩, ?_, ?_⟩
  · intro b c
    rw [T0_mem]
    unfold stF
    by_cases hb : (pl b).isSome = true
    · rw [if_pos hb]
      have := (LR_mem hL).mp hb
      constructor
      · intro q
        cases q
        exact ⟨rfl, this⟩
      · rintro ⟨rfl, -⟩
        rfl
    · rw [if_neg hb]
      constructor
      · intro q
        cases q
      · rintro ⟨rfl, q⟩
        exact absurd ((LR_mem hL).mpr q) hb
  · intro c i b hb
    unfold T0 at *
    split at hb
    · next h1 =>
      rw [if_pos h1]
      have := ix_lt hb
      simp at this
      subst this
      rfl
    · simp at hb
theorem step_CI {T : Nat → List Nat} {w : Wy} (h : CI T) : CI (stepT T w) ∧ ∀ b, (∃ c, b ∈ stepT T w c) ↔ ∃ c, b ∈ T c := by
  unfold stepT
  cases hf : nameT T w.1 with
  | none => exact ⟨h, fun b => Iff.rfl⟩
  | some a =>
    dsimp only
    split
    · next hc =>
      obtain ⟨h1, h2, h3, h4, h5, h6⟩ := hc
      have ha := last_mem h3
      exact ⟨join_CI h h5 (fun q => by rw [q] at ha; cases ha), fun b => join_mem h5⟩
    · exact ⟨h, fun b => Iff.rfl⟩
theorem fold_CI : ∀ (L : List Wy) (T : Nat → List Nat), CI T → CI (L.foldl stepT T) ∧ ∀ b, (∃ c, b ∈ L.foldl stepT T c) ↔ ∃ c, b ∈ T c := by
  intro L
  induction L with
  | nil => intro T h; exact ⟨h, fun b => Iff.rfl⟩
  | cons w L ih =>
    intro T h
    obtain ⟨h1, h2⟩ := step_CI (w := w) h
    obtain ⟨h3, h4⟩ := ih _ h1
    exact ⟨h3, fun b => (h4 b).trans (h2 b)⟩
theorem Tof_CI {L : List Wy} {HB : List Nat} (h : ∀ b, b ∈ HB → b < 200) : CI (Tof L HB) := (fold_CI L _ (T0_CI h)).1
theorem Tof_cov {L : List Wy} {HB : List Nat} (h : ∀ b, b ∈ HB → b < 200) : ∀ b, b ∈ HB ↔ ∃ c, b ∈ Tof L HB c := by
  intro b
  unfold Tof
  rw [(fold_CI L _ (T0_CI h)).2 b]
  constructor
  · intro q
    exact ⟨b, T0_mem.mpr ⟨rfl, q⟩⟩
  · rintro ⟨c, hc⟩
    obtain ⟨rfl, q⟩ := T0_mem.mp hc
    exact q
/-- the rows are current -/
def Fresh (n : Nat) (hot : Nat → Bool) (L : List Wy) (aw hw cw : Nat) (fs : Nat → Option Nat) (n1 : Nat) (me1 : Nat → Nat) (pl1 : Nat → Option Nat) (n2 : Nat) (me2 : Nat → Nat) (pl2 : Nat → Option Nat) (n3 : Nat) (me3 : Nat → Nat) (pl3 : Nat → Option Nat) : Prop :=
  LR (List.range n) n1 me1 pl1 ∧ LR (hbL n hot) n2 me2 pl2 ∧ LR (finL L (hbL n hot)) n3 me3 pl3 ∧ (∀ b, fs b = nameT (Tof L (hbL n hot)) b) ∧ aw = wS L (List.range n) ∧ hw = wS L (hbL n hot) ∧ cw = wS L (finL L (hbL n hot))
theorem hbL_lt {n : Nat} {hot : Nat → Bool} (hn : n ≤ 200) : ∀ b, b ∈ hbL n hot → b < 200 := fun b hb => by
  have := (hbL_mem.mp hb).1
  omega
theorem range_LR_push {k n1 : Nat} {me1 : Nat → Nat} {pl1 : Nat → Option Nat} (h : LR (List.range k) n1 me1 pl1) : LR (List.range (k + 1)) (n1 + 1) (va_up me1 n1 k) (va_up pl1 k (some n1)) := by
  rw [List.range_succ]
  exact LR_push h (by simp)
theorem hbL_LR_push {k n2 : Nat} {hot : Nat → Bool} {me2 : Nat → Nat} {pl2 : Nat → Option Nat} (h : LR (hbL k hot) n2 me2 pl2) (hk : hot k = true) : LR (hbL (k + 1) hot) (n2 + 1) (va_up me2 n2 k) (va_up pl2 k (some n2)) := by
  rw [hbL_succ, if_pos hk]
  exact LR_push h (fun q => by have := (hbL_mem.mp q).1; omega)
theorem hbL_LR_skip {k n2 : Nat} {hot : Nat → Bool} {me2 : Nat → Nat} {pl2 : Nat → Option Nat} (h : LR (hbL k hot) n2 me2 pl2) (hk : hot k = false) : LR (hbL (k + 1) hot) n2 me2 pl2 := by
  rw [hbL_succ, if_neg (by rw [hk]; decide)]
  exact h
theorem placeF_bd {L : List Wy} {T : Nat → List Nat} {HB : List Nat} (hT : CI T) (hcv : ∀ b, b ∈ HB ↔ ∃ c, b ∈ T c) : ∀ k P, (∀ b, b ∈ P → b ∈ HB) → ∀ b, b ∈ placeF L T HB k P → b ∈ HB := by
  intro k
  induction k with
  | zero => intro P h b hb; exact h b hb
  | succ k ih =>
    intro P h b hb
    simp only [placeF] at hb
    split at hb
    · cases hq : bestS L T HB P with
      | none => rw [hq] at hb; exact h b hb
      | some c =>
        rw [hq] at hb
        refine ih _ (fun x hx => ?_) b hb
        rcases List.mem_append.mp hx with q | q
        · exact h x q
        · exact (hcv x).mpr ⟨c, q⟩
    · exact h b hb
theorem fin_len {L : List Wy} {n : Nat} {hot : Nat → Bool} {n3 : Nat} {me3 : Nat → Nat} {pl3 : Nat → Option Nat} (hn : n ≤ 200) (h : LR (finL L (hbL n hot)) n3 me3 pl3) : (finL L (hbL n hot)).length ≤ 200 :=
  nodup_len 200 _ (LR_nodup h) (fun b hb => hbL_lt hn b (placeF_bd (Tof_CI (hbL_lt hn)) (Tof_cov (hbL_lt hn)) 200 [] (fun x hx => by cases hx) b hb))
/-- the answers -/
def betterB (L : List Wy) (HB : List Nat) : Bool := decide (wS L HB < wS L (finL L HB))
def rowL (L : List Wy) (HB : List Nat) : List Nat := if betterB L HB = true then finL L HB else HB
def rowA (P : List Nat) (x : Int32) (r : Int32) : Prop := (r = -1 ∧ ∀ j, j < P.length → x ≠ nI j) ∨ ∃ j b, P[j]? = some b ∧ x = nI j ∧ r = nI b
def wtA (L : List Wy) (n : Nat) (HB : List Nat) (x : Int32) : Int64 := if x = 0 then lN (wS L (rowL L HB)) else if x = 1 then lN (wS L HB) else if x = 2 then lN (wS L (List.range n)) else if x = 3 then lN (wS L (finL L HB)) else -1
def chA (L : List Wy) (n : Nat) (HB : List Nat) (x : Int32) (r : Int32) : Prop := (isB n x = false ∧ r = -1) ∨ ∃ j, j < n ∧ x = nI j ∧ r = oI (nameT (Tof L HB) j)
theorem rowA_of {P : List Nat} {n : Nat} {me : Nat → Nat} {pl : Nat → Option Nat} {x r : Int32} (h : LR P n me pl) (hr : (r = -1 ∧ ∀ j, j < n → x ≠ nI j) ∨ ∃ j, j < n ∧ x = nI j ∧ r = nI (me j)) : rowA P x r := by
  rcases hr with ⟨h1, h2⟩ | ⟨j, h1, h2, h3⟩
  · exact Or.inl ⟨h1, fun j hj => h2 j (by rw [h.1]; exact hj)⟩
  · rw [h.1] at h1
    refine Or.inr ⟨j, P[j], List.getElem?_eq_getElem h1, h2, ?_⟩
    rw [h3, h.2.1 j _ (List.getElem?_eq_getElem h1)]
end
section
theorem fl_X3_isBlock_40 : Cond.fieldLink RX3 40 "BlockRows" "blocks" "I" ∈ wsX3_isBlock := by decide +kernel
theorem in_X3_isBlock_X3 : ∀ w ∈ wsX30, w ∈ wsX3_isBlock := by decide +kernel
set_option maxHeartbeats 4000000 in
set_option maxRecDepth 100000 in
/-- BlockRows.isBlock -/
theorem c_isBlock (l : Launch) (D : va_G) (cI cJ cZ : ClassId) (x xh w g a b d aw hw cw n : Nat) (st : Bool) (hn : n ≤ 200) (y : Int32) : Met l yX3_isBlock wsX3_isBlock ({ frames := 0, cells := 0, slots := 0, locals := 0 }) (PcR D cI cJ cZ [.ref x, .int y] [(x, .inr (3, [.ref xh, .ref w, .ref g, .ref a, .ref b, .ref d, .long (lN aw), .long (lN hw), .long (lN cw), .int (nI n), .int (bI st)]))]) (vp_Si (fun r => r = bI (isB n y))) 0 0 (fun _ => False) := by
  refine startR (cc := cX3_isBlock) (maxL := 2) (ret := (some .boolean)) (by decide) rfl (Nat.le_of_ble_eq_true rfl) ?_
  intro p e s m below meth c ls hx hb hr hml hown hts hlocks hE hP hl
  have hl : lv_has ls 2 [(0, .ref x), (1, .int y)] := hl
  refine lv_iload_n hx hb dX3_isBlock_0 rfl (lv_at hl 1 rfl) ?_
  refine lv_if_lt (tgt := 16) hx hb dX3_isBlock_1 (by decide) (fun c_1 => ?_) (fun c_1 => ?_)
  · skip
    refine lv_iconst (v := bI false) hx hb dX3_isBlock_16 (by decide) ?_
    exact e_z false rfl hx hb hr hlocks dX3_isBlock_17 (by rw [isB_neg c_1])
  · skip
    obtain ⟨j, hj, rfl⟩ := nI_of c_1
    refine lv_iload_n hx hb dX3_isBlock_4 rfl (lv_at hl 1 rfl) ?_
    refine lv_aload_n hx hb dX3_isBlock_5 rfl (lv_at hl 0 rfl) ?_
    refine va_get (D := D) (ci := 3) (v := .int (nI n)) (C := RX3) (T := TX3) (N := 11) hx hb hts in_X3_isBlock_X3 hown hE.1 hP 0 rfl rfl 9 (by decide) (hts _ fl_X3_isBlock_40) (fun _ h9 => h9) rfl dX3_isBlock_6 ?_
    refine r_icmp_ge (tgt := 16) hx hb (x := j) (y := n) (by omega) (by omega) dX3_isBlock_9 (by decide) (fun c_9 => ?_) (fun c_9 => ?_)
    · skip
      refine lv_iconst (v := bI false) hx hb dX3_isBlock_16 (by decide) ?_
      exact e_z false rfl hx hb hr hlocks dX3_isBlock_17 (congrArg bI (by rw [isB_nI hj]; simp; omega))
    · skip
      refine lv_iconst (v := bI true) hx hb dX3_isBlock_12 (by decide) ?_
      refine lv_goto (tgt := 17) hx hb dX3_isBlock_13 (by decide) ?_
      exact e_z true rfl hx hb hr hlocks dX3_isBlock_17 (congrArg bI (by rw [isB_nI hj]; simp; omega))

theorem fl_X3_chainsAreBetter_82 : Cond.fieldLink RX3 82 "BlockRows" "chainsWeight" "J" ∈ wsX3_chainsAreBetter := by decide +kernel
theorem fl_X3_chainsAreBetter_86 : Cond.fieldLink RX3 86 "BlockRows" "hotWeight" "J" ∈ wsX3_chainsAreBetter := by decide +kernel
theorem in_X3_chainsAreBetter_X3 : ∀ w ∈ wsX30, w ∈ wsX3_chainsAreBetter := by decide +kernel
set_option maxHeartbeats 4000000 in
set_option maxRecDepth 100000 in
/-- BlockRows.chainsAreBetter -/
theorem c_better (l : Launch) (D : va_G) (cI cJ cZ : ClassId) (x xh w g a b d aw hw cw n : Nat) (st : Bool) (h1 : hw < 2 ^ 63) (h2 : cw < 2 ^ 63) : Met l yX3_chainsAreBetter wsX3_chainsAreBetter ({ frames := 0, cells := 0, slots := 0, locals := 0 }) (PcR D cI cJ cZ [.ref x] [(x, .inr (3, [.ref xh, .ref w, .ref g, .ref a, .ref b, .ref d, .long (lN aw), .long (lN hw), .long (lN cw), .int (nI n), .int (bI st)]))]) (vp_Si (fun r => r = bI (decide (hw < cw)))) 0 0 (fun _ => False) := by
  refine startR (cc := cX3_chainsAreBetter) (maxL := 1) (ret := (some .boolean)) (by decide) rfl (Nat.le_of_ble_eq_true rfl) ?_
  intro p e s m below meth c ls hx hb hr hml hown hts hlocks hE hP hl
  have hl : lv_has ls 1 [(0, .ref x)] := hl
  refine lv_aload_n hx hb dX3_chainsAreBetter_0 rfl (lv_at hl 0 rfl) ?_
  refine va_get (D := D) (ci := 3) (v := .long (lN cw)) (C := RX3) (T := TX3) (N := 11) hx hb hts in_X3_chainsAreBetter_X3 hown hE.1 hP 0 rfl rfl 8 (by decide) (hts _ fl_X3_chainsAreBetter_82) (fun _ h9 => h9) rfl dX3_chainsAreBetter_1 ?_
  refine lv_aload_n hx hb dX3_chainsAreBetter_4 rfl (lv_at hl 0 rfl) ?_
  refine va_get (D := D) (ci := 3) (v := .long (lN hw)) (C := RX3) (T := TX3) (N := 11) hx hb hts in_X3_chainsAreBetter_X3 hown hE.1 hP 0 rfl rfl 7 (by decide) (hts _ fl_X3_chainsAreBetter_86) (fun _ h9 => h9) rfl dX3_chainsAreBetter_5 ?_
  refine r_l_le (tgt := 16) hx hb (x := cw) (y := hw) (by omega) (by omega) dX3_chainsAreBetter_8 dX3_chainsAreBetter_9 (by decide) (fun c_8 => ?_) (fun c_8 => ?_)
  · skip
    refine lv_iconst (v := bI false) hx hb dX3_chainsAreBetter_16 (by decide) ?_
    exact e_z false rfl hx hb hr hlocks dX3_chainsAreBetter_17 (congrArg bI (by simp; omega))
  · skip
    refine lv_iconst (v := bI true) hx hb dX3_chainsAreBetter_12 (by decide) ?_
    refine lv_goto (tgt := 17) hx hb dX3_chainsAreBetter_13 (by decide) ?_
    exact e_z true rfl hx hb hr hlocks dX3_chainsAreBetter_17 (congrArg bI (by simp; omega))

theorem fl_X3_lineUpByNumber_30 : Cond.fieldLink RX3 30 "BlockRows" "allByNumber" "LBlockRows$Line;" ∈ wsX3_lineUpByNumber := by decide +kernel
theorem fl_X3_lineUpByNumber_34 : Cond.fieldLink RX3 34 "BlockRows" "hotByNumber" "LBlockRows$Line;" ∈ wsX3_lineUpByNumber := by decide +kernel
theorem fl_X3_lineUpByNumber_40 : Cond.fieldLink RX3 40 "BlockRows" "blocks" "I" ∈ wsX3_lineUpByNumber := by decide +kernel
theorem fl_X3_lineUpByNumber_9 : Cond.fieldLink RX3 9 "BlockRows" "hot" "[Z" ∈ wsX3_lineUpByNumber := by decide +kernel
theorem in_X3_lineUpByNumber_X3 : ∀ w ∈ wsX30, w ∈ wsX3_lineUpByNumber := by decide +kernel
set_option maxHeartbeats 4000000 in
set_option maxRecDepth 100000 in
/-- BlockRows.lineUpByNumber -/
theorem c_luBN (l : Launch) (D : va_G) (cI cJ cZ : ClassId) (x xh w g a am ap b bm bp d aw hw cw n : Nat) (st : Bool) (hot : Nat → Bool) (n1 : Nat) (me1 : Nat → Nat) (pl1 : Nat → Option Nat) (n2 : Nat) (me2 : Nat → Nat) (pl2 : Nat → Option Nat) (hn : n ≤ 200) (sz : Nat) : Met l yX3_lineUpByNumber wsX3_lineUpByNumber ({ frames := 2, cells := 0, slots := 0, locals := 43 }) (PcM D cI cJ cZ [.ref x] [(x, .inr (3, [.ref xh, .ref w, .ref g, .ref a, .ref b, .ref d, .long (lN aw), .long (lN hw), .long (lN cw), .int (nI n), .int (bI st)])), (xh, .inl (cZ, 200, .inl (bIf hot))), (a, .inr (1, [.ref am, .ref ap, .int (nI n1)])), (am, .inl (cI, 200, .inl (nIf me1))), (ap, .inl (cI, 200, .inl (oIf pl1))), (b, .inr (1, [.ref bm, .ref bp, .int (nI n2)])), (bm, .inl (cI, 200, .inl (nIf me2))), (bp, .inl (cI, 200, .inl (oIf pl2)))] sz) (va_Qv (fun z : Nat × (Nat → Nat) × (Nat → Option Nat) × Nat × (Nat → Nat) × (Nat → Option Nat) => LR (List.range n) z.1 z.2.1 z.2.2.1 ∧ LR (hbL n hot) z.2.2.2.1 z.2.2.2.2.1 z.2.2.2.2.2) (Bm D [(x, .inr (3, [.ref xh, .ref w, .ref g, .ref a, .ref b, .ref d, .long (lN aw), .long (lN hw), .long (lN cw), .int (nI n), .int (bI st)])), (xh, .inl (cZ, 200, .inl (bIf hot))), (a, .inr (1, [.ref am, .ref ap, .int (nI n1)])), (am, .inl (cI, 200, .inl (nIf me1))), (ap, .inl (cI, 200, .inl (oIf pl1))), (b, .inr (1, [.ref bm, .ref bp, .int (nI n2)])), (bm, .inl (cI, 200, .inl (nIf me2))), (bp, .inl (cI, 200, .inl (oIf pl2)))] sz (fun z : Nat × (Nat → Nat) × (Nat → Option Nat) × Nat × (Nat → Nat) × (Nat → Option Nat) => [(x, .inr (3, [.ref xh, .ref w, .ref g, .ref a, .ref b, .ref d, .long (lN aw), .long (lN hw), .long (lN cw), .int (nI n), .int (bI st)])), (xh, .inl (cZ, 200, .inl (bIf hot))), (a, .inr (1, [.ref am, .ref ap, .int (nI z.1)])), (am, .inl (cI, 200, .inl (nIf z.2.1))), (ap, .inl (cI, 200, .inl (oIf z.2.2.1))), (b, .inr (1, [.ref bm, .ref bp, .int (nI z.2.2.2.1)])), (bm, .inl (cI, 200, .inl (nIf z.2.2.2.2.1))), (bp, .inl (cI, 200, .inl (oIf z.2.2.2.2.2)))])) (va_A [(x, .inr (3, [.ref xh, .ref w, .ref g, .ref a, .ref b, .ref d, .long (lN aw), .long (lN hw), .long (lN cw), .int (nI n), .int (bI st)])), (xh, .inl (cZ, 200, .inl (bIf hot))), (a, .inr (1, [.ref am, .ref ap, .int (nI n1)])), (am, .inl (cI, 200, .inl (nIf me1))), (ap, .inl (cI, 200, .inl (oIf pl1))), (b, .inr (1, [.ref bm, .ref bp, .int (nI n2)])), (bm, .inl (cI, 200, .inl (nIf me2))), (bp, .inl (cI, 200, .inl (oIf pl2)))] sz)) 0 0 (va_A [(x, .inr (3, [.ref xh, .ref w, .ref g, .ref a, .ref b, .ref d, .long (lN aw), .long (lN hw), .long (lN cw), .int (nI n), .int (bI st)])), (xh, .inl (cZ, 200, .inl (bIf hot))), (a, .inr (1, [.ref am, .ref ap, .int (nI n1)])), (am, .inl (cI, 200, .inl (nIf me1))), (ap, .inl (cI, 200, .inl (oIf pl1))), (b, .inr (1, [.ref bm, .ref bp, .int (nI n2)])), (bm, .inl (cI, 200, .inl (nIf me2))), (bp, .inl (cI, 200, .inl (oIf pl2)))] sz) := by
  refine startM (cc := cX3_lineUpByNumber) (maxL := 2) (ret := none) (by decide) rfl (Nat.le_of_ble_eq_true rfl) ?_
  intro p e s m below meth c ls A hA hAe hx hb hr hml hown hts hlocks hin hE hP hD hS hl
  have hl : lv_has ls 2 [(0, .ref x)] := hl
  refine lv_aload_n hx hb dX3_lineUpByNumber_0 rfl (lv_at hl 0 rfl) ?_
  refine va_get (D := D) (ci := 3) (v := .ref a) (C := RX3) (T := TX3) (N := 11) hx hb hts in_X3_lineUpByNumber_X3 hown hE.1 hP 0 rfl rfl 3 (by decide) (hts _ fl_X3_lineUpByNumber_30) (fun _ h9 => h9) rfl dX3_lineUpByNumber_1 ?_
  refine callMv (As := []) (rest := []) (wr := [(x, .inr (3, [.ref xh, .ref w, .ref g, .ref a, .ref b, .ref d, .long (lN aw), .long (lN hw), .long (lN cw), .int (nI n), .int (bI st)])), (xh, .inl (cZ, 200, .inl (bIf hot))), (b, .inr (1, [.ref bm, .ref bp, .int (nI n2)])), (bm, .inl (cI, 200, .inl (nIf me2))), (bp, .inl (cI, 200, .inl (oIf pl2)))]) ⟨hx, hb, hml, hown, hts⟩ (c_empty l D cI cJ cZ a am ap n1 me1 pl1 _) (cwV 0 hts gX3_lineUpByNumber_X1_empty rfl rfl rfl (by decide +kernel) ⟨Nat.le_of_ble_eq_true rfl, Nat.le_of_ble_eq_true rfl⟩) (preM hE hP hD 1 2 rfl rfl rfl [2, 3, 4] rfl rfl rfl) rfl hl.1 (Nat.le_of_ble_eq_true rfl) dX3_lineUpByNumber_4 ⟨Nat.zero_le _, Nat.zero_le _⟩ rfl hP hD hS hA [2, 3, 4] [0, 1, 5, 6, 7] rfl rfl (by decide) (by decide) (fun u_ H locs hu hP hD hS => ?_)
  have hP : va_P D vwCl [(x, .inr (3, [.ref xh, .ref w, .ref g, .ref a, .ref b, .ref d, .long (lN aw), .long (lN hw), .long (lN cw), .int (nI n), .int (bI st)])), (xh, .inl (cZ, 200, .inl (bIf hot))), (b, .inr (1, [.ref bm, .ref bp, .int (nI n2)])), (bm, .inl (cI, 200, .inl (nIf me2))), (bp, .inl (cI, 200, .inl (oIf pl2))), (a, .inr (1, [.ref am, .ref ap, .int (nI 0)])), (am, .inl (cI, 200, .inl (nIf me1))), (ap, .inl (cI, 200, .inl (oIf (fun _ => none))))] H := hP
  have hD : va_D A [(x, .inr (3, [.ref xh, .ref w, .ref g, .ref a, .ref b, .ref d, .long (lN aw), .long (lN hw), .long (lN cw), .int (nI n), .int (bI st)])), (xh, .inl (cZ, 200, .inl (bIf hot))), (b, .inr (1, [.ref bm, .ref bp, .int (nI n2)])), (bm, .inl (cI, 200, .inl (nIf me2))), (bp, .inl (cI, 200, .inl (oIf pl2))), (a, .inr (1, [.ref am, .ref ap, .int (nI 0)])), (am, .inl (cI, 200, .inl (nIf me1))), (ap, .inl (cI, 200, .inl (oIf (fun _ => none))))] := hD
  refine lv_aload_n hx hb dX3_lineUpByNumber_7 rfl (lv_at hl 0 rfl) ?_
  refine va_get (D := D) (ci := 3) (v := .ref b) (C := RX3) (T := TX3) (N := 11) hx hb hts in_X3_lineUpByNumber_X3 hown hE.1 hP 0 rfl rfl 4 (by decide) (hts _ fl_X3_lineUpByNumber_34) (fun _ h9 => h9) rfl dX3_lineUpByNumber_8 ?_
  refine callMv (As := []) (rest := []) (wr := [(x, .inr (3, [.ref xh, .ref w, .ref g, .ref a, .ref b, .ref d, .long (lN aw), .long (lN hw), .long (lN cw), .int (nI n), .int (bI st)])), (xh, .inl (cZ, 200, .inl (bIf hot))), (a, .inr (1, [.ref am, .ref ap, .int (nI 0)])), (am, .inl (cI, 200, .inl (nIf me1))), (ap, .inl (cI, 200, .inl (oIf (fun _ => none))))]) ⟨hx, hb, hml, hown, hts⟩ (c_empty l D cI cJ cZ b bm bp n2 me2 pl2 _) (cwV 0 hts gX3_lineUpByNumber_X1_empty rfl rfl rfl (by decide +kernel) ⟨Nat.le_of_ble_eq_true rfl, Nat.le_of_ble_eq_true rfl⟩) (preM hE hP hD 1 2 rfl rfl rfl [2, 3, 4] rfl rfl rfl) rfl hl.1 (Nat.le_of_ble_eq_true rfl) dX3_lineUpByNumber_11 ⟨Nat.zero_le _, Nat.zero_le _⟩ rfl hP hD hS hA [2, 3, 4] [0, 1, 5, 6, 7] rfl rfl (by decide) (by decide) (fun u_ H locs hu hP hD hS => ?_)
  have hP : va_P D vwCl [(x, .inr (3, [.ref xh, .ref w, .ref g, .ref a, .ref b, .ref d, .long (lN aw), .long (lN hw), .long (lN cw), .int (nI n), .int (bI st)])), (xh, .inl (cZ, 200, .inl (bIf hot))), (a, .inr (1, [.ref am, .ref ap, .int (nI 0)])), (am, .inl (cI, 200, .inl (nIf me1))), (ap, .inl (cI, 200, .inl (oIf (fun _ => none)))), (b, .inr (1, [.ref bm, .ref bp, .int (nI 0)])), (bm, .inl (cI, 200, .inl (nIf me2))), (bp, .inl (cI, 200, .inl (oIf (fun _ => none))))] H := hP
  have hD : va_D A [(x, .inr (3, [.ref xh, .ref w, .ref g, .ref a, .ref b, .ref d, .long (lN aw), .long (lN hw), .long (lN cw), .int (nI n), .int (bI st)])), (xh, .inl (cZ, 200, .inl (bIf hot))), (a, .inr (1, [.ref am, .ref ap, .int (nI 0)])), (am, .inl (cI, 200, .inl (nIf me1))), (ap, .inl (cI, 200, .inl (oIf (fun _ => none)))), (b, .inr (1, [.ref bm, .ref bp, .int (nI 0)])), (bm, .inl (cI, 200, .inl (nIf me2))), (bp, .inl (cI, 200, .inl (oIf (fun _ => none))))] := hD
  refine lv_iconst (v := nI 0) hx hb dX3_lineUpByNumber_14 (by decide) ?_
  refine lv_istore_n (lv' := [(1, .int (nI 0)), (0, .ref x)]) hx hb dX3_lineUpByNumber_15 rfl hl (by decide) rfl (fun ls hl => ?_)
  refine r_loop (σ := Nat × Nat × (Nat → Nat) × (Nat → Option Nat) × Nat × (Nat → Nat) × (Nat → Option Nat)) (fun z0 => n - z0.1) (fun z0 H locs ls => (z0.1 ≤ n ∧ LR (List.range z0.1) z0.2.1 z0.2.2.1 z0.2.2.2.1 ∧ LR (hbL z0.1 hot) z0.2.2.2.2.1 z0.2.2.2.2.2.1 z0.2.2.2.2.2.2) ∧ va_P D vwCl [(x, .inr (3, [.ref xh, .ref w, .ref g, .ref a, .ref b, .ref d, .long (lN aw), .long (lN hw), .long (lN cw), .int (nI n), .int (bI st)])), (xh, .inl (cZ, 200, .inl (bIf hot))), (a, .inr (1, [.ref am, .ref ap, .int (nI z0.2.1)])), (am, .inl (cI, 200, .inl (nIf z0.2.2.1))), (ap, .inl (cI, 200, .inl (oIf z0.2.2.2.1))), (b, .inr (1, [.ref bm, .ref bp, .int (nI z0.2.2.2.2.1)])), (bm, .inl (cI, 200, .inl (nIf z0.2.2.2.2.2.1))), (bp, .inl (cI, 200, .inl (oIf z0.2.2.2.2.2.2)))] H ∧ va_D A [(x, .inr (3, [.ref xh, .ref w, .ref g, .ref a, .ref b, .ref d, .long (lN aw), .long (lN hw), .long (lN cw), .int (nI n), .int (bI st)])), (xh, .inl (cZ, 200, .inl (bIf hot))), (a, .inr (1, [.ref am, .ref ap, .int (nI z0.2.1)])), (am, .inl (cI, 200, .inl (nIf z0.2.2.1))), (ap, .inl (cI, 200, .inl (oIf z0.2.2.2.1))), (b, .inr (1, [.ref bm, .ref bp, .int (nI z0.2.2.2.2.1)])), (bm, .inl (cI, 200, .inl (nIf z0.2.2.2.2.2.1))), (bp, .inl (cI, 200, .inl (oIf z0.2.2.2.2.2.2)))] ∧ va_S A s.heap H locs ∧ lv_has ls 2 [(0, .ref x), (1, .int (nI z0.1))]) ?_ (0, 0, me1, fun _ => none, 0, me2, fun _ => none) ⟨⟨Nat.zero_le _, LR_nil, LR_nil⟩, hP.sub [0, 1, 2, 3, 4, 5, 6, 7] rfl, hD.sub [0, 1, 2, 3, 4, 5, 6, 7] (by decide) rfl, hS, lv_sub hl [1, 0] rfl⟩
  rintro ⟨k, m1, f1, p1, m2, f2, p2⟩ H locs ls ⟨hi_16, hP, hD, hS, hl⟩ ih_16
  have hi_16 : k ≤ n ∧ LR (List.range k) m1 f1 p1 ∧ LR (hbL k hot) m2 f2 p2 := hi_16
  have hP : va_P D vwCl [(x, .inr (3, [.ref xh, .ref w, .ref g, .ref a, .ref b, .ref d, .long (lN aw), .long (lN hw), .long (lN cw), .int (nI n), .int (bI st)])), (xh, .inl (cZ, 200, .inl (bIf hot))), (a, .inr (1, [.ref am, .ref ap, .int (nI m1)])), (am, .inl (cI, 200, .inl (nIf f1))), (ap, .inl (cI, 200, .inl (oIf p1))), (b, .inr (1, [.ref bm, .ref bp, .int (nI m2)])), (bm, .inl (cI, 200, .inl (nIf f2))), (bp, .inl (cI, 200, .inl (oIf p2)))] H := hP
  have hD : va_D A [(x, .inr (3, [.ref xh, .ref w, .ref g, .ref a, .ref b, .ref d, .long (lN aw), .long (lN hw), .long (lN cw), .int (nI n), .int (bI st)])), (xh, .inl (cZ, 200, .inl (bIf hot))), (a, .inr (1, [.ref am, .ref ap, .int (nI m1)])), (am, .inl (cI, 200, .inl (nIf f1))), (ap, .inl (cI, 200, .inl (oIf p1))), (b, .inr (1, [.ref bm, .ref bp, .int (nI m2)])), (bm, .inl (cI, 200, .inl (nIf f2))), (bp, .inl (cI, 200, .inl (oIf p2)))] := hD
  have hl : lv_has ls 2 [(0, .ref x), (1, .int (nI k))] := hl
  obtain ⟨hi_a, hi_b, hi_c⟩ := id hi_16
  have hm1 : m1 = k := by rw [hi_b.1, List.length_range]
  have hm2 : m2 ≤ k := by rw [hi_c.1]; exact hbL_len k hot
  refine lv_iload_n hx hb dX3_lineUpByNumber_16 rfl (lv_at hl 1 rfl) ?_
  refine lv_aload_n hx hb dX3_lineUpByNumber_17 rfl (lv_at hl 0 rfl) ?_
  refine va_get (D := D) (ci := 3) (v := .int (nI n)) (C := RX3) (T := TX3) (N := 11) hx hb hts in_X3_lineUpByNumber_X3 hown hE.1 hP 0 rfl rfl 9 (by decide) (hts _ fl_X3_lineUpByNumber_40) (fun _ h9 => h9) rfl dX3_lineUpByNumber_18 ?_
  refine r_icmp_ge (tgt := 55) hx hb (x := k) (y := n) (by omega) (by omega) dX3_lineUpByNumber_21 (by decide) (fun c_21 => ?_) (fun c_21 => ?_)
  · skip
    have e9 : k = n := by omega
    subst e9
    exact e_mv (m1, f1, p1, m2, f2, p2) hAe hx hb hr hlocks dX3_lineUpByNumber_55 (hP.sub [0, 1, 2, 3, 4, 5, 6, 7] rfl) (hD.sub [0, 1, 2, 3, 4, 5, 6, 7] (by decide) rfl) hS ⟨hi_b, hi_c⟩
  · skip
    refine lv_aload_n hx hb dX3_lineUpByNumber_24 rfl (lv_at hl 0 rfl) ?_
    refine va_get (D := D) (ci := 3) (v := .ref a) (C := RX3) (T := TX3) (N := 11) hx hb hts in_X3_lineUpByNumber_X3 hown hE.1 hP 0 rfl rfl 3 (by decide) (hts _ fl_X3_lineUpByNumber_30) (fun _ h9 => h9) rfl dX3_lineUpByNumber_25 ?_
    refine lv_iload_n hx hb dX3_lineUpByNumber_28 rfl (lv_at hl 1 rfl) ?_
    refine callMv (As := [.int (nI k)]) (rest := []) (wr := [(x, .inr (3, [.ref xh, .ref w, .ref g, .ref a, .ref b, .ref d, .long (lN aw), .long (lN hw), .long (lN cw), .int (nI n), .int (bI st)])), (xh, .inl (cZ, 200, .inl (bIf hot))), (b, .inr (1, [.ref bm, .ref bp, .int (nI m2)])), (bm, .inl (cI, 200, .inl (nIf f2))), (bp, .inl (cI, 200, .inl (oIf p2)))]) ⟨hx, hb, hml, hown, hts⟩ (c_append l D cI cJ cZ a am ap m1 f1 p1 _ k (by omega) (by omega)) (cwV 1 hts gX3_lineUpByNumber_X1_append rfl rfl rfl (by decide +kernel) ⟨Nat.le_of_ble_eq_true rfl, Nat.le_of_ble_eq_true rfl⟩) (preM hE hP hD 1 2 rfl rfl rfl [2, 3, 4] rfl rfl rfl) rfl hl.1 (Nat.le_of_ble_eq_true rfl) dX3_lineUpByNumber_29 ⟨Nat.zero_le _, Nat.zero_le _⟩ rfl hP hD hS hA [2, 3, 4] [0, 1, 5, 6, 7] rfl rfl (by decide) (by decide) (fun u_ H locs hu hP hD hS => ?_)
    have hP : va_P D vwCl [(x, .inr (3, [.ref xh, .ref w, .ref g, .ref a, .ref b, .ref d, .long (lN aw), .long (lN hw), .long (lN cw), .int (nI n), .int (bI st)])), (xh, .inl (cZ, 200, .inl (bIf hot))), (b, .inr (1, [.ref bm, .ref bp, .int (nI m2)])), (bm, .inl (cI, 200, .inl (nIf f2))), (bp, .inl (cI, 200, .inl (oIf p2))), (a, .inr (1, [.ref am, .ref ap, .int (nI (m1 + 1))])), (am, .inl (cI, 200, .inl (nIf (va_up f1 m1 k)))), (ap, .inl (cI, 200, .inl (oIf (va_up p1 k (some m1)))))] H := hP
    have hD : va_D A [(x, .inr (3, [.ref xh, .ref w, .ref g, .ref a, .ref b, .ref d, .long (lN aw), .long (lN hw), .long (lN cw), .int (nI n), .int (bI st)])), (xh, .inl (cZ, 200, .inl (bIf hot))), (b, .inr (1, [.ref bm, .ref bp, .int (nI m2)])), (bm, .inl (cI, 200, .inl (nIf f2))), (bp, .inl (cI, 200, .inl (oIf p2))), (a, .inr (1, [.ref am, .ref ap, .int (nI (m1 + 1))])), (am, .inl (cI, 200, .inl (nIf (va_up f1 m1 k)))), (ap, .inl (cI, 200, .inl (oIf (va_up p1 k (some m1)))))] := hD
    refine lv_aload_n hx hb dX3_lineUpByNumber_32 rfl (lv_at hl 0 rfl) ?_
    refine va_get (D := D) (ci := 3) (v := .ref xh) (C := RX3) (T := TX3) (N := 11) hx hb hts in_X3_lineUpByNumber_X3 hown hE.1 hP 0 rfl rfl 0 (by decide) (hts _ fl_X3_lineUpByNumber_9) (fun _ h9 => h9) rfl dX3_lineUpByNumber_33 ?_
    refine lv_iload_n hx hb dX3_lineUpByNumber_36 rfl (lv_at hl 1 rfl) ?_
    refine r_bld hx hb hE hP 1 rfl (k := k) (by omega) (by decide) dX3_lineUpByNumber_37 ?_
    refine r_b_eq (tgt := 49) hx hb dX3_lineUpByNumber_38 (by decide) (fun c_38 => ?_) (fun c_38 => ?_)
    · skip
      refine lv_iinc (v := (nI (k + 1))) (lv' := [(1, .int (nI (k + 1))), (0, .ref x)]) hx hb dX3_lineUpByNumber_49 hl (k := 1) rfl (nI_1 _) (by decide) rfl (fun ls hl => ?_)
      refine lv_goto (tgt := 16) hx hb dX3_lineUpByNumber_52 (by decide) ?_
      exact ih_16 (k + 1, m1 + 1, va_up f1 m1 k, va_up p1 k (some m1), m2, f2, p2) _ _ _ ⟨(show (k + 1) ≤ n ∧ LR (List.range ((k + 1))) (m1 + 1) (va_up f1 m1 k) (va_up p1 k (some m1)) ∧ LR (hbL ((k + 1)) hot) m2 f2 p2 from ⟨by omega, range_LR_push hi_b, hbL_LR_skip hi_c c_38⟩), hP.sub [0, 1, 5, 6, 7, 2, 3, 4] rfl, hD.sub [0, 1, 5, 6, 7, 2, 3, 4] (by decide) rfl, hS, lv_sub hl [1, 0] rfl⟩ (by show n - (k + 1) < n - k; omega)
    · skip
      refine lv_aload_n hx hb dX3_lineUpByNumber_41 rfl (lv_at hl 0 rfl) ?_
      refine va_get (D := D) (ci := 3) (v := .ref b) (C := RX3) (T := TX3) (N := 11) hx hb hts in_X3_lineUpByNumber_X3 hown hE.1 hP 0 rfl rfl 4 (by decide) (hts _ fl_X3_lineUpByNumber_34) (fun _ h9 => h9) rfl dX3_lineUpByNumber_42 ?_
      refine lv_iload_n hx hb dX3_lineUpByNumber_45 rfl (lv_at hl 1 rfl) ?_
      refine callMv (As := [.int (nI k)]) (rest := []) (wr := [(x, .inr (3, [.ref xh, .ref w, .ref g, .ref a, .ref b, .ref d, .long (lN aw), .long (lN hw), .long (lN cw), .int (nI n), .int (bI st)])), (xh, .inl (cZ, 200, .inl (bIf hot))), (a, .inr (1, [.ref am, .ref ap, .int (nI (m1 + 1))])), (am, .inl (cI, 200, .inl (nIf (va_up f1 m1 k)))), (ap, .inl (cI, 200, .inl (oIf (va_up p1 k (some m1)))))]) ⟨hx, hb, hml, hown, hts⟩ (c_append l D cI cJ cZ b bm bp m2 f2 p2 _ k (by omega) (by omega)) (cwV 1 hts gX3_lineUpByNumber_X1_append rfl rfl rfl (by decide +kernel) ⟨Nat.le_of_ble_eq_true rfl, Nat.le_of_ble_eq_true rfl⟩) (preM hE hP hD 1 2 rfl rfl rfl [2, 3, 4] rfl rfl rfl) rfl hl.1 (Nat.le_of_ble_eq_true rfl) dX3_lineUpByNumber_46 ⟨Nat.zero_le _, Nat.zero_le _⟩ rfl hP hD hS hA [2, 3, 4] [0, 1, 5, 6, 7] rfl rfl (by decide) (by decide) (fun u_ H locs hu hP hD hS => ?_)
      have hP : va_P D vwCl [(x, .inr (3, [.ref xh, .ref w, .ref g, .ref a, .ref b, .ref d, .long (lN aw), .long (lN hw), .long (lN cw), .int (nI n), .int (bI st)])), (xh, .inl (cZ, 200, .inl (bIf hot))), (a, .inr (1, [.ref am, .ref ap, .int (nI (m1 + 1))])), (am, .inl (cI, 200, .inl (nIf (va_up f1 m1 k)))), (ap, .inl (cI, 200, .inl (oIf (va_up p1 k (some m1))))), (b, .inr (1, [.ref bm, .ref bp, .int (nI (m2 + 1))])), (bm, .inl (cI, 200, .inl (nIf (va_up f2 m2 k)))), (bp, .inl (cI, 200, .inl (oIf (va_up p2 k (some m2)))))] H := hP
      have hD : va_D A [(x, .inr (3, [.ref xh, .ref w, .ref g, .ref a, .ref b, .ref d, .long (lN aw), .long (lN hw), .long (lN cw), .int (nI n), .int (bI st)])), (xh, .inl (cZ, 200, .inl (bIf hot))), (a, .inr (1, [.ref am, .ref ap, .int (nI (m1 + 1))])), (am, .inl (cI, 200, .inl (nIf (va_up f1 m1 k)))), (ap, .inl (cI, 200, .inl (oIf (va_up p1 k (some m1))))), (b, .inr (1, [.ref bm, .ref bp, .int (nI (m2 + 1))])), (bm, .inl (cI, 200, .inl (nIf (va_up f2 m2 k)))), (bp, .inl (cI, 200, .inl (oIf (va_up p2 k (some m2)))))] := hD
      refine lv_iinc (v := (nI (k + 1))) (lv' := [(1, .int (nI (k + 1))), (0, .ref x)]) hx hb dX3_lineUpByNumber_49 hl (k := 1) rfl (nI_1 _) (by decide) rfl (fun ls hl => ?_)
      refine lv_goto (tgt := 16) hx hb dX3_lineUpByNumber_52 (by decide) ?_
      exact ih_16 (k + 1, m1 + 1, va_up f1 m1 k, va_up p1 k (some m1), m2 + 1, va_up f2 m2 k, va_up p2 k (some m2)) _ _ _ ⟨(show (k + 1) ≤ n ∧ LR (List.range ((k + 1))) (m1 + 1) (va_up f1 m1 k) (va_up p1 k (some m1)) ∧ LR (hbL ((k + 1)) hot) (m2 + 1) (va_up f2 m2 k) (va_up p2 k (some m2)) from ⟨by omega, range_LR_push hi_b, hbL_LR_push hi_c c_38⟩), hP.sub [0, 1, 2, 3, 4, 5, 6, 7] rfl, hD.sub [0, 1, 2, 3, 4, 5, 6, 7] (by decide) rfl, hS, lv_sub hl [1, 0] rfl⟩ (by show n - (k + 1) < n - k; omega)
end
section
theorem fl_X3_refresh_16 : Cond.fieldLink RX3 16 "BlockRows" "ways" "LBlockRows$Ways;" ∈ wsX3_refresh := by decide +kernel
theorem fl_X3_refresh_23 : Cond.fieldLink RX3 23 "BlockRows" "chains" "LBlockRows$Chains;" ∈ wsX3_refresh := by decide +kernel
theorem fl_X3_refresh_30 : Cond.fieldLink RX3 30 "BlockRows" "allByNumber" "LBlockRows$Line;" ∈ wsX3_refresh := by decide +kernel
theorem fl_X3_refresh_34 : Cond.fieldLink RX3 34 "BlockRows" "hotByNumber" "LBlockRows$Line;" ∈ wsX3_refresh := by decide +kernel
theorem fl_X3_refresh_37 : Cond.fieldLink RX3 37 "BlockRows" "hotByChains" "LBlockRows$Line;" ∈ wsX3_refresh := by decide +kernel
theorem fl_X3_refresh_44 : Cond.fieldLink RX3 44 "BlockRows" "stale" "Z" ∈ wsX3_refresh := by decide +kernel
theorem fl_X3_refresh_82 : Cond.fieldLink RX3 82 "BlockRows" "chainsWeight" "J" ∈ wsX3_refresh := by decide +kernel
theorem fl_X3_refresh_86 : Cond.fieldLink RX3 86 "BlockRows" "hotWeight" "J" ∈ wsX3_refresh := by decide +kernel
theorem fl_X3_refresh_89 : Cond.fieldLink RX3 89 "BlockRows" "allWeight" "J" ∈ wsX3_refresh := by decide +kernel
theorem in_X3_refresh_X3 : ∀ w ∈ wsX30, w ∈ wsX3_refresh := by decide +kernel
set_option maxHeartbeats 4000000 in
set_option maxRecDepth 100000 in
/-- BlockRows.refresh -/
theorem c_refresh (l : Launch) (D : va_G) (cI cJ cZ : ClassId) (x xh w wf wt wc wl_ g gf gn gp a am ap b bm bp d dm dp : Nat) (aw hw cw n : Nat) (st : Bool) (hot : Nat → Bool) (kn : Nat) (fr tt ct : Nat → Nat) (fa : Nat → Bool) (fs nx : Nat → Option Nat) (pu : Nat → Nat) (n1 : Nat) (me1 : Nat → Nat) (pl1 : Nat → Option Nat) (n2 : Nat) (me2 : Nat → Nat) (pl2 : Nat → Option Nat) (n3 : Nat) (me3 : Nat → Nat) (pl3 : Nat → Option Nat) (hn : n ≤ 200) (hkn : kn ≤ 1000) (hB : WB fr tt ct) (hst : st = false → Fresh n hot (wl kn (pk fr tt ct fa)) aw hw cw fs n1 me1 pl1 n2 me2 pl2 n3 me3 pl3) (sz : Nat) : Met l yX3_refresh wsX3_refresh ({ frames := 3, cells := 0, slots := 0, locals := 71 }) (PcM D cI cJ cZ [.ref x] [(x, .inr (3, [.ref xh, .ref w, .ref g, .ref a, .ref b, .ref d, .long (lN aw), .long (lN hw), .long (lN cw), .int (nI n), .int (bI st)])), (xh, .inl (cZ, 200, .inl (bIf hot))), (w, .inr (2, [.ref wf, .ref wt, .ref wc, .ref wl_, .int (nI kn)])), (wf, .inl (cI, 1000, .inl (nIf fr))), (wt, .inl (cI, 1000, .inl (nIf tt))), (wc, .inl (cJ, 1000, .inr (.inl (lNf ct)))), (wl_, .inl (cZ, 1000, .inl (bIf fa))), (g, .inr (0, [.ref gf, .ref gn, .ref gp])), (gf, .inl (cI, 200, .inl (oIf fs))), (gn, .inl (cI, 200, .inl (oIf nx))), (gp, .inl (cJ, 200, .inr (.inl (lNf pu)))), (a, .inr (1, [.ref am, .ref ap, .int (nI n1)])), (am, .inl (cI, 200, .inl (nIf me1))), (ap, .inl (cI, 200, .inl (oIf pl1))), (b, .inr (1, [.ref bm, .ref bp, .int (nI n2)])), (bm, .inl (cI, 200, .inl (nIf me2))), (bp, .inl (cI, 200, .inl (oIf pl2))), (d, .inr (1, [.ref dm, .ref dp, .int (nI n3)])), (dm, .inl (cI, 200, .inl (nIf me3))), (dp, .inl (cI, 200, .inl (oIf pl3)))] sz) (va_Qv (fun z : Nat × Nat × Nat × (Nat → Option Nat) × (Nat → Option Nat) × (Nat → Nat) × Nat × (Nat → Nat) × (Nat → Option Nat) × Nat × (Nat → Nat) × (Nat → Option Nat) × Nat × (Nat → Nat) × (Nat → Option Nat) => Fresh n hot (wl kn (pk fr tt ct fa)) z.1 z.2.1 z.2.2.1 z.2.2.2.1 z.2.2.2.2.2.2.1 z.2.2.2.2.2.2.2.1 z.2.2.2.2.2.2.2.2.1 z.2.2.2.2.2.2.2.2.2.1 z.2.2.2.2.2.2.2.2.2.2.1 z.2.2.2.2.2.2.2.2.2.2.2.1 z.2.2.2.2.2.2.2.2.2.2.2.2.1 z.2.2.2.2.2.2.2.2.2.2.2.2.2.1 z.2.2.2.2.2.2.2.2.2.2.2.2.2.2) (Bm D [(x, .inr (3, [.ref xh, .ref w, .ref g, .ref a, .ref b, .ref d, .long (lN aw), .long (lN hw), .long (lN cw), .int (nI n), .int (bI st)])), (xh, .inl (cZ, 200, .inl (bIf hot))), (w, .inr (2, [.ref wf, .ref wt, .ref wc, .ref wl_, .int (nI kn)])), (wf, .inl (cI, 1000, .inl (nIf fr))), (wt, .inl (cI, 1000, .inl (nIf tt))), (wc, .inl (cJ, 1000, .inr (.inl (lNf ct)))), (wl_, .inl (cZ, 1000, .inl (bIf fa))), (g, .inr (0, [.ref gf, .ref gn, .ref gp])), (gf, .inl (cI, 200, .inl (oIf fs))), (gn, .inl (cI, 200, .inl (oIf nx))), (gp, .inl (cJ, 200, .inr (.inl (lNf pu)))), (a, .inr (1, [.ref am, .ref ap, .int (nI n1)])), (am, .inl (cI, 200, .inl (nIf me1))), (ap, .inl (cI, 200, .inl (oIf pl1))), (b, .inr (1, [.ref bm, .ref bp, .int (nI n2)])), (bm, .inl (cI, 200, .inl (nIf me2))), (bp, .inl (cI, 200, .inl (oIf pl2))), (d, .inr (1, [.ref dm, .ref dp, .int (nI n3)])), (dm, .inl (cI, 200, .inl (nIf me3))), (dp, .inl (cI, 200, .inl (oIf pl3)))] sz (fun z : Nat × Nat × Nat × (Nat → Option Nat) × (Nat → Option Nat) × (Nat → Nat) × Nat × (Nat → Nat) × (Nat → Option Nat) × Nat × (Nat → Nat) × (Nat → Option Nat) × Nat × (Nat → Nat) × (Nat → Option Nat) => [(x, .inr (3, [.ref xh, .ref w, .ref g, .ref a, .ref b, .ref d, .long (lN z.1), .long (lN z.2.1), .long (lN z.2.2.1), .int (nI n), .int (bI false)])), (xh, .inl (cZ, 200, .inl (bIf hot))), (w, .inr (2, [.ref wf, .ref wt, .ref wc, .ref wl_, .int (nI kn)])), (wf, .inl (cI, 1000, .inl (nIf fr))), (wt, .inl (cI, 1000, .inl (nIf tt))), (wc, .inl (cJ, 1000, .inr (.inl (lNf ct)))), (wl_, .inl (cZ, 1000, .inl (bIf fa))), (g, .inr (0, [.ref gf, .ref gn, .ref gp])), (gf, .inl (cI, 200, .inl (oIf z.2.2.2.1))), (gn, .inl (cI, 200, .inl (oIf z.2.2.2.2.1))), (gp, .inl (cJ, 200, .inr (.inl (lNf z.2.2.2.2.2.1)))), (a, .inr (1, [.ref am, .ref ap, .int (nI z.2.2.2.2.2.2.1)])), (am, .inl (cI, 200, .inl (nIf z.2.2.2.2.2.2.2.1))), (ap, .inl (cI, 200, .inl (oIf z.2.2.2.2.2.2.2.2.1))), (b, .inr (1, [.ref bm, .ref bp, .int (nI z.2.2.2.2.2.2.2.2.2.1)])), (bm, .inl (cI, 200, .inl (nIf z.2.2.2.2.2.2.2.2.2.2.1))), (bp, .inl (cI, 200, .inl (oIf z.2.2.2.2.2.2.2.2.2.2.2.1))), (d, .inr (1, [.ref dm, .ref dp, .int (nI z.2.2.2.2.2.2.2.2.2.2.2.2.1)])), (dm, .inl (cI, 200, .inl (nIf z.2.2.2.2.2.2.2.2.2.2.2.2.2.1))), (dp, .inl (cI, 200, .inl (oIf z.2.2.2.2.2.2.2.2.2.2.2.2.2.2)))])) (va_A [(x, .inr (3, [.ref xh, .ref w, .ref g, .ref a, .ref b, .ref d, .long (lN aw), .long (lN hw), .long (lN cw), .int (nI n), .int (bI st)])), (xh, .inl (cZ, 200, .inl (bIf hot))), (w, .inr (2, [.ref wf, .ref wt, .ref wc, .ref wl_, .int (nI kn)])), (wf, .inl (cI, 1000, .inl (nIf fr))), (wt, .inl (cI, 1000, .inl (nIf tt))), (wc, .inl (cJ, 1000, .inr (.inl (lNf ct)))), (wl_, .inl (cZ, 1000, .inl (bIf fa))), (g, .inr (0, [.ref gf, .ref gn, .ref gp])), (gf, .inl (cI, 200, .inl (oIf fs))), (gn, .inl (cI, 200, .inl (oIf nx))), (gp, .inl (cJ, 200, .inr (.inl (lNf pu)))), (a, .inr (1, [.ref am, .ref ap, .int (nI n1)])), (am, .inl (cI, 200, .inl (nIf me1))), (ap, .inl (cI, 200, .inl (oIf pl1))), (b, .inr (1, [.ref bm, .ref bp, .int (nI n2)])), (bm, .inl (cI, 200, .inl (nIf me2))), (bp, .inl (cI, 200, .inl (oIf pl2))), (d, .inr (1, [.ref dm, .ref dp, .int (nI n3)])), (dm, .inl (cI, 200, .inl (nIf me3))), (dp, .inl (cI, 200, .inl (oIf pl3)))] sz)) 0 0 (va_A [(x, .inr (3, [.ref xh, .ref w, .ref g, .ref a, .ref b, .ref d, .long (lN aw), .long (lN hw), .long (lN cw), .int (nI n), .int (bI st)])), (xh, .inl (cZ, 200, .inl (bIf hot))), (w, .inr (2, [.ref wf, .ref wt, .ref wc, .ref wl_, .int (nI kn)])), (wf, .inl (cI, 1000, .inl (nIf fr))), (wt, .inl (cI, 1000, .inl (nIf tt))), (wc, .inl (cJ, 1000, .inr (.inl (lNf ct)))), (wl_, .inl (cZ, 1000, .inl (bIf fa))), (g, .inr (0, [.ref gf, .ref gn, .ref gp])), (gf, .inl (cI, 200, .inl (oIf fs))), (gn, .inl (cI, 200, .inl (oIf nx))), (gp, .inl (cJ, 200, .inr (.inl (lNf pu)))), (a, .inr (1, [.ref am, .ref ap, .int (nI n1)])), (am, .inl (cI, 200, .inl (nIf me1))), (ap, .inl (cI, 200, .inl (oIf pl1))), (b, .inr (1, [.ref bm, .ref bp, .int (nI n2)])), (bm, .inl (cI, 200, .inl (nIf me2))), (bp, .inl (cI, 200, .inl (oIf pl2))), (d, .inr (1, [.ref dm, .ref dp, .int (nI n3)])), (dm, .inl (cI, 200, .inl (nIf me3))), (dp, .inl (cI, 200, .inl (oIf pl3)))] sz) := by
  refine startM (cc := cX3_refresh) (maxL := 1) (ret := none) (by decide) rfl (Nat.le_of_ble_eq_true rfl) ?_
  intro p e s m below meth c ls A hA hAe hx hb hr hml hown hts hlocks hin hE hP hD hS hl
  have hl : lv_has ls 1 [(0, .ref x)] := hl
  refine lv_aload_n hx hb dX3_refresh_0 rfl (lv_at hl 0 rfl) ?_
  refine va_get (D := D) (ci := 3) (v := .int (bI st)) (C := RX3) (T := TX3) (N := 11) hx hb hts in_X3_refresh_X3 hown hE.1 hP 0 rfl rfl 10 (by decide) (hts _ fl_X3_refresh_44) (fun _ h9 => h9) rfl dX3_refresh_1 ?_
  refine r_b_ne (tgt := 8) hx hb dX3_refresh_4 (by decide) (fun c_4 => ?_) (fun c_4 => ?_)
  · skip
    refine lv_aload_n hx hb dX3_refresh_8 rfl (lv_at hl 0 rfl) ?_
    refine callMv (As := []) (rest := []) (wr := [(w, .inr (2, [.ref wf, .ref wt, .ref wc, .ref wl_, .int (nI kn)])), (wf, .inl (cI, 1000, .inl (nIf fr))), (wt, .inl (cI, 1000, .inl (nIf tt))), (wc, .inl (cJ, 1000, .inr (.inl (lNf ct)))), (wl_, .inl (cZ, 1000, .inl (bIf fa))), (g, .inr (0, [.ref gf, .ref gn, .ref gp])), (gf, .inl (cI, 200, .inl (oIf fs))), (gn, .inl (cI, 200, .inl (oIf nx))), (gp, .inl (cJ, 200, .inr (.inl (lNf pu)))), (d, .inr (1, [.ref dm, .ref dp, .int (nI n3)])), (dm, .inl (cI, 200, .inl (nIf me3))), (dp, .inl (cI, 200, .inl (oIf pl3)))]) ⟨hx, hb, hml, hown, hts⟩ (c_luBN l D cI cJ cZ x xh w g a am ap b bm bp d aw hw cw n st hot n1 me1 pl1 n2 me2 pl2 hn _) (cwV 0 hts gX3_refresh_X3_lineUpByNumber rfl rfl rfl (by decide +kernel) ⟨Nat.le_of_ble_eq_true rfl, Nat.le_of_ble_eq_true rfl⟩) (preM hE hP hD 3 0 rfl rfl rfl [0, 1, 11, 12, 13, 14, 15, 16] rfl rfl rfl) rfl hl.1 (Nat.le_of_ble_eq_true rfl) dX3_refresh_9 ⟨Nat.zero_le _, Nat.zero_le _⟩ rfl hP hD hS hA [0, 1, 11, 12, 13, 14, 15, 16] [2, 3, 4, 5, 6, 7, 8, 9, 10, 17, 18, 19] rfl rfl (by decide) (by decide) (fun u_ H locs hu hP hD hS => ?_)
    obtain ⟨m1, f1, p1, m2, f2, p2⟩ := u_
    have hP : va_P D vwCl [(w, .inr (2, [.ref wf, .ref wt, .ref wc, .ref wl_, .int (nI kn)])), (wf, .inl (cI, 1000, .inl (nIf fr))), (wt, .inl (cI, 1000, .inl (nIf tt))), (wc, .inl (cJ, 1000, .inr (.inl (lNf ct)))), (wl_, .inl (cZ, 1000, .inl (bIf fa))), (g, .inr (0, [.ref gf, .ref gn, .ref gp])), (gf, .inl (cI, 200, .inl (oIf fs))), (gn, .inl (cI, 200, .inl (oIf nx))), (gp, .inl (cJ, 200, .inr (.inl (lNf pu)))), (d, .inr (1, [.ref dm, .ref dp, .int (nI n3)])), (dm, .inl (cI, 200, .inl (nIf me3))), (dp, .inl (cI, 200, .inl (oIf pl3))), (x, .inr (3, [.ref xh, .ref w, .ref g, .ref a, .ref b, .ref d, .long (lN aw), .long (lN hw), .long (lN cw), .int (nI n), .int (bI st)])), (xh, .inl (cZ, 200, .inl (bIf hot))), (a, .inr (1, [.ref am, .ref ap, .int (nI m1)])), (am, .inl (cI, 200, .inl (nIf f1))), (ap, .inl (cI, 200, .inl (oIf p1))), (b, .inr (1, [.ref bm, .ref bp, .int (nI m2)])), (bm, .inl (cI, 200, .inl (nIf f2))), (bp, .inl (cI, 200, .inl (oIf p2)))] H := hP
    have hD : va_D A [(w, .inr (2, [.ref wf, .ref wt, .ref wc, .ref wl_, .int (nI kn)])), (wf, .inl (cI, 1000, .inl (nIf fr))), (wt, .inl (cI, 1000, .inl (nIf tt))), (wc, .inl (cJ, 1000, .inr (.inl (lNf ct)))), (wl_, .inl (cZ, 1000, .inl (bIf fa))), (g, .inr (0, [.ref gf, .ref gn, .ref gp])), (gf, .inl (cI, 200, .inl (oIf fs))), (gn, .inl (cI, 200, .inl (oIf nx))), (gp, .inl (cJ, 200, .inr (.inl (lNf pu)))), (d, .inr (1, [.ref dm, .ref dp, .int (nI n3)])), (dm, .inl (cI, 200, .inl (nIf me3))), (dp, .inl (cI, 200, .inl (oIf pl3))), (x, .inr (3, [.ref xh, .ref w, .ref g, .ref a, .ref b, .ref d, .long (lN aw), .long (lN hw), .long (lN cw), .int (nI n), .int (bI st)])), (xh, .inl (cZ, 200, .inl (bIf hot))), (a, .inr (1, [.ref am, .ref ap, .int (nI m1)])), (am, .inl (cI, 200, .inl (nIf f1))), (ap, .inl (cI, 200, .inl (oIf p1))), (b, .inr (1, [.ref bm, .ref bp, .int (nI m2)])), (bm, .inl (cI, 200, .inl (nIf f2))), (bp, .inl (cI, 200, .inl (oIf p2)))] := hD
    obtain ⟨hL1, hL2⟩ : LR (List.range n) m1 f1 p1 ∧ LR (hbL n hot) m2 f2 p2 := hu
    have hb2 : ∀ i j, p2 i = some j → j < 200 := LR_b hL2 (Nat.le_trans (hbL_len n hot) hn)
    have hb1 : ∀ i j, p1 i = some j → j < 200 := LR_b hL1 (by rw [List.length_range]; exact hn)
    refine lv_aload_n hx hb dX3_refresh_12 rfl (lv_at hl 0 rfl) ?_
    refine va_get (D := D) (ci := 3) (v := .ref g) (C := RX3) (T := TX3) (N := 11) hx hb hts in_X3_refresh_X3 hown hE.1 hP 12 rfl rfl 2 (by decide) (hts _ fl_X3_refresh_23) (fun _ h9 => h9) rfl dX3_refresh_13 ?_
    refine lv_aload_n hx hb dX3_refresh_16 rfl (lv_at hl 0 rfl) ?_
    refine va_get (D := D) (ci := 3) (v := .ref b) (C := RX3) (T := TX3) (N := 11) hx hb hts in_X3_refresh_X3 hown hE.1 hP 12 rfl rfl 4 (by decide) (hts _ fl_X3_refresh_34) (fun _ h9 => h9) rfl dX3_refresh_17 ?_
    refine callMv (As := [.ref b]) (rest := []) (wr := [(w, .inr (2, [.ref wf, .ref wt, .ref wc, .ref wl_, .int (nI kn)])), (wf, .inl (cI, 1000, .inl (nIf fr))), (wt, .inl (cI, 1000, .inl (nIf tt))), (wc, .inl (cJ, 1000, .inr (.inl (lNf ct)))), (wl_, .inl (cZ, 1000, .inl (bIf fa))), (d, .inr (1, [.ref dm, .ref dp, .int (nI n3)])), (dm, .inl (cI, 200, .inl (nIf me3))), (dp, .inl (cI, 200, .inl (oIf pl3))), (x, .inr (3, [.ref xh, .ref w, .ref g, .ref a, .ref b, .ref d, .long (lN aw), .long (lN hw), .long (lN cw), .int (nI n), .int (bI st)])), (xh, .inl (cZ, 200, .inl (bIf hot))), (a, .inr (1, [.ref am, .ref ap, .int (nI m1)])), (am, .inl (cI, 200, .inl (nIf f1))), (ap, .inl (cI, 200, .inl (oIf p1)))]) ⟨hx, hb, hml, hown, hts⟩ (c_start l D cI cJ cZ g gf gn gp fs nx pu b bm bp m2 f2 p2 hb2 _) (cwV 1 hts gX3_refresh_X0_start rfl rfl rfl (by decide +kernel) ⟨Nat.le_of_ble_eq_true rfl, Nat.le_of_ble_eq_true rfl⟩) (preM hE hP hD 0 5 rfl rfl rfl [5, 6, 7, 8, 17, 18, 19] rfl rfl rfl) rfl hl.1 (Nat.le_of_ble_eq_true rfl) dX3_refresh_20 ⟨Nat.zero_le _, Nat.zero_le _⟩ rfl hP hD hS hA [5, 6, 7, 8, 17, 18, 19] [0, 1, 2, 3, 4, 9, 10, 11, 12, 13, 14, 15, 16] rfl rfl (by decide) (by decide) (fun u_ H locs hu hP hD hS => ?_)
    have hP : va_P D vwCl [(w, .inr (2, [.ref wf, .ref wt, .ref wc, .ref wl_, .int (nI kn)])), (wf, .inl (cI, 1000, .inl (nIf fr))), (wt, .inl (cI, 1000, .inl (nIf tt))), (wc, .inl (cJ, 1000, .inr (.inl (lNf ct)))), (wl_, .inl (cZ, 1000, .inl (bIf fa))), (d, .inr (1, [.ref dm, .ref dp, .int (nI n3)])), (dm, .inl (cI, 200, .inl (nIf me3))), (dp, .inl (cI, 200, .inl (oIf pl3))), (x, .inr (3, [.ref xh, .ref w, .ref g, .ref a, .ref b, .ref d, .long (lN aw), .long (lN hw), .long (lN cw), .int (nI n), .int (bI st)])), (xh, .inl (cZ, 200, .inl (bIf hot))), (a, .inr (1, [.ref am, .ref ap, .int (nI m1)])), (am, .inl (cI, 200, .inl (nIf f1))), (ap, .inl (cI, 200, .inl (oIf p1))), (g, .inr (0, [.ref gf, .ref gn, .ref gp])), (gf, .inl (cI, 200, .inl (oIf (stF p2)))), (gn, .inl (cI, 200, .inl (oIf (fun _ => none)))), (gp, .inl (cJ, 200, .inr (.inl (lNf pu)))), (b, .inr (1, [.ref bm, .ref bp, .int (nI m2)])), (bm, .inl (cI, 200, .inl (nIf f2))), (bp, .inl (cI, 200, .inl (oIf p2)))] H := hP
    have hD : va_D A [(w, .inr (2, [.ref wf, .ref wt, .ref wc, .ref wl_, .int (nI kn)])), (wf, .inl (cI, 1000, .inl (nIf fr))), (wt, .inl (cI, 1000, .inl (nIf tt))), (wc, .inl (cJ, 1000, .inr (.inl (lNf ct)))), (wl_, .inl (cZ, 1000, .inl (bIf fa))), (d, .inr (1, [.ref dm, .ref dp, .int (nI n3)])), (dm, .inl (cI, 200, .inl (nIf me3))), (dp, .inl (cI, 200, .inl (oIf pl3))), (x, .inr (3, [.ref xh, .ref w, .ref g, .ref a, .ref b, .ref d, .long (lN aw), .long (lN hw), .long (lN cw), .int (nI n), .int (bI st)])), (xh, .inl (cZ, 200, .inl (bIf hot))), (a, .inr (1, [.ref am, .ref ap, .int (nI m1)])), (am, .inl (cI, 200, .inl (nIf f1))), (ap, .inl (cI, 200, .inl (oIf p1))), (g, .inr (0, [.ref gf, .ref gn, .ref gp])), (gf, .inl (cI, 200, .inl (oIf (stF p2)))), (gn, .inl (cI, 200, .inl (oIf (fun _ => none)))), (gp, .inl (cJ, 200, .inr (.inl (lNf pu)))), (b, .inr (1, [.ref bm, .ref bp, .int (nI m2)])), (bm, .inl (cI, 200, .inl (nIf f2))), (bp, .inl (cI, 200, .inl (oIf p2)))] := hD
    refine lv_aload_n hx hb dX3_refresh_23 rfl (lv_at hl 0 rfl) ?_
    refine va_get (D := D) (ci := 3) (v := .ref g) (C := RX3) (T := TX3) (N := 11) hx hb hts in_X3_refresh_X3 hown hE.1 hP 8 rfl rfl 2 (by decide) (hts _ fl_X3_refresh_23) (fun _ h9 => h9) rfl dX3_refresh_24 ?_
    refine lv_aload_n hx hb dX3_refresh_27 rfl (lv_at hl 0 rfl) ?_
    refine va_get (D := D) (ci := 3) (v := .ref w) (C := RX3) (T := TX3) (N := 11) hx hb hts in_X3_refresh_X3 hown hE.1 hP 8 rfl rfl 1 (by decide) (hts _ fl_X3_refresh_16) (fun _ h9 => h9) rfl dX3_refresh_28 ?_
    refine callMv (As := [.ref w]) (rest := []) (wr := [(d, .inr (1, [.ref dm, .ref dp, .int (nI n3)])), (dm, .inl (cI, 200, .inl (nIf me3))), (dp, .inl (cI, 200, .inl (oIf pl3))), (x, .inr (3, [.ref xh, .ref w, .ref g, .ref a, .ref b, .ref d, .long (lN aw), .long (lN hw), .long (lN cw), .int (nI n), .int (bI st)])), (xh, .inl (cZ, 200, .inl (bIf hot))), (a, .inr (1, [.ref am, .ref ap, .int (nI m1)])), (am, .inl (cI, 200, .inl (nIf f1))), (ap, .inl (cI, 200, .inl (oIf p1))), (b, .inr (1, [.ref bm, .ref bp, .int (nI m2)])), (bm, .inl (cI, 200, .inl (nIf f2))), (bp, .inl (cI, 200, .inl (oIf p2)))]) ⟨hx, hb, hml, hown, hts⟩ (c_joinAlong l D cI cJ cZ g gf gn gp (stF p2) (fun _ => none) pu w wf wt wc wl_ kn fr tt ct fa hkn hB (T0 (hbL n hot)) (CR_start hL2 (hbL_lt hn)) _) (cwV 1 hts gX3_refresh_X0_joinAlong rfl rfl rfl (by decide +kernel) ⟨Nat.le_of_ble_eq_true rfl, Nat.le_of_ble_eq_true rfl⟩) (preM hE hP hD 0 13 rfl rfl rfl [13, 14, 15, 16, 0, 1, 2, 3, 4] rfl rfl rfl) rfl hl.1 (Nat.le_of_ble_eq_true rfl) dX3_refresh_31 ⟨Nat.zero_le _, Nat.zero_le _⟩ rfl hP hD hS hA [13, 14, 15, 16, 0, 1, 2, 3, 4] [5, 6, 7, 8, 9, 10, 11, 12, 17, 18, 19] rfl rfl (by decide) (by decide) (fun u_ H locs hu hP hD hS => ?_)
    obtain ⟨fs2, nx2⟩ := u_
    have hP : va_P D vwCl [(d, .inr (1, [.ref dm, .ref dp, .int (nI n3)])), (dm, .inl (cI, 200, .inl (nIf me3))), (dp, .inl (cI, 200, .inl (oIf pl3))), (x, .inr (3, [.ref xh, .ref w, .ref g, .ref a, .ref b, .ref d, .long (lN aw), .long (lN hw), .long (lN cw), .int (nI n), .int (bI st)])), (xh, .inl (cZ, 200, .inl (bIf hot))), (a, .inr (1, [.ref am, .ref ap, .int (nI m1)])), (am, .inl (cI, 200, .inl (nIf f1))), (ap, .inl (cI, 200, .inl (oIf p1))), (b, .inr (1, [.ref bm, .ref bp, .int (nI m2)])), (bm, .inl (cI, 200, .inl (nIf f2))), (bp, .inl (cI, 200, .inl (oIf p2))), (g, .inr (0, [.ref gf, .ref gn, .ref gp])), (gf, .inl (cI, 200, .inl (oIf fs2))), (gn, .inl (cI, 200, .inl (oIf nx2))), (gp, .inl (cJ, 200, .inr (.inl (lNf pu)))), (w, .inr (2, [.ref wf, .ref wt, .ref wc, .ref wl_, .int (nI kn)])), (wf, .inl (cI, 1000, .inl (nIf fr))), (wt, .inl (cI, 1000, .inl (nIf tt))), (wc, .inl (cJ, 1000, .inr (.inl (lNf ct)))), (wl_, .inl (cZ, 1000, .inl (bIf fa)))] H := hP
    have hD : va_D A [(d, .inr (1, [.ref dm, .ref dp, .int (nI n3)])), (dm, .inl (cI, 200, .inl (nIf me3))), (dp, .inl (cI, 200, .inl (oIf pl3))), (x, .inr (3, [.ref xh, .ref w, .ref g, .ref a, .ref b, .ref d, .long (lN aw), .long (lN hw), .long (lN cw), .int (nI n), .int (bI st)])), (xh, .inl (cZ, 200, .inl (bIf hot))), (a, .inr (1, [.ref am, .ref ap, .int (nI m1)])), (am, .inl (cI, 200, .inl (nIf f1))), (ap, .inl (cI, 200, .inl (oIf p1))), (b, .inr (1, [.ref bm, .ref bp, .int (nI m2)])), (bm, .inl (cI, 200, .inl (nIf f2))), (bp, .inl (cI, 200, .inl (oIf p2))), (g, .inr (0, [.ref gf, .ref gn, .ref gp])), (gf, .inl (cI, 200, .inl (oIf fs2))), (gn, .inl (cI, 200, .inl (oIf nx2))), (gp, .inl (cJ, 200, .inr (.inl (lNf pu)))), (w, .inr (2, [.ref wf, .ref wt, .ref wc, .ref wl_, .int (nI kn)])), (wf, .inl (cI, 1000, .inl (nIf fr))), (wt, .inl (cI, 1000, .inl (nIf tt))), (wc, .inl (cJ, 1000, .inr (.inl (lNf ct)))), (wl_, .inl (cZ, 1000, .inl (bIf fa)))] := hD
    have hC : CR (Tof (wl kn (pk fr tt ct fa)) (hbL n hot)) fs2 nx2 := hu
    refine lv_aload_n hx hb dX3_refresh_34 rfl (lv_at hl 0 rfl) ?_
    refine va_get (D := D) (ci := 3) (v := .ref g) (C := RX3) (T := TX3) (N := 11) hx hb hts in_X3_refresh_X3 hown hE.1 hP 3 rfl rfl 2 (by decide) (hts _ fl_X3_refresh_23) (fun _ h9 => h9) rfl dX3_refresh_35 ?_
    refine lv_aload_n hx hb dX3_refresh_38 rfl (lv_at hl 0 rfl) ?_
    refine va_get (D := D) (ci := 3) (v := .ref b) (C := RX3) (T := TX3) (N := 11) hx hb hts in_X3_refresh_X3 hown hE.1 hP 3 rfl rfl 4 (by decide) (hts _ fl_X3_refresh_34) (fun _ h9 => h9) rfl dX3_refresh_39 ?_
    refine lv_aload_n hx hb dX3_refresh_42 rfl (lv_at hl 0 rfl) ?_
    refine va_get (D := D) (ci := 3) (v := .ref w) (C := RX3) (T := TX3) (N := 11) hx hb hts in_X3_refresh_X3 hown hE.1 hP 3 rfl rfl 1 (by decide) (hts _ fl_X3_refresh_16) (fun _ h9 => h9) rfl dX3_refresh_43 ?_
    refine lv_aload_n hx hb dX3_refresh_46 rfl (lv_at hl 0 rfl) ?_
    refine va_get (D := D) (ci := 3) (v := .ref d) (C := RX3) (T := TX3) (N := 11) hx hb hts in_X3_refresh_X3 hown hE.1 hP 3 rfl rfl 5 (by decide) (hts _ fl_X3_refresh_37) (fun _ h9 => h9) rfl dX3_refresh_47 ?_
    refine callMv (As := [.ref b, .ref w, .ref d]) (rest := []) (wr := [(x, .inr (3, [.ref xh, .ref w, .ref g, .ref a, .ref b, .ref d, .long (lN aw), .long (lN hw), .long (lN cw), .int (nI n), .int (bI st)])), (xh, .inl (cZ, 200, .inl (bIf hot))), (a, .inr (1, [.ref am, .ref ap, .int (nI m1)])), (am, .inl (cI, 200, .inl (nIf f1))), (ap, .inl (cI, 200, .inl (oIf p1)))]) ⟨hx, hb, hml, hown, hts⟩ (c_lineUp l D cI cJ cZ g gf gn gp fs2 nx2 pu b bm bp m2 f2 p2 w wf wt wc wl_ kn fr tt ct fa d dm dp n3 me3 pl3 (Tof (wl kn (pk fr tt ct fa)) (hbL n hot)) (hbL n hot) hC hL2 (by rw [hL2.1]; exact Nat.le_trans (hbL_len n hot) hn) (Tof_cov (hbL_lt hn)) hkn hB _) (cwV 3 hts gX3_refresh_X0_lineUp rfl rfl rfl (by decide +kernel) ⟨Nat.le_of_ble_eq_true rfl, Nat.le_of_ble_eq_true rfl⟩) (preM hE hP hD 0 11 rfl rfl rfl [11, 12, 13, 14, 8, 9, 10, 15, 16, 17, 18, 19, 0, 1, 2] rfl rfl rfl) rfl hl.1 (Nat.le_of_ble_eq_true rfl) dX3_refresh_50 ⟨Nat.zero_le _, Nat.zero_le _⟩ rfl hP hD hS hA [11, 12, 13, 14, 8, 9, 10, 15, 16, 17, 18, 19, 0, 1, 2] [3, 4, 5, 6, 7] rfl rfl (by decide) (by decide) (fun u_ H locs hu hP hD hS => ?_)
    obtain ⟨m3, f3, p3, pu2⟩ := u_
    have hP : va_P D vwCl [(x, .inr (3, [.ref xh, .ref w, .ref g, .ref a, .ref b, .ref d, .long (lN aw), .long (lN hw), .long (lN cw), .int (nI n), .int (bI st)])), (xh, .inl (cZ, 200, .inl (bIf hot))), (a, .inr (1, [.ref am, .ref ap, .int (nI m1)])), (am, .inl (cI, 200, .inl (nIf f1))), (ap, .inl (cI, 200, .inl (oIf p1))), (g, .inr (0, [.ref gf, .ref gn, .ref gp])), (gf, .inl (cI, 200, .inl (oIf fs2))), (gn, .inl (cI, 200, .inl (oIf nx2))), (gp, .inl (cJ, 200, .inr (.inl (lNf pu2)))), (b, .inr (1, [.ref bm, .ref bp, .int (nI m2)])), (bm, .inl (cI, 200, .inl (nIf f2))), (bp, .inl (cI, 200, .inl (oIf p2))), (w, .inr (2, [.ref wf, .ref wt, .ref wc, .ref wl_, .int (nI kn)])), (wf, .inl (cI, 1000, .inl (nIf fr))), (wt, .inl (cI, 1000, .inl (nIf tt))), (wc, .inl (cJ, 1000, .inr (.inl (lNf ct)))), (wl_, .inl (cZ, 1000, .inl (bIf fa))), (d, .inr (1, [.ref dm, .ref dp, .int (nI m3)])), (dm, .inl (cI, 200, .inl (nIf f3))), (dp, .inl (cI, 200, .inl (oIf p3)))] H := hP
    have hD : va_D A [(x, .inr (3, [.ref xh, .ref w, .ref g, .ref a, .ref b, .ref d, .long (lN aw), .long (lN hw), .long (lN cw), .int (nI n), .int (bI st)])), (xh, .inl (cZ, 200, .inl (bIf hot))), (a, .inr (1, [.ref am, .ref ap, .int (nI m1)])), (am, .inl (cI, 200, .inl (nIf f1))), (ap, .inl (cI, 200, .inl (oIf p1))), (g, .inr (0, [.ref gf, .ref gn, .ref gp])), (gf, .inl (cI, 200, .inl (oIf fs2))), (gn, .inl (cI, 200, .inl (oIf nx2))), (gp, .inl (cJ, 200, .inr (.inl (lNf pu2)))), (b, .inr (1, [.ref bm, .ref bp, .int (nI m2)])), (bm, .inl (cI, 200, .inl (nIf f2))), (bp, .inl (cI, 200, .inl (oIf p2))), (w, .inr (2, [.ref wf, .ref wt, .ref wc, .ref wl_, .int (nI kn)])), (wf, .inl (cI, 1000, .inl (nIf fr))), (wt, .inl (cI, 1000, .inl (nIf tt))), (wc, .inl (cJ, 1000, .inr (.inl (lNf ct)))), (wl_, .inl (cZ, 1000, .inl (bIf fa))), (d, .inr (1, [.ref dm, .ref dp, .int (nI m3)])), (dm, .inl (cI, 200, .inl (nIf f3))), (dp, .inl (cI, 200, .inl (oIf p3)))] := hD
    have hL3 : LR (finL (wl kn (pk fr tt ct fa)) (hbL n hot)) m3 f3 p3 := hu
    have hb3 : ∀ i j, p3 i = some j → j < 200 := LR_b hL3 (fin_len hn hL3)
    refine lv_aload_n hx hb dX3_refresh_53 rfl (lv_at hl 0 rfl) ?_
    refine lv_aload_n hx hb dX3_refresh_54 rfl (lv_at hl 0 rfl) ?_
    refine va_get (D := D) (ci := 3) (v := .ref w) (C := RX3) (T := TX3) (N := 11) hx hb hts in_X3_refresh_X3 hown hE.1 hP 0 rfl rfl 1 (by decide) (hts _ fl_X3_refresh_16) (fun _ h9 => h9) rfl dX3_refresh_55 ?_
    refine lv_aload_n hx hb dX3_refresh_58 rfl (lv_at hl 0 rfl) ?_
    refine va_get (D := D) (ci := 3) (v := .ref a) (C := RX3) (T := TX3) (N := 11) hx hb hts in_X3_refresh_X3 hown hE.1 hP 0 rfl rfl 3 (by decide) (hts _ fl_X3_refresh_30) (fun _ h9 => h9) rfl dX3_refresh_59 ?_
    refine callRl (As := [.ref a]) (rest := [.ref x]) ⟨hx, hb, hml, hown, hts⟩ (c_weigh l D cI cJ cZ w wf wt wc wl_ kn fr tt ct fa a am ap m1 f1 p1 hkn hB hb1) (cwV 1 hts gX3_refresh_X2_weigh rfl rfl rfl (by decide +kernel) ⟨Nat.le_of_ble_eq_true rfl, Nat.le_of_ble_eq_true rfl⟩) (preR hE hP 2 12 rfl rfl rfl [12, 13, 14, 15, 16, 2, 3, 4] rfl) rfl hl.1 (Nat.le_of_ble_eq_true rfl) dX3_refresh_62 ⟨Nat.zero_le _, Nat.zero_le _⟩ rfl (fun r_62 hr_62 => ?_)
    subst hr_62
    rw [wS_sum (fa := fa) hL1]
    refine va_put (D := D) (ci := 3) (v := .long (lN (wS (wl kn (pk fr tt ct fa)) (List.range n)))) (ty := .long) (C := RX3) (T := TX3) (N := 11) hx hb hts in_X3_refresh_X3 tyX3 tyX3_ok nmX3 hown hE.1 hP hD hS 0 rfl rfl 6 (by decide) (hts _ fl_X3_refresh_89) (fun _ h9 => h9) rfl (by decide +kernel) rfl rfl (Nat.le_of_ble_eq_true rfl) dX3_refresh_65 (fun H locs hP hD hS => ?_)
    have hP : va_P D vwCl [(x, .inr (3, [.ref xh, .ref w, .ref g, .ref a, .ref b, .ref d, .long (lN (wS (wl kn (pk fr tt ct fa)) (List.range n))), .long (lN hw), .long (lN cw), .int (nI n), .int (bI st)])), (xh, .inl (cZ, 200, .inl (bIf hot))), (a, .inr (1, [.ref am, .ref ap, .int (nI m1)])), (am, .inl (cI, 200, .inl (nIf f1))), (ap, .inl (cI, 200, .inl (oIf p1))), (g, .inr (0, [.ref gf, .ref gn, .ref gp])), (gf, .inl (cI, 200, .inl (oIf fs2))), (gn, .inl (cI, 200, .inl (oIf nx2))), (gp, .inl (cJ, 200, .inr (.inl (lNf pu2)))), (b, .inr (1, [.ref bm, .ref bp, .int (nI m2)])), (bm, .inl (cI, 200, .inl (nIf f2))), (bp, .inl (cI, 200, .inl (oIf p2))), (w, .inr (2, [.ref wf, .ref wt, .ref wc, .ref wl_, .int (nI kn)])), (wf, .inl (cI, 1000, .inl (nIf fr))), (wt, .inl (cI, 1000, .inl (nIf tt))), (wc, .inl (cJ, 1000, .inr (.inl (lNf ct)))), (wl_, .inl (cZ, 1000, .inl (bIf fa))), (d, .inr (1, [.ref dm, .ref dp, .int (nI m3)])), (dm, .inl (cI, 200, .inl (nIf f3))), (dp, .inl (cI, 200, .inl (oIf p3)))] H := hP
    have hD : va_D A [(x, .inr (3, [.ref xh, .ref w, .ref g, .ref a, .ref b, .ref d, .long (lN (wS (wl kn (pk fr tt ct fa)) (List.range n))), .long (lN hw), .long (lN cw), .int (nI n), .int (bI st)])), (xh, .inl (cZ, 200, .inl (bIf hot))), (a, .inr (1, [.ref am, .ref ap, .int (nI m1)])), (am, .inl (cI, 200, .inl (nIf f1))), (ap, .inl (cI, 200, .inl (oIf p1))), (g, .inr (0, [.ref gf, .ref gn, .ref gp])), (gf, .inl (cI, 200, .inl (oIf fs2))), (gn, .inl (cI, 200, .inl (oIf nx2))), (gp, .inl (cJ, 200, .inr (.inl (lNf pu2)))), (b, .inr (1, [.ref bm, .ref bp, .int (nI m2)])), (bm, .inl (cI, 200, .inl (nIf f2))), (bp, .inl (cI, 200, .inl (oIf p2))), (w, .inr (2, [.ref wf, .ref wt, .ref wc, .ref wl_, .int (nI kn)])), (wf, .inl (cI, 1000, .inl (nIf fr))), (wt, .inl (cI, 1000, .inl (nIf tt))), (wc, .inl (cJ, 1000, .inr (.inl (lNf ct)))), (wl_, .inl (cZ, 1000, .inl (bIf fa))), (d, .inr (1, [.ref dm, .ref dp, .int (nI m3)])), (dm, .inl (cI, 200, .inl (nIf f3))), (dp, .inl (cI, 200, .inl (oIf p3)))] := hD
    refine lv_aload_n hx hb dX3_refresh_68 rfl (lv_at hl 0 rfl) ?_
    refine lv_aload_n hx hb dX3_refresh_69 rfl (lv_at hl 0 rfl) ?_
    refine va_get (D := D) (ci := 3) (v := .ref w) (C := RX3) (T := TX3) (N := 11) hx hb hts in_X3_refresh_X3 hown hE.1 hP 0 rfl rfl 1 (by decide) (hts _ fl_X3_refresh_16) (fun _ h9 => h9) rfl dX3_refresh_70 ?_
    refine lv_aload_n hx hb dX3_refresh_73 rfl (lv_at hl 0 rfl) ?_
    refine va_get (D := D) (ci := 3) (v := .ref b) (C := RX3) (T := TX3) (N := 11) hx hb hts in_X3_refresh_X3 hown hE.1 hP 0 rfl rfl 4 (by decide) (hts _ fl_X3_refresh_34) (fun _ h9 => h9) rfl dX3_refresh_74 ?_
    refine callRl (As := [.ref b]) (rest := [.ref x]) ⟨hx, hb, hml, hown, hts⟩ (c_weigh l D cI cJ cZ w wf wt wc wl_ kn fr tt ct fa b bm bp m2 f2 p2 hkn hB hb2) (cwV 1 hts gX3_refresh_X2_weigh rfl rfl rfl (by decide +kernel) ⟨Nat.le_of_ble_eq_true rfl, Nat.le_of_ble_eq_true rfl⟩) (preR hE hP 2 12 rfl rfl rfl [12, 13, 14, 15, 16, 9, 10, 11] rfl) rfl hl.1 (Nat.le_of_ble_eq_true rfl) dX3_refresh_77 ⟨Nat.zero_le _, Nat.zero_le _⟩ rfl (fun r_77 hr_77 => ?_)
    subst hr_77
    rw [wS_sum (fa := fa) hL2]
    refine va_put (D := D) (ci := 3) (v := .long (lN (wS (wl kn (pk fr tt ct fa)) (hbL n hot)))) (ty := .long) (C := RX3) (T := TX3) (N := 11) hx hb hts in_X3_refresh_X3 tyX3 tyX3_ok nmX3 hown hE.1 hP hD hS 0 rfl rfl 7 (by decide) (hts _ fl_X3_refresh_86) (fun _ h9 => h9) rfl (by decide +kernel) rfl rfl (Nat.le_of_ble_eq_true rfl) dX3_refresh_80 (fun H locs hP hD hS => ?_)
    have hP : va_P D vwCl [(x, .inr (3, [.ref xh, .ref w, .ref g, .ref a, .ref b, .ref d, .long (lN (wS (wl kn (pk fr tt ct fa)) (List.range n))), .long (lN (wS (wl kn (pk fr tt ct fa)) (hbL n hot))), .long (lN cw), .int (nI n), .int (bI st)])), (xh, .inl (cZ, 200, .inl (bIf hot))), (a, .inr (1, [.ref am, .ref ap, .int (nI m1)])), (am, .inl (cI, 200, .inl (nIf f1))), (ap, .inl (cI, 200, .inl (oIf p1))), (g, .inr (0, [.ref gf, .ref gn, .ref gp])), (gf, .inl (cI, 200, .inl (oIf fs2))), (gn, .inl (cI, 200, .inl (oIf nx2))), (gp, .inl (cJ, 200, .inr (.inl (lNf pu2)))), (b, .inr (1, [.ref bm, .ref bp, .int (nI m2)])), (bm, .inl (cI, 200, .inl (nIf f2))), (bp, .inl (cI, 200, .inl (oIf p2))), (w, .inr (2, [.ref wf, .ref wt, .ref wc, .ref wl_, .int (nI kn)])), (wf, .inl (cI, 1000, .inl (nIf fr))), (wt, .inl (cI, 1000, .inl (nIf tt))), (wc, .inl (cJ, 1000, .inr (.inl (lNf ct)))), (wl_, .inl (cZ, 1000, .inl (bIf fa))), (d, .inr (1, [.ref dm, .ref dp, .int (nI m3)])), (dm, .inl (cI, 200, .inl (nIf f3))), (dp, .inl (cI, 200, .inl (oIf p3)))] H := hP
    have hD : va_D A [(x, .inr (3, [.ref xh, .ref w, .ref g, .ref a, .ref b, .ref d, .long (lN (wS (wl kn (pk fr tt ct fa)) (List.range n))), .long (lN (wS (wl kn (pk fr tt ct fa)) (hbL n hot))), .long (lN cw), .int (nI n), .int (bI st)])), (xh, .inl (cZ, 200, .inl (bIf hot))), (a, .inr (1, [.ref am, .ref ap, .int (nI m1)])), (am, .inl (cI, 200, .inl (nIf f1))), (ap, .inl (cI, 200, .inl (oIf p1))), (g, .inr (0, [.ref gf, .ref gn, .ref gp])), (gf, .inl (cI, 200, .inl (oIf fs2))), (gn, .inl (cI, 200, .inl (oIf nx2))), (gp, .inl (cJ, 200, .inr (.inl (lNf pu2)))), (b, .inr (1, [.ref bm, .ref bp, .int (nI m2)])), (bm, .inl (cI, 200, .inl (nIf f2))), (bp, .inl (cI, 200, .inl (oIf p2))), (w, .inr (2, [.ref wf, .ref wt, .ref wc, .ref wl_, .int (nI kn)])), (wf, .inl (cI, 1000, .inl (nIf fr))), (wt, .inl (cI, 1000, .inl (nIf tt))), (wc, .inl (cJ, 1000, .inr (.inl (lNf ct)))), (wl_, .inl (cZ, 1000, .inl (bIf fa))), (d, .inr (1, [.ref dm, .ref dp, .int (nI m3)])), (dm, .inl (cI, 200, .inl (nIf f3))), (dp, .inl (cI, 200, .inl (oIf p3)))] := hD
    refine lv_aload_n hx hb dX3_refresh_83 rfl (lv_at hl 0 rfl) ?_
    refine lv_aload_n hx hb dX3_refresh_84 rfl (lv_at hl 0 rfl) ?_
    refine va_get (D := D) (ci := 3) (v := .ref w) (C := RX3) (T := TX3) (N := 11) hx hb hts in_X3_refresh_X3 hown hE.1 hP 0 rfl rfl 1 (by decide) (hts _ fl_X3_refresh_16) (fun _ h9 => h9) rfl dX3_refresh_85 ?_
    refine lv_aload_n hx hb dX3_refresh_88 rfl (lv_at hl 0 rfl) ?_
    refine va_get (D := D) (ci := 3) (v := .ref d) (C := RX3) (T := TX3) (N := 11) hx hb hts in_X3_refresh_X3 hown hE.1 hP 0 rfl rfl 5 (by decide) (hts _ fl_X3_refresh_37) (fun _ h9 => h9) rfl dX3_refresh_89 ?_
    refine callRl (As := [.ref d]) (rest := [.ref x]) ⟨hx, hb, hml, hown, hts⟩ (c_weigh l D cI cJ cZ w wf wt wc wl_ kn fr tt ct fa d dm dp m3 f3 p3 hkn hB hb3) (cwV 1 hts gX3_refresh_X2_weigh rfl rfl rfl (by decide +kernel) ⟨Nat.le_of_ble_eq_true rfl, Nat.le_of_ble_eq_true rfl⟩) (preR hE hP 2 12 rfl rfl rfl [12, 13, 14, 15, 16, 17, 18, 19] rfl) rfl hl.1 (Nat.le_of_ble_eq_true rfl) dX3_refresh_92 ⟨Nat.zero_le _, Nat.zero_le _⟩ rfl (fun r_92 hr_92 => ?_)
    subst hr_92
    rw [wS_sum (fa := fa) hL3]
    refine va_put (D := D) (ci := 3) (v := .long (lN (wS (wl kn (pk fr tt ct fa)) (finL (wl kn (pk fr tt ct fa)) (hbL n hot))))) (ty := .long) (C := RX3) (T := TX3) (N := 11) hx hb hts in_X3_refresh_X3 tyX3 tyX3_ok nmX3 hown hE.1 hP hD hS 0 rfl rfl 8 (by decide) (hts _ fl_X3_refresh_82) (fun _ h9 => h9) rfl (by decide +kernel) rfl rfl (Nat.le_of_ble_eq_true rfl) dX3_refresh_95 (fun H locs hP hD hS => ?_)
    have hP : va_P D vwCl [(x, .inr (3, [.ref xh, .ref w, .ref g, .ref a, .ref b, .ref d, .long (lN (wS (wl kn (pk fr tt ct fa)) (List.range n))), .long (lN (wS (wl kn (pk fr tt ct fa)) (hbL n hot))), .long (lN (wS (wl kn (pk fr tt ct fa)) (finL (wl kn (pk fr tt ct fa)) (hbL n hot)))), .int (nI n), .int (bI st)])), (xh, .inl (cZ, 200, .inl (bIf hot))), (a, .inr (1, [.ref am, .ref ap, .int (nI m1)])), (am, .inl (cI, 200, .inl (nIf f1))), (ap, .inl (cI, 200, .inl (oIf p1))), (g, .inr (0, [.ref gf, .ref gn, .ref gp])), (gf, .inl (cI, 200, .inl (oIf fs2))), (gn, .inl (cI, 200, .inl (oIf nx2))), (gp, .inl (cJ, 200, .inr (.inl (lNf pu2)))), (b, .inr (1, [.ref bm, .ref bp, .int (nI m2)])), (bm, .inl (cI, 200, .inl (nIf f2))), (bp, .inl (cI, 200, .inl (oIf p2))), (w, .inr (2, [.ref wf, .ref wt, .ref wc, .ref wl_, .int (nI kn)])), (wf, .inl (cI, 1000, .inl (nIf fr))), (wt, .inl (cI, 1000, .inl (nIf tt))), (wc, .inl (cJ, 1000, .inr (.inl (lNf ct)))), (wl_, .inl (cZ, 1000, .inl (bIf fa))), (d, .inr (1, [.ref dm, .ref dp, .int (nI m3)])), (dm, .inl (cI, 200, .inl (nIf f3))), (dp, .inl (cI, 200, .inl (oIf p3)))] H := hP
    have hD : va_D A [(x, .inr (3, [.ref xh, .ref w, .ref g, .ref a, .ref b, .ref d, .long (lN (wS (wl kn (pk fr tt ct fa)) (List.range n))), .long (lN (wS (wl kn (pk fr tt ct fa)) (hbL n hot))), .long (lN (wS (wl kn (pk fr tt ct fa)) (finL (wl kn (pk fr tt ct fa)) (hbL n hot)))), .int (nI n), .int (bI st)])), (xh, .inl (cZ, 200, .inl (bIf hot))), (a, .inr (1, [.ref am, .ref ap, .int (nI m1)])), (am, .inl (cI, 200, .inl (nIf f1))), (ap, .inl (cI, 200, .inl (oIf p1))), (g, .inr (0, [.ref gf, .ref gn, .ref gp])), (gf, .inl (cI, 200, .inl (oIf fs2))), (gn, .inl (cI, 200, .inl (oIf nx2))), (gp, .inl (cJ, 200, .inr (.inl (lNf pu2)))), (b, .inr (1, [.ref bm, .ref bp, .int (nI m2)])), (bm, .inl (cI, 200, .inl (nIf f2))), (bp, .inl (cI, 200, .inl (oIf p2))), (w, .inr (2, [.ref wf, .ref wt, .ref wc, .ref wl_, .int (nI kn)])), (wf, .inl (cI, 1000, .inl (nIf fr))), (wt, .inl (cI, 1000, .inl (nIf tt))), (wc, .inl (cJ, 1000, .inr (.inl (lNf ct)))), (wl_, .inl (cZ, 1000, .inl (bIf fa))), (d, .inr (1, [.ref dm, .ref dp, .int (nI m3)])), (dm, .inl (cI, 200, .inl (nIf f3))), (dp, .inl (cI, 200, .inl (oIf p3)))] := hD
    refine lv_aload_n hx hb dX3_refresh_98 rfl (lv_at hl 0 rfl) ?_
    refine lv_iconst (v := bI false) hx hb dX3_refresh_99 (by decide) ?_
    refine va_put (D := D) (ci := 3) (v := .int (bI false)) (ty := .boolean) (C := RX3) (T := TX3) (N := 11) hx hb hts in_X3_refresh_X3 tyX3 tyX3_ok nmX3 hown hE.1 hP hD hS 0 rfl rfl 10 (by decide) (hts _ fl_X3_refresh_44) (fun _ h9 => h9) rfl (by decide +kernel) (bI_narrow _) (bI_fits _) (Nat.le_of_ble_eq_true rfl) dX3_refresh_100 (fun H locs hP hD hS => ?_)
    have hP : va_P D vwCl [(x, .inr (3, [.ref xh, .ref w, .ref g, .ref a, .ref b, .ref d, .long (lN (wS (wl kn (pk fr tt ct fa)) (List.range n))), .long (lN (wS (wl kn (pk fr tt ct fa)) (hbL n hot))), .long (lN (wS (wl kn (pk fr tt ct fa)) (finL (wl kn (pk fr tt ct fa)) (hbL n hot)))), .int (nI n), .int (bI false)])), (xh, .inl (cZ, 200, .inl (bIf hot))), (a, .inr (1, [.ref am, .ref ap, .int (nI m1)])), (am, .inl (cI, 200, .inl (nIf f1))), (ap, .inl (cI, 200, .inl (oIf p1))), (g, .inr (0, [.ref gf, .ref gn, .ref gp])), (gf, .inl (cI, 200, .inl (oIf fs2))), (gn, .inl (cI, 200, .inl (oIf nx2))), (gp, .inl (cJ, 200, .inr (.inl (lNf pu2)))), (b, .inr (1, [.ref bm, .ref bp, .int (nI m2)])), (bm, .inl (cI, 200, .inl (nIf f2))), (bp, .inl (cI, 200, .inl (oIf p2))), (w, .inr (2, [.ref wf, .ref wt, .ref wc, .ref wl_, .int (nI kn)])), (wf, .inl (cI, 1000, .inl (nIf fr))), (wt, .inl (cI, 1000, .inl (nIf tt))), (wc, .inl (cJ, 1000, .inr (.inl (lNf ct)))), (wl_, .inl (cZ, 1000, .inl (bIf fa))), (d, .inr (1, [.ref dm, .ref dp, .int (nI m3)])), (dm, .inl (cI, 200, .inl (nIf f3))), (dp, .inl (cI, 200, .inl (oIf p3)))] H := hP
    have hD : va_D A [(x, .inr (3, [.ref xh, .ref w, .ref g, .ref a, .ref b, .ref d, .long (lN (wS (wl kn (pk fr tt ct fa)) (List.range n))), .long (lN (wS (wl kn (pk fr tt ct fa)) (hbL n hot))), .long (lN (wS (wl kn (pk fr tt ct fa)) (finL (wl kn (pk fr tt ct fa)) (hbL n hot)))), .int (nI n), .int (bI false)])), (xh, .inl (cZ, 200, .inl (bIf hot))), (a, .inr (1, [.ref am, .ref ap, .int (nI m1)])), (am, .inl (cI, 200, .inl (nIf f1))), (ap, .inl (cI, 200, .inl (oIf p1))), (g, .inr (0, [.ref gf, .ref gn, .ref gp])), (gf, .inl (cI, 200, .inl (oIf fs2))), (gn, .inl (cI, 200, .inl (oIf nx2))), (gp, .inl (cJ, 200, .inr (.inl (lNf pu2)))), (b, .inr (1, [.ref bm, .ref bp, .int (nI m2)])), (bm, .inl (cI, 200, .inl (nIf f2))), (bp, .inl (cI, 200, .inl (oIf p2))), (w, .inr (2, [.ref wf, .ref wt, .ref wc, .ref wl_, .int (nI kn)])), (wf, .inl (cI, 1000, .inl (nIf fr))), (wt, .inl (cI, 1000, .inl (nIf tt))), (wc, .inl (cJ, 1000, .inr (.inl (lNf ct)))), (wl_, .inl (cZ, 1000, .inl (bIf fa))), (d, .inr (1, [.ref dm, .ref dp, .int (nI m3)])), (dm, .inl (cI, 200, .inl (nIf f3))), (dp, .inl (cI, 200, .inl (oIf p3)))] := hD
    exact e_mv (wS (wl kn (pk fr tt ct fa)) (List.range n), wS (wl kn (pk fr tt ct fa)) (hbL n hot), wS (wl kn (pk fr tt ct fa)) (finL (wl kn (pk fr tt ct fa)) (hbL n hot)), fs2, nx2, pu2, m1, f1, p1, m2, f2, p2, m3, f3, p3) hAe hx hb hr hlocks dX3_refresh_103 (hP.sub [0, 1, 12, 13, 14, 15, 16, 5, 6, 7, 8, 2, 3, 4, 9, 10, 11, 17, 18, 19] rfl) (hD.sub [0, 1, 12, 13, 14, 15, 16, 5, 6, 7, 8, 2, 3, 4, 9, 10, 11, 17, 18, 19] (by decide) rfl) hS ⟨hL1, hL2, hL3, CR_name hC, rfl, rfl, rfl⟩
  · skip
    subst c_4
    exact e_mv (aw, hw, cw, fs, nx, pu, n1, me1, pl1, n2, me2, pl2, n3, me3, pl3) hAe hx hb hr hlocks dX3_refresh_7 hP hD hS (hst rfl)
end
section
theorem fl_X3_length_34 : Cond.fieldLink RX3 34 "BlockRows" "hotByNumber" "LBlockRows$Line;" ∈ wsX3_length := by decide +kernel
theorem in_X3_length_X1 : ∀ w ∈ wsX10, w ∈ wsX3_length := by decide +kernel
theorem in_X3_length_X3 : ∀ w ∈ wsX30, w ∈ wsX3_length := by decide +kernel
set_option maxHeartbeats 4000000 in
set_option maxRecDepth 100000 in
/-- BlockRows.length -/
theorem c_length (l : Launch) (D : va_G) (cI cJ cZ : ClassId) (x xh w wf wt wc wl_ g gf gn gp a am ap b bm bp d dm dp : Nat) (aw hw cw n : Nat) (st : Bool) (hot : Nat → Bool) (kn : Nat) (fr tt ct : Nat → Nat) (fa : Nat → Bool) (fs nx : Nat → Option Nat) (pu : Nat → Nat) (n1 : Nat) (me1 : Nat → Nat) (pl1 : Nat → Option Nat) (n2 : Nat) (me2 : Nat → Nat) (pl2 : Nat → Option Nat) (n3 : Nat) (me3 : Nat → Nat) (pl3 : Nat → Option Nat) (hn : n ≤ 200) (hkn : kn ≤ 1000) (hB : WB fr tt ct) (hst : st = false → Fresh n hot (wl kn (pk fr tt ct fa)) aw hw cw fs n1 me1 pl1 n2 me2 pl2 n3 me3 pl3) (sz : Nat) : Met l yX3_length wsX3_length ({ frames := 4, cells := 0, slots := 0, locals := 91 }) (PcM D cI cJ cZ [.ref x] [(x, .inr (3, [.ref xh, .ref w, .ref g, .ref a, .ref b, .ref d, .long (lN aw), .long (lN hw), .long (lN cw), .int (nI n), .int (bI st)])), (xh, .inl (cZ, 200, .inl (bIf hot))), (w, .inr (2, [.ref wf, .ref wt, .ref wc, .ref wl_, .int (nI kn)])), (wf, .inl (cI, 1000, .inl (nIf fr))), (wt, .inl (cI, 1000, .inl (nIf tt))), (wc, .inl (cJ, 1000, .inr (.inl (lNf ct)))), (wl_, .inl (cZ, 1000, .inl (bIf fa))), (g, .inr (0, [.ref gf, .ref gn, .ref gp])), (gf, .inl (cI, 200, .inl (oIf fs))), (gn, .inl (cI, 200, .inl (oIf nx))), (gp, .inl (cJ, 200, .inr (.inl (lNf pu)))), (a, .inr (1, [.ref am, .ref ap, .int (nI n1)])), (am, .inl (cI, 200, .inl (nIf me1))), (ap, .inl (cI, 200, .inl (oIf pl1))), (b, .inr (1, [.ref bm, .ref bp, .int (nI n2)])), (bm, .inl (cI, 200, .inl (nIf me2))), (bp, .inl (cI, 200, .inl (oIf pl2))), (d, .inr (1, [.ref dm, .ref dp, .int (nI n3)])), (dm, .inl (cI, 200, .inl (nIf me3))), (dp, .inl (cI, 200, .inl (oIf pl3)))] sz) (va_Qi (fun (r : Int32) (z : Nat × Nat × Nat × (Nat → Option Nat) × (Nat → Option Nat) × (Nat → Nat) × Nat × (Nat → Nat) × (Nat → Option Nat) × Nat × (Nat → Nat) × (Nat → Option Nat) × Nat × (Nat → Nat) × (Nat → Option Nat)) => (r = nI (hbL n hot).length) ∧ Fresh n hot (wl kn (pk fr tt ct fa)) z.1 z.2.1 z.2.2.1 z.2.2.2.1 z.2.2.2.2.2.2.1 z.2.2.2.2.2.2.2.1 z.2.2.2.2.2.2.2.2.1 z.2.2.2.2.2.2.2.2.2.1 z.2.2.2.2.2.2.2.2.2.2.1 z.2.2.2.2.2.2.2.2.2.2.2.1 z.2.2.2.2.2.2.2.2.2.2.2.2.1 z.2.2.2.2.2.2.2.2.2.2.2.2.2.1 z.2.2.2.2.2.2.2.2.2.2.2.2.2.2) (Bm D [(x, .inr (3, [.ref xh, .ref w, .ref g, .ref a, .ref b, .ref d, .long (lN aw), .long (lN hw), .long (lN cw), .int (nI n), .int (bI st)])), (xh, .inl (cZ, 200, .inl (bIf hot))), (w, .inr (2, [.ref wf, .ref wt, .ref wc, .ref wl_, .int (nI kn)])), (wf, .inl (cI, 1000, .inl (nIf fr))), (wt, .inl (cI, 1000, .inl (nIf tt))), (wc, .inl (cJ, 1000, .inr (.inl (lNf ct)))), (wl_, .inl (cZ, 1000, .inl (bIf fa))), (g, .inr (0, [.ref gf, .ref gn, .ref gp])), (gf, .inl (cI, 200, .inl (oIf fs))), (gn, .inl (cI, 200, .inl (oIf nx))), (gp, .inl (cJ, 200, .inr (.inl (lNf pu)))), (a, .inr (1, [.ref am, .ref ap, .int (nI n1)])), (am, .inl (cI, 200, .inl (nIf me1))), (ap, .inl (cI, 200, .inl (oIf pl1))), (b, .inr (1, [.ref bm, .ref bp, .int (nI n2)])), (bm, .inl (cI, 200, .inl (nIf me2))), (bp, .inl (cI, 200, .inl (oIf pl2))), (d, .inr (1, [.ref dm, .ref dp, .int (nI n3)])), (dm, .inl (cI, 200, .inl (nIf me3))), (dp, .inl (cI, 200, .inl (oIf pl3)))] sz (fun z : Nat × Nat × Nat × (Nat → Option Nat) × (Nat → Option Nat) × (Nat → Nat) × Nat × (Nat → Nat) × (Nat → Option Nat) × Nat × (Nat → Nat) × (Nat → Option Nat) × Nat × (Nat → Nat) × (Nat → Option Nat) => [(x, .inr (3, [.ref xh, .ref w, .ref g, .ref a, .ref b, .ref d, .long (lN z.1), .long (lN z.2.1), .long (lN z.2.2.1), .int (nI n), .int (bI false)])), (xh, .inl (cZ, 200, .inl (bIf hot))), (w, .inr (2, [.ref wf, .ref wt, .ref wc, .ref wl_, .int (nI kn)])), (wf, .inl (cI, 1000, .inl (nIf fr))), (wt, .inl (cI, 1000, .inl (nIf tt))), (wc, .inl (cJ, 1000, .inr (.inl (lNf ct)))), (wl_, .inl (cZ, 1000, .inl (bIf fa))), (g, .inr (0, [.ref gf, .ref gn, .ref gp])), (gf, .inl (cI, 200, .inl (oIf z.2.2.2.1))), (gn, .inl (cI, 200, .inl (oIf z.2.2.2.2.1))), (gp, .inl (cJ, 200, .inr (.inl (lNf z.2.2.2.2.2.1)))), (a, .inr (1, [.ref am, .ref ap, .int (nI z.2.2.2.2.2.2.1)])), (am, .inl (cI, 200, .inl (nIf z.2.2.2.2.2.2.2.1))), (ap, .inl (cI, 200, .inl (oIf z.2.2.2.2.2.2.2.2.1))), (b, .inr (1, [.ref bm, .ref bp, .int (nI z.2.2.2.2.2.2.2.2.2.1)])), (bm, .inl (cI, 200, .inl (nIf z.2.2.2.2.2.2.2.2.2.2.1))), (bp, .inl (cI, 200, .inl (oIf z.2.2.2.2.2.2.2.2.2.2.2.1))), (d, .inr (1, [.ref dm, .ref dp, .int (nI z.2.2.2.2.2.2.2.2.2.2.2.2.1)])), (dm, .inl (cI, 200, .inl (nIf z.2.2.2.2.2.2.2.2.2.2.2.2.2.1))), (dp, .inl (cI, 200, .inl (oIf z.2.2.2.2.2.2.2.2.2.2.2.2.2.2)))])) (va_A [(x, .inr (3, [.ref xh, .ref w, .ref g, .ref a, .ref b, .ref d, .long (lN aw), .long (lN hw), .long (lN cw), .int (nI n), .int (bI st)])), (xh, .inl (cZ, 200, .inl (bIf hot))), (w, .inr (2, [.ref wf, .ref wt, .ref wc, .ref wl_, .int (nI kn)])), (wf, .inl (cI, 1000, .inl (nIf fr))), (wt, .inl (cI, 1000, .inl (nIf tt))), (wc, .inl (cJ, 1000, .inr (.inl (lNf ct)))), (wl_, .inl (cZ, 1000, .inl (bIf fa))), (g, .inr (0, [.ref gf, .ref gn, .ref gp])), (gf, .inl (cI, 200, .inl (oIf fs))), (gn, .inl (cI, 200, .inl (oIf nx))), (gp, .inl (cJ, 200, .inr (.inl (lNf pu)))), (a, .inr (1, [.ref am, .ref ap, .int (nI n1)])), (am, .inl (cI, 200, .inl (nIf me1))), (ap, .inl (cI, 200, .inl (oIf pl1))), (b, .inr (1, [.ref bm, .ref bp, .int (nI n2)])), (bm, .inl (cI, 200, .inl (nIf me2))), (bp, .inl (cI, 200, .inl (oIf pl2))), (d, .inr (1, [.ref dm, .ref dp, .int (nI n3)])), (dm, .inl (cI, 200, .inl (nIf me3))), (dp, .inl (cI, 200, .inl (oIf pl3)))] sz)) 0 0 (va_A [(x, .inr (3, [.ref xh, .ref w, .ref g, .ref a, .ref b, .ref d, .long (lN aw), .long (lN hw), .long (lN cw), .int (nI n), .int (bI st)])), (xh, .inl (cZ, 200, .inl (bIf hot))), (w, .inr (2, [.ref wf, .ref wt, .ref wc, .ref wl_, .int (nI kn)])), (wf, .inl (cI, 1000, .inl (nIf fr))), (wt, .inl (cI, 1000, .inl (nIf tt))), (wc, .inl (cJ, 1000, .inr (.inl (lNf ct)))), (wl_, .inl (cZ, 1000, .inl (bIf fa))), (g, .inr (0, [.ref gf, .ref gn, .ref gp])), (gf, .inl (cI, 200, .inl (oIf fs))), (gn, .inl (cI, 200, .inl (oIf nx))), (gp, .inl (cJ, 200, .inr (.inl (lNf pu)))), (a, .inr (1, [.ref am, .ref ap, .int (nI n1)])), (am, .inl (cI, 200, .inl (nIf me1))), (ap, .inl (cI, 200, .inl (oIf pl1))), (b, .inr (1, [.ref bm, .ref bp, .int (nI n2)])), (bm, .inl (cI, 200, .inl (nIf me2))), (bp, .inl (cI, 200, .inl (oIf pl2))), (d, .inr (1, [.ref dm, .ref dp, .int (nI n3)])), (dm, .inl (cI, 200, .inl (nIf me3))), (dp, .inl (cI, 200, .inl (oIf pl3)))] sz) := by
  refine startM (cc := cX3_length) (maxL := 1) (ret := (some .int)) (by decide) rfl (Nat.le_of_ble_eq_true rfl) ?_
  intro p e s m below meth c ls A hA hAe hx hb hr hml hown hts hlocks hin hE hP hD hS hl
  have hl : lv_has ls 1 [(0, .ref x)] := hl
  refine lv_aload_n hx hb dX3_length_0 rfl (lv_at hl 0 rfl) ?_
  refine callMv (As := []) (rest := []) (wr := []) ⟨hx, hb, hml, hown, hts⟩ (c_refresh l D cI cJ cZ x xh w wf wt wc wl_ g gf gn gp a am ap b bm bp d dm dp aw hw cw n st hot kn fr tt ct fa fs nx pu n1 me1 pl1 n2 me2 pl2 n3 me3 pl3 hn hkn hB hst _) (cwV 0 hts gX3_length_X3_refresh rfl rfl rfl (by decide +kernel) ⟨Nat.le_of_ble_eq_true rfl, Nat.le_of_ble_eq_true rfl⟩) (preM hE hP hD 3 0 rfl rfl rfl [0, 1, 2, 3, 4, 5, 6, 7, 8, 9, 10, 11, 12, 13, 14, 15, 16, 17, 18, 19] rfl rfl rfl) rfl hl.1 (Nat.le_of_ble_eq_true rfl) dX3_length_1 ⟨Nat.zero_le _, Nat.zero_le _⟩ rfl hP hD hS hA [0, 1, 2, 3, 4, 5, 6, 7, 8, 9, 10, 11, 12, 13, 14, 15, 16, 17, 18, 19] [] rfl rfl (by decide) (by decide) (fun u_ H locs hu hP hD hS => ?_)
  obtain ⟨aw_, hw_, cw_, fs_, nx_, pu_, n1_, me1_, pl1_, n2_, me2_, pl2_, n3_, me3_, pl3_⟩ := u_
  have hP : va_P D vwCl [(x, .inr (3, [.ref xh, .ref w, .ref g, .ref a, .ref b, .ref d, .long (lN aw_), .long (lN hw_), .long (lN cw_), .int (nI n), .int (bI false)])), (xh, .inl (cZ, 200, .inl (bIf hot))), (w, .inr (2, [.ref wf, .ref wt, .ref wc, .ref wl_, .int (nI kn)])), (wf, .inl (cI, 1000, .inl (nIf fr))), (wt, .inl (cI, 1000, .inl (nIf tt))), (wc, .inl (cJ, 1000, .inr (.inl (lNf ct)))), (wl_, .inl (cZ, 1000, .inl (bIf fa))), (g, .inr (0, [.ref gf, .ref gn, .ref gp])), (gf, .inl (cI, 200, .inl (oIf fs_))), (gn, .inl (cI, 200, .inl (oIf nx_))), (gp, .inl (cJ, 200, .inr (.inl (lNf pu_)))), (a, .inr (1, [.ref am, .ref ap, .int (nI n1_)])), (am, .inl (cI, 200, .inl (nIf me1_))), (ap, .inl (cI, 200, .inl (oIf pl1_))), (b, .inr (1, [.ref bm, .ref bp, .int (nI n2_)])), (bm, .inl (cI, 200, .inl (nIf me2_))), (bp, .inl (cI, 200, .inl (oIf pl2_))), (d, .inr (1, [.ref dm, .ref dp, .int (nI n3_)])), (dm, .inl (cI, 200, .inl (nIf me3_))), (dp, .inl (cI, 200, .inl (oIf pl3_)))] H := hP
  have hD : va_D A [(x, .inr (3, [.ref xh, .ref w, .ref g, .ref a, .ref b, .ref d, .long (lN aw_), .long (lN hw_), .long (lN cw_), .int (nI n), .int (bI false)])), (xh, .inl (cZ, 200, .inl (bIf hot))), (w, .inr (2, [.ref wf, .ref wt, .ref wc, .ref wl_, .int (nI kn)])), (wf, .inl (cI, 1000, .inl (nIf fr))), (wt, .inl (cI, 1000, .inl (nIf tt))), (wc, .inl (cJ, 1000, .inr (.inl (lNf ct)))), (wl_, .inl (cZ, 1000, .inl (bIf fa))), (g, .inr (0, [.ref gf, .ref gn, .ref gp])), (gf, .inl (cI, 200, .inl (oIf fs_))), (gn, .inl (cI, 200, .inl (oIf nx_))), (gp, .inl (cJ, 200, .inr (.inl (lNf pu_)))), (a, .inr (1, [.ref am, .ref ap, .int (nI n1_)])), (am, .inl (cI, 200, .inl (nIf me1_))), (ap, .inl (cI, 200, .inl (oIf pl1_))), (b, .inr (1, [.ref bm, .ref bp, .int (nI n2_)])), (bm, .inl (cI, 200, .inl (nIf me2_))), (bp, .inl (cI, 200, .inl (oIf pl2_))), (d, .inr (1, [.ref dm, .ref dp, .int (nI n3_)])), (dm, .inl (cI, 200, .inl (nIf me3_))), (dp, .inl (cI, 200, .inl (oIf pl3_)))] := hD
  obtain ⟨q1, q2, q3, q4, q5, q6, q7⟩ : Fresh n hot (wl kn (pk fr tt ct fa)) aw_ hw_ cw_ fs_ n1_ me1_ pl1_ n2_ me2_ pl2_ n3_ me3_ pl3_ := id hu
  have hF9 : Fresh n hot (wl kn (pk fr tt ct fa)) aw_ hw_ cw_ fs_ n1_ me1_ pl1_ n2_ me2_ pl2_ n3_ me3_ pl3_ := hu
  refine lv_aload_n hx hb dX3_length_4 rfl (lv_at hl 0 rfl) ?_
  refine va_get (D := D) (ci := 3) (v := .ref b) (C := RX3) (T := TX3) (N := 11) hx hb hts in_X3_length_X3 hown hE.1 hP 0 rfl rfl 4 (by decide) (hts _ fl_X3_length_34) (fun _ h9 => h9) rfl dX3_length_5 ?_
  refine va_getN (D := D) (ci := 1) (v := .int (nI n2_)) (C := RX1) (T := TX1) (N := 3) hx hb hts in_X3_length_X1 hown hE.1 hP 14 rfl rfl 2 (by decide) (va_Nw.use rfl hE.2.2.1.2.2.2) (fun _ h9 => h9) rfl dX3_length_8 ?_
  exact e_mi (aw_, hw_, cw_, fs_, nx_, pu_, n1_, me1_, pl1_, n2_, me2_, pl2_, n3_, me3_, pl3_) hAe hx hb hr hlocks dX3_length_11 (hP.sub [0, 1, 2, 3, 4, 5, 6, 7, 8, 9, 10, 11, 12, 13, 14, 15, 16, 17, 18, 19] rfl) (hD.sub [0, 1, 2, 3, 4, 5, 6, 7, 8, 9, 10, 11, 12, 13, 14, 15, 16, 17, 18, 19] (by decide) rfl) hS ⟨by rw [q2.1], hF9⟩

theorem fl_X3_row_34 : Cond.fieldLink RX3 34 "BlockRows" "hotByNumber" "LBlockRows$Line;" ∈ wsX3_row := by decide +kernel
theorem fl_X3_row_37 : Cond.fieldLink RX3 37 "BlockRows" "hotByChains" "LBlockRows$Line;" ∈ wsX3_row := by decide +kernel
theorem in_X3_row_X3 : ∀ w ∈ wsX30, w ∈ wsX3_row := by decide +kernel
set_option maxHeartbeats 4000000 in
set_option maxRecDepth 100000 in
/-- BlockRows.row -/
theorem c_row (l : Launch) (D : va_G) (cI cJ cZ : ClassId) (x xh w wf wt wc wl_ g gf gn gp a am ap b bm bp d dm dp : Nat) (aw hw cw n : Nat) (st : Bool) (hot : Nat → Bool) (kn : Nat) (fr tt ct : Nat → Nat) (fa : Nat → Bool) (fs nx : Nat → Option Nat) (pu : Nat → Nat) (n1 : Nat) (me1 : Nat → Nat) (pl1 : Nat → Option Nat) (n2 : Nat) (me2 : Nat → Nat) (pl2 : Nat → Option Nat) (n3 : Nat) (me3 : Nat → Nat) (pl3 : Nat → Option Nat) (hn : n ≤ 200) (hkn : kn ≤ 1000) (hB : WB fr tt ct) (hst : st = false → Fresh n hot (wl kn (pk fr tt ct fa)) aw hw cw fs n1 me1 pl1 n2 me2 pl2 n3 me3 pl3) (sz : Nat) (y : Int32) : Met l yX3_row wsX3_row ({ frames := 4, cells := 0, slots := 0, locals := 91 }) (PcM D cI cJ cZ [.ref x, .int y] [(x, .inr (3, [.ref xh, .ref w, .ref g, .ref a, .ref b, .ref d, .long (lN aw), .long (lN hw), .long (lN cw), .int (nI n), .int (bI st)])), (xh, .inl (cZ, 200, .inl (bIf hot))), (w, .inr (2, [.ref wf, .ref wt, .ref wc, .ref wl_, .int (nI kn)])), (wf, .inl (cI, 1000, .inl (nIf fr))), (wt, .inl (cI, 1000, .inl (nIf tt))), (wc, .inl (cJ, 1000, .inr (.inl (lNf ct)))), (wl_, .inl (cZ, 1000, .inl (bIf fa))), (g, .inr (0, [.ref gf, .ref gn, .ref gp])), (gf, .inl (cI, 200, .inl (oIf fs))), (gn, .inl (cI, 200, .inl (oIf nx))), (gp, .inl (cJ, 200, .inr (.inl (lNf pu)))), (a, .inr (1, [.ref am, .ref ap, .int (nI n1)])), (am, .inl (cI, 200, .inl (nIf me1))), (ap, .inl (cI, 200, .inl (oIf pl1))), (b, .inr (1, [.ref bm, .ref bp, .int (nI n2)])), (bm, .inl (cI, 200, .inl (nIf me2))), (bp, .inl (cI, 200, .inl (oIf pl2))), (d, .inr (1, [.ref dm, .ref dp, .int (nI n3)])), (dm, .inl (cI, 200, .inl (nIf me3))), (dp, .inl (cI, 200, .inl (oIf pl3)))] sz) (va_Qi (fun (r : Int32) (z : Nat × Nat × Nat × (Nat → Option Nat) × (Nat → Option Nat) × (Nat → Nat) × Nat × (Nat → Nat) × (Nat → Option Nat) × Nat × (Nat → Nat) × (Nat → Option Nat) × Nat × (Nat → Nat) × (Nat → Option Nat)) => (rowA (rowL (wl kn (pk fr tt ct fa)) (hbL n hot)) y r) ∧ Fresh n hot (wl kn (pk fr tt ct fa)) z.1 z.2.1 z.2.2.1 z.2.2.2.1 z.2.2.2.2.2.2.1 z.2.2.2.2.2.2.2.1 z.2.2.2.2.2.2.2.2.1 z.2.2.2.2.2.2.2.2.2.1 z.2.2.2.2.2.2.2.2.2.2.1 z.2.2.2.2.2.2.2.2.2.2.2.1 z.2.2.2.2.2.2.2.2.2.2.2.2.1 z.2.2.2.2.2.2.2.2.2.2.2.2.2.1 z.2.2.2.2.2.2.2.2.2.2.2.2.2.2) (Bm D [(x, .inr (3, [.ref xh, .ref w, .ref g, .ref a, .ref b, .ref d, .long (lN aw), .long (lN hw), .long (lN cw), .int (nI n), .int (bI st)])), (xh, .inl (cZ, 200, .inl (bIf hot))), (w, .inr (2, [.ref wf, .ref wt, .ref wc, .ref wl_, .int (nI kn)])), (wf, .inl (cI, 1000, .inl (nIf fr))), (wt, .inl (cI, 1000, .inl (nIf tt))), (wc, .inl (cJ, 1000, .inr (.inl (lNf ct)))), (wl_, .inl (cZ, 1000, .inl (bIf fa))), (g, .inr (0, [.ref gf, .ref gn, .ref gp])), (gf, .inl (cI, 200, .inl (oIf fs))), (gn, .inl (cI, 200, .inl (oIf nx))), (gp, .inl (cJ, 200, .inr (.inl (lNf pu)))), (a, .inr (1, [.ref am, .ref ap, .int (nI n1)])), (am, .inl (cI, 200, .inl (nIf me1))), (ap, .inl (cI, 200, .inl (oIf pl1))), (b, .inr (1, [.ref bm, .ref bp, .int (nI n2)])), (bm, .inl (cI, 200, .inl (nIf me2))), (bp, .inl (cI, 200, .inl (oIf pl2))), (d, .inr (1, [.ref dm, .ref dp, .int (nI n3)])), (dm, .inl (cI, 200, .inl (nIf me3))), (dp, .inl (cI, 200, .inl (oIf pl3)))] sz (fun z : Nat × Nat × Nat × (Nat → Option Nat) × (Nat → Option Nat) × (Nat → Nat) × Nat × (Nat → Nat) × (Nat → Option Nat) × Nat × (Nat → Nat) × (Nat → Option Nat) × Nat × (Nat → Nat) × (Nat → Option Nat) => [(x, .inr (3, [.ref xh, .ref w, .ref g, .ref a, .ref b, .ref d, .long (lN z.1), .long (lN z.2.1), .long (lN z.2.2.1), .int (nI n), .int (bI false)])), (xh, .inl (cZ, 200, .inl (bIf hot))), (w, .inr (2, [.ref wf, .ref wt, .ref wc, .ref wl_, .int (nI kn)])), (wf, .inl (cI, 1000, .inl (nIf fr))), (wt, .inl (cI, 1000, .inl (nIf tt))), (wc, .inl (cJ, 1000, .inr (.inl (lNf ct)))), (wl_, .inl (cZ, 1000, .inl (bIf fa))), (g, .inr (0, [.ref gf, .ref gn, .ref gp])), (gf, .inl (cI, 200, .inl (oIf z.2.2.2.1))), (gn, .inl (cI, 200, .inl (oIf z.2.2.2.2.1))), (gp, .inl (cJ, 200, .inr (.inl (lNf z.2.2.2.2.2.1)))), (a, .inr (1, [.ref am, .ref ap, .int (nI z.2.2.2.2.2.2.1)])), (am, .inl (cI, 200, .inl (nIf z.2.2.2.2.2.2.2.1))), (ap, .inl (cI, 200, .inl (oIf z.2.2.2.2.2.2.2.2.1))), (b, .inr (1, [.ref bm, .ref bp, .int (nI z.2.2.2.2.2.2.2.2.2.1)])), (bm, .inl (cI, 200, .inl (nIf z.2.2.2.2.2.2.2.2.2.2.1))), (bp, .inl (cI, 200, .inl (oIf z.2.2.2.2.2.2.2.2.2.2.2.1))), (d, .inr (1, [.ref dm, .ref dp, .int (nI z.2.2.2.2.2.2.2.2.2.2.2.2.1)])), (dm, .inl (cI, 200, .inl (nIf z.2.2.2.2.2.2.2.2.2.2.2.2.2.1))), (dp, .inl (cI, 200, .inl (oIf z.2.2.2.2.2.2.2.2.2.2.2.2.2.2)))])) (va_A [(x, .inr (3, [.ref xh, .ref w, .ref g, .ref a, .ref b, .ref d, .long (lN aw), .long (lN hw), .long (lN cw), .int (nI n), .int (bI st)])), (xh, .inl (cZ, 200, .inl (bIf hot))), (w, .inr (2, [.ref wf, .ref wt, .ref wc, .ref wl_, .int (nI kn)])), (wf, .inl (cI, 1000, .inl (nIf fr))), (wt, .inl (cI, 1000, .inl (nIf tt))), (wc, .inl (cJ, 1000, .inr (.inl (lNf ct)))), (wl_, .inl (cZ, 1000, .inl (bIf fa))), (g, .inr (0, [.ref gf, .ref gn, .ref gp])), (gf, .inl (cI, 200, .inl (oIf fs))), (gn, .inl (cI, 200, .inl (oIf nx))), (gp, .inl (cJ, 200, .inr (.inl (lNf pu)))), (a, .inr (1, [.ref am, .ref ap, .int (nI n1)])), (am, .inl (cI, 200, .inl (nIf me1))), (ap, .inl (cI, 200, .inl (oIf pl1))), (b, .inr (1, [.ref bm, .ref bp, .int (nI n2)])), (bm, .inl (cI, 200, .inl (nIf me2))), (bp, .inl (cI, 200, .inl (oIf pl2))), (d, .inr (1, [.ref dm, .ref dp, .int (nI n3)])), (dm, .inl (cI, 200, .inl (nIf me3))), (dp, .inl (cI, 200, .inl (oIf pl3)))] sz)) 0 0 (va_A [(x, .inr (3, [.ref xh, .ref w, .ref g, .ref a, .ref b, .ref d, .long (lN aw), .long (lN hw), .long (lN cw), .int (nI n), .int (bI st)])), (xh, .inl (cZ, 200, .inl (bIf hot))), (w, .inr (2, [.ref wf, .ref wt, .ref wc, .ref wl_, .int (nI kn)])), (wf, .inl (cI, 1000, .inl (nIf fr))), (wt, .inl (cI, 1000, .inl (nIf tt))), (wc, .inl (cJ, 1000, .inr (.inl (lNf ct)))), (wl_, .inl (cZ, 1000, .inl (bIf fa))), (g, .inr (0, [.ref gf, .ref gn, .ref gp])), (gf, .inl (cI, 200, .inl (oIf fs))), (gn, .inl (cI, 200, .inl (oIf nx))), (gp, .inl (cJ, 200, .inr (.inl (lNf pu)))), (a, .inr (1, [.ref am, .ref ap, .int (nI n1)])), (am, .inl (cI, 200, .inl (nIf me1))), (ap, .inl (cI, 200, .inl (oIf pl1))), (b, .inr (1, [.ref bm, .ref bp, .int (nI n2)])), (bm, .inl (cI, 200, .inl (nIf me2))), (bp, .inl (cI, 200, .inl (oIf pl2))), (d, .inr (1, [.ref dm, .ref dp, .int (nI n3)])), (dm, .inl (cI, 200, .inl (nIf me3))), (dp, .inl (cI, 200, .inl (oIf pl3)))] sz) := by
  refine startM (cc := cX3_row) (maxL := 2) (ret := (some .int)) (by decide) rfl (Nat.le_of_ble_eq_true rfl) ?_
  intro p e s m below meth c ls A hA hAe hx hb hr hml hown hts hlocks hin hE hP hD hS hl
  have hl : lv_has ls 2 [(0, .ref x), (1, .int y)] := hl
  refine lv_aload_n hx hb dX3_row_0 rfl (lv_at hl 0 rfl) ?_
  refine callMv (As := []) (rest := []) (wr := []) ⟨hx, hb, hml, hown, hts⟩ (c_refresh l D cI cJ cZ x xh w wf wt wc wl_ g gf gn gp a am ap b bm bp d dm dp aw hw cw n st hot kn fr tt ct fa fs nx pu n1 me1 pl1 n2 me2 pl2 n3 me3 pl3 hn hkn hB hst _) (cwV 0 hts gX3_row_X3_refresh rfl rfl rfl (by decide +kernel) ⟨Nat.le_of_ble_eq_true rfl, Nat.le_of_ble_eq_true rfl⟩) (preM hE hP hD 3 0 rfl rfl rfl [0, 1, 2, 3, 4, 5, 6, 7, 8, 9, 10, 11, 12, 13, 14, 15, 16, 17, 18, 19] rfl rfl rfl) rfl hl.1 (Nat.le_of_ble_eq_true rfl) dX3_row_1 ⟨Nat.zero_le _, Nat.zero_le _⟩ rfl hP hD hS hA [0, 1, 2, 3, 4, 5, 6, 7, 8, 9, 10, 11, 12, 13, 14, 15, 16, 17, 18, 19] [] rfl rfl (by decide) (by decide) (fun u_ H locs hu hP hD hS => ?_)
  obtain ⟨aw_, hw_, cw_, fs_, nx_, pu_, n1_, me1_, pl1_, n2_, me2_, pl2_, n3_, me3_, pl3_⟩ := u_
  have hP : va_P D vwCl [(x, .inr (3, [.ref xh, .ref w, .ref g, .ref a, .ref b, .ref d, .long (lN aw_), .long (lN hw_), .long (lN cw_), .int (nI n), .int (bI false)])), (xh, .inl (cZ, 200, .inl (bIf hot))), (w, .inr (2, [.ref wf, .ref wt, .ref wc, .ref wl_, .int (nI kn)])), (wf, .inl (cI, 1000, .inl (nIf fr))), (wt, .inl (cI, 1000, .inl (nIf tt))), (wc, .inl (cJ, 1000, .inr (.inl (lNf ct)))), (wl_, .inl (cZ, 1000, .inl (bIf fa))), (g, .inr (0, [.ref gf, .ref gn, .ref gp])), (gf, .inl (cI, 200, .inl (oIf fs_))), (gn, .inl (cI, 200, .inl (oIf nx_))), (gp, .inl (cJ, 200, .inr (.inl (lNf pu_)))), (a, .inr (1, [.ref am, .ref ap, .int (nI n1_)])), (am, .inl (cI, 200, .inl (nIf me1_))), (ap, .inl (cI, 200, .inl (oIf pl1_))), (b, .inr (1, [.ref bm, .ref bp, .int (nI n2_)])), (bm, .inl (cI, 200, .inl (nIf me2_))), (bp, .inl (cI, 200, .inl (oIf pl2_))), (d, .inr (1, [.ref dm, .ref dp, .int (nI n3_)])), (dm, .inl (cI, 200, .inl (nIf me3_))), (dp, .inl (cI, 200, .inl (oIf pl3_)))] H := hP
  have hD : va_D A [(x, .inr (3, [.ref xh, .ref w, .ref g, .ref a, .ref b, .ref d, .long (lN aw_), .long (lN hw_), .long (lN cw_), .int (nI n), .int (bI false)])), (xh, .inl (cZ, 200, .inl (bIf hot))), (w, .inr (2, [.ref wf, .ref wt, .ref wc, .ref wl_, .int (nI kn)])), (wf, .inl (cI, 1000, .inl (nIf fr))), (wt, .inl (cI, 1000, .inl (nIf tt))), (wc, .inl (cJ, 1000, .inr (.inl (lNf ct)))), (wl_, .inl (cZ, 1000, .inl (bIf fa))), (g, .inr (0, [.ref gf, .ref gn, .ref gp])), (gf, .inl (cI, 200, .inl (oIf fs_))), (gn, .inl (cI, 200, .inl (oIf nx_))), (gp, .inl (cJ, 200, .inr (.inl (lNf pu_)))), (a, .inr (1, [.ref am, .ref ap, .int (nI n1_)])), (am, .inl (cI, 200, .inl (nIf me1_))), (ap, .inl (cI, 200, .inl (oIf pl1_))), (b, .inr (1, [.ref bm, .ref bp, .int (nI n2_)])), (bm, .inl (cI, 200, .inl (nIf me2_))), (bp, .inl (cI, 200, .inl (oIf pl2_))), (d, .inr (1, [.ref dm, .ref dp, .int (nI n3_)])), (dm, .inl (cI, 200, .inl (nIf me3_))), (dp, .inl (cI, 200, .inl (oIf pl3_)))] := hD
  obtain ⟨q1, q2, q3, q4, q5, q6, q7⟩ : Fresh n hot (wl kn (pk fr tt ct fa)) aw_ hw_ cw_ fs_ n1_ me1_ pl1_ n2_ me2_ pl2_ n3_ me3_ pl3_ := id hu
  have hF9 : Fresh n hot (wl kn (pk fr tt ct fa)) aw_ hw_ cw_ fs_ n1_ me1_ pl1_ n2_ me2_ pl2_ n3_ me3_ pl3_ := hu
  refine lv_aload_n hx hb dX3_row_4 rfl (lv_at hl 0 rfl) ?_
  refine callRi (As := []) (rest := []) ⟨hx, hb, hml, hown, hts⟩ (c_better l D cI cJ cZ x xh w g a b d aw_ hw_ cw_ n false (by rw [q6]; exact wS_lt hB hkn _) (by rw [q7]; exact wS_lt hB hkn _)) (cwV 0 hts gX3_row_X3_chainsAreBetter rfl rfl rfl (by decide +kernel) ⟨Nat.le_of_ble_eq_true rfl, Nat.le_of_ble_eq_true rfl⟩) (preR hE hP 3 0 rfl rfl rfl [0] rfl) rfl hl.1 (Nat.le_of_ble_eq_true rfl) dX3_row_5 ⟨Nat.zero_le _, Nat.zero_le _⟩ rfl (fun r1 hr1 => ?_)
  subst hr1
  refine r_b_eq (tgt := 22) hx hb dX3_row_8 (by decide) (fun c_8 => ?_) (fun c_8 => ?_)
  · skip
    refine lv_aload_n hx hb dX3_row_22 rfl (lv_at hl 0 rfl) ?_
    refine va_get (D := D) (ci := 3) (v := .ref b) (C := RX3) (T := TX3) (N := 11) hx hb hts in_X3_row_X3 hown hE.1 hP 0 rfl rfl 4 (by decide) (hts _ fl_X3_row_34) (fun _ h9 => h9) rfl dX3_row_23 ?_
    refine lv_iload_n hx hb dX3_row_26 rfl (lv_at hl 1 rfl) ?_
    refine callRi (As := [.int y]) (rest := []) ⟨hx, hb, hml, hown, hts⟩ (c_blockAt l D cI cJ cZ b bm bp n2_ me2_ pl2_ (by rw [q2.1]; exact Nat.le_trans (hbL_len n hot) hn) y) (cwV 1 hts gX3_row_X1_blockAt rfl rfl rfl (by decide +kernel) ⟨Nat.le_of_ble_eq_true rfl, Nat.le_of_ble_eq_true rfl⟩) (preR hE hP 1 14 rfl rfl rfl [14, 15, 16] rfl) rfl hl.1 (Nat.le_of_ble_eq_true rfl) dX3_row_27 ⟨Nat.zero_le _, Nat.zero_le _⟩ rfl (fun r2 hr2 => ?_)
    exact e_mi (aw_, hw_, cw_, fs_, nx_, pu_, n1_, me1_, pl1_, n2_, me2_, pl2_, n3_, me3_, pl3_) hAe hx hb hr hlocks dX3_row_30 (hP.sub [0, 1, 2, 3, 4, 5, 6, 7, 8, 9, 10, 11, 12, 13, 14, 15, 16, 17, 18, 19] rfl) (hD.sub [0, 1, 2, 3, 4, 5, 6, 7, 8, 9, 10, 11, 12, 13, 14, 15, 16, 17, 18, 19] (by decide) rfl) hS ⟨by have e8 : betterB (wl kn (pk fr tt ct fa)) (hbL n hot) = false := (by unfold betterB; rw [← q6, ← q7]; exact c_8); unfold rowL; rw [if_neg (by rw [e8]; decide)]; exact rowA_of q2 hr2, hF9⟩
  · skip
    refine lv_aload_n hx hb dX3_row_11 rfl (lv_at hl 0 rfl) ?_
    refine va_get (D := D) (ci := 3) (v := .ref d) (C := RX3) (T := TX3) (N := 11) hx hb hts in_X3_row_X3 hown hE.1 hP 0 rfl rfl 5 (by decide) (hts _ fl_X3_row_37) (fun _ h9 => h9) rfl dX3_row_12 ?_
    refine lv_iload_n hx hb dX3_row_15 rfl (lv_at hl 1 rfl) ?_
    refine callRi (As := [.int y]) (rest := []) ⟨hx, hb, hml, hown, hts⟩ (c_blockAt l D cI cJ cZ d dm dp n3_ me3_ pl3_ (by rw [q3.1]; exact fin_len hn q3) y) (cwV 1 hts gX3_row_X1_blockAt rfl rfl rfl (by decide +kernel) ⟨Nat.le_of_ble_eq_true rfl, Nat.le_of_ble_eq_true rfl⟩) (preR hE hP 1 17 rfl rfl rfl [17, 18, 19] rfl) rfl hl.1 (Nat.le_of_ble_eq_true rfl) dX3_row_16 ⟨Nat.zero_le _, Nat.zero_le _⟩ rfl (fun r2 hr2 => ?_)
    refine lv_goto (tgt := 30) hx hb dX3_row_19 (by decide) ?_
    exact e_mi (aw_, hw_, cw_, fs_, nx_, pu_, n1_, me1_, pl1_, n2_, me2_, pl2_, n3_, me3_, pl3_) hAe hx hb hr hlocks dX3_row_30 (hP.sub [0, 1, 2, 3, 4, 5, 6, 7, 8, 9, 10, 11, 12, 13, 14, 15, 16, 17, 18, 19] rfl) (hD.sub [0, 1, 2, 3, 4, 5, 6, 7, 8, 9, 10, 11, 12, 13, 14, 15, 16, 17, 18, 19] (by decide) rfl) hS ⟨by have e8 : betterB (wl kn (pk fr tt ct fa)) (hbL n hot) = true := (by unfold betterB; rw [← q6, ← q7]; exact c_8); unfold rowL; rw [if_pos e8]; exact rowA_of q3 hr2, hF9⟩

theorem fl_X3_chain_23 : Cond.fieldLink RX3 23 "BlockRows" "chains" "LBlockRows$Chains;" ∈ wsX3_chain := by decide +kernel
theorem in_X3_chain_X0 : ∀ w ∈ wsX00, w ∈ wsX3_chain := by decide +kernel
theorem in_X3_chain_X3 : ∀ w ∈ wsX30, w ∈ wsX3_chain := by decide +kernel
set_option maxHeartbeats 4000000 in
set_option maxRecDepth 100000 in
/-- BlockRows.chain -/
theorem c_chain (l : Launch) (D : va_G) (cI cJ cZ : ClassId) (x xh w wf wt wc wl_ g gf gn gp a am ap b bm bp d dm dp : Nat) (aw hw cw n : Nat) (st : Bool) (hot : Nat → Bool) (kn : Nat) (fr tt ct : Nat → Nat) (fa : Nat → Bool) (fs nx : Nat → Option Nat) (pu : Nat → Nat) (n1 : Nat) (me1 : Nat → Nat) (pl1 : Nat → Option Nat) (n2 : Nat) (me2 : Nat → Nat) (pl2 : Nat → Option Nat) (n3 : Nat) (me3 : Nat → Nat) (pl3 : Nat → Option Nat) (hn : n ≤ 200) (hkn : kn ≤ 1000) (hB : WB fr tt ct) (hst : st = false → Fresh n hot (wl kn (pk fr tt ct fa)) aw hw cw fs n1 me1 pl1 n2 me2 pl2 n3 me3 pl3) (sz : Nat) (y : Int32) : Met l yX3_chain wsX3_chain ({ frames := 4, cells := 0, slots := 0, locals := 91 }) (PcM D cI cJ cZ [.ref x, .int y] [(x, .inr (3, [.ref xh, .ref w, .ref g, .ref a, .ref b, .ref d, .long (lN aw), .long (lN hw), .long (lN cw), .int (nI n), .int (bI st)])), (xh, .inl (cZ, 200, .inl (bIf hot))), (w, .inr (2, [.ref wf, .ref wt, .ref wc, .ref wl_, .int (nI kn)])), (wf, .inl (cI, 1000, .inl (nIf fr))), (wt, .inl (cI, 1000, .inl (nIf tt))), (wc, .inl (cJ, 1000, .inr (.inl (lNf ct)))), (wl_, .inl (cZ, 1000, .inl (bIf fa))), (g, .inr (0, [.ref gf, .ref gn, .ref gp])), (gf, .inl (cI, 200, .inl (oIf fs))), (gn, .inl (cI, 200, .inl (oIf nx))), (gp, .inl (cJ, 200, .inr (.inl (lNf pu)))), (a, .inr (1, [.ref am, .ref ap, .int (nI n1)])), (am, .inl (cI, 200, .inl (nIf me1))), (ap, .inl (cI, 200, .inl (oIf pl1))), (b, .inr (1, [.ref bm, .ref bp, .int (nI n2)])), (bm, .inl (cI, 200, .inl (nIf me2))), (bp, .inl (cI, 200, .inl (oIf pl2))), (d, .inr (1, [.ref dm, .ref dp, .int (nI n3)])), (dm, .inl (cI, 200, .inl (nIf me3))), (dp, .inl (cI, 200, .inl (oIf pl3)))] sz) (va_Qi (fun (r : Int32) (z : Nat × Nat × Nat × (Nat → Option Nat) × (Nat → Option Nat) × (Nat → Nat) × Nat × (Nat → Nat) × (Nat → Option Nat) × Nat × (Nat → Nat) × (Nat → Option Nat) × Nat × (Nat → Nat) × (Nat → Option Nat)) => (chA (wl kn (pk fr tt ct fa)) n (hbL n hot) y r) ∧ Fresh n hot (wl kn (pk fr tt ct fa)) z.1 z.2.1 z.2.2.1 z.2.2.2.1 z.2.2.2.2.2.2.1 z.2.2.2.2.2.2.2.1 z.2.2.2.2.2.2.2.2.1 z.2.2.2.2.2.2.2.2.2.1 z.2.2.2.2.2.2.2.2.2.2.1 z.2.2.2.2.2.2.2.2.2.2.2.1 z.2.2.2.2.2.2.2.2.2.2.2.2.1 z.2.2.2.2.2.2.2.2.2.2.2.2.2.1 z.2.2.2.2.2.2.2.2.2.2.2.2.2.2) (Bm D [(x, .inr (3, [.ref xh, .ref w, .ref g, .ref a, .ref b, .ref d, .long (lN aw), .long (lN hw), .long (lN cw), .int (nI n), .int (bI st)])), (xh, .inl (cZ, 200, .inl (bIf hot))), (w, .inr (2, [.ref wf, .ref wt, .ref wc, .ref wl_, .int (nI kn)])), (wf, .inl (cI, 1000, .inl (nIf fr))), (wt, .inl (cI, 1000, .inl (nIf tt))), (wc, .inl (cJ, 1000, .inr (.inl (lNf ct)))), (wl_, .inl (cZ, 1000, .inl (bIf fa))), (g, .inr (0, [.ref gf, .ref gn, .ref gp])), (gf, .inl (cI, 200, .inl (oIf fs))), (gn, .inl (cI, 200, .inl (oIf nx))), (gp, .inl (cJ, 200, .inr (.inl (lNf pu)))), (a, .inr (1, [.ref am, .ref ap, .int (nI n1)])), (am, .inl (cI, 200, .inl (nIf me1))), (ap, .inl (cI, 200, .inl (oIf pl1))), (b, .inr (1, [.ref bm, .ref bp, .int (nI n2)])), (bm, .inl (cI, 200, .inl (nIf me2))), (bp, .inl (cI, 200, .inl (oIf pl2))), (d, .inr (1, [.ref dm, .ref dp, .int (nI n3)])), (dm, .inl (cI, 200, .inl (nIf me3))), (dp, .inl (cI, 200, .inl (oIf pl3)))] sz (fun z : Nat × Nat × Nat × (Nat → Option Nat) × (Nat → Option Nat) × (Nat → Nat) × Nat × (Nat → Nat) × (Nat → Option Nat) × Nat × (Nat → Nat) × (Nat → Option Nat) × Nat × (Nat → Nat) × (Nat → Option Nat) => [(x, .inr (3, [.ref xh, .ref w, .ref g, .ref a, .ref b, .ref d, .long (lN z.1), .long (lN z.2.1), .long (lN z.2.2.1), .int (nI n), .int (bI false)])), (xh, .inl (cZ, 200, .inl (bIf hot))), (w, .inr (2, [.ref wf, .ref wt, .ref wc, .ref wl_, .int (nI kn)])), (wf, .inl (cI, 1000, .inl (nIf fr))), (wt, .inl (cI, 1000, .inl (nIf tt))), (wc, .inl (cJ, 1000, .inr (.inl (lNf ct)))), (wl_, .inl (cZ, 1000, .inl (bIf fa))), (g, .inr (0, [.ref gf, .ref gn, .ref gp])), (gf, .inl (cI, 200, .inl (oIf z.2.2.2.1))), (gn, .inl (cI, 200, .inl (oIf z.2.2.2.2.1))), (gp, .inl (cJ, 200, .inr (.inl (lNf z.2.2.2.2.2.1)))), (a, .inr (1, [.ref am, .ref ap, .int (nI z.2.2.2.2.2.2.1)])), (am, .inl (cI, 200, .inl (nIf z.2.2.2.2.2.2.2.1))), (ap, .inl (cI, 200, .inl (oIf z.2.2.2.2.2.2.2.2.1))), (b, .inr (1, [.ref bm, .ref bp, .int (nI z.2.2.2.2.2.2.2.2.2.1)])), (bm, .inl (cI, 200, .inl (nIf z.2.2.2.2.2.2.2.2.2.2.1))), (bp, .inl (cI, 200, .inl (oIf z.2.2.2.2.2.2.2.2.2.2.2.1))), (d, .inr (1, [.ref dm, .ref dp, .int (nI z.2.2.2.2.2.2.2.2.2.2.2.2.1)])), (dm, .inl (cI, 200, .inl (nIf z.2.2.2.2.2.2.2.2.2.2.2.2.2.1))), (dp, .inl (cI, 200, .inl (oIf z.2.2.2.2.2.2.2.2.2.2.2.2.2.2)))])) (va_A [(x, .inr (3, [.ref xh, .ref w, .ref g, .ref a, .ref b, .ref d, .long (lN aw), .long (lN hw), .long (lN cw), .int (nI n), .int (bI st)])), (xh, .inl (cZ, 200, .inl (bIf hot))), (w, .inr (2, [.ref wf, .ref wt, .ref wc, .ref wl_, .int (nI kn)])), (wf, .inl (cI, 1000, .inl (nIf fr))), (wt, .inl (cI, 1000, .inl (nIf tt))), (wc, .inl (cJ, 1000, .inr (.inl (lNf ct)))), (wl_, .inl (cZ, 1000, .inl (bIf fa))), (g, .inr (0, [.ref gf, .ref gn, .ref gp])), (gf, .inl (cI, 200, .inl (oIf fs))), (gn, .inl (cI, 200, .inl (oIf nx))), (gp, .inl (cJ, 200, .inr (.inl (lNf pu)))), (a, .inr (1, [.ref am, .ref ap, .int (nI n1)])), (am, .inl (cI, 200, .inl (nIf me1))), (ap, .inl (cI, 200, .inl (oIf pl1))), (b, .inr (1, [.ref bm, .ref bp, .int (nI n2)])), (bm, .inl (cI, 200, .inl (nIf me2))), (bp, .inl (cI, 200, .inl (oIf pl2))), (d, .inr (1, [.ref dm, .ref dp, .int (nI n3)])), (dm, .inl (cI, 200, .inl (nIf me3))), (dp, .inl (cI, 200, .inl (oIf pl3)))] sz)) 0 0 (va_A [(x, .inr (3, [.ref xh, .ref w, .ref g, .ref a, .ref b, .ref d, .long (lN aw), .long (lN hw), .long (lN cw), .int (nI n), .int (bI st)])), (xh, .inl (cZ, 200, .inl (bIf hot))), (w, .inr (2, [.ref wf, .ref wt, .ref wc, .ref wl_, .int (nI kn)])), (wf, .inl (cI, 1000, .inl (nIf fr))), (wt, .inl (cI, 1000, .inl (nIf tt))), (wc, .inl (cJ, 1000, .inr (.inl (lNf ct)))), (wl_, .inl (cZ, 1000, .inl (bIf fa))), (g, .inr (0, [.ref gf, .ref gn, .ref gp])), (gf, .inl (cI, 200, .inl (oIf fs))), (gn, .inl (cI, 200, .inl (oIf nx))), (gp, .inl (cJ, 200, .inr (.inl (lNf pu)))), (a, .inr (1, [.ref am, .ref ap, .int (nI n1)])), (am, .inl (cI, 200, .inl (nIf me1))), (ap, .inl (cI, 200, .inl (oIf pl1))), (b, .inr (1, [.ref bm, .ref bp, .int (nI n2)])), (bm, .inl (cI, 200, .inl (nIf me2))), (bp, .inl (cI, 200, .inl (oIf pl2))), (d, .inr (1, [.ref dm, .ref dp, .int (nI n3)])), (dm, .inl (cI, 200, .inl (nIf me3))), (dp, .inl (cI, 200, .inl (oIf pl3)))] sz) := by
  refine startM (cc := cX3_chain) (maxL := 2) (ret := (some .int)) (by decide) rfl (Nat.le_of_ble_eq_true rfl) ?_
  intro p e s m below meth c ls A hA hAe hx hb hr hml hown hts hlocks hin hE hP hD hS hl
  have hl : lv_has ls 2 [(0, .ref x), (1, .int y)] := hl
  refine lv_aload_n hx hb dX3_chain_0 rfl (lv_at hl 0 rfl) ?_
  refine callMv (As := []) (rest := []) (wr := []) ⟨hx, hb, hml, hown, hts⟩ (c_refresh l D cI cJ cZ x xh w wf wt wc wl_ g gf gn gp a am ap b bm bp d dm dp aw hw cw n st hot kn fr tt ct fa fs nx pu n1 me1 pl1 n2 me2 pl2 n3 me3 pl3 hn hkn hB hst _) (cwV 0 hts gX3_chain_X3_refresh rfl rfl rfl (by decide +kernel) ⟨Nat.le_of_ble_eq_true rfl, Nat.le_of_ble_eq_true rfl⟩) (preM hE hP hD 3 0 rfl rfl rfl [0, 1, 2, 3, 4, 5, 6, 7, 8, 9, 10, 11, 12, 13, 14, 15, 16, 17, 18, 19] rfl rfl rfl) rfl hl.1 (Nat.le_of_ble_eq_true rfl) dX3_chain_1 ⟨Nat.zero_le _, Nat.zero_le _⟩ rfl hP hD hS hA [0, 1, 2, 3, 4, 5, 6, 7, 8, 9, 10, 11, 12, 13, 14, 15, 16, 17, 18, 19] [] rfl rfl (by decide) (by decide) (fun u_ H locs hu hP hD hS => ?_)
  obtain ⟨aw_, hw_, cw_, fs_, nx_, pu_, n1_, me1_, pl1_, n2_, me2_, pl2_, n3_, me3_, pl3_⟩ := u_
  have hP : va_P D vwCl [(x, .inr (3, [.ref xh, .ref w, .ref g, .ref a, .ref b, .ref d, .long (lN aw_), .long (lN hw_), .long (lN cw_), .int (nI n), .int (bI false)])), (xh, .inl (cZ, 200, .inl (bIf hot))), (w, .inr (2, [.ref wf, .ref wt, .ref wc, .ref wl_, .int (nI kn)])), (wf, .inl (cI, 1000, .inl (nIf fr))), (wt, .inl (cI, 1000, .inl (nIf tt))), (wc, .inl (cJ, 1000, .inr (.inl (lNf ct)))), (wl_, .inl (cZ, 1000, .inl (bIf fa))), (g, .inr (0, [.ref gf, .ref gn, .ref gp])), (gf, .inl (cI, 200, .inl (oIf fs_))), (gn, .inl (cI, 200, .inl (oIf nx_))), (gp, .inl (cJ, 200, .inr (.inl (lNf pu_)))), (a, .inr (1, [.ref am, .ref ap, .int (nI n1_)])), (am, .inl (cI, 200, .inl (nIf me1_))), (ap, .inl (cI, 200, .inl (oIf pl1_))), (b, .inr (1, [.ref bm, .ref bp, .int (nI n2_)])), (bm, .inl (cI, 200, .inl (nIf me2_))), (bp, .inl (cI, 200, .inl (oIf pl2_))), (d, .inr (1, [.ref dm, .ref dp, .int (nI n3_)])), (dm, .inl (cI, 200, .inl (nIf me3_))), (dp, .inl (cI, 200, .inl (oIf pl3_)))] H := hP
  have hD : va_D A [(x, .inr (3, [.ref xh, .ref w, .ref g, .ref a, .ref b, .ref d, .long (lN aw_), .long (lN hw_), .long (lN cw_), .int (nI n), .int (bI false)])), (xh, .inl (cZ, 200, .inl (bIf hot))), (w, .inr (2, [.ref wf, .ref wt, .ref wc, .ref wl_, .int (nI kn)])), (wf, .inl (cI, 1000, .inl (nIf fr))), (wt, .inl (cI, 1000, .inl (nIf tt))), (wc, .inl (cJ, 1000, .inr (.inl (lNf ct)))), (wl_, .inl (cZ, 1000, .inl (bIf fa))), (g, .inr (0, [.ref gf, .ref gn, .ref gp])), (gf, .inl (cI, 200, .inl (oIf fs_))), (gn, .inl (cI, 200, .inl (oIf nx_))), (gp, .inl (cJ, 200, .inr (.inl (lNf pu_)))), (a, .inr (1, [.ref am, .ref ap, .int (nI n1_)])), (am, .inl (cI, 200, .inl (nIf me1_))), (ap, .inl (cI, 200, .inl (oIf pl1_))), (b, .inr (1, [.ref bm, .ref bp, .int (nI n2_)])), (bm, .inl (cI, 200, .inl (nIf me2_))), (bp, .inl (cI, 200, .inl (oIf pl2_))), (d, .inr (1, [.ref dm, .ref dp, .int (nI n3_)])), (dm, .inl (cI, 200, .inl (nIf me3_))), (dp, .inl (cI, 200, .inl (oIf pl3_)))] := hD
  obtain ⟨q1, q2, q3, q4, q5, q6, q7⟩ : Fresh n hot (wl kn (pk fr tt ct fa)) aw_ hw_ cw_ fs_ n1_ me1_ pl1_ n2_ me2_ pl2_ n3_ me3_ pl3_ := id hu
  have hF9 : Fresh n hot (wl kn (pk fr tt ct fa)) aw_ hw_ cw_ fs_ n1_ me1_ pl1_ n2_ me2_ pl2_ n3_ me3_ pl3_ := hu
  refine lv_aload_n hx hb dX3_chain_4 rfl (lv_at hl 0 rfl) ?_
  refine lv_iload_n hx hb dX3_chain_5 rfl (lv_at hl 1 rfl) ?_
  refine callRi (As := [.int y]) (rest := []) ⟨hx, hb, hml, hown, hts⟩ (c_isBlock l D cI cJ cZ x xh w g a b d aw_ hw_ cw_ n false hn y) (cwV 1 hts gX3_chain_X3_isBlock rfl rfl rfl (by decide +kernel) ⟨Nat.le_of_ble_eq_true rfl, Nat.le_of_ble_eq_true rfl⟩) (preR hE hP 3 0 rfl rfl rfl [0] rfl) rfl hl.1 (Nat.le_of_ble_eq_true rfl) dX3_chain_6 ⟨Nat.zero_le _, Nat.zero_le _⟩ rfl (fun r1 hr1 => ?_)
  subst hr1
  refine r_b_eq (tgt := 24) hx hb dX3_chain_9 (by decide) (fun c_9 => ?_) (fun c_9 => ?_)
  · skip
    refine lv_iconst (v := -1) hx hb dX3_chain_24 (by decide) ?_
    exact e_mi (aw_, hw_, cw_, fs_, nx_, pu_, n1_, me1_, pl1_, n2_, me2_, pl2_, n3_, me3_, pl3_) hAe hx hb hr hlocks dX3_chain_25 (hP.sub [0, 1, 2, 3, 4, 5, 6, 7, 8, 9, 10, 11, 12, 13, 14, 15, 16, 17, 18, 19] rfl) (hD.sub [0, 1, 2, 3, 4, 5, 6, 7, 8, 9, 10, 11, 12, 13, 14, 15, 16, 17, 18, 19] (by decide) rfl) hS ⟨Or.inl ⟨c_9, rfl⟩, hF9⟩
  · skip
    obtain ⟨j, hj, rfl⟩ := (isB_iff hn).mp c_9
    refine lv_aload_n hx hb dX3_chain_12 rfl (lv_at hl 0 rfl) ?_
    refine va_get (D := D) (ci := 3) (v := .ref g) (C := RX3) (T := TX3) (N := 11) hx hb hts in_X3_chain_X3 hown hE.1 hP 0 rfl rfl 2 (by decide) (hts _ fl_X3_chain_23) (fun _ h9 => h9) rfl dX3_chain_13 ?_
    refine va_getN (D := D) (ci := 0) (v := .ref gf) (C := RX0) (T := TX0) (N := 3) hx hb hts in_X3_chain_X0 hown hE.1 hP 7 rfl rfl 0 (by decide) (va_Nw.use rfl hE.2.2.1.1) (fun _ h9 => h9) rfl dX3_chain_16 ?_
    refine lv_iload_n hx hb dX3_chain_19 rfl (lv_at hl 1 rfl) ?_
    refine r_old hx hb hE hP 8 rfl (k := j) (by omega) (by decide) dX3_chain_20 ?_
    refine lv_goto (tgt := 25) hx hb dX3_chain_21 (by decide) ?_
    exact e_mi (aw_, hw_, cw_, fs_, nx_, pu_, n1_, me1_, pl1_, n2_, me2_, pl2_, n3_, me3_, pl3_) hAe hx hb hr hlocks dX3_chain_25 (hP.sub [0, 1, 2, 3, 4, 5, 6, 7, 8, 9, 10, 11, 12, 13, 14, 15, 16, 17, 18, 19] rfl) (hD.sub [0, 1, 2, 3, 4, 5, 6, 7, 8, 9, 10, 11, 12, 13, 14, 15, 16, 17, 18, 19] (by decide) rfl) hS ⟨Or.inr ⟨j, hj, rfl, by rw [q4]⟩, hF9⟩

theorem tab_out {y : Int32} (y0 : ¬ y = 0) (y1 : ¬ y = 1) (y2 : ¬ y = 2) (y3 : ¬ y = 3) : y.toInt < 0 ∨ 3 < y.toInt := by
  by_cases h : y < 0
  · left
    have h1 : y.toInt < (0 : Int32).toInt := Int32.lt_iff_toInt_lt.mp h
    exact h1
  · obtain ⟨j, hj, rfl⟩ := nI_of h
    right
    rw [nI_toInt hj]
    rcases j with _ | _ | _ | _ | j
    · exact absurd rfl y0
    · exact absurd rfl y1
    · exact absurd rfl y2
    · exact absurd rfl y3
    · omega
theorem fl_X3_weight_82 : Cond.fieldLink RX3 82 "BlockRows" "chainsWeight" "J" ∈ wsX3_weight := by decide +kernel
theorem fl_X3_weight_86 : Cond.fieldLink RX3 86 "BlockRows" "hotWeight" "J" ∈ wsX3_weight := by decide +kernel
theorem fl_X3_weight_89 : Cond.fieldLink RX3 89 "BlockRows" "allWeight" "J" ∈ wsX3_weight := by decide +kernel
theorem in_X3_weight_X3 : ∀ w ∈ wsX30, w ∈ wsX3_weight := by decide +kernel
theorem wd_X3_weight_c55 : Cond.constantLong RX3 55 (-1) ∈ wsX3_weight := by decide +kernel
set_option maxHeartbeats 4000000 in
set_option maxRecDepth 100000 in
/-- BlockRows.weight -/
theorem c_weight (l : Launch) (D : va_G) (cI cJ cZ : ClassId) (x xh w wf wt wc wl_ g gf gn gp a am ap b bm bp d dm dp : Nat) (aw hw cw n : Nat) (st : Bool) (hot : Nat → Bool) (kn : Nat) (fr tt ct : Nat → Nat) (fa : Nat → Bool) (fs nx : Nat → Option Nat) (pu : Nat → Nat) (n1 : Nat) (me1 : Nat → Nat) (pl1 : Nat → Option Nat) (n2 : Nat) (me2 : Nat → Nat) (pl2 : Nat → Option Nat) (n3 : Nat) (me3 : Nat → Nat) (pl3 : Nat → Option Nat) (hn : n ≤ 200) (hkn : kn ≤ 1000) (hB : WB fr tt ct) (hst : st = false → Fresh n hot (wl kn (pk fr tt ct fa)) aw hw cw fs n1 me1 pl1 n2 me2 pl2 n3 me3 pl3) (sz : Nat) (y : Int32) : Met l yX3_weight wsX3_weight ({ frames := 4, cells := 0, slots := 0, locals := 91 }) (PcM D cI cJ cZ [.ref x, .int y] [(x, .inr (3, [.ref xh, .ref w, .ref g, .ref a, .ref b, .ref d, .long (lN aw), .long (lN hw), .long (lN cw), .int (nI n), .int (bI st)])), (xh, .inl (cZ, 200, .inl (bIf hot))), (w, .inr (2, [.ref wf, .ref wt, .ref wc, .ref wl_, .int (nI kn)])), (wf, .inl (cI, 1000, .inl (nIf fr))), (wt, .inl (cI, 1000, .inl (nIf tt))), (wc, .inl (cJ, 1000, .inr (.inl (lNf ct)))), (wl_, .inl (cZ, 1000, .inl (bIf fa))), (g, .inr (0, [.ref gf, .ref gn, .ref gp])), (gf, .inl (cI, 200, .inl (oIf fs))), (gn, .inl (cI, 200, .inl (oIf nx))), (gp, .inl (cJ, 200, .inr (.inl (lNf pu)))), (a, .inr (1, [.ref am, .ref ap, .int (nI n1)])), (am, .inl (cI, 200, .inl (nIf me1))), (ap, .inl (cI, 200, .inl (oIf pl1))), (b, .inr (1, [.ref bm, .ref bp, .int (nI n2)])), (bm, .inl (cI, 200, .inl (nIf me2))), (bp, .inl (cI, 200, .inl (oIf pl2))), (d, .inr (1, [.ref dm, .ref dp, .int (nI n3)])), (dm, .inl (cI, 200, .inl (nIf me3))), (dp, .inl (cI, 200, .inl (oIf pl3)))] sz) (va_Ql (fun (r : Int64) (z : Nat × Nat × Nat × (Nat → Option Nat) × (Nat → Option Nat) × (Nat → Nat) × Nat × (Nat → Nat) × (Nat → Option Nat) × Nat × (Nat → Nat) × (Nat → Option Nat) × Nat × (Nat → Nat) × (Nat → Option Nat)) => (r = wtA (wl kn (pk fr tt ct fa)) n (hbL n hot) y) ∧ Fresh n hot (wl kn (pk fr tt ct fa)) z.1 z.2.1 z.2.2.1 z.2.2.2.1 z.2.2.2.2.2.2.1 z.2.2.2.2.2.2.2.1 z.2.2.2.2.2.2.2.2.1 z.2.2.2.2.2.2.2.2.2.1 z.2.2.2.2.2.2.2.2.2.2.1 z.2.2.2.2.2.2.2.2.2.2.2.1 z.2.2.2.2.2.2.2.2.2.2.2.2.1 z.2.2.2.2.2.2.2.2.2.2.2.2.2.1 z.2.2.2.2.2.2.2.2.2.2.2.2.2.2) (Bm D [(x, .inr (3, [.ref xh, .ref w, .ref g, .ref a, .ref b, .ref d, .long (lN aw), .long (lN hw), .long (lN cw), .int (nI n), .int (bI st)])), (xh, .inl (cZ, 200, .inl (bIf hot))), (w, .inr (2, [.ref wf, .ref wt, .ref wc, .ref wl_, .int (nI kn)])), (wf, .inl (cI, 1000, .inl (nIf fr))), (wt, .inl (cI, 1000, .inl (nIf tt))), (wc, .inl (cJ, 1000, .inr (.inl (lNf ct)))), (wl_, .inl (cZ, 1000, .inl (bIf fa))), (g, .inr (0, [.ref gf, .ref gn, .ref gp])), (gf, .inl (cI, 200, .inl (oIf fs))), (gn, .inl (cI, 200, .inl (oIf nx))), (gp, .inl (cJ, 200, .inr (.inl (lNf pu)))), (a, .inr (1, [.ref am, .ref ap, .int (nI n1)])), (am, .inl (cI, 200, .inl (nIf me1))), (ap, .inl (cI, 200, .inl (oIf pl1))), (b, .inr (1, [.ref bm, .ref bp, .int (nI n2)])), (bm, .inl (cI, 200, .inl (nIf me2))), (bp, .inl (cI, 200, .inl (oIf pl2))), (d, .inr (1, [.ref dm, .ref dp, .int (nI n3)])), (dm, .inl (cI, 200, .inl (nIf me3))), (dp, .inl (cI, 200, .inl (oIf pl3)))] sz (fun z : Nat × Nat × Nat × (Nat → Option Nat) × (Nat → Option Nat) × (Nat → Nat) × Nat × (Nat → Nat) × (Nat → Option Nat) × Nat × (Nat → Nat) × (Nat → Option Nat) × Nat × (Nat → Nat) × (Nat → Option Nat) => [(x, .inr (3, [.ref xh, .ref w, .ref g, .ref a, .ref b, .ref d, .long (lN z.1), .long (lN z.2.1), .long (lN z.2.2.1), .int (nI n), .int (bI false)])), (xh, .inl (cZ, 200, .inl (bIf hot))), (w, .inr (2, [.ref wf, .ref wt, .ref wc, .ref wl_, .int (nI kn)])), (wf, .inl (cI, 1000, .inl (nIf fr))), (wt, .inl (cI, 1000, .inl (nIf tt))), (wc, .inl (cJ, 1000, .inr (.inl (lNf ct)))), (wl_, .inl (cZ, 1000, .inl (bIf fa))), (g, .inr (0, [.ref gf, .ref gn, .ref gp])), (gf, .inl (cI, 200, .inl (oIf z.2.2.2.1))), (gn, .inl (cI, 200, .inl (oIf z.2.2.2.2.1))), (gp, .inl (cJ, 200, .inr (.inl (lNf z.2.2.2.2.2.1)))), (a, .inr (1, [.ref am, .ref ap, .int (nI z.2.2.2.2.2.2.1)])), (am, .inl (cI, 200, .inl (nIf z.2.2.2.2.2.2.2.1))), (ap, .inl (cI, 200, .inl (oIf z.2.2.2.2.2.2.2.2.1))), (b, .inr (1, [.ref bm, .ref bp, .int (nI z.2.2.2.2.2.2.2.2.2.1)])), (bm, .inl (cI, 200, .inl (nIf z.2.2.2.2.2.2.2.2.2.2.1))), (bp, .inl (cI, 200, .inl (oIf z.2.2.2.2.2.2.2.2.2.2.2.1))), (d, .inr (1, [.ref dm, .ref dp, .int (nI z.2.2.2.2.2.2.2.2.2.2.2.2.1)])), (dm, .inl (cI, 200, .inl (nIf z.2.2.2.2.2.2.2.2.2.2.2.2.2.1))), (dp, .inl (cI, 200, .inl (oIf z.2.2.2.2.2.2.2.2.2.2.2.2.2.2)))])) (va_A [(x, .inr (3, [.ref xh, .ref w, .ref g, .ref a, .ref b, .ref d, .long (lN aw), .long (lN hw), .long (lN cw), .int (nI n), .int (bI st)])), (xh, .inl (cZ, 200, .inl (bIf hot))), (w, .inr (2, [.ref wf, .ref wt, .ref wc, .ref wl_, .int (nI kn)])), (wf, .inl (cI, 1000, .inl (nIf fr))), (wt, .inl (cI, 1000, .inl (nIf tt))), (wc, .inl (cJ, 1000, .inr (.inl (lNf ct)))), (wl_, .inl (cZ, 1000, .inl (bIf fa))), (g, .inr (0, [.ref gf, .ref gn, .ref gp])), (gf, .inl (cI, 200, .inl (oIf fs))), (gn, .inl (cI, 200, .inl (oIf nx))), (gp, .inl (cJ, 200, .inr (.inl (lNf pu)))), (a, .inr (1, [.ref am, .ref ap, .int (nI n1)])), (am, .inl (cI, 200, .inl (nIf me1))), (ap, .inl (cI, 200, .inl (oIf pl1))), (b, .inr (1, [.ref bm, .ref bp, .int (nI n2)])), (bm, .inl (cI, 200, .inl (nIf me2))), (bp, .inl (cI, 200, .inl (oIf pl2))), (d, .inr (1, [.ref dm, .ref dp, .int (nI n3)])), (dm, .inl (cI, 200, .inl (nIf me3))), (dp, .inl (cI, 200, .inl (oIf pl3)))] sz)) 0 0 (va_A [(x, .inr (3, [.ref xh, .ref w, .ref g, .ref a, .ref b, .ref d, .long (lN aw), .long (lN hw), .long (lN cw), .int (nI n), .int (bI st)])), (xh, .inl (cZ, 200, .inl (bIf hot))), (w, .inr (2, [.ref wf, .ref wt, .ref wc, .ref wl_, .int (nI kn)])), (wf, .inl (cI, 1000, .inl (nIf fr))), (wt, .inl (cI, 1000, .inl (nIf tt))), (wc, .inl (cJ, 1000, .inr (.inl (lNf ct)))), (wl_, .inl (cZ, 1000, .inl (bIf fa))), (g, .inr (0, [.ref gf, .ref gn, .ref gp])), (gf, .inl (cI, 200, .inl (oIf fs))), (gn, .inl (cI, 200, .inl (oIf nx))), (gp, .inl (cJ, 200, .inr (.inl (lNf pu)))), (a, .inr (1, [.ref am, .ref ap, .int (nI n1)])), (am, .inl (cI, 200, .inl (nIf me1))), (ap, .inl (cI, 200, .inl (oIf pl1))), (b, .inr (1, [.ref bm, .ref bp, .int (nI n2)])), (bm, .inl (cI, 200, .inl (nIf me2))), (bp, .inl (cI, 200, .inl (oIf pl2))), (d, .inr (1, [.ref dm, .ref dp, .int (nI n3)])), (dm, .inl (cI, 200, .inl (nIf me3))), (dp, .inl (cI, 200, .inl (oIf pl3)))] sz) := by
  refine startM (cc := cX3_weight) (maxL := 2) (ret := (some .long)) (by decide) rfl (Nat.le_of_ble_eq_true rfl) ?_
  intro p e s m below meth c ls A hA hAe hx hb hr hml hown hts hlocks hin hE hP hD hS hl
  have hl : lv_has ls 2 [(0, .ref x), (1, .int y)] := hl
  refine lv_aload_n hx hb dX3_weight_0 rfl (lv_at hl 0 rfl) ?_
  refine callMv (As := []) (rest := []) (wr := []) ⟨hx, hb, hml, hown, hts⟩ (c_refresh l D cI cJ cZ x xh w wf wt wc wl_ g gf gn gp a am ap b bm bp d dm dp aw hw cw n st hot kn fr tt ct fa fs nx pu n1 me1 pl1 n2 me2 pl2 n3 me3 pl3 hn hkn hB hst _) (cwV 0 hts gX3_weight_X3_refresh rfl rfl rfl (by decide +kernel) ⟨Nat.le_of_ble_eq_true rfl, Nat.le_of_ble_eq_true rfl⟩) (preM hE hP hD 3 0 rfl rfl rfl [0, 1, 2, 3, 4, 5, 6, 7, 8, 9, 10, 11, 12, 13, 14, 15, 16, 17, 18, 19] rfl rfl rfl) rfl hl.1 (Nat.le_of_ble_eq_true rfl) dX3_weight_1 ⟨Nat.zero_le _, Nat.zero_le _⟩ rfl hP hD hS hA [0, 1, 2, 3, 4, 5, 6, 7, 8, 9, 10, 11, 12, 13, 14, 15, 16, 17, 18, 19] [] rfl rfl (by decide) (by decide) (fun u_ H locs hu hP hD hS => ?_)
  obtain ⟨aw_, hw_, cw_, fs_, nx_, pu_, n1_, me1_, pl1_, n2_, me2_, pl2_, n3_, me3_, pl3_⟩ := u_
  have hP : va_P D vwCl [(x, .inr (3, [.ref xh, .ref w, .ref g, .ref a, .ref b, .ref d, .long (lN aw_), .long (lN hw_), .long (lN cw_), .int (nI n), .int (bI false)])), (xh, .inl (cZ, 200, .inl (bIf hot))), (w, .inr (2, [.ref wf, .ref wt, .ref wc, .ref wl_, .int (nI kn)])), (wf, .inl (cI, 1000, .inl (nIf fr))), (wt, .inl (cI, 1000, .inl (nIf tt))), (wc, .inl (cJ, 1000, .inr (.inl (lNf ct)))), (wl_, .inl (cZ, 1000, .inl (bIf fa))), (g, .inr (0, [.ref gf, .ref gn, .ref gp])), (gf, .inl (cI, 200, .inl (oIf fs_))), (gn, .inl (cI, 200, .inl (oIf nx_))), (gp, .inl (cJ, 200, .inr (.inl (lNf pu_)))), (a, .inr (1, [.ref am, .ref ap, .int (nI n1_)])), (am, .inl (cI, 200, .inl (nIf me1_))), (ap, .inl (cI, 200, .inl (oIf pl1_))), (b, .inr (1, [.ref bm, .ref bp, .int (nI n2_)])), (bm, .inl (cI, 200, .inl (nIf me2_))), (bp, .inl (cI, 200, .inl (oIf pl2_))), (d, .inr (1, [.ref dm, .ref dp, .int (nI n3_)])), (dm, .inl (cI, 200, .inl (nIf me3_))), (dp, .inl (cI, 200, .inl (oIf pl3_)))] H := hP
  have hD : va_D A [(x, .inr (3, [.ref xh, .ref w, .ref g, .ref a, .ref b, .ref d, .long (lN aw_), .long (lN hw_), .long (lN cw_), .int (nI n), .int (bI false)])), (xh, .inl (cZ, 200, .inl (bIf hot))), (w, .inr (2, [.ref wf, .ref wt, .ref wc, .ref wl_, .int (nI kn)])), (wf, .inl (cI, 1000, .inl (nIf fr))), (wt, .inl (cI, 1000, .inl (nIf tt))), (wc, .inl (cJ, 1000, .inr (.inl (lNf ct)))), (wl_, .inl (cZ, 1000, .inl (bIf fa))), (g, .inr (0, [.ref gf, .ref gn, .ref gp])), (gf, .inl (cI, 200, .inl (oIf fs_))), (gn, .inl (cI, 200, .inl (oIf nx_))), (gp, .inl (cJ, 200, .inr (.inl (lNf pu_)))), (a, .inr (1, [.ref am, .ref ap, .int (nI n1_)])), (am, .inl (cI, 200, .inl (nIf me1_))), (ap, .inl (cI, 200, .inl (oIf pl1_))), (b, .inr (1, [.ref bm, .ref bp, .int (nI n2_)])), (bm, .inl (cI, 200, .inl (nIf me2_))), (bp, .inl (cI, 200, .inl (oIf pl2_))), (d, .inr (1, [.ref dm, .ref dp, .int (nI n3_)])), (dm, .inl (cI, 200, .inl (nIf me3_))), (dp, .inl (cI, 200, .inl (oIf pl3_)))] := hD
  obtain ⟨q1, q2, q3, q4, q5, q6, q7⟩ : Fresh n hot (wl kn (pk fr tt ct fa)) aw_ hw_ cw_ fs_ n1_ me1_ pl1_ n2_ me2_ pl2_ n3_ me3_ pl3_ := id hu
  have hF9 : Fresh n hot (wl kn (pk fr tt ct fa)) aw_ hw_ cw_ fs_ n1_ me1_ pl1_ n2_ me2_ pl2_ n3_ me3_ pl3_ := hu
  refine lv_iload_n hx hb dX3_weight_4 rfl (lv_at hl 1 rfl) ?_
  by_cases y0 : y = 0
  · skip
    refine lv_tableIn (tgt := 36) hx hb dX3_weight_5 (by rw [y0]; decide) (by rw [y0]; decide) (by rw [y0]; rfl) (by decide) ?_
    refine lv_aload_n hx hb dX3_weight_36 rfl (lv_at hl 0 rfl) ?_
    refine callRi (As := []) (rest := []) ⟨hx, hb, hml, hown, hts⟩ (c_better l D cI cJ cZ x xh w g a b d aw_ hw_ cw_ n false (by rw [q6]; exact wS_lt hB hkn _) (by rw [q7]; exact wS_lt hB hkn _)) (cwV 0 hts gX3_weight_X3_chainsAreBetter rfl rfl rfl (by decide +kernel) ⟨Nat.le_of_ble_eq_true rfl, Nat.le_of_ble_eq_true rfl⟩) (preR hE hP 3 0 rfl rfl rfl [0] rfl) rfl hl.1 (Nat.le_of_ble_eq_true rfl) dX3_weight_37 ⟨Nat.zero_le _, Nat.zero_le _⟩ rfl (fun r1 hr1 => ?_)
    subst hr1
    refine r_b_eq (tgt := 50) hx hb dX3_weight_40 (by decide) (fun c_40 => ?_) (fun c_40 => ?_)
    · skip
      refine lv_aload_n hx hb dX3_weight_50 rfl (lv_at hl 0 rfl) ?_
      refine va_get (D := D) (ci := 3) (v := .long (lN hw_)) (C := RX3) (T := TX3) (N := 11) hx hb hts in_X3_weight_X3 hown hE.1 hP 0 rfl rfl 7 (by decide) (hts _ fl_X3_weight_86) (fun _ h9 => h9) rfl dX3_weight_51 ?_
      exact e_ml (aw_, hw_, cw_, fs_, nx_, pu_, n1_, me1_, pl1_, n2_, me2_, pl2_, n3_, me3_, pl3_) hAe hx hb hr hlocks dX3_weight_54 (hP.sub [0, 1, 2, 3, 4, 5, 6, 7, 8, 9, 10, 11, 12, 13, 14, 15, 16, 17, 18, 19] rfl) (hD.sub [0, 1, 2, 3, 4, 5, 6, 7, 8, 9, 10, 11, 12, 13, 14, 15, 16, 17, 18, 19] (by decide) rfl) hS ⟨by have e8 : betterB (wl kn (pk fr tt ct fa)) (hbL n hot) = false := (by unfold betterB; rw [← q6, ← q7]; exact c_40); unfold wtA rowL; rw [if_pos y0, if_neg (by rw [e8]; decide), q6], hF9⟩
    · skip
      refine lv_aload_n hx hb dX3_weight_43 rfl (lv_at hl 0 rfl) ?_
      refine va_get (D := D) (ci := 3) (v := .long (lN cw_)) (C := RX3) (T := TX3) (N := 11) hx hb hts in_X3_weight_X3 hown hE.1 hP 0 rfl rfl 8 (by decide) (hts _ fl_X3_weight_82) (fun _ h9 => h9) rfl dX3_weight_44 ?_
      refine lv_goto (tgt := 54) hx hb dX3_weight_47 (by decide) ?_
      exact e_ml (aw_, hw_, cw_, fs_, nx_, pu_, n1_, me1_, pl1_, n2_, me2_, pl2_, n3_, me3_, pl3_) hAe hx hb hr hlocks dX3_weight_54 (hP.sub [0, 1, 2, 3, 4, 5, 6, 7, 8, 9, 10, 11, 12, 13, 14, 15, 16, 17, 18, 19] rfl) (hD.sub [0, 1, 2, 3, 4, 5, 6, 7, 8, 9, 10, 11, 12, 13, 14, 15, 16, 17, 18, 19] (by decide) rfl) hS ⟨by have e8 : betterB (wl kn (pk fr tt ct fa)) (hbL n hot) = true := (by unfold betterB; rw [← q6, ← q7]; exact c_40); unfold wtA rowL; rw [if_pos y0, if_pos e8, q7], hF9⟩
  by_cases y1 : y = 1
  · skip
    refine lv_tableIn (tgt := 55) hx hb dX3_weight_5 (by rw [y1]; decide) (by rw [y1]; decide) (by rw [y1]; rfl) (by decide) ?_
    refine lv_aload_n hx hb dX3_weight_55 rfl (lv_at hl 0 rfl) ?_
    refine va_get (D := D) (ci := 3) (v := .long (lN hw_)) (C := RX3) (T := TX3) (N := 11) hx hb hts in_X3_weight_X3 hown hE.1 hP 0 rfl rfl 7 (by decide) (hts _ fl_X3_weight_86) (fun _ h9 => h9) rfl dX3_weight_56 ?_
    exact e_ml (aw_, hw_, cw_, fs_, nx_, pu_, n1_, me1_, pl1_, n2_, me2_, pl2_, n3_, me3_, pl3_) hAe hx hb hr hlocks dX3_weight_59 (hP.sub [0, 1, 2, 3, 4, 5, 6, 7, 8, 9, 10, 11, 12, 13, 14, 15, 16, 17, 18, 19] rfl) (hD.sub [0, 1, 2, 3, 4, 5, 6, 7, 8, 9, 10, 11, 12, 13, 14, 15, 16, 17, 18, 19] (by decide) rfl) hS ⟨by unfold wtA; rw [if_neg y0, if_pos y1, q6], hF9⟩
  by_cases y2 : y = 2
  · skip
    refine lv_tableIn (tgt := 60) hx hb dX3_weight_5 (by rw [y2]; decide) (by rw [y2]; decide) (by rw [y2]; rfl) (by decide) ?_
    refine lv_aload_n hx hb dX3_weight_60 rfl (lv_at hl 0 rfl) ?_
    refine va_get (D := D) (ci := 3) (v := .long (lN aw_)) (C := RX3) (T := TX3) (N := 11) hx hb hts in_X3_weight_X3 hown hE.1 hP 0 rfl rfl 6 (by decide) (hts _ fl_X3_weight_89) (fun _ h9 => h9) rfl dX3_weight_61 ?_
    exact e_ml (aw_, hw_, cw_, fs_, nx_, pu_, n1_, me1_, pl1_, n2_, me2_, pl2_, n3_, me3_, pl3_) hAe hx hb hr hlocks dX3_weight_64 (hP.sub [0, 1, 2, 3, 4, 5, 6, 7, 8, 9, 10, 11, 12, 13, 14, 15, 16, 17, 18, 19] rfl) (hD.sub [0, 1, 2, 3, 4, 5, 6, 7, 8, 9, 10, 11, 12, 13, 14, 15, 16, 17, 18, 19] (by decide) rfl) hS ⟨by unfold wtA; rw [if_neg y0, if_neg y1, if_pos y2, q5], hF9⟩
  by_cases y3 : y = 3
  · skip
    refine lv_tableIn (tgt := 65) hx hb dX3_weight_5 (by rw [y3]; decide) (by rw [y3]; decide) (by rw [y3]; rfl) (by decide) ?_
    refine lv_aload_n hx hb dX3_weight_65 rfl (lv_at hl 0 rfl) ?_
    refine va_get (D := D) (ci := 3) (v := .long (lN cw_)) (C := RX3) (T := TX3) (N := 11) hx hb hts in_X3_weight_X3 hown hE.1 hP 0 rfl rfl 8 (by decide) (hts _ fl_X3_weight_82) (fun _ h9 => h9) rfl dX3_weight_66 ?_
    exact e_ml (aw_, hw_, cw_, fs_, nx_, pu_, n1_, me1_, pl1_, n2_, me2_, pl2_, n3_, me3_, pl3_) hAe hx hb hr hlocks dX3_weight_69 (hP.sub [0, 1, 2, 3, 4, 5, 6, 7, 8, 9, 10, 11, 12, 13, 14, 15, 16, 17, 18, 19] rfl) (hD.sub [0, 1, 2, 3, 4, 5, 6, 7, 8, 9, 10, 11, 12, 13, 14, 15, 16, 17, 18, 19] (by decide) rfl) hS ⟨by unfold wtA; rw [if_neg y0, if_neg y1, if_neg y2, if_pos y3, q7], hF9⟩
  refine lv_tableOut (tgt := 70) hx hb dX3_weight_5 (tab_out y0 y1 y2 y3) (by decide) ?_
  refine lv_ldc2 (v := (-1)) hx hb hown (hts _ wd_X3_weight_c55) dX3_weight_70 ?_
  exact e_ml (aw_, hw_, cw_, fs_, nx_, pu_, n1_, me1_, pl1_, n2_, me2_, pl2_, n3_, me3_, pl3_) hAe hx hb hr hlocks dX3_weight_73 (hP.sub [0, 1, 2, 3, 4, 5, 6, 7, 8, 9, 10, 11, 12, 13, 14, 15, 16, 17, 18, 19] rfl) (hD.sub [0, 1, 2, 3, 4, 5, 6, 7, 8, 9, 10, 11, 12, 13, 14, 15, 16, 17, 18, 19] (by decide) rfl) hS ⟨by unfold wtA; rw [if_neg y0, if_neg y1, if_neg y2, if_neg y3], hF9⟩
end
section
section CallI
variable {p : Program} {l : Launch} {e : Env} {R : Room} {s : State} {m : MethodId} {args : Array Value} {below : List Frame} {meth : Method} {c : Code} {H : Heap} {locs : List Loc} {cells slots : Nat} {Q : State → Prop} {cc : ByteArray} {pc : Nat} {ls : Array Slot} {rest st0 : List Value} {D : va_G} {cI cJ cZ : ClassId} {ws wc wr : va_W} {A : Nat → Prop} {H0 : Heap} {mc ms : Nat} {S : Type} {w1 : S → va_W} {a : Array Value}
theorem callRunV {post : S → Prop} (hr : va_Run p l e R s m args below meth c H locs cells slots mc ms (F0 m pc ls st0) rest (va_Qv post (Bm D wc H.size w1) (va_A wc H.size) a) (va_A wc H.size))
    (hP : va_P D vwCl ws H) (hD : va_D A ws) (hS : va_S A H0 H locs) (hA : ∀ q, H0.size ≤ q → A q) (isC isR : List Nat) (hC : isC.map (fun i => ws[i]?) = wc.map some) (hR : isR.map (fun i => ws[i]?) = wr.map some) (hnr : va_nd isR = true) (hdis : ∀ i ∈ isR, i ∉ isC)
    (kk : ∀ (u : S) (H1 : Heap) (locs1 : List Loc), post u → va_P D vwCl (wr ++ w1 u) H1 → va_D A (wr ++ w1 u) → va_S A H0 H1 locs1 → W p l e R s m args below meth c H1 locs1 (cells + mc) (slots + ms) Q (F0 m (pc + 3) ls rest)) : W p l e R s m args below meth c H locs cells slots Q (F0 m pc ls st0) := by
  have hF := va_free hD hS hA isC hC
  refine va_callv hr hS (fun q _ h => hF q h) hF (fun u t H1 locs1 ht hvm hw hB hz1 hk1 hS1 => ?_)
  obtain ⟨hP1, hD1⟩ := hB
  rw [ht] at hP1
  obtain ⟨hP2, hD2⟩ := va_join hP hD isC isR hC hR hnr hdis hk1 hF hP1 hD1
  exact kk u H1 locs1 hw hP2 hD2 hS1
theorem Ev.isI (hE : Ev D cI cJ cZ s) {tys : List (ClassId × FieldType)} {cA : ClassId} (hK : va_K D vwCl (tys ++ [(cA, .int)]) s) : cA = cI := by
  have h1 : s.vm.findClass ("[" ++ FieldType.int.toString) = some cI := (hE.1.2 0 (cI, .int) rfl).2
  have h2 : s.vm.findClass ("[" ++ FieldType.int.toString) = some cA := (hK.2 tys.length (cA, .int) (by simp)).2
  rw [h1] at h2
  exact (Option.some.inj h2).symm
theorem Ev.isJ (hE : Ev D cI cJ cZ s) {tys : List (ClassId × FieldType)} {cA : ClassId} (hK : va_K D vwCl (tys ++ [(cA, .long)]) s) : cA = cJ := by
  have h1 : s.vm.findClass ("[" ++ FieldType.long.toString) = some cJ := (hE.1.2 1 (cJ, .long) rfl).2
  have h2 : s.vm.findClass ("[" ++ FieldType.long.toString) = some cA := (hK.2 tys.length (cA, .long) (by simp)).2
  rw [h1] at h2
  exact (Option.some.inj h2).symm
theorem Ev.isZ (hE : Ev D cI cJ cZ s) {tys : List (ClassId × FieldType)} {cA : ClassId} (hK : va_K D vwCl (tys ++ [(cA, .boolean)]) s) : cA = cZ := by
  have h1 : s.vm.findClass ("[" ++ FieldType.boolean.toString) = some cZ := (hE.1.2 2 (cZ, .boolean) rfl).2
  have h2 : s.vm.findClass ("[" ++ FieldType.boolean.toString) = some cA := (hK.2 tys.length (cA, .boolean) (by simp)).2
  rw [h1] at h2
  exact (Option.some.inj h2).symm
theorem r_newI (hexec : p.tables.exec = Jvm.exec) (hb : c.code = cc) (harr : (Cond.arrayClass .int).before args s = true) (hE : Ev D cI cJ cZ s) (hP : va_P D vwCl ws H) (hD : va_D A ws) (hS : va_S A H0 H locs) (hA : ∀ q, H0.size ≤ q → A q) {N : Nat} (hN : N < 2 ^ 31) (hby : N * componentBytes .int ≤ 536870912) (hcells : cells + 1 ≤ R.cells) (hslots : slots + N ≤ R.slots) (hdg : decode cc pc = .ok (.newarray .int, 2)) (f : Nat → Int32) (hf : ∀ j, f j = 0)
    (kk : ∀ (q : Nat) (H1 : Heap), va_P D vwCl (ws ++ [(q, .inl (cI, N, .inl f))]) H1 → va_D A (ws ++ [(q, .inl (cI, N, .inl f))]) → va_S A H0 H1 locs → W p l e R s m args below meth c H1 locs (cells + 1) (slots + N) Q (F0 m (pc + 2) ls (.ref q :: rest))) : W p l e R s m args below meth c H locs cells slots Q (F0 m pc ls (.int (nI N) :: rest)) := by
  have e : f = fun _ => 0 := funext hf
  subst e
  refine va_newa (atype := .int) (ty := .int) hexec hb harr rfl hE.1 hP hD hS hA (N' := N) (a0 := (N, .inl (fun _ => 0))) (fun _ => rfl) (nI_pos hN) (nI_clamp hN) hby hcells hslots hdg (fun q cA H1 hK h1 h2 h3 => ?_)
  have e := hE.isI hK
  subst e
  exact kk q H1 h1 h2 h3
theorem r_newZ (hexec : p.tables.exec = Jvm.exec) (hb : c.code = cc) (harr : (Cond.arrayClass .boolean).before args s = true) (hE : Ev D cI cJ cZ s) (hP : va_P D vwCl ws H) (hD : va_D A ws) (hS : va_S A H0 H locs) (hA : ∀ q, H0.size ≤ q → A q) {N : Nat} (hN : N < 2 ^ 31) (hby : N * componentBytes .boolean ≤ 536870912) (hcells : cells + 1 ≤ R.cells) (hslots : slots + N ≤ R.slots) (hdg : decode cc pc = .ok (.newarray .boolean, 2)) (f : Nat → Int32) (hf : ∀ j, f j = 0)
    (kk : ∀ (q : Nat) (H1 : Heap), va_P D vwCl (ws ++ [(q, .inl (cZ, N, .inl f))]) H1 → va_D A (ws ++ [(q, .inl (cZ, N, .inl f))]) → va_S A H0 H1 locs → W p l e R s m args below meth c H1 locs (cells + 1) (slots + N) Q (F0 m (pc + 2) ls (.ref q :: rest))) : W p l e R s m args below meth c H locs cells slots Q (F0 m pc ls (.int (nI N) :: rest)) := by
  have e : f = fun _ => 0 := funext hf
  subst e
  refine va_newa (atype := .boolean) (ty := .boolean) hexec hb harr rfl hE.1 hP hD hS hA (N' := N) (a0 := (N, .inl (fun _ => 0))) (fun _ => rfl) (nI_pos hN) (nI_clamp hN) hby hcells hslots hdg (fun q cA H1 hK h1 h2 h3 => ?_)
  have e := hE.isZ hK
  subst e
  exact kk q H1 h1 h2 h3
theorem r_newJ (hexec : p.tables.exec = Jvm.exec) (hb : c.code = cc) (harr : (Cond.arrayClass .long).before args s = true) (hE : Ev D cI cJ cZ s) (hP : va_P D vwCl ws H) (hD : va_D A ws) (hS : va_S A H0 H locs) (hA : ∀ q, H0.size ≤ q → A q) {N : Nat} (hN : N < 2 ^ 31) (hby : N * componentBytes .long ≤ 536870912) (hcells : cells + 1 ≤ R.cells) (hslots : slots + N ≤ R.slots) (hdg : decode cc pc = .ok (.newarray .long, 2)) (f : Nat → Int64) (hf : ∀ j, f j = 0)
    (kk : ∀ (q : Nat) (H1 : Heap), va_P D vwCl (ws ++ [(q, .inl (cJ, N, .inr (.inl f)))]) H1 → va_D A (ws ++ [(q, .inl (cJ, N, .inr (.inl f)))]) → va_S A H0 H1 locs → W p l e R s m args below meth c H1 locs (cells + 1) (slots + N) Q (F0 m (pc + 2) ls (.ref q :: rest))) : W p l e R s m args below meth c H locs cells slots Q (F0 m pc ls (.int (nI N) :: rest)) := by
  have e : f = fun _ => 0 := funext hf
  subst e
  refine va_newa (atype := .long) (ty := .long) hexec hb harr rfl hE.1 hP hD hS hA (N' := N) (a0 := (N, .inr (.inl (fun _ => 0)))) (fun _ => rfl) (nI_pos hN) (nI_clamp hN) hby hcells hslots hdg (fun q cA H1 hK h1 h2 h3 => ?_)
  have e := hE.isJ hK
  subst e
  exact kk q H1 h1 h2 h3
end CallI
theorem sz_ok {y : Int32} (h1 : ¬ y < nI 1) (h2 : y ≤ nI 200) : ∃ m, 1 ≤ m ∧ m ≤ 200 ∧ y = nI m := by
  have h0 : ¬ y < 0 := by
    intro q
    apply h1
    rw [Int32.lt_iff_toInt_lt] at *
    have a1 : (0 : Int32).toInt = 0 := by decide
    have a2 : (nI 1).toInt = 1 := by decide
    omega
  obtain ⟨j, hj, rfl⟩ := nI_of2 (n := 200) (by decide) h0 h2
  exact ⟨j, by rcases Nat.eq_zero_or_pos j with q | q; exact absurd (by rw [q]; decide) h1; exact q, hj, rfl⟩

theorem fl_X3_count_16 : Cond.fieldLink RX3 16 "BlockRows" "ways" "LBlockRows$Ways;" ∈ wsX3_count := by decide +kernel
theorem in_X3_count_X3 : ∀ w ∈ wsX30, w ∈ wsX3_count := by decide +kernel
set_option maxHeartbeats 4000000 in
set_option maxRecDepth 100000 in
/-- BlockRows.count -/
theorem c_count (l : Launch) (D : va_G) (cI cJ cZ : ClassId) (x xh w g a b d aw hw cw n : Nat) (st : Bool) (wf wt wc wl_ kn : Nat) (fr tt ct : Nat → Nat) (fa : Nat → Bool) (hkn : kn ≤ 1000) (y1 y2 : Int32) : Met l yX3_count wsX3_count ({ frames := 2, cells := 0, slots := 0, locals := 46 }) (PcR D cI cJ cZ [.ref x, .int y1, .int y2] [(x, .inr (3, [.ref xh, .ref w, .ref g, .ref a, .ref b, .ref d, .long (lN aw), .long (lN hw), .long (lN cw), .int (nI n), .int (bI st)])), (w, .inr (2, [.ref wf, .ref wt, .ref wc, .ref wl_, .int (nI kn)])), (wf, .inl (cI, 1000, .inl (nIf fr))), (wt, .inl (cI, 1000, .inl (nIf tt))), (wc, .inl (cJ, 1000, .inr (.inl (lNf ct)))), (wl_, .inl (cZ, 1000, .inl (bIf fa)))]) (vp_Sl (fun r => ∃ o, Fnd fr tt kn y1 y2 o ∧ r = lN (ctO ct o))) 0 0 (fun _ => False) := by
  refine startR (cc := cX3_count) (maxL := 3) (ret := (some .long)) (by decide) rfl (Nat.le_of_ble_eq_true rfl) ?_
  intro p e s m below meth c ls hx hb hr hml hown hts hlocks hE hP hl
  have hl : lv_has ls 3 [(0, .ref x), (1, .int y1), (2, .int y2)] := hl
  refine lv_aload_n hx hb dX3_count_0 rfl (lv_at hl 0 rfl) ?_
  refine va_get (D := D) (ci := 3) (v := .ref w) (C := RX3) (T := TX3) (N := 11) hx hb hts in_X3_count_X3 hown hE.1 hP 0 rfl rfl 1 (by decide) (hts _ fl_X3_count_16) (fun _ h9 => h9) rfl dX3_count_1 ?_
  refine lv_iload_n hx hb dX3_count_4 rfl (lv_at hl 1 rfl) ?_
  refine lv_iload_n hx hb dX3_count_5 rfl (lv_at hl 2 rfl) ?_
  refine callRl (As := [.int y1, .int y2]) (rest := []) ⟨hx, hb, hml, hown, hts⟩ (c_told l D cI cJ cZ w wf wt wc wl_ kn fr tt ct fa hkn y1 y2) (cwV 2 hts gX3_count_X2_told rfl rfl rfl (by decide +kernel) ⟨Nat.le_of_ble_eq_true rfl, Nat.le_of_ble_eq_true rfl⟩) (preR hE hP 2 1 rfl rfl rfl [1, 2, 3, 4, 5] rfl) rfl hl.1 (Nat.le_of_ble_eq_true rfl) dX3_count_6 ⟨Nat.zero_le _, Nat.zero_le _⟩ rfl (fun r1 hr1 => ?_)
  exact e_l hx hb hr hlocks dX3_count_9 hr1

set_option maxHeartbeats 4000000 in
set_option maxRecDepth 100000 in
/-- BlockRows.size, refused -/
theorem c_sizeBad (l : Launch) (D : va_G) (cI cJ cZ : ClassId) (x xh w g a b d aw hw cw n : Nat) (st : Bool) (y : Int32) (hbad : ∀ m, 1 ≤ m → m ≤ 200 → y ≠ nI m) : Met l yX3_size wsX3_size ({ frames := 0, cells := 0, slots := 0, locals := 0 }) (PcR D cI cJ cZ [.ref x, .int y] [(x, .inr (3, [.ref xh, .ref w, .ref g, .ref a, .ref b, .ref d, .long (lN aw), .long (lN hw), .long (lN cw), .int (nI n), .int (bI st)]))]) (vp_Si (fun r => r = 0)) 0 0 (fun _ => False) := by
  refine startR (cc := cX3_size) (maxL := 3) (ret := (some .boolean)) (by decide) rfl (Nat.le_of_ble_eq_true rfl) ?_
  intro p e s m below meth c ls hx hb hr hml hown hts hlocks hE hP hl
  have hl : lv_has ls 3 [(0, .ref x), (1, .int y)] := hl
  refine lv_iload_n hx hb dX3_size_0 rfl (lv_at hl 1 rfl) ?_
  refine lv_iconst (v := nI 1) hx hb dX3_size_1 (by decide) ?_
  refine lv_icmp_lt (tgt := 12) hx hb dX3_size_2 (by decide) (fun c_2 => ?_) (fun c_2 => ?_)
  · skip
    refine lv_iconst (v := bI false) hx hb dX3_size_12 (by decide) ?_
    exact e_z false rfl hx hb hr hlocks dX3_size_13 rfl
  · skip
    refine lv_iload_n hx hb dX3_size_5 rfl (lv_at hl 1 rfl) ?_
    refine lv_sipush (v := nI 200) hx hb dX3_size_6 (by decide) ?_
    refine lv_icmp_le (tgt := 14) hx hb dX3_size_9 (by decide) (fun c_9 => ?_) (fun c_9 => ?_)
    · skip
      exact absurd (sz_ok c_2 c_9) (fun ⟨m, h1, h2, h3⟩ => hbad m h1 h2 h3)
    · skip
      refine lv_iconst (v := bI false) hx hb dX3_size_12 (by decide) ?_
      exact e_z false rfl hx hb hr hlocks dX3_size_13 rfl

theorem flm_X3_size_16 : Cond.fieldLink RX3 16 "BlockRows" "ways" "LBlockRows$Ways;" ∈ wsX3_size := by decide +kernel
theorem flm_X3_size_40 : Cond.fieldLink RX3 40 "BlockRows" "blocks" "I" ∈ wsX3_size := by decide +kernel
theorem flm_X3_size_44 : Cond.fieldLink RX3 44 "BlockRows" "stale" "Z" ∈ wsX3_size := by decide +kernel
theorem flm_X3_size_9 : Cond.fieldLink RX3 9 "BlockRows" "hot" "[Z" ∈ wsX3_size := by decide +kernel
theorem inm_X3_size_X3 : ∀ w ∈ wsX30, w ∈ wsX3_size := by decide +kernel
set_option maxHeartbeats 4000000 in
set_option maxRecDepth 100000 in
/-- BlockRows.size -/
theorem c_sizeOk (l : Launch) (D : va_G) (cI cJ cZ : ClassId) (x xh w g a b d aw hw cw n : Nat) (st : Bool) (wf wt wc wl_ kn : Nat) (fr tt ct : Nat → Nat) (fa : Nat → Bool) (hot : Nat → Bool) (sz m_ : Nat) (hm1 : 1 ≤ m_) (hm2 : m_ ≤ 200) : Met l yX3_size wsX3_size ({ frames := 1, cells := 0, slots := 0, locals := 20 }) (PcM D cI cJ cZ [.ref x, .int (nI m_)] [(x, .inr (3, [.ref xh, .ref w, .ref g, .ref a, .ref b, .ref d, .long (lN aw), .long (lN hw), .long (lN cw), .int (nI n), .int (bI st)])), (xh, .inl (cZ, 200, .inl (bIf hot))), (w, .inr (2, [.ref wf, .ref wt, .ref wc, .ref wl_, .int (nI kn)])), (wf, .inl (cI, 1000, .inl (nIf fr))), (wt, .inl (cI, 1000, .inl (nIf tt))), (wc, .inl (cJ, 1000, .inr (.inl (lNf ct)))), (wl_, .inl (cZ, 1000, .inl (bIf fa)))] sz) (va_Qi (fun r (_ : Unit) => r = 1) (Bm D [(x, .inr (3, [.ref xh, .ref w, .ref g, .ref a, .ref b, .ref d, .long (lN aw), .long (lN hw), .long (lN cw), .int (nI n), .int (bI st)])), (xh, .inl (cZ, 200, .inl (bIf hot))), (w, .inr (2, [.ref wf, .ref wt, .ref wc, .ref wl_, .int (nI kn)])), (wf, .inl (cI, 1000, .inl (nIf fr))), (wt, .inl (cI, 1000, .inl (nIf tt))), (wc, .inl (cJ, 1000, .inr (.inl (lNf ct)))), (wl_, .inl (cZ, 1000, .inl (bIf fa)))] sz (fun _ : Unit => [(x, .inr (3, [.ref xh, .ref w, .ref g, .ref a, .ref b, .ref d, .long (lN aw), .long (lN hw), .long (lN cw), .int (nI m_), .int (bI true)])), (xh, .inl (cZ, 200, .inl (bIf (fun _ => false)))), (w, .inr (2, [.ref wf, .ref wt, .ref wc, .ref wl_, .int (nI 0)])), (wf, .inl (cI, 1000, .inl (nIf fr))), (wt, .inl (cI, 1000, .inl (nIf tt))), (wc, .inl (cJ, 1000, .inr (.inl (lNf ct)))), (wl_, .inl (cZ, 1000, .inl (bIf fa)))])) (va_A [(x, .inr (3, [.ref xh, .ref w, .ref g, .ref a, .ref b, .ref d, .long (lN aw), .long (lN hw), .long (lN cw), .int (nI n), .int (bI st)])), (xh, .inl (cZ, 200, .inl (bIf hot))), (w, .inr (2, [.ref wf, .ref wt, .ref wc, .ref wl_, .int (nI kn)])), (wf, .inl (cI, 1000, .inl (nIf fr))), (wt, .inl (cI, 1000, .inl (nIf tt))), (wc, .inl (cJ, 1000, .inr (.inl (lNf ct)))), (wl_, .inl (cZ, 1000, .inl (bIf fa)))] sz)) 0 0 (va_A [(x, .inr (3, [.ref xh, .ref w, .ref g, .ref a, .ref b, .ref d, .long (lN aw), .long (lN hw), .long (lN cw), .int (nI n), .int (bI st)])), (xh, .inl (cZ, 200, .inl (bIf hot))), (w, .inr (2, [.ref wf, .ref wt, .ref wc, .ref wl_, .int (nI kn)])), (wf, .inl (cI, 1000, .inl (nIf fr))), (wt, .inl (cI, 1000, .inl (nIf tt))), (wc, .inl (cJ, 1000, .inr (.inl (lNf ct)))), (wl_, .inl (cZ, 1000, .inl (bIf fa)))] sz) := by
  refine startM (cc := cX3_size) (maxL := 3) (ret := (some .boolean)) (by decide) rfl (Nat.le_of_ble_eq_true rfl) ?_
  intro p e s m below meth c ls A hA hAe hx hb hr hml hown hts hlocks hin hE hP hD hS hl
  have hl : lv_has ls 3 [(0, .ref x), (1, .int (nI m_))] := hl
  refine lv_iload_n hx hb dX3_size_0 rfl (lv_at hl 1 rfl) ?_
  refine lv_iconst (v := nI 1) hx hb dX3_size_1 (by decide) ?_
  refine r_icmp_lt (tgt := 12) hx hb (x := m_) (y := 1) (by omega) (by omega) dX3_size_2 (by decide) (fun c_2 => ?_) (fun c_2 => ?_)
  · skip
    exact absurd c_2 (by omega)
  · skip
    refine lv_iload_n hx hb dX3_size_5 rfl (lv_at hl 1 rfl) ?_
    refine lv_sipush (v := nI 200) hx hb dX3_size_6 (by decide) ?_
    refine r_icmp_le (tgt := 14) hx hb (x := m_) (y := 200) (by omega) (by omega) dX3_size_9 (by decide) (fun c_9 => ?_) (fun c_9 => ?_)
    · skip
      refine lv_aload_n hx hb dX3_size_14 rfl (lv_at hl 0 rfl) ?_
      refine lv_iload_n hx hb dX3_size_15 rfl (lv_at hl 1 rfl) ?_
      refine va_put (D := D) (ci := 3) (v := .int (nI m_)) (ty := .int) (C := RX3) (T := TX3) (N := 11) hx hb hts inm_X3_size_X3 tyX3 tyX3_ok nmX3 hown hE.1 hP hD hS 0 rfl rfl 9 (by decide) (hts _ flm_X3_size_40) (fun _ h9 => h9) rfl (by decide +kernel) rfl rfl (Nat.le_of_ble_eq_true rfl) dX3_size_16 (fun H locs hP hD hS => ?_)
      have hP : va_P D vwCl [(x, .inr (3, [.ref xh, .ref w, .ref g, .ref a, .ref b, .ref d, .long (lN aw), .long (lN hw), .long (lN cw), .int (nI m_), .int (bI st)])), (xh, .inl (cZ, 200, .inl (bIf hot))), (w, .inr (2, [.ref wf, .ref wt, .ref wc, .ref wl_, .int (nI kn)])), (wf, .inl (cI, 1000, .inl (nIf fr))), (wt, .inl (cI, 1000, .inl (nIf tt))), (wc, .inl (cJ, 1000, .inr (.inl (lNf ct)))), (wl_, .inl (cZ, 1000, .inl (bIf fa)))] H := hP
      have hD : va_D A [(x, .inr (3, [.ref xh, .ref w, .ref g, .ref a, .ref b, .ref d, .long (lN aw), .long (lN hw), .long (lN cw), .int (nI m_), .int (bI st)])), (xh, .inl (cZ, 200, .inl (bIf hot))), (w, .inr (2, [.ref wf, .ref wt, .ref wc, .ref wl_, .int (nI kn)])), (wf, .inl (cI, 1000, .inl (nIf fr))), (wt, .inl (cI, 1000, .inl (nIf tt))), (wc, .inl (cJ, 1000, .inr (.inl (lNf ct)))), (wl_, .inl (cZ, 1000, .inl (bIf fa)))] := hD
      refine lv_iconst (v := nI 0) hx hb dX3_size_19 (by decide) ?_
      refine lv_istore_n (lv' := [(2, .int (nI 0)), (0, .ref x), (1, .int (nI m_))]) hx hb dX3_size_20 rfl hl (by decide) rfl (fun ls hl => ?_)
      refine r_loop (σ := Nat × (Nat → Bool)) (fun z0 => 200 - z0.1) (fun z0 H locs ls => (z0.1 ≤ 200 ∧ ∀ j, j < z0.1 → z0.2 j = false) ∧ va_P D vwCl [(x, .inr (3, [.ref xh, .ref w, .ref g, .ref a, .ref b, .ref d, .long (lN aw), .long (lN hw), .long (lN cw), .int (nI m_), .int (bI st)])), (xh, .inl (cZ, 200, .inl (bIf z0.2))), (w, .inr (2, [.ref wf, .ref wt, .ref wc, .ref wl_, .int (nI kn)])), (wf, .inl (cI, 1000, .inl (nIf fr))), (wt, .inl (cI, 1000, .inl (nIf tt))), (wc, .inl (cJ, 1000, .inr (.inl (lNf ct)))), (wl_, .inl (cZ, 1000, .inl (bIf fa)))] H ∧ va_D A [(x, .inr (3, [.ref xh, .ref w, .ref g, .ref a, .ref b, .ref d, .long (lN aw), .long (lN hw), .long (lN cw), .int (nI m_), .int (bI st)])), (xh, .inl (cZ, 200, .inl (bIf z0.2))), (w, .inr (2, [.ref wf, .ref wt, .ref wc, .ref wl_, .int (nI kn)])), (wf, .inl (cI, 1000, .inl (nIf fr))), (wt, .inl (cI, 1000, .inl (nIf tt))), (wc, .inl (cJ, 1000, .inr (.inl (lNf ct)))), (wl_, .inl (cZ, 1000, .inl (bIf fa)))] ∧ va_S A s.heap H locs ∧ lv_has ls 3 [(0, .ref x), (2, .int (nI z0.1))]) ?_ (0, hot) ⟨⟨by omega, fun j hj => by omega⟩, hP.sub [0, 1, 2, 3, 4, 5, 6] rfl, hD.sub [0, 1, 2, 3, 4, 5, 6] (by decide) rfl, hS, lv_sub hl [1, 0] rfl⟩
      rintro ⟨k, f⟩ H locs ls ⟨hi_21, hP, hD, hS, hl⟩ ih_21
      have hi_21 : k ≤ 200 ∧ ∀ j, j < k → f j = false := hi_21
      have hP : va_P D vwCl [(x, .inr (3, [.ref xh, .ref w, .ref g, .ref a, .ref b, .ref d, .long (lN aw), .long (lN hw), .long (lN cw), .int (nI m_), .int (bI st)])), (xh, .inl (cZ, 200, .inl (bIf f))), (w, .inr (2, [.ref wf, .ref wt, .ref wc, .ref wl_, .int (nI kn)])), (wf, .inl (cI, 1000, .inl (nIf fr))), (wt, .inl (cI, 1000, .inl (nIf tt))), (wc, .inl (cJ, 1000, .inr (.inl (lNf ct)))), (wl_, .inl (cZ, 1000, .inl (bIf fa)))] H := hP
      have hD : va_D A [(x, .inr (3, [.ref xh, .ref w, .ref g, .ref a, .ref b, .ref d, .long (lN aw), .long (lN hw), .long (lN cw), .int (nI m_), .int (bI st)])), (xh, .inl (cZ, 200, .inl (bIf f))), (w, .inr (2, [.ref wf, .ref wt, .ref wc, .ref wl_, .int (nI kn)])), (wf, .inl (cI, 1000, .inl (nIf fr))), (wt, .inl (cI, 1000, .inl (nIf tt))), (wc, .inl (cJ, 1000, .inr (.inl (lNf ct)))), (wl_, .inl (cZ, 1000, .inl (bIf fa)))] := hD
      have hl : lv_has ls 3 [(0, .ref x), (2, .int (nI k))] := hl
      obtain ⟨hi_a, hi_b⟩ := id hi_21
      refine lv_iload_n hx hb dX3_size_21 rfl (lv_at hl 1 rfl) ?_
      refine lv_sipush (v := nI 200) hx hb dX3_size_22 (by decide) ?_
      refine r_icmp_ge (tgt := 41) hx hb (x := k) (y := 200) (by omega) (by omega) dX3_size_25 (by decide) (fun c_25 => ?_) (fun c_25 => ?_)
      · skip
        have hP := P_extI hP 1 (bIf (fun _ => false)) rfl (fun j hj => congrArg bI (hi_b j (by omega)))
        have hD := D_ext (y := .inl (cZ, 200, .inl (bIf (fun _ => false)))) hD 1 rfl
        have hP : va_P D vwCl [(x, .inr (3, [.ref xh, .ref w, .ref g, .ref a, .ref b, .ref d, .long (lN aw), .long (lN hw), .long (lN cw), .int (nI m_), .int (bI st)])), (xh, .inl (cZ, 200, .inl (bIf (fun _ => false)))), (w, .inr (2, [.ref wf, .ref wt, .ref wc, .ref wl_, .int (nI kn)])), (wf, .inl (cI, 1000, .inl (nIf fr))), (wt, .inl (cI, 1000, .inl (nIf tt))), (wc, .inl (cJ, 1000, .inr (.inl (lNf ct)))), (wl_, .inl (cZ, 1000, .inl (bIf fa)))] H := hP
        have hD : va_D A [(x, .inr (3, [.ref xh, .ref w, .ref g, .ref a, .ref b, .ref d, .long (lN aw), .long (lN hw), .long (lN cw), .int (nI m_), .int (bI st)])), (xh, .inl (cZ, 200, .inl (bIf (fun _ => false)))), (w, .inr (2, [.ref wf, .ref wt, .ref wc, .ref wl_, .int (nI kn)])), (wf, .inl (cI, 1000, .inl (nIf fr))), (wt, .inl (cI, 1000, .inl (nIf tt))), (wc, .inl (cJ, 1000, .inr (.inl (lNf ct)))), (wl_, .inl (cZ, 1000, .inl (bIf fa)))] := hD
        refine lv_aload_n hx hb dX3_size_41 rfl (lv_at hl 0 rfl) ?_
        refine va_get (D := D) (ci := 3) (v := .ref w) (C := RX3) (T := TX3) (N := 11) hx hb hts inm_X3_size_X3 hown hE.1 hP 0 rfl rfl 1 (by decide) (hts _ flm_X3_size_16) (fun _ h9 => h9) rfl dX3_size_42 ?_
        refine callMv (As := []) (rest := []) (wr := [(x, .inr (3, [.ref xh, .ref w, .ref g, .ref a, .ref b, .ref d, .long (lN aw), .long (lN hw), .long (lN cw), .int (nI m_), .int (bI st)])), (xh, .inl (cZ, 200, .inl (bIf (fun _ => false))))]) ⟨hx, hb, hml, hown, hts⟩ (c_forget l D cI cJ cZ w wf wt wc wl_ kn fr tt ct fa _) (cwV 0 hts gX3_size_X2_forget rfl rfl rfl (by decide +kernel) ⟨Nat.le_of_ble_eq_true rfl, Nat.le_of_ble_eq_true rfl⟩) (preM hE hP hD 2 2 rfl rfl rfl [2, 3, 4, 5, 6] rfl rfl rfl) rfl hl.1 (Nat.le_of_ble_eq_true rfl) dX3_size_45 ⟨Nat.zero_le _, Nat.zero_le _⟩ rfl hP hD hS hA [2, 3, 4, 5, 6] [0, 1] rfl rfl (by decide) (by decide) (fun u_ H locs hu hP hD hS => ?_)
        have hP : va_P D vwCl [(x, .inr (3, [.ref xh, .ref w, .ref g, .ref a, .ref b, .ref d, .long (lN aw), .long (lN hw), .long (lN cw), .int (nI m_), .int (bI st)])), (xh, .inl (cZ, 200, .inl (bIf (fun _ => false)))), (w, .inr (2, [.ref wf, .ref wt, .ref wc, .ref wl_, .int (nI 0)])), (wf, .inl (cI, 1000, .inl (nIf fr))), (wt, .inl (cI, 1000, .inl (nIf tt))), (wc, .inl (cJ, 1000, .inr (.inl (lNf ct)))), (wl_, .inl (cZ, 1000, .inl (bIf fa)))] H := hP
        have hD : va_D A [(x, .inr (3, [.ref xh, .ref w, .ref g, .ref a, .ref b, .ref d, .long (lN aw), .long (lN hw), .long (lN cw), .int (nI m_), .int (bI st)])), (xh, .inl (cZ, 200, .inl (bIf (fun _ => false)))), (w, .inr (2, [.ref wf, .ref wt, .ref wc, .ref wl_, .int (nI 0)])), (wf, .inl (cI, 1000, .inl (nIf fr))), (wt, .inl (cI, 1000, .inl (nIf tt))), (wc, .inl (cJ, 1000, .inr (.inl (lNf ct)))), (wl_, .inl (cZ, 1000, .inl (bIf fa)))] := hD
        refine lv_aload_n hx hb dX3_size_48 rfl (lv_at hl 0 rfl) ?_
        refine lv_iconst (v := bI true) hx hb dX3_size_49 (by decide) ?_
        refine va_put (D := D) (ci := 3) (v := .int (bI true)) (ty := .boolean) (C := RX3) (T := TX3) (N := 11) hx hb hts inm_X3_size_X3 tyX3 tyX3_ok nmX3 hown hE.1 hP hD hS 0 rfl rfl 10 (by decide) (hts _ flm_X3_size_44) (fun _ h9 => h9) rfl (by decide +kernel) (bI_narrow _) (bI_fits _) (Nat.le_of_ble_eq_true rfl) dX3_size_50 (fun H locs hP hD hS => ?_)
        have hP : va_P D vwCl [(x, .inr (3, [.ref xh, .ref w, .ref g, .ref a, .ref b, .ref d, .long (lN aw), .long (lN hw), .long (lN cw), .int (nI m_), .int (bI true)])), (xh, .inl (cZ, 200, .inl (bIf (fun _ => false)))), (w, .inr (2, [.ref wf, .ref wt, .ref wc, .ref wl_, .int (nI 0)])), (wf, .inl (cI, 1000, .inl (nIf fr))), (wt, .inl (cI, 1000, .inl (nIf tt))), (wc, .inl (cJ, 1000, .inr (.inl (lNf ct)))), (wl_, .inl (cZ, 1000, .inl (bIf fa)))] H := hP
        have hD : va_D A [(x, .inr (3, [.ref xh, .ref w, .ref g, .ref a, .ref b, .ref d, .long (lN aw), .long (lN hw), .long (lN cw), .int (nI m_), .int (bI true)])), (xh, .inl (cZ, 200, .inl (bIf (fun _ => false)))), (w, .inr (2, [.ref wf, .ref wt, .ref wc, .ref wl_, .int (nI 0)])), (wf, .inl (cI, 1000, .inl (nIf fr))), (wt, .inl (cI, 1000, .inl (nIf tt))), (wc, .inl (cJ, 1000, .inr (.inl (lNf ct)))), (wl_, .inl (cZ, 1000, .inl (bIf fa)))] := hD
        refine lv_iconst (v := bI true) hx hb dX3_size_53 (by decide) ?_
        exact e_mz () true rfl hAe hx hb hr hlocks dX3_size_54 (hP.sub [0, 1, 2, 3, 4, 5, 6] rfl) (hD.sub [0, 1, 2, 3, 4, 5, 6] (by decide) rfl) hS rfl
      · skip
        refine lv_aload_n hx hb dX3_size_28 rfl (lv_at hl 0 rfl) ?_
        refine va_get (D := D) (ci := 3) (v := .ref xh) (C := RX3) (T := TX3) (N := 11) hx hb hts inm_X3_size_X3 hown hE.1 hP 0 rfl rfl 0 (by decide) (hts _ flm_X3_size_9) (fun _ h9 => h9) rfl dX3_size_29 ?_
        refine lv_iload_n hx hb dX3_size_32 rfl (lv_at hl 1 rfl) ?_
        refine lv_iconst (v := bI false) hx hb dX3_size_33 (by decide) ?_
        refine r_bst hx hb hE hP hD hS 1 rfl (k := k) false rfl (by omega) (by decide) dX3_size_34 (fun H locs hP hD hS => ?_)
        have hP : va_P D vwCl [(x, .inr (3, [.ref xh, .ref w, .ref g, .ref a, .ref b, .ref d, .long (lN aw), .long (lN hw), .long (lN cw), .int (nI m_), .int (bI st)])), (xh, .inl (cZ, 200, .inl (bIf (va_up f k false)))), (w, .inr (2, [.ref wf, .ref wt, .ref wc, .ref wl_, .int (nI kn)])), (wf, .inl (cI, 1000, .inl (nIf fr))), (wt, .inl (cI, 1000, .inl (nIf tt))), (wc, .inl (cJ, 1000, .inr (.inl (lNf ct)))), (wl_, .inl (cZ, 1000, .inl (bIf fa)))] H := hP
        have hD : va_D A [(x, .inr (3, [.ref xh, .ref w, .ref g, .ref a, .ref b, .ref d, .long (lN aw), .long (lN hw), .long (lN cw), .int (nI m_), .int (bI st)])), (xh, .inl (cZ, 200, .inl (bIf (va_up f k false)))), (w, .inr (2, [.ref wf, .ref wt, .ref wc, .ref wl_, .int (nI kn)])), (wf, .inl (cI, 1000, .inl (nIf fr))), (wt, .inl (cI, 1000, .inl (nIf tt))), (wc, .inl (cJ, 1000, .inr (.inl (lNf ct)))), (wl_, .inl (cZ, 1000, .inl (bIf fa)))] := hD
        refine lv_iinc (v := (nI (k + 1))) (lv' := [(2, .int (nI (k + 1))), (0, .ref x)]) hx hb dX3_size_35 hl (k := 1) rfl (nI_1 _) (by decide) rfl (fun ls hl => ?_)
        refine lv_goto (tgt := 21) hx hb dX3_size_38 (by decide) ?_
        exact ih_21 (k + 1, va_up f k false) _ _ _ ⟨(show (k + 1) ≤ 200 ∧ ∀ j, j < (k + 1) → (va_up f k false) j = false from ⟨by omega, lt_s (fun j hj => by rw [va_up_ne _ _ (by omega)]; exact hi_21.2 j hj) (by rw [va_up_self])⟩), hP.sub [0, 1, 2, 3, 4, 5, 6] rfl, hD.sub [0, 1, 2, 3, 4, 5, 6] (by decide) rfl, hS, lv_sub hl [1, 0] rfl⟩ (by show 200 - (k + 1) < 200 - k; omega)
    · skip
      exact absurd c_9 (by omega)

set_option maxHeartbeats 4000000 in
set_option maxRecDepth 100000 in
/-- BlockRows.heat, refused -/
theorem c_heatBad (l : Launch) (D : va_G) (cI cJ cZ : ClassId) (x xh w g a b d aw hw cw n : Nat) (st : Bool) (hn : n ≤ 200) (y : Int32) (fl : Bool) (hbad : isB n y = false) : Met l yX3_heat wsX3_heat ({ frames := 1, cells := 0, slots := 0, locals := 21 }) (PcR D cI cJ cZ [.ref x, .int y, .int (bI fl)] [(x, .inr (3, [.ref xh, .ref w, .ref g, .ref a, .ref b, .ref d, .long (lN aw), .long (lN hw), .long (lN cw), .int (nI n), .int (bI st)]))]) (vp_Si (fun r => r = 0)) 0 0 (fun _ => False) := by
  refine startR (cc := cX3_heat) (maxL := 3) (ret := (some .boolean)) (by decide) rfl (Nat.le_of_ble_eq_true rfl) ?_
  intro p e s m below meth c ls hx hb hr hml hown hts hlocks hE hP hl
  have hl : lv_has ls 3 [(0, .ref x), (1, .int y), (2, .int (bI fl))] := hl
  refine lv_aload_n hx hb dX3_heat_0 rfl (lv_at hl 0 rfl) ?_
  refine lv_iload_n hx hb dX3_heat_1 rfl (lv_at hl 1 rfl) ?_
  refine callRi (As := [.int y]) (rest := []) ⟨hx, hb, hml, hown, hts⟩ (c_isBlock l D cI cJ cZ x xh w g a b d aw hw cw n st hn y) (cwV 1 hts gX3_heat_X3_isBlock rfl rfl rfl (by decide +kernel) ⟨Nat.le_of_ble_eq_true rfl, Nat.le_of_ble_eq_true rfl⟩) (preR hE hP 3 0 rfl rfl rfl [0] rfl) rfl hl.1 (Nat.le_of_ble_eq_true rfl) dX3_heat_2 ⟨Nat.zero_le _, Nat.zero_le _⟩ rfl (fun r_2 hr_2 => ?_)
  subst hr_2
  refine r_b_ne (tgt := 10) hx hb dX3_heat_5 (by decide) (fun c_5 => ?_) (fun c_5 => ?_)
  · skip
    exact absurd c_5 (by rw [hbad]; decide)
  · skip
    refine lv_iconst (v := bI false) hx hb dX3_heat_8 (by decide) ?_
    exact e_z false rfl hx hb hr hlocks dX3_heat_9 rfl

theorem flm_X3_heat_44 : Cond.fieldLink RX3 44 "BlockRows" "stale" "Z" ∈ wsX3_heat := by decide +kernel
theorem flm_X3_heat_9 : Cond.fieldLink RX3 9 "BlockRows" "hot" "[Z" ∈ wsX3_heat := by decide +kernel
theorem inm_X3_heat_X3 : ∀ w ∈ wsX30, w ∈ wsX3_heat := by decide +kernel
set_option maxHeartbeats 4000000 in
set_option maxRecDepth 100000 in
/-- BlockRows.heat -/
theorem c_heatOk (l : Launch) (D : va_G) (cI cJ cZ : ClassId) (x xh w g a b d aw hw cw n : Nat) (st : Bool) (hot : Nat → Bool) (hn : n ≤ 200) (sz j : Nat) (fl : Bool) (hj : j < n) : Met l yX3_heat wsX3_heat ({ frames := 1, cells := 0, slots := 0, locals := 21 }) (PcM D cI cJ cZ [.ref x, .int (nI j), .int (bI fl)] [(x, .inr (3, [.ref xh, .ref w, .ref g, .ref a, .ref b, .ref d, .long (lN aw), .long (lN hw), .long (lN cw), .int (nI n), .int (bI st)])), (xh, .inl (cZ, 200, .inl (bIf hot)))] sz) (va_Qi (fun r (_ : Unit) => r = 1) (Bm D [(x, .inr (3, [.ref xh, .ref w, .ref g, .ref a, .ref b, .ref d, .long (lN aw), .long (lN hw), .long (lN cw), .int (nI n), .int (bI st)])), (xh, .inl (cZ, 200, .inl (bIf hot)))] sz (fun _ : Unit => [(x, .inr (3, [.ref xh, .ref w, .ref g, .ref a, .ref b, .ref d, .long (lN aw), .long (lN hw), .long (lN cw), .int (nI n), .int (bI true)])), (xh, .inl (cZ, 200, .inl (bIf (va_up hot j fl))))])) (va_A [(x, .inr (3, [.ref xh, .ref w, .ref g, .ref a, .ref b, .ref d, .long (lN aw), .long (lN hw), .long (lN cw), .int (nI n), .int (bI st)])), (xh, .inl (cZ, 200, .inl (bIf hot)))] sz)) 0 0 (va_A [(x, .inr (3, [.ref xh, .ref w, .ref g, .ref a, .ref b, .ref d, .long (lN aw), .long (lN hw), .long (lN cw), .int (nI n), .int (bI st)])), (xh, .inl (cZ, 200, .inl (bIf hot)))] sz) := by
  refine startM (cc := cX3_heat) (maxL := 3) (ret := (some .boolean)) (by decide) rfl (Nat.le_of_ble_eq_true rfl) ?_
  intro p e s m below meth c ls A hA hAe hx hb hr hml hown hts hlocks hin hE hP hD hS hl
  have hl : lv_has ls 3 [(0, .ref x), (1, .int (nI j)), (2, .int (bI fl))] := hl
  refine lv_aload_n hx hb dX3_heat_0 rfl (lv_at hl 0 rfl) ?_
  refine lv_iload_n hx hb dX3_heat_1 rfl (lv_at hl 1 rfl) ?_
  refine callRi (As := [.int (nI j)]) (rest := []) ⟨hx, hb, hml, hown, hts⟩ (c_isBlock l D cI cJ cZ x xh w g a b d aw hw cw n st hn (nI j)) (cwV 1 hts gX3_heat_X3_isBlock rfl rfl rfl (by decide +kernel) ⟨Nat.le_of_ble_eq_true rfl, Nat.le_of_ble_eq_true rfl⟩) (preR hE hP 3 0 rfl rfl rfl [0] rfl) rfl hl.1 (Nat.le_of_ble_eq_true rfl) dX3_heat_2 ⟨Nat.zero_le _, Nat.zero_le _⟩ rfl (fun r_2 hr_2 => ?_)
  subst hr_2
  refine r_b_ne (tgt := 10) hx hb dX3_heat_5 (by decide) (fun c_5 => ?_) (fun c_5 => ?_)
  · skip
    refine lv_aload_n hx hb dX3_heat_10 rfl (lv_at hl 0 rfl) ?_
    refine va_get (D := D) (ci := 3) (v := .ref xh) (C := RX3) (T := TX3) (N := 11) hx hb hts inm_X3_heat_X3 hown hE.1 hP 0 rfl rfl 0 (by decide) (hts _ flm_X3_heat_9) (fun _ h9 => h9) rfl dX3_heat_11 ?_
    refine lv_iload_n hx hb dX3_heat_14 rfl (lv_at hl 1 rfl) ?_
    refine lv_iload_n hx hb dX3_heat_15 rfl (lv_at hl 2 rfl) ?_
    refine r_bst hx hb hE hP hD hS 1 rfl (k := j) fl rfl (by omega) (by decide) dX3_heat_16 (fun H locs hP hD hS => ?_)
    have hP : va_P D vwCl [(x, .inr (3, [.ref xh, .ref w, .ref g, .ref a, .ref b, .ref d, .long (lN aw), .long (lN hw), .long (lN cw), .int (nI n), .int (bI st)])), (xh, .inl (cZ, 200, .inl (bIf (va_up hot j fl))))] H := hP
    have hD : va_D A [(x, .inr (3, [.ref xh, .ref w, .ref g, .ref a, .ref b, .ref d, .long (lN aw), .long (lN hw), .long (lN cw), .int (nI n), .int (bI st)])), (xh, .inl (cZ, 200, .inl (bIf (va_up hot j fl))))] := hD
    refine lv_aload_n hx hb dX3_heat_17 rfl (lv_at hl 0 rfl) ?_
    refine lv_iconst (v := bI true) hx hb dX3_heat_18 (by decide) ?_
    refine va_put (D := D) (ci := 3) (v := .int (bI true)) (ty := .boolean) (C := RX3) (T := TX3) (N := 11) hx hb hts inm_X3_heat_X3 tyX3 tyX3_ok nmX3 hown hE.1 hP hD hS 0 rfl rfl 10 (by decide) (hts _ flm_X3_heat_44) (fun _ h9 => h9) rfl (by decide +kernel) (bI_narrow _) (bI_fits _) (Nat.le_of_ble_eq_true rfl) dX3_heat_19 (fun H locs hP hD hS => ?_)
    have hP : va_P D vwCl [(x, .inr (3, [.ref xh, .ref w, .ref g, .ref a, .ref b, .ref d, .long (lN aw), .long (lN hw), .long (lN cw), .int (nI n), .int (bI true)])), (xh, .inl (cZ, 200, .inl (bIf (va_up hot j fl))))] H := hP
    have hD : va_D A [(x, .inr (3, [.ref xh, .ref w, .ref g, .ref a, .ref b, .ref d, .long (lN aw), .long (lN hw), .long (lN cw), .int (nI n), .int (bI true)])), (xh, .inl (cZ, 200, .inl (bIf (va_up hot j fl))))] := hD
    refine lv_iconst (v := bI true) hx hb dX3_heat_22 (by decide) ?_
    exact e_mz () true rfl hAe hx hb hr hlocks dX3_heat_23 hP hD hS rfl
  · skip
    exact absurd c_5 (by rw [isB_nI (by omega)]; simp; omega)

theorem wd_X3_way_c55 : Cond.constantLong RX3 55 (-1) ∈ wsX3_way := by decide +kernel
set_option maxHeartbeats 4000000 in
set_option maxRecDepth 100000 in
/-- BlockRows.way: no such blocks -/
theorem c_wayBad1 (l : Launch) (D : va_G) (cI cJ cZ : ClassId) (x xh w g a b d aw hw cw n : Nat) (st : Bool) (hn : n ≤ 200) (y1 y2 y3 : Int32) (fl : Bool) (hbad : (isB n y1 && isB n y2) = false) : Met l yX3_way wsX3_way ({ frames := 1, cells := 0, slots := 0, locals := 21 }) (PcR D cI cJ cZ [.ref x, .int y1, .int y2, .int y3, .int (bI fl)] [(x, .inr (3, [.ref xh, .ref w, .ref g, .ref a, .ref b, .ref d, .long (lN aw), .long (lN hw), .long (lN cw), .int (nI n), .int (bI st)]))]) (vp_Sl (fun r => r = -1)) 0 0 (fun _ => False) := by
  refine startR (cc := cX3_way) (maxL := 5) (ret := (some .long)) (by decide) rfl (Nat.le_of_ble_eq_true rfl) ?_
  intro p e s m below meth c ls hx hb hr hml hown hts hlocks hE hP hl
  have hl : lv_has ls 5 [(0, .ref x), (1, .int y1), (2, .int y2), (3, .int y3), (4, .int (bI fl))] := hl
  refine lv_aload_n hx hb dX3_way_0 rfl (lv_at hl 0 rfl) ?_
  refine lv_iload_n hx hb dX3_way_1 rfl (lv_at hl 1 rfl) ?_
  refine callRi (As := [.int y1]) (rest := []) ⟨hx, hb, hml, hown, hts⟩ (c_isBlock l D cI cJ cZ x xh w g a b d aw hw cw n st hn y1) (cwV 1 hts gX3_way_X3_isBlock rfl rfl rfl (by decide +kernel) ⟨Nat.le_of_ble_eq_true rfl, Nat.le_of_ble_eq_true rfl⟩) (preR hE hP 3 0 rfl rfl rfl [0] rfl) rfl hl.1 (Nat.le_of_ble_eq_true rfl) dX3_way_2 ⟨Nat.zero_le _, Nat.zero_le _⟩ rfl (fun r_2 hr_2 => ?_)
  subst hr_2
  refine r_b_eq (tgt := 16) hx hb dX3_way_5 (by decide) (fun c_5 => ?_) (fun c_5 => ?_)
  · skip
    refine lv_ldc2 (v := (-1)) hx hb hown (hts _ wd_X3_way_c55) dX3_way_16 ?_
    exact e_l hx hb hr hlocks dX3_way_19 rfl
  · skip
    refine lv_aload_n hx hb dX3_way_8 rfl (lv_at hl 0 rfl) ?_
    refine lv_iload_n hx hb dX3_way_9 rfl (lv_at hl 2 rfl) ?_
    refine callRi (As := [.int y2]) (rest := []) ⟨hx, hb, hml, hown, hts⟩ (c_isBlock l D cI cJ cZ x xh w g a b d aw hw cw n st hn y2) (cwV 1 hts gX3_way_X3_isBlock rfl rfl rfl (by decide +kernel) ⟨Nat.le_of_ble_eq_true rfl, Nat.le_of_ble_eq_true rfl⟩) (preR hE hP 3 0 rfl rfl rfl [0] rfl) rfl hl.1 (Nat.le_of_ble_eq_true rfl) dX3_way_10 ⟨Nat.zero_le _, Nat.zero_le _⟩ rfl (fun r_10 hr_10 => ?_)
    subst hr_10
    refine r_b_ne (tgt := 20) hx hb dX3_way_13 (by decide) (fun c_13 => ?_) (fun c_13 => ?_)
    · skip
      exact absurd hbad (by rw [c_5, c_13]; decide)
    · skip
      refine lv_ldc2 (v := (-1)) hx hb hown (hts _ wd_X3_way_c55) dX3_way_16 ?_
      exact e_l hx hb hr hlocks dX3_way_19 rfl

theorem wdb_X3_way_c57 : Cond.constant RX3 57 (1000000000) ∈ wsX3_way := by decide +kernel
theorem wdb_X3_way_c58 : Cond.constantLong RX3 58 (-2) ∈ wsX3_way := by decide +kernel
set_option maxHeartbeats 4000000 in
set_option maxRecDepth 100000 in
/-- BlockRows.way: no such count -/
theorem c_wayBad2 (l : Launch) (D : va_G) (cI cJ cZ : ClassId) (x xh w g a b d aw hw cw n : Nat) (st : Bool) (hn : n ≤ 200) (u v : Nat) (hu : u < n) (hv : v < n) (y3 : Int32) (fl : Bool) (hbad : ∀ m, m ≤ 1000000000 → y3 ≠ nI m) : Met l yX3_way wsX3_way ({ frames := 1, cells := 0, slots := 0, locals := 21 }) (PcR D cI cJ cZ [.ref x, .int (nI u), .int (nI v), .int y3, .int (bI fl)] [(x, .inr (3, [.ref xh, .ref w, .ref g, .ref a, .ref b, .ref d, .long (lN aw), .long (lN hw), .long (lN cw), .int (nI n), .int (bI st)]))]) (vp_Sl (fun r => r = -2)) 0 0 (fun _ => False) := by
  refine startR (cc := cX3_way) (maxL := 5) (ret := (some .long)) (by decide) rfl (Nat.le_of_ble_eq_true rfl) ?_
  intro p e s m below meth c ls hx hb hr hml hown hts hlocks hE hP hl
  have hl : lv_has ls 5 [(0, .ref x), (1, .int (nI u)), (2, .int (nI v)), (3, .int y3), (4, .int (bI fl))] := hl
  refine lv_aload_n hx hb dX3_way_0 rfl (lv_at hl 0 rfl) ?_
  refine lv_iload_n hx hb dX3_way_1 rfl (lv_at hl 1 rfl) ?_
  refine callRi (As := [.int (nI u)]) (rest := []) ⟨hx, hb, hml, hown, hts⟩ (c_isBlock l D cI cJ cZ x xh w g a b d aw hw cw n st hn (nI u)) (cwV 1 hts gX3_way_X3_isBlock rfl rfl rfl (by decide +kernel) ⟨Nat.le_of_ble_eq_true rfl, Nat.le_of_ble_eq_true rfl⟩) (preR hE hP 3 0 rfl rfl rfl [0] rfl) rfl hl.1 (Nat.le_of_ble_eq_true rfl) dX3_way_2 ⟨Nat.zero_le _, Nat.zero_le _⟩ rfl (fun r_2 hr_2 => ?_)
  subst hr_2
  refine r_b_eq (tgt := 16) hx hb dX3_way_5 (by decide) (fun c_5 => ?_) (fun c_5 => ?_)
  · skip
    exact absurd c_5 (by rw [isB_nI (by omega)]; simp; omega)
  · skip
    refine lv_aload_n hx hb dX3_way_8 rfl (lv_at hl 0 rfl) ?_
    refine lv_iload_n hx hb dX3_way_9 rfl (lv_at hl 2 rfl) ?_
    refine callRi (As := [.int (nI v)]) (rest := []) ⟨hx, hb, hml, hown, hts⟩ (c_isBlock l D cI cJ cZ x xh w g a b d aw hw cw n st hn (nI v)) (cwV 1 hts gX3_way_X3_isBlock rfl rfl rfl (by decide +kernel) ⟨Nat.le_of_ble_eq_true rfl, Nat.le_of_ble_eq_true rfl⟩) (preR hE hP 3 0 rfl rfl rfl [0] rfl) rfl hl.1 (Nat.le_of_ble_eq_true rfl) dX3_way_10 ⟨Nat.zero_le _, Nat.zero_le _⟩ rfl (fun r_10 hr_10 => ?_)
    subst hr_10
    refine r_b_ne (tgt := 20) hx hb dX3_way_13 (by decide) (fun c_13 => ?_) (fun c_13 => ?_)
    · skip
      refine lv_iload_n hx hb dX3_way_20 rfl (lv_at hl 3 rfl) ?_
      refine lv_if_lt (tgt := 30) hx hb dX3_way_21 (by decide) (fun c_21 => ?_) (fun c_21 => ?_)
      · skip
        refine lv_ldc2 (v := (-2)) hx hb hown (hts _ wdb_X3_way_c58) dX3_way_30 ?_
        exact e_l hx hb hr hlocks dX3_way_33 rfl
      · skip
        refine lv_iload_n hx hb dX3_way_24 rfl (lv_at hl 3 rfl) ?_
        refine lv_ldc (v := 1000000000) hx hb hown (hts _ wdb_X3_way_c57) dX3_way_25 ?_
        refine r_as (w := .int (nI 1000000000)) (by decide) ?_
        refine lv_icmp_le (tgt := 34) hx hb dX3_way_27 (by decide) (fun c_27 => ?_) (fun c_27 => ?_)
        · skip
          exact absurd (nI_of2 (n := 1000000000) (by decide) c_21 c_27) (fun ⟨m, h1, h2⟩ => hbad m h1 h2)
        · skip
          refine lv_ldc2 (v := (-2)) hx hb hown (hts _ wdb_X3_way_c58) dX3_way_30 ?_
          exact e_l hx hb hr hlocks dX3_way_33 rfl
    · skip
      exact absurd c_13 (by rw [isB_nI (by omega)]; simp; omega)

theorem flm_X3_way_16 : Cond.fieldLink RX3 16 "BlockRows" "ways" "LBlockRows$Ways;" ∈ wsX3_way := by decide +kernel
theorem flm_X3_way_44 : Cond.fieldLink RX3 44 "BlockRows" "stale" "Z" ∈ wsX3_way := by decide +kernel
theorem inm_X3_way_X3 : ∀ w ∈ wsX30, w ∈ wsX3_way := by decide +kernel
theorem wdm_X3_way_c57 : Cond.constant RX3 57 (1000000000) ∈ wsX3_way := by decide +kernel
set_option maxHeartbeats 4000000 in
set_option maxRecDepth 100000 in
/-- BlockRows.way -/
theorem c_wayOk (l : Launch) (D : va_G) (cI cJ cZ : ClassId) (x xh w g a b d aw hw cw n : Nat) (st : Bool) (wf wt wc wl_ kn : Nat) (fr tt ct : Nat → Nat) (fa : Nat → Bool) (hn : n ≤ 200) (hkn : kn ≤ 1000) (hB : WB fr tt ct) (hS0 : Srt kn (pk fr tt ct fa)) (hK0 : KdL (wl kn (pk fr tt ct fa))) (sz u v cn : Nat) (fl : Bool) (hu : u < n) (hv : v < n) (hcn : cn ≤ 1000000000) : Met l yX3_way wsX3_way ({ frames := 3, cells := 0, slots := 0, locals := 76 }) (PcM D cI cJ cZ [.ref x, .int (nI u), .int (nI v), .int (nI cn), .int (bI fl)] [(x, .inr (3, [.ref xh, .ref w, .ref g, .ref a, .ref b, .ref d, .long (lN aw), .long (lN hw), .long (lN cw), .int (nI n), .int (bI st)])), (w, .inr (2, [.ref wf, .ref wt, .ref wc, .ref wl_, .int (nI kn)])), (wf, .inl (cI, 1000, .inl (nIf fr))), (wt, .inl (cI, 1000, .inl (nIf tt))), (wc, .inl (cJ, 1000, .inr (.inl (lNf ct)))), (wl_, .inl (cZ, 1000, .inl (bIf fa)))] sz) (va_Ql (fun r (z : (Nat → Nat) × (Nat → Nat) × (Nat → Nat) × (Nat → Bool) × Nat) => TellPost (wl kn (pk fr tt ct fa)) u v cn fl r z.2.2.2.2 (pk z.1 z.2.1 z.2.2.1 z.2.2.2.1) ∧ WB z.1 z.2.1 z.2.2.1) (Bm D [(x, .inr (3, [.ref xh, .ref w, .ref g, .ref a, .ref b, .ref d, .long (lN aw), .long (lN hw), .long (lN cw), .int (nI n), .int (bI st)])), (w, .inr (2, [.ref wf, .ref wt, .ref wc, .ref wl_, .int (nI kn)])), (wf, .inl (cI, 1000, .inl (nIf fr))), (wt, .inl (cI, 1000, .inl (nIf tt))), (wc, .inl (cJ, 1000, .inr (.inl (lNf ct)))), (wl_, .inl (cZ, 1000, .inl (bIf fa)))] sz (fun z : (Nat → Nat) × (Nat → Nat) × (Nat → Nat) × (Nat → Bool) × Nat => [(x, .inr (3, [.ref xh, .ref w, .ref g, .ref a, .ref b, .ref d, .long (lN aw), .long (lN hw), .long (lN cw), .int (nI n), .int (bI true)])), (w, .inr (2, [.ref wf, .ref wt, .ref wc, .ref wl_, .int (nI z.2.2.2.2)])), (wf, .inl (cI, 1000, .inl (nIf z.1))), (wt, .inl (cI, 1000, .inl (nIf z.2.1))), (wc, .inl (cJ, 1000, .inr (.inl (lNf z.2.2.1)))), (wl_, .inl (cZ, 1000, .inl (bIf z.2.2.2.1)))])) (va_A [(x, .inr (3, [.ref xh, .ref w, .ref g, .ref a, .ref b, .ref d, .long (lN aw), .long (lN hw), .long (lN cw), .int (nI n), .int (bI st)])), (w, .inr (2, [.ref wf, .ref wt, .ref wc, .ref wl_, .int (nI kn)])), (wf, .inl (cI, 1000, .inl (nIf fr))), (wt, .inl (cI, 1000, .inl (nIf tt))), (wc, .inl (cJ, 1000, .inr (.inl (lNf ct)))), (wl_, .inl (cZ, 1000, .inl (bIf fa)))] sz)) 0 0 (va_A [(x, .inr (3, [.ref xh, .ref w, .ref g, .ref a, .ref b, .ref d, .long (lN aw), .long (lN hw), .long (lN cw), .int (nI n), .int (bI st)])), (w, .inr (2, [.ref wf, .ref wt, .ref wc, .ref wl_, .int (nI kn)])), (wf, .inl (cI, 1000, .inl (nIf fr))), (wt, .inl (cI, 1000, .inl (nIf tt))), (wc, .inl (cJ, 1000, .inr (.inl (lNf ct)))), (wl_, .inl (cZ, 1000, .inl (bIf fa)))] sz) := by
  refine startM (cc := cX3_way) (maxL := 5) (ret := (some .long)) (by decide) rfl (Nat.le_of_ble_eq_true rfl) ?_
  intro p e s m below meth c ls A hA hAe hx hb hr hml hown hts hlocks hin hE hP hD hS hl
  have hl : lv_has ls 5 [(0, .ref x), (1, .int (nI u)), (2, .int (nI v)), (3, .int (nI cn)), (4, .int (bI fl))] := hl
  refine lv_aload_n hx hb dX3_way_0 rfl (lv_at hl 0 rfl) ?_
  refine lv_iload_n hx hb dX3_way_1 rfl (lv_at hl 1 rfl) ?_
  refine callRi (As := [.int (nI u)]) (rest := []) ⟨hx, hb, hml, hown, hts⟩ (c_isBlock l D cI cJ cZ x xh w g a b d aw hw cw n st hn (nI u)) (cwV 1 hts gX3_way_X3_isBlock rfl rfl rfl (by decide +kernel) ⟨Nat.le_of_ble_eq_true rfl, Nat.le_of_ble_eq_true rfl⟩) (preR hE hP 3 0 rfl rfl rfl [0] rfl) rfl hl.1 (Nat.le_of_ble_eq_true rfl) dX3_way_2 ⟨Nat.zero_le _, Nat.zero_le _⟩ rfl (fun r_2 hr_2 => ?_)
  subst hr_2
  refine r_b_eq (tgt := 16) hx hb dX3_way_5 (by decide) (fun c_5 => ?_) (fun c_5 => ?_)
  · skip
    exact absurd c_5 (by rw [isB_nI (by omega)]; simp; omega)
  · skip
    refine lv_aload_n hx hb dX3_way_8 rfl (lv_at hl 0 rfl) ?_
    refine lv_iload_n hx hb dX3_way_9 rfl (lv_at hl 2 rfl) ?_
    refine callRi (As := [.int (nI v)]) (rest := []) ⟨hx, hb, hml, hown, hts⟩ (c_isBlock l D cI cJ cZ x xh w g a b d aw hw cw n st hn (nI v)) (cwV 1 hts gX3_way_X3_isBlock rfl rfl rfl (by decide +kernel) ⟨Nat.le_of_ble_eq_true rfl, Nat.le_of_ble_eq_true rfl⟩) (preR hE hP 3 0 rfl rfl rfl [0] rfl) rfl hl.1 (Nat.le_of_ble_eq_true rfl) dX3_way_10 ⟨Nat.zero_le _, Nat.zero_le _⟩ rfl (fun r_10 hr_10 => ?_)
    subst hr_10
    refine r_b_ne (tgt := 20) hx hb dX3_way_13 (by decide) (fun c_13 => ?_) (fun c_13 => ?_)
    · skip
      refine lv_iload_n hx hb dX3_way_20 rfl (lv_at hl 3 rfl) ?_
      refine lv_if_lt (tgt := 30) hx hb dX3_way_21 (by decide) (fun c_21 => ?_) (fun c_21 => ?_)
      · skip
        exact absurd c_21 (nI_pos (by omega))
      · skip
        refine lv_iload_n hx hb dX3_way_24 rfl (lv_at hl 3 rfl) ?_
        refine lv_ldc (v := 1000000000) hx hb hown (hts _ wdm_X3_way_c57) dX3_way_25 ?_
        refine r_as (w := .int (nI 1000000000)) (by decide) ?_
        refine r_icmp_le (tgt := 34) hx hb (x := cn) (y := 1000000000) (by omega) (by omega) dX3_way_27 (by decide) (fun c_27 => ?_) (fun c_27 => ?_)
        · skip
          refine lv_aload_n hx hb dX3_way_34 rfl (lv_at hl 0 rfl) ?_
          refine lv_iconst (v := bI true) hx hb dX3_way_35 (by decide) ?_
          refine va_put (D := D) (ci := 3) (v := .int (bI true)) (ty := .boolean) (C := RX3) (T := TX3) (N := 11) hx hb hts inm_X3_way_X3 tyX3 tyX3_ok nmX3 hown hE.1 hP hD hS 0 rfl rfl 10 (by decide) (hts _ flm_X3_way_44) (fun _ h9 => h9) rfl (by decide +kernel) (bI_narrow _) (bI_fits _) (Nat.le_of_ble_eq_true rfl) dX3_way_36 (fun H locs hP hD hS => ?_)
          have hP : va_P D vwCl [(x, .inr (3, [.ref xh, .ref w, .ref g, .ref a, .ref b, .ref d, .long (lN aw), .long (lN hw), .long (lN cw), .int (nI n), .int (bI true)])), (w, .inr (2, [.ref wf, .ref wt, .ref wc, .ref wl_, .int (nI kn)])), (wf, .inl (cI, 1000, .inl (nIf fr))), (wt, .inl (cI, 1000, .inl (nIf tt))), (wc, .inl (cJ, 1000, .inr (.inl (lNf ct)))), (wl_, .inl (cZ, 1000, .inl (bIf fa)))] H := hP
          have hD : va_D A [(x, .inr (3, [.ref xh, .ref w, .ref g, .ref a, .ref b, .ref d, .long (lN aw), .long (lN hw), .long (lN cw), .int (nI n), .int (bI true)])), (w, .inr (2, [.ref wf, .ref wt, .ref wc, .ref wl_, .int (nI kn)])), (wf, .inl (cI, 1000, .inl (nIf fr))), (wt, .inl (cI, 1000, .inl (nIf tt))), (wc, .inl (cJ, 1000, .inr (.inl (lNf ct)))), (wl_, .inl (cZ, 1000, .inl (bIf fa)))] := hD
          refine lv_aload_n hx hb dX3_way_39 rfl (lv_at hl 0 rfl) ?_
          refine va_get (D := D) (ci := 3) (v := .ref w) (C := RX3) (T := TX3) (N := 11) hx hb hts inm_X3_way_X3 hown hE.1 hP 0 rfl rfl 1 (by decide) (hts _ flm_X3_way_16) (fun _ h9 => h9) rfl dX3_way_40 ?_
          refine lv_iload_n hx hb dX3_way_43 rfl (lv_at hl 1 rfl) ?_
          refine lv_iload_n hx hb dX3_way_44 rfl (lv_at hl 2 rfl) ?_
          refine lv_iload_n hx hb dX3_way_45 rfl (lv_at hl 3 rfl) ?_
          refine lv_iload hx hb dX3_way_46 (lv_at hl 4 rfl) ?_
          refine callMl (As := [.int (nI u), .int (nI v), .int (nI cn), .int (bI fl)]) (rest := []) (wr := [(x, .inr (3, [.ref xh, .ref w, .ref g, .ref a, .ref b, .ref d, .long (lN aw), .long (lN hw), .long (lN cw), .int (nI n), .int (bI true)]))]) ⟨hx, hb, hml, hown, hts⟩ (c_tell l D cI cJ cZ w wf wt wc wl_ kn fr tt ct fa _ hkn hB hS0 hK0 u v cn fl (by omega) (by omega) hcn) (cwV 4 hts gX3_way_X2_tell rfl rfl rfl (by decide +kernel) ⟨Nat.le_of_ble_eq_true rfl, Nat.le_of_ble_eq_true rfl⟩) (preM hE hP hD 2 1 rfl rfl rfl [1, 2, 3, 4, 5] rfl rfl rfl) rfl hl.1 (Nat.le_of_ble_eq_true rfl) dX3_way_48 ⟨Nat.zero_le _, Nat.zero_le _⟩ rfl hP hD hS hA [1, 2, 3, 4, 5] [0] rfl rfl (by decide) (by decide) (fun r1 z H locs hu_ hP hD hS => ?_)
          have hP : va_P D vwCl [(x, .inr (3, [.ref xh, .ref w, .ref g, .ref a, .ref b, .ref d, .long (lN aw), .long (lN hw), .long (lN cw), .int (nI n), .int (bI true)])), (w, .inr (2, [.ref wf, .ref wt, .ref wc, .ref wl_, .int (nI z.2.2.2.2)])), (wf, .inl (cI, 1000, .inl (nIf z.1))), (wt, .inl (cI, 1000, .inl (nIf z.2.1))), (wc, .inl (cJ, 1000, .inr (.inl (lNf z.2.2.1)))), (wl_, .inl (cZ, 1000, .inl (bIf z.2.2.2.1)))] H := hP
          have hD : va_D A [(x, .inr (3, [.ref xh, .ref w, .ref g, .ref a, .ref b, .ref d, .long (lN aw), .long (lN hw), .long (lN cw), .int (nI n), .int (bI true)])), (w, .inr (2, [.ref wf, .ref wt, .ref wc, .ref wl_, .int (nI z.2.2.2.2)])), (wf, .inl (cI, 1000, .inl (nIf z.1))), (wt, .inl (cI, 1000, .inl (nIf z.2.1))), (wc, .inl (cJ, 1000, .inr (.inl (lNf z.2.2.1)))), (wl_, .inl (cZ, 1000, .inl (bIf z.2.2.2.1)))] := hD
          exact e_ml z hAe hx hb hr hlocks dX3_way_51 hP hD hS hu_
        · skip
          exact absurd c_27 (by omega)
    · skip
      exact absurd c_13 (by rw [isB_nI (by omega)]; simp; omega)
end
section
theorem fl_X1_init_15 : Cond.fieldLink RX1 15 "BlockRows$Line" "places" "[I" ∈ wsX1_init := by decide +kernel
theorem fl_X1_init_9 : Cond.fieldLink RX1 9 "BlockRows$Line" "members" "[I" ∈ wsX1_init := by decide +kernel
theorem in_X1_init_X1 : ∀ w ∈ wsX10, w ∈ wsX1_init := by decide +kernel
theorem wd_X1_init_arrint : Cond.arrayClass .int ∈ wsX1_init := by decide +kernel
theorem wd_X1_init_oi1 : Cond.methodLink RX1 3 objectInit ∈ wsX1_init := by decide +kernel
theorem wd_X1_init_oi2 : Cond.instanceMethod objectInit ∈ wsX1_init := by decide +kernel
theorem wd_X1_init_oi3 : Cond.code objectInit ⟨#[0xb1]⟩ 1 none ∈ wsX1_init := by decide +kernel
set_option maxHeartbeats 4000000 in
set_option maxRecDepth 100000 in
/-- Line() -/
theorem c_lineNew (l : Launch) (D : va_G) (cI cJ cZ : ClassId) (h sz : Nat) : Met l yX1_init wsX1_init ({ frames := 1, cells := 2, slots := 400, locals := 12 }) (PcM D cI cJ cZ [.ref h] [(h, .inr (1, [.null, .null, .int (nI 0)]))] sz) (va_Qv (fun _ : Nat × Nat => True) (Bm D [(h, .inr (1, [.null, .null, .int (nI 0)]))] sz (fun z : Nat × Nat => [(h, .inr (1, [.ref z.1, .ref z.2, .int (nI 0)])), (z.1, .inl (cI, 200, .inl (nIf (fun _ => 0)))), (z.2, .inl (cI, 200, .inl (oIf (fun _ => some 0))))])) (va_A [(h, .inr (1, [.null, .null, .int (nI 0)]))] sz)) 2 400 (va_A [(h, .inr (1, [.null, .null, .int (nI 0)]))] sz) := by
  refine startM (cc := cX1_init) (maxL := 1) (ret := none) (by decide) rfl (Nat.le_of_ble_eq_true rfl) ?_
  intro p e s m below meth c ls A hA hAe hx hb hr hml hown hts hlocks hin hE hP hD hS hl
  have hl : lv_has ls 1 [(0, .ref h)] := hl
  refine lv_aload_n hx hb dX1_init_0 rfl (lv_at hl 0 rfl) ?_
  refine W.objInit hx hb hown (hts _ wd_X1_init_oi1) (hts _ wd_X1_init_oi2) (hts _ wd_X1_init_oi3) rfl (by rw [hml]; exact hl.1) rfl dX1_init_1 (Nat.le_of_ble_eq_true rfl) (Nat.le_of_ble_eq_true rfl) ?_
  refine W.eq (g2 := F0 m 4 ls []) rfl ?_
  refine lv_aload_n hx hb dX1_init_4 rfl (lv_at hl 0 rfl) ?_
  refine lv_sipush (v := nI 200) hx hb dX1_init_5 (by decide) ?_
  refine r_newI hx hb (hts _ wd_X1_init_arrint) hE hP hD hS hA (N := 200) (by decide) (by decide) (Nat.le_of_ble_eq_true rfl) (Nat.le_of_ble_eq_true rfl) dX1_init_8 (nIf (fun _ => 0)) (fun _ => rfl) (fun am H hP hD hS => ?_)
  have hP : va_P D vwCl [(h, .inr (1, [.null, .null, .int (nI 0)])), (am, .inl (cI, 200, .inl (nIf (fun _ => 0))))] H := hP
  have hD : va_D A [(h, .inr (1, [.null, .null, .int (nI 0)])), (am, .inl (cI, 200, .inl (nIf (fun _ => 0))))] := hD
  refine va_putF (D := D) (ci := 1) (v := .ref am) (ty := .array .int) (C := RX1) (T := TX1) (N := 3) hx hb hts in_X1_init_X1 tyX1 tyX1_ok nmX1 hown hE.1 hP hD hS 0 rfl rfl 0 (by decide) (hts _ fl_X1_init_9) (fun _ h9 => h9) rfl hin rfl (by decide +kernel) rfl rfl (Nat.le_of_ble_eq_true rfl) dX1_init_10 (fun H locs hP hD hS => ?_)
  have hP : va_P D vwCl [(h, .inr (1, [.ref am, .null, .int (nI 0)])), (am, .inl (cI, 200, .inl (nIf (fun _ => 0))))] H := hP
  have hD : va_D A [(h, .inr (1, [.ref am, .null, .int (nI 0)])), (am, .inl (cI, 200, .inl (nIf (fun _ => 0))))] := hD
  refine lv_aload_n hx hb dX1_init_13 rfl (lv_at hl 0 rfl) ?_
  refine lv_sipush (v := nI 200) hx hb dX1_init_14 (by decide) ?_
  refine r_newI hx hb (hts _ wd_X1_init_arrint) hE hP hD hS hA (N := 200) (by decide) (by decide) (Nat.le_of_ble_eq_true rfl) (Nat.le_of_ble_eq_true rfl) dX1_init_17 (oIf (fun _ => some 0)) (fun _ => rfl) (fun ap H hP hD hS => ?_)
  have hP : va_P D vwCl [(h, .inr (1, [.ref am, .null, .int (nI 0)])), (am, .inl (cI, 200, .inl (nIf (fun _ => 0)))), (ap, .inl (cI, 200, .inl (oIf (fun _ => some 0))))] H := hP
  have hD : va_D A [(h, .inr (1, [.ref am, .null, .int (nI 0)])), (am, .inl (cI, 200, .inl (nIf (fun _ => 0)))), (ap, .inl (cI, 200, .inl (oIf (fun _ => some 0))))] := hD
  refine va_putF (D := D) (ci := 1) (v := .ref ap) (ty := .array .int) (C := RX1) (T := TX1) (N := 3) hx hb hts in_X1_init_X1 tyX1 tyX1_ok nmX1 hown hE.1 hP hD hS 0 rfl rfl 1 (by decide) (hts _ fl_X1_init_15) (fun _ h9 => h9) rfl hin rfl (by decide +kernel) rfl rfl (Nat.le_of_ble_eq_true rfl) dX1_init_19 (fun H locs hP hD hS => ?_)
  have hP : va_P D vwCl [(h, .inr (1, [.ref am, .ref ap, .int (nI 0)])), (am, .inl (cI, 200, .inl (nIf (fun _ => 0)))), (ap, .inl (cI, 200, .inl (oIf (fun _ => some 0))))] H := hP
  have hD : va_D A [(h, .inr (1, [.ref am, .ref ap, .int (nI 0)])), (am, .inl (cI, 200, .inl (nIf (fun _ => 0)))), (ap, .inl (cI, 200, .inl (oIf (fun _ => some 0))))] := hD
  refine W.widen (k := 2) (n := 400) (by omega) (by omega) ?_
  exact e_mv (am, ap) hAe hx hb hr hlocks dX1_init_22 (hP.sub [0, 1, 2] rfl) (hD.sub [0, 1, 2] (by decide) rfl) hS trivial

theorem fl_X2_init_15 : Cond.fieldLink RX2 15 "BlockRows$Ways" "to" "[I" ∈ wsX2_init := by decide +kernel
theorem fl_X2_init_18 : Cond.fieldLink RX2 18 "BlockRows$Ways" "counts" "[J" ∈ wsX2_init := by decide +kernel
theorem fl_X2_init_22 : Cond.fieldLink RX2 22 "BlockRows$Ways" "falling" "[Z" ∈ wsX2_init := by decide +kernel
theorem fl_X2_init_9 : Cond.fieldLink RX2 9 "BlockRows$Ways" "from" "[I" ∈ wsX2_init := by decide +kernel
theorem in_X2_init_X2 : ∀ w ∈ wsX20, w ∈ wsX2_init := by decide +kernel
theorem wd_X2_init_arrboolean : Cond.arrayClass .boolean ∈ wsX2_init := by decide +kernel
theorem wd_X2_init_arrint : Cond.arrayClass .int ∈ wsX2_init := by decide +kernel
theorem wd_X2_init_arrlong : Cond.arrayClass .long ∈ wsX2_init := by decide +kernel
theorem wd_X2_init_oi1 : Cond.methodLink RX2 3 objectInit ∈ wsX2_init := by decide +kernel
theorem wd_X2_init_oi2 : Cond.instanceMethod objectInit ∈ wsX2_init := by decide +kernel
theorem wd_X2_init_oi3 : Cond.code objectInit ⟨#[0xb1]⟩ 1 none ∈ wsX2_init := by decide +kernel
set_option maxHeartbeats 4000000 in
set_option maxRecDepth 100000 in
/-- Ways() -/
theorem c_waysNew (l : Launch) (D : va_G) (cI cJ cZ : ClassId) (h sz : Nat) : Met l yX2_init wsX2_init ({ frames := 1, cells := 4, slots := 4000, locals := 12 }) (PcM D cI cJ cZ [.ref h] [(h, .inr (2, [.null, .null, .null, .null, .int (nI 0)]))] sz) (va_Qv (fun _ : Nat × Nat × Nat × Nat => True) (Bm D [(h, .inr (2, [.null, .null, .null, .null, .int (nI 0)]))] sz (fun z : Nat × Nat × Nat × Nat => [(h, .inr (2, [.ref z.1, .ref z.2.1, .ref z.2.2.1, .ref z.2.2.2, .int (nI 0)])), (z.1, .inl (cI, 1000, .inl (nIf (fun _ => 0)))), (z.2.1, .inl (cI, 1000, .inl (nIf (fun _ => 0)))), (z.2.2.1, .inl (cJ, 1000, .inr (.inl (lNf (fun _ => 0))))), (z.2.2.2, .inl (cZ, 1000, .inl (bIf (fun _ => false))))])) (va_A [(h, .inr (2, [.null, .null, .null, .null, .int (nI 0)]))] sz)) 4 4000 (va_A [(h, .inr (2, [.null, .null, .null, .null, .int (nI 0)]))] sz) := by
  refine startM (cc := cX2_init) (maxL := 1) (ret := none) (by decide) rfl (Nat.le_of_ble_eq_true rfl) ?_
  intro p e s m below meth c ls A hA hAe hx hb hr hml hown hts hlocks hin hE hP hD hS hl
  have hl : lv_has ls 1 [(0, .ref h)] := hl
  refine lv_aload_n hx hb dX2_init_0 rfl (lv_at hl 0 rfl) ?_
  refine W.objInit hx hb hown (hts _ wd_X2_init_oi1) (hts _ wd_X2_init_oi2) (hts _ wd_X2_init_oi3) rfl (by rw [hml]; exact hl.1) rfl dX2_init_1 (Nat.le_of_ble_eq_true rfl) (Nat.le_of_ble_eq_true rfl) ?_
  refine W.eq (g2 := F0 m 4 ls []) rfl ?_
  refine lv_aload_n hx hb dX2_init_4 rfl (lv_at hl 0 rfl) ?_
  refine lv_sipush (v := nI 1000) hx hb dX2_init_5 (by decide) ?_
  refine r_newI hx hb (hts _ wd_X2_init_arrint) hE hP hD hS hA (N := 1000) (by decide) (by decide) (Nat.le_of_ble_eq_true rfl) (Nat.le_of_ble_eq_true rfl) dX2_init_8 (nIf (fun _ => 0)) (fun _ => rfl) (fun af H hP hD hS => ?_)
  have hP : va_P D vwCl [(h, .inr (2, [.null, .null, .null, .null, .int (nI 0)])), (af, .inl (cI, 1000, .inl (nIf (fun _ => 0))))] H := hP
  have hD : va_D A [(h, .inr (2, [.null, .null, .null, .null, .int (nI 0)])), (af, .inl (cI, 1000, .inl (nIf (fun _ => 0))))] := hD
  refine va_putF (D := D) (ci := 2) (v := .ref af) (ty := .array .int) (C := RX2) (T := TX2) (N := 5) hx hb hts in_X2_init_X2 tyX2 tyX2_ok nmX2 hown hE.1 hP hD hS 0 rfl rfl 0 (by decide) (hts _ fl_X2_init_9) (fun _ h9 => h9) rfl hin rfl (by decide +kernel) rfl rfl (Nat.le_of_ble_eq_true rfl) dX2_init_10 (fun H locs hP hD hS => ?_)
  have hP : va_P D vwCl [(h, .inr (2, [.ref af, .null, .null, .null, .int (nI 0)])), (af, .inl (cI, 1000, .inl (nIf (fun _ => 0))))] H := hP
  have hD : va_D A [(h, .inr (2, [.ref af, .null, .null, .null, .int (nI 0)])), (af, .inl (cI, 1000, .inl (nIf (fun _ => 0))))] := hD
  refine lv_aload_n hx hb dX2_init_13 rfl (lv_at hl 0 rfl) ?_
  refine lv_sipush (v := nI 1000) hx hb dX2_init_14 (by decide) ?_
  refine r_newI hx hb (hts _ wd_X2_init_arrint) hE hP hD hS hA (N := 1000) (by decide) (by decide) (Nat.le_of_ble_eq_true rfl) (Nat.le_of_ble_eq_true rfl) dX2_init_17 (nIf (fun _ => 0)) (fun _ => rfl) (fun at_ H hP hD hS => ?_)
  have hP : va_P D vwCl [(h, .inr (2, [.ref af, .null, .null, .null, .int (nI 0)])), (af, .inl (cI, 1000, .inl (nIf (fun _ => 0)))), (at_, .inl (cI, 1000, .inl (nIf (fun _ => 0))))] H := hP
  have hD : va_D A [(h, .inr (2, [.ref af, .null, .null, .null, .int (nI 0)])), (af, .inl (cI, 1000, .inl (nIf (fun _ => 0)))), (at_, .inl (cI, 1000, .inl (nIf (fun _ => 0))))] := hD
  refine va_putF (D := D) (ci := 2) (v := .ref at_) (ty := .array .int) (C := RX2) (T := TX2) (N := 5) hx hb hts in_X2_init_X2 tyX2 tyX2_ok nmX2 hown hE.1 hP hD hS 0 rfl rfl 1 (by decide) (hts _ fl_X2_init_15) (fun _ h9 => h9) rfl hin rfl (by decide +kernel) rfl rfl (Nat.le_of_ble_eq_true rfl) dX2_init_19 (fun H locs hP hD hS => ?_)
  have hP : va_P D vwCl [(h, .inr (2, [.ref af, .ref at_, .null, .null, .int (nI 0)])), (af, .inl (cI, 1000, .inl (nIf (fun _ => 0)))), (at_, .inl (cI, 1000, .inl (nIf (fun _ => 0))))] H := hP
  have hD : va_D A [(h, .inr (2, [.ref af, .ref at_, .null, .null, .int (nI 0)])), (af, .inl (cI, 1000, .inl (nIf (fun _ => 0)))), (at_, .inl (cI, 1000, .inl (nIf (fun _ => 0))))] := hD
  refine lv_aload_n hx hb dX2_init_22 rfl (lv_at hl 0 rfl) ?_
  refine lv_sipush (v := nI 1000) hx hb dX2_init_23 (by decide) ?_
  refine r_newJ hx hb (hts _ wd_X2_init_arrlong) hE hP hD hS hA (N := 1000) (by decide) (by decide) (Nat.le_of_ble_eq_true rfl) (Nat.le_of_ble_eq_true rfl) dX2_init_26 (lNf (fun _ => 0)) (fun _ => rfl) (fun ac H hP hD hS => ?_)
  have hP : va_P D vwCl [(h, .inr (2, [.ref af, .ref at_, .null, .null, .int (nI 0)])), (af, .inl (cI, 1000, .inl (nIf (fun _ => 0)))), (at_, .inl (cI, 1000, .inl (nIf (fun _ => 0)))), (ac, .inl (cJ, 1000, .inr (.inl (lNf (fun _ => 0)))))] H := hP
  have hD : va_D A [(h, .inr (2, [.ref af, .ref at_, .null, .null, .int (nI 0)])), (af, .inl (cI, 1000, .inl (nIf (fun _ => 0)))), (at_, .inl (cI, 1000, .inl (nIf (fun _ => 0)))), (ac, .inl (cJ, 1000, .inr (.inl (lNf (fun _ => 0)))))] := hD
  refine va_putF (D := D) (ci := 2) (v := .ref ac) (ty := .array .long) (C := RX2) (T := TX2) (N := 5) hx hb hts in_X2_init_X2 tyX2 tyX2_ok nmX2 hown hE.1 hP hD hS 0 rfl rfl 2 (by decide) (hts _ fl_X2_init_18) (fun _ h9 => h9) rfl hin rfl (by decide +kernel) rfl rfl (Nat.le_of_ble_eq_true rfl) dX2_init_28 (fun H locs hP hD hS => ?_)
  have hP : va_P D vwCl [(h, .inr (2, [.ref af, .ref at_, .ref ac, .null, .int (nI 0)])), (af, .inl (cI, 1000, .inl (nIf (fun _ => 0)))), (at_, .inl (cI, 1000, .inl (nIf (fun _ => 0)))), (ac, .inl (cJ, 1000, .inr (.inl (lNf (fun _ => 0)))))] H := hP
  have hD : va_D A [(h, .inr (2, [.ref af, .ref at_, .ref ac, .null, .int (nI 0)])), (af, .inl (cI, 1000, .inl (nIf (fun _ => 0)))), (at_, .inl (cI, 1000, .inl (nIf (fun _ => 0)))), (ac, .inl (cJ, 1000, .inr (.inl (lNf (fun _ => 0)))))] := hD
  refine lv_aload_n hx hb dX2_init_31 rfl (lv_at hl 0 rfl) ?_
  refine lv_sipush (v := nI 1000) hx hb dX2_init_32 (by decide) ?_
  refine r_newZ hx hb (hts _ wd_X2_init_arrboolean) hE hP hD hS hA (N := 1000) (by decide) (by decide) (Nat.le_of_ble_eq_true rfl) (Nat.le_of_ble_eq_true rfl) dX2_init_35 (bIf (fun _ => false)) (fun _ => rfl) (fun al H hP hD hS => ?_)
  have hP : va_P D vwCl [(h, .inr (2, [.ref af, .ref at_, .ref ac, .null, .int (nI 0)])), (af, .inl (cI, 1000, .inl (nIf (fun _ => 0)))), (at_, .inl (cI, 1000, .inl (nIf (fun _ => 0)))), (ac, .inl (cJ, 1000, .inr (.inl (lNf (fun _ => 0))))), (al, .inl (cZ, 1000, .inl (bIf (fun _ => false))))] H := hP
  have hD : va_D A [(h, .inr (2, [.ref af, .ref at_, .ref ac, .null, .int (nI 0)])), (af, .inl (cI, 1000, .inl (nIf (fun _ => 0)))), (at_, .inl (cI, 1000, .inl (nIf (fun _ => 0)))), (ac, .inl (cJ, 1000, .inr (.inl (lNf (fun _ => 0))))), (al, .inl (cZ, 1000, .inl (bIf (fun _ => false))))] := hD
  refine va_putF (D := D) (ci := 2) (v := .ref al) (ty := .array .boolean) (C := RX2) (T := TX2) (N := 5) hx hb hts in_X2_init_X2 tyX2 tyX2_ok nmX2 hown hE.1 hP hD hS 0 rfl rfl 3 (by decide) (hts _ fl_X2_init_22) (fun _ h9 => h9) rfl hin rfl (by decide +kernel) rfl rfl (Nat.le_of_ble_eq_true rfl) dX2_init_37 (fun H locs hP hD hS => ?_)
  have hP : va_P D vwCl [(h, .inr (2, [.ref af, .ref at_, .ref ac, .ref al, .int (nI 0)])), (af, .inl (cI, 1000, .inl (nIf (fun _ => 0)))), (at_, .inl (cI, 1000, .inl (nIf (fun _ => 0)))), (ac, .inl (cJ, 1000, .inr (.inl (lNf (fun _ => 0))))), (al, .inl (cZ, 1000, .inl (bIf (fun _ => false))))] H := hP
  have hD : va_D A [(h, .inr (2, [.ref af, .ref at_, .ref ac, .ref al, .int (nI 0)])), (af, .inl (cI, 1000, .inl (nIf (fun _ => 0)))), (at_, .inl (cI, 1000, .inl (nIf (fun _ => 0)))), (ac, .inl (cJ, 1000, .inr (.inl (lNf (fun _ => 0))))), (al, .inl (cZ, 1000, .inl (bIf (fun _ => false))))] := hD
  refine W.widen (k := 4) (n := 4000) (by omega) (by omega) ?_
  exact e_mv (af, at_, ac, al) hAe hx hb hr hlocks dX2_init_40 (hP.sub [0, 1, 2, 3, 4] rfl) (hD.sub [0, 1, 2, 3, 4] (by decide) rfl) hS trivial

theorem fl_X0_init_15 : Cond.fieldLink RX0 15 "BlockRows$Chains" "next" "[I" ∈ wsX0_init := by decide +kernel
theorem fl_X0_init_18 : Cond.fieldLink RX0 18 "BlockRows$Chains" "pulls" "[J" ∈ wsX0_init := by decide +kernel
theorem fl_X0_init_9 : Cond.fieldLink RX0 9 "BlockRows$Chains" "first" "[I" ∈ wsX0_init := by decide +kernel
theorem in_X0_init_X0 : ∀ w ∈ wsX00, w ∈ wsX0_init := by decide +kernel
theorem wd_X0_init_arrint : Cond.arrayClass .int ∈ wsX0_init := by decide +kernel
theorem wd_X0_init_arrlong : Cond.arrayClass .long ∈ wsX0_init := by decide +kernel
theorem wd_X0_init_oi1 : Cond.methodLink RX0 3 objectInit ∈ wsX0_init := by decide +kernel
theorem wd_X0_init_oi2 : Cond.instanceMethod objectInit ∈ wsX0_init := by decide +kernel
theorem wd_X0_init_oi3 : Cond.code objectInit ⟨#[0xb1]⟩ 1 none ∈ wsX0_init := by decide +kernel
set_option maxHeartbeats 4000000 in
set_option maxRecDepth 100000 in
/-- Chains() -/
theorem c_chainsNew (l : Launch) (D : va_G) (cI cJ cZ : ClassId) (h sz : Nat) : Met l yX0_init wsX0_init ({ frames := 1, cells := 3, slots := 600, locals := 12 }) (PcM D cI cJ cZ [.ref h] [(h, .inr (0, [.null, .null, .null]))] sz) (va_Qv (fun _ : Nat × Nat × Nat => True) (Bm D [(h, .inr (0, [.null, .null, .null]))] sz (fun z : Nat × Nat × Nat => [(h, .inr (0, [.ref z.1, .ref z.2.1, .ref z.2.2])), (z.1, .inl (cI, 200, .inl (oIf (fun _ => some 0)))), (z.2.1, .inl (cI, 200, .inl (oIf (fun _ => some 0)))), (z.2.2, .inl (cJ, 200, .inr (.inl (lNf (fun _ => 0)))))])) (va_A [(h, .inr (0, [.null, .null, .null]))] sz)) 3 600 (va_A [(h, .inr (0, [.null, .null, .null]))] sz) := by
  refine startM (cc := cX0_init) (maxL := 1) (ret := none) (by decide) rfl (Nat.le_of_ble_eq_true rfl) ?_
  intro p e s m below meth c ls A hA hAe hx hb hr hml hown hts hlocks hin hE hP hD hS hl
  have hl : lv_has ls 1 [(0, .ref h)] := hl
  refine lv_aload_n hx hb dX0_init_0 rfl (lv_at hl 0 rfl) ?_
  refine W.objInit hx hb hown (hts _ wd_X0_init_oi1) (hts _ wd_X0_init_oi2) (hts _ wd_X0_init_oi3) rfl (by rw [hml]; exact hl.1) rfl dX0_init_1 (Nat.le_of_ble_eq_true rfl) (Nat.le_of_ble_eq_true rfl) ?_
  refine W.eq (g2 := F0 m 4 ls []) rfl ?_
  refine lv_aload_n hx hb dX0_init_4 rfl (lv_at hl 0 rfl) ?_
  refine lv_sipush (v := nI 200) hx hb dX0_init_5 (by decide) ?_
  refine r_newI hx hb (hts _ wd_X0_init_arrint) hE hP hD hS hA (N := 200) (by decide) (by decide) (Nat.le_of_ble_eq_true rfl) (Nat.le_of_ble_eq_true rfl) dX0_init_8 (oIf (fun _ => some 0)) (fun _ => rfl) (fun cf H hP hD hS => ?_)
  have hP : va_P D vwCl [(h, .inr (0, [.null, .null, .null])), (cf, .inl (cI, 200, .inl (oIf (fun _ => some 0))))] H := hP
  have hD : va_D A [(h, .inr (0, [.null, .null, .null])), (cf, .inl (cI, 200, .inl (oIf (fun _ => some 0))))] := hD
  refine va_putF (D := D) (ci := 0) (v := .ref cf) (ty := .array .int) (C := RX0) (T := TX0) (N := 3) hx hb hts in_X0_init_X0 tyX0 tyX0_ok nmX0 hown hE.1 hP hD hS 0 rfl rfl 0 (by decide) (hts _ fl_X0_init_9) (fun _ h9 => h9) rfl hin rfl (by decide +kernel) rfl rfl (Nat.le_of_ble_eq_true rfl) dX0_init_10 (fun H locs hP hD hS => ?_)
  have hP : va_P D vwCl [(h, .inr (0, [.ref cf, .null, .null])), (cf, .inl (cI, 200, .inl (oIf (fun _ => some 0))))] H := hP
  have hD : va_D A [(h, .inr (0, [.ref cf, .null, .null])), (cf, .inl (cI, 200, .inl (oIf (fun _ => some 0))))] := hD
  refine lv_aload_n hx hb dX0_init_13 rfl (lv_at hl 0 rfl) ?_
  refine lv_sipush (v := nI 200) hx hb dX0_init_14 (by decide) ?_
  refine r_newI hx hb (hts _ wd_X0_init_arrint) hE hP hD hS hA (N := 200) (by decide) (by decide) (Nat.le_of_ble_eq_true rfl) (Nat.le_of_ble_eq_true rfl) dX0_init_17 (oIf (fun _ => some 0)) (fun _ => rfl) (fun cn H hP hD hS => ?_)
  have hP : va_P D vwCl [(h, .inr (0, [.ref cf, .null, .null])), (cf, .inl (cI, 200, .inl (oIf (fun _ => some 0)))), (cn, .inl (cI, 200, .inl (oIf (fun _ => some 0))))] H := hP
  have hD : va_D A [(h, .inr (0, [.ref cf, .null, .null])), (cf, .inl (cI, 200, .inl (oIf (fun _ => some 0)))), (cn, .inl (cI, 200, .inl (oIf (fun _ => some 0))))] := hD
  refine va_putF (D := D) (ci := 0) (v := .ref cn) (ty := .array .int) (C := RX0) (T := TX0) (N := 3) hx hb hts in_X0_init_X0 tyX0 tyX0_ok nmX0 hown hE.1 hP hD hS 0 rfl rfl 1 (by decide) (hts _ fl_X0_init_15) (fun _ h9 => h9) rfl hin rfl (by decide +kernel) rfl rfl (Nat.le_of_ble_eq_true rfl) dX0_init_19 (fun H locs hP hD hS => ?_)
  have hP : va_P D vwCl [(h, .inr (0, [.ref cf, .ref cn, .null])), (cf, .inl (cI, 200, .inl (oIf (fun _ => some 0)))), (cn, .inl (cI, 200, .inl (oIf (fun _ => some 0))))] H := hP
  have hD : va_D A [(h, .inr (0, [.ref cf, .ref cn, .null])), (cf, .inl (cI, 200, .inl (oIf (fun _ => some 0)))), (cn, .inl (cI, 200, .inl (oIf (fun _ => some 0))))] := hD
  refine lv_aload_n hx hb dX0_init_22 rfl (lv_at hl 0 rfl) ?_
  refine lv_sipush (v := nI 200) hx hb dX0_init_23 (by decide) ?_
  refine r_newJ hx hb (hts _ wd_X0_init_arrlong) hE hP hD hS hA (N := 200) (by decide) (by decide) (Nat.le_of_ble_eq_true rfl) (Nat.le_of_ble_eq_true rfl) dX0_init_26 (lNf (fun _ => 0)) (fun _ => rfl) (fun cp H hP hD hS => ?_)
  have hP : va_P D vwCl [(h, .inr (0, [.ref cf, .ref cn, .null])), (cf, .inl (cI, 200, .inl (oIf (fun _ => some 0)))), (cn, .inl (cI, 200, .inl (oIf (fun _ => some 0)))), (cp, .inl (cJ, 200, .inr (.inl (lNf (fun _ => 0)))))] H := hP
  have hD : va_D A [(h, .inr (0, [.ref cf, .ref cn, .null])), (cf, .inl (cI, 200, .inl (oIf (fun _ => some 0)))), (cn, .inl (cI, 200, .inl (oIf (fun _ => some 0)))), (cp, .inl (cJ, 200, .inr (.inl (lNf (fun _ => 0)))))] := hD
  refine va_putF (D := D) (ci := 0) (v := .ref cp) (ty := .array .long) (C := RX0) (T := TX0) (N := 3) hx hb hts in_X0_init_X0 tyX0 tyX0_ok nmX0 hown hE.1 hP hD hS 0 rfl rfl 2 (by decide) (hts _ fl_X0_init_18) (fun _ h9 => h9) rfl hin rfl (by decide +kernel) rfl rfl (Nat.le_of_ble_eq_true rfl) dX0_init_28 (fun H locs hP hD hS => ?_)
  have hP : va_P D vwCl [(h, .inr (0, [.ref cf, .ref cn, .ref cp])), (cf, .inl (cI, 200, .inl (oIf (fun _ => some 0)))), (cn, .inl (cI, 200, .inl (oIf (fun _ => some 0)))), (cp, .inl (cJ, 200, .inr (.inl (lNf (fun _ => 0)))))] H := hP
  have hD : va_D A [(h, .inr (0, [.ref cf, .ref cn, .ref cp])), (cf, .inl (cI, 200, .inl (oIf (fun _ => some 0)))), (cn, .inl (cI, 200, .inl (oIf (fun _ => some 0)))), (cp, .inl (cJ, 200, .inr (.inl (lNf (fun _ => 0)))))] := hD
  refine W.widen (k := 3) (n := 600) (by omega) (by omega) ?_
  exact e_mv (cf, cn, cp) hAe hx hb hr hlocks dX0_init_31 (hP.sub [0, 1, 2, 3] rfl) (hD.sub [0, 1, 2, 3] (by decide) rfl) hS trivial

theorem fl_X3_init_16 : Cond.fieldLink RX3 16 "BlockRows" "ways" "LBlockRows$Ways;" ∈ wsX3_init := by decide +kernel
theorem fl_X3_init_23 : Cond.fieldLink RX3 23 "BlockRows" "chains" "LBlockRows$Chains;" ∈ wsX3_init := by decide +kernel
theorem fl_X3_init_30 : Cond.fieldLink RX3 30 "BlockRows" "allByNumber" "LBlockRows$Line;" ∈ wsX3_init := by decide +kernel
theorem fl_X3_init_34 : Cond.fieldLink RX3 34 "BlockRows" "hotByNumber" "LBlockRows$Line;" ∈ wsX3_init := by decide +kernel
theorem fl_X3_init_37 : Cond.fieldLink RX3 37 "BlockRows" "hotByChains" "LBlockRows$Line;" ∈ wsX3_init := by decide +kernel
theorem fl_X3_init_40 : Cond.fieldLink RX3 40 "BlockRows" "blocks" "I" ∈ wsX3_init := by decide +kernel
theorem fl_X3_init_44 : Cond.fieldLink RX3 44 "BlockRows" "stale" "Z" ∈ wsX3_init := by decide +kernel
theorem fl_X3_init_9 : Cond.fieldLink RX3 9 "BlockRows" "hot" "[Z" ∈ wsX3_init := by decide +kernel
theorem in_X3_init_X0 : ∀ w ∈ wsX00, w ∈ wsX3_init := by decide +kernel
theorem in_X3_init_X1 : ∀ w ∈ wsX10, w ∈ wsX3_init := by decide +kernel
theorem in_X3_init_X2 : ∀ w ∈ wsX20, w ∈ wsX3_init := by decide +kernel
theorem in_X3_init_X3 : ∀ w ∈ wsX30, w ∈ wsX3_init := by decide +kernel
theorem wd_X3_init_arrboolean : Cond.arrayClass .boolean ∈ wsX3_init := by decide +kernel
theorem wd_X3_init_cl13 : Cond.classLink RX3 13 RX2 ∈ wsX3_init := by decide +kernel
theorem wd_X3_init_cl20 : Cond.classLink RX3 20 RX0 ∈ wsX3_init := by decide +kernel
theorem wd_X3_init_cl27 : Cond.classLink RX3 27 RX1 ∈ wsX3_init := by decide +kernel
theorem wd_X3_init_im0 : Cond.instanceMethod yX0_init ∈ wsX3_init := by decide +kernel
theorem wd_X3_init_im1 : Cond.instanceMethod yX1_init ∈ wsX3_init := by decide +kernel
theorem wd_X3_init_im2 : Cond.instanceMethod yX2_init ∈ wsX3_init := by decide +kernel
theorem wd_X3_init_in0 : Cond.instantiable RX0 3 ∈ wsX3_init := by decide +kernel
theorem wd_X3_init_in1 : Cond.instantiable RX1 3 ∈ wsX3_init := by decide +kernel
theorem wd_X3_init_in2 : Cond.instantiable RX2 5 ∈ wsX3_init := by decide +kernel
theorem wd_X3_init_ini0 : Cond.initialized RX0 ∈ wsX3_init := by decide +kernel
theorem wd_X3_init_ini1 : Cond.initialized RX1 ∈ wsX3_init := by decide +kernel
theorem wd_X3_init_ini2 : Cond.initialized RX2 ∈ wsX3_init := by decide +kernel
theorem wd_X3_init_oi1 : Cond.methodLink RX3 1 objectInit ∈ wsX3_init := by decide +kernel
theorem wd_X3_init_oi2 : Cond.instanceMethod objectInit ∈ wsX3_init := by decide +kernel
theorem wd_X3_init_oi3 : Cond.code objectInit ⟨#[0xb1]⟩ 1 none ∈ wsX3_init := by decide +kernel
set_option maxHeartbeats 4000000 in
set_option maxRecDepth 100000 in
/-- BlockRows() -/
theorem c_new (l : Launch) (D : va_G) (cI cJ cZ : ClassId) (x sz : Nat) : Met l yX3_init wsX3_init ({ frames := 2, cells := 19, slots := 6017, locals := 32 }) (PcM D cI cJ cZ [.ref x] [(x, .inr (3, [.null, .null, .null, .null, .null, .null, .long (lN 0), .long (lN 0), .long (lN 0), .int (nI 0), .int (bI false)]))] sz) (va_Qv (fun _ : Nat × Nat × Nat × Nat × Nat × Nat × Nat × Nat × Nat × Nat × Nat × Nat × Nat × Nat × Nat × Nat × Nat × Nat × Nat => True) (Bm D [(x, .inr (3, [.null, .null, .null, .null, .null, .null, .long (lN 0), .long (lN 0), .long (lN 0), .int (nI 0), .int (bI false)]))] sz (fun z : Nat × Nat × Nat × Nat × Nat × Nat × Nat × Nat × Nat × Nat × Nat × Nat × Nat × Nat × Nat × Nat × Nat × Nat × Nat => [(x, .inr (3, [.ref z.1, .ref z.2.1, .ref z.2.2.2.2.2.2.1, .ref z.2.2.2.2.2.2.2.2.2.2.1, .ref z.2.2.2.2.2.2.2.2.2.2.2.2.2.1, .ref z.2.2.2.2.2.2.2.2.2.2.2.2.2.2.2.2.1, .long (lN 0), .long (lN 0), .long (lN 0), .int (nI 1), .int (bI true)])), (z.1, .inl (cZ, 200, .inl (bIf (fun _ => false)))), (z.2.1, .inr (2, [.ref z.2.2.1, .ref z.2.2.2.1, .ref z.2.2.2.2.1, .ref z.2.2.2.2.2.1, .int (nI 0)])), (z.2.2.1, .inl (cI, 1000, .inl (nIf (fun _ => 0)))), (z.2.2.2.1, .inl (cI, 1000, .inl (nIf (fun _ => 0)))), (z.2.2.2.2.1, .inl (cJ, 1000, .inr (.inl (lNf (fun _ => 0))))), (z.2.2.2.2.2.1, .inl (cZ, 1000, .inl (bIf (fun _ => false)))), (z.2.2.2.2.2.2.1, .inr (0, [.ref z.2.2.2.2.2.2.2.1, .ref z.2.2.2.2.2.2.2.2.1, .ref z.2.2.2.2.2.2.2.2.2.1])), (z.2.2.2.2.2.2.2.1, .inl (cI, 200, .inl (oIf (fun _ => some 0)))), (z.2.2.2.2.2.2.2.2.1, .inl (cI, 200, .inl (oIf (fun _ => some 0)))), (z.2.2.2.2.2.2.2.2.2.1, .inl (cJ, 200, .inr (.inl (lNf (fun _ => 0))))), (z.2.2.2.2.2.2.2.2.2.2.1, .inr (1, [.ref z.2.2.2.2.2.2.2.2.2.2.2.1, .ref z.2.2.2.2.2.2.2.2.2.2.2.2.1, .int (nI 0)])), (z.2.2.2.2.2.2.2.2.2.2.2.1, .inl (cI, 200, .inl (nIf (fun _ => 0)))), (z.2.2.2.2.2.2.2.2.2.2.2.2.1, .inl (cI, 200, .inl (oIf (fun _ => some 0)))), (z.2.2.2.2.2.2.2.2.2.2.2.2.2.1, .inr (1, [.ref z.2.2.2.2.2.2.2.2.2.2.2.2.2.2.1, .ref z.2.2.2.2.2.2.2.2.2.2.2.2.2.2.2.1, .int (nI 0)])), (z.2.2.2.2.2.2.2.2.2.2.2.2.2.2.1, .inl (cI, 200, .inl (nIf (fun _ => 0)))), (z.2.2.2.2.2.2.2.2.2.2.2.2.2.2.2.1, .inl (cI, 200, .inl (oIf (fun _ => some 0)))), (z.2.2.2.2.2.2.2.2.2.2.2.2.2.2.2.2.1, .inr (1, [.ref z.2.2.2.2.2.2.2.2.2.2.2.2.2.2.2.2.2.1, .ref z.2.2.2.2.2.2.2.2.2.2.2.2.2.2.2.2.2.2, .int (nI 0)])), (z.2.2.2.2.2.2.2.2.2.2.2.2.2.2.2.2.2.1, .inl (cI, 200, .inl (nIf (fun _ => 0)))), (z.2.2.2.2.2.2.2.2.2.2.2.2.2.2.2.2.2.2, .inl (cI, 200, .inl (oIf (fun _ => some 0))))])) (va_A [(x, .inr (3, [.null, .null, .null, .null, .null, .null, .long (lN 0), .long (lN 0), .long (lN 0), .int (nI 0), .int (bI false)]))] sz)) 19 6017 (va_A [(x, .inr (3, [.null, .null, .null, .null, .null, .null, .long (lN 0), .long (lN 0), .long (lN 0), .int (nI 0), .int (bI false)]))] sz) := by
  refine startM (cc := cX3_init) (maxL := 1) (ret := none) (by decide) rfl (Nat.le_of_ble_eq_true rfl) ?_
  intro p e s m below meth c ls A hA hAe hx hb hr hml hown hts hlocks hin hE hP hD hS hl
  have hl : lv_has ls 1 [(0, .ref x)] := hl
  refine lv_aload_n hx hb dX3_init_0 rfl (lv_at hl 0 rfl) ?_
  refine W.objInit hx hb hown (hts _ wd_X3_init_oi1) (hts _ wd_X3_init_oi2) (hts _ wd_X3_init_oi3) rfl (by rw [hml]; exact hl.1) rfl dX3_init_1 (Nat.le_of_ble_eq_true rfl) (Nat.le_of_ble_eq_true rfl) ?_
  refine W.eq (g2 := F0 m 4 ls []) rfl ?_
  refine lv_aload_n hx hb dX3_init_4 rfl (lv_at hl 0 rfl) ?_
  refine lv_sipush (v := nI 200) hx hb dX3_init_5 (by decide) ?_
  refine r_newZ hx hb (hts _ wd_X3_init_arrboolean) hE hP hD hS hA (N := 200) (by decide) (by decide) (Nat.le_of_ble_eq_true rfl) (Nat.le_of_ble_eq_true rfl) dX3_init_8 (bIf (fun _ => false)) (fun _ => rfl) (fun xh H hP hD hS => ?_)
  have hP : va_P D vwCl [(x, .inr (3, [.null, .null, .null, .null, .null, .null, .long (lN 0), .long (lN 0), .long (lN 0), .int (nI 0), .int (bI false)])), (xh, .inl (cZ, 200, .inl (bIf (fun _ => false))))] H := hP
  have hD : va_D A [(x, .inr (3, [.null, .null, .null, .null, .null, .null, .long (lN 0), .long (lN 0), .long (lN 0), .int (nI 0), .int (bI false)])), (xh, .inl (cZ, 200, .inl (bIf (fun _ => false))))] := hD
  refine va_putF (D := D) (ci := 3) (v := .ref xh) (ty := .array .boolean) (C := RX3) (T := TX3) (N := 11) hx hb hts in_X3_init_X3 tyX3 tyX3_ok nmX3 hown hE.1 hP hD hS 0 rfl rfl 0 (by decide) (hts _ fl_X3_init_9) (fun _ h9 => h9) rfl hin rfl (by decide +kernel) rfl rfl (Nat.le_of_ble_eq_true rfl) dX3_init_10 (fun H locs hP hD hS => ?_)
  have hP : va_P D vwCl [(x, .inr (3, [.ref xh, .null, .null, .null, .null, .null, .long (lN 0), .long (lN 0), .long (lN 0), .int (nI 0), .int (bI false)])), (xh, .inl (cZ, 200, .inl (bIf (fun _ => false))))] H := hP
  have hD : va_D A [(x, .inr (3, [.ref xh, .null, .null, .null, .null, .null, .long (lN 0), .long (lN 0), .long (lN 0), .int (nI 0), .int (bI false)])), (xh, .inl (cZ, 200, .inl (bIf (fun _ => false))))] := hD
  refine lv_aload_n hx hb dX3_init_13 rfl (lv_at hl 0 rfl) ?_
  refine va_new (ci := 2) (fs := [.null, .null, .null, .null, .int (nI 0)]) (C := RX2) (T := TX2) (N := 5) hx hb hts in_X3_init_X2 tyX2 tyX2_ok hown (hts _ wd_X3_init_cl13) (hts _ wd_X3_init_in2) (hts _ wd_X3_init_ini2) hE.1 hP hD hS hA rfl (fun j hj => by rcases (show j = 0 ∨ j = 1 ∨ j = 2 ∨ j = 3 ∨ j = 4 by omega) with rfl | rfl | rfl | rfl | rfl <;> rfl) (Nat.le_of_ble_eq_true rfl) (Nat.le_of_ble_eq_true rfl) dX3_init_14 (fun w H hP hD hS => ?_)
  have hP : va_P D vwCl [(x, .inr (3, [.ref xh, .null, .null, .null, .null, .null, .long (lN 0), .long (lN 0), .long (lN 0), .int (nI 0), .int (bI false)])), (xh, .inl (cZ, 200, .inl (bIf (fun _ => false)))), (w, .inr (2, [.null, .null, .null, .null, .int (nI 0)]))] H := hP
  have hD : va_D A [(x, .inr (3, [.ref xh, .null, .null, .null, .null, .null, .long (lN 0), .long (lN 0), .long (lN 0), .int (nI 0), .int (bI false)])), (xh, .inl (cZ, 200, .inl (bIf (fun _ => false)))), (w, .inr (2, [.null, .null, .null, .null, .int (nI 0)]))] := hD
  refine lv_dup hx hb dX3_init_17 rfl ?_
  refine callRunV (wr := [(x, .inr (3, [.ref xh, .null, .null, .null, .null, .null, .long (lN 0), .long (lN 0), .long (lN 0), .int (nI 0), .int (bI false)])), (xh, .inl (cZ, 200, .inl (bIf (fun _ => false))))]) (va_runIN (As := []) (rest := [.ref w, .ref x]) ⟨hx, hb, hml, hown, hts⟩ (c_waysNew l D cI cJ cZ w _) ⟨va_cnB 0 hts gX3_init_X2_init_n15 rfl rfl rfl hE.2.2.2.1 (hts _ wd_X3_init_ini2) (by decide +kernel) ⟨Nat.le_of_ble_eq_true rfl, Nat.le_of_ble_eq_true rfl⟩, rfl, hts _ wd_X3_init_im2⟩ (preMS hE hP hD [2] rfl rfl rfl) rfl rfl hl.1 rfl (lv_room (Nat.le_of_ble_eq_true rfl)) dX3_init_18 ⟨Nat.le_of_ble_eq_true rfl, Nat.le_of_ble_eq_true rfl⟩) hP hD hS hA [2] [0, 1] rfl rfl (by decide) (by decide) (fun u_ H locs hu hP hD hS => ?_)
  obtain ⟨wf, wt, wc, wl_⟩ := u_
  have hP : va_P D vwCl [(x, .inr (3, [.ref xh, .null, .null, .null, .null, .null, .long (lN 0), .long (lN 0), .long (lN 0), .int (nI 0), .int (bI false)])), (xh, .inl (cZ, 200, .inl (bIf (fun _ => false)))), (w, .inr (2, [.ref wf, .ref wt, .ref wc, .ref wl_, .int (nI 0)])), (wf, .inl (cI, 1000, .inl (nIf (fun _ => 0)))), (wt, .inl (cI, 1000, .inl (nIf (fun _ => 0)))), (wc, .inl (cJ, 1000, .inr (.inl (lNf (fun _ => 0))))), (wl_, .inl (cZ, 1000, .inl (bIf (fun _ => false))))] H := hP
  have hD : va_D A [(x, .inr (3, [.ref xh, .null, .null, .null, .null, .null, .long (lN 0), .long (lN 0), .long (lN 0), .int (nI 0), .int (bI false)])), (xh, .inl (cZ, 200, .inl (bIf (fun _ => false)))), (w, .inr (2, [.ref wf, .ref wt, .ref wc, .ref wl_, .int (nI 0)])), (wf, .inl (cI, 1000, .inl (nIf (fun _ => 0)))), (wt, .inl (cI, 1000, .inl (nIf (fun _ => 0)))), (wc, .inl (cJ, 1000, .inr (.inl (lNf (fun _ => 0))))), (wl_, .inl (cZ, 1000, .inl (bIf (fun _ => false))))] := hD
  refine va_putF (D := D) (ci := 3) (v := .ref w) (ty := .object "BlockRows$Ways") (C := RX3) (T := TX3) (N := 11) hx hb hts in_X3_init_X3 tyX3 tyX3_ok nmX3 hown hE.1 hP hD hS 0 rfl rfl 1 (by decide) (hts _ fl_X3_init_16) (fun _ h9 => h9) rfl hin rfl (by decide +kernel) rfl rfl (Nat.le_of_ble_eq_true rfl) dX3_init_21 (fun H locs hP hD hS => ?_)
  have hP : va_P D vwCl [(x, .inr (3, [.ref xh, .ref w, .null, .null, .null, .null, .long (lN 0), .long (lN 0), .long (lN 0), .int (nI 0), .int (bI false)])), (xh, .inl (cZ, 200, .inl (bIf (fun _ => false)))), (w, .inr (2, [.ref wf, .ref wt, .ref wc, .ref wl_, .int (nI 0)])), (wf, .inl (cI, 1000, .inl (nIf (fun _ => 0)))), (wt, .inl (cI, 1000, .inl (nIf (fun _ => 0)))), (wc, .inl (cJ, 1000, .inr (.inl (lNf (fun _ => 0))))), (wl_, .inl (cZ, 1000, .inl (bIf (fun _ => false))))] H := hP
  have hD : va_D A [(x, .inr (3, [.ref xh, .ref w, .null, .null, .null, .null, .long (lN 0), .long (lN 0), .long (lN 0), .int (nI 0), .int (bI false)])), (xh, .inl (cZ, 200, .inl (bIf (fun _ => false)))), (w, .inr (2, [.ref wf, .ref wt, .ref wc, .ref wl_, .int (nI 0)])), (wf, .inl (cI, 1000, .inl (nIf (fun _ => 0)))), (wt, .inl (cI, 1000, .inl (nIf (fun _ => 0)))), (wc, .inl (cJ, 1000, .inr (.inl (lNf (fun _ => 0))))), (wl_, .inl (cZ, 1000, .inl (bIf (fun _ => false))))] := hD
  refine lv_aload_n hx hb dX3_init_24 rfl (lv_at hl 0 rfl) ?_
  refine va_new (ci := 0) (fs := [.null, .null, .null]) (C := RX0) (T := TX0) (N := 3) hx hb hts in_X3_init_X0 tyX0 tyX0_ok hown (hts _ wd_X3_init_cl20) (hts _ wd_X3_init_in0) (hts _ wd_X3_init_ini0) hE.1 hP hD hS hA rfl (fun j hj => by rcases (show j = 0 ∨ j = 1 ∨ j = 2 by omega) with rfl | rfl | rfl <;> rfl) (Nat.le_of_ble_eq_true rfl) (Nat.le_of_ble_eq_true rfl) dX3_init_25 (fun g H hP hD hS => ?_)
  have hP : va_P D vwCl [(x, .inr (3, [.ref xh, .ref w, .null, .null, .null, .null, .long (lN 0), .long (lN 0), .long (lN 0), .int (nI 0), .int (bI false)])), (xh, .inl (cZ, 200, .inl (bIf (fun _ => false)))), (w, .inr (2, [.ref wf, .ref wt, .ref wc, .ref wl_, .int (nI 0)])), (wf, .inl (cI, 1000, .inl (nIf (fun _ => 0)))), (wt, .inl (cI, 1000, .inl (nIf (fun _ => 0)))), (wc, .inl (cJ, 1000, .inr (.inl (lNf (fun _ => 0))))), (wl_, .inl (cZ, 1000, .inl (bIf (fun _ => false)))), (g, .inr (0, [.null, .null, .null]))] H := hP
  have hD : va_D A [(x, .inr (3, [.ref xh, .ref w, .null, .null, .null, .null, .long (lN 0), .long (lN 0), .long (lN 0), .int (nI 0), .int (bI false)])), (xh, .inl (cZ, 200, .inl (bIf (fun _ => false)))), (w, .inr (2, [.ref wf, .ref wt, .ref wc, .ref wl_, .int (nI 0)])), (wf, .inl (cI, 1000, .inl (nIf (fun _ => 0)))), (wt, .inl (cI, 1000, .inl (nIf (fun _ => 0)))), (wc, .inl (cJ, 1000, .inr (.inl (lNf (fun _ => 0))))), (wl_, .inl (cZ, 1000, .inl (bIf (fun _ => false)))), (g, .inr (0, [.null, .null, .null]))] := hD
  refine lv_dup hx hb dX3_init_28 rfl ?_
  refine callRunV (wr := [(x, .inr (3, [.ref xh, .ref w, .null, .null, .null, .null, .long (lN 0), .long (lN 0), .long (lN 0), .int (nI 0), .int (bI false)])), (xh, .inl (cZ, 200, .inl (bIf (fun _ => false)))), (w, .inr (2, [.ref wf, .ref wt, .ref wc, .ref wl_, .int (nI 0)])), (wf, .inl (cI, 1000, .inl (nIf (fun _ => 0)))), (wt, .inl (cI, 1000, .inl (nIf (fun _ => 0)))), (wc, .inl (cJ, 1000, .inr (.inl (lNf (fun _ => 0))))), (wl_, .inl (cZ, 1000, .inl (bIf (fun _ => false))))]) (va_runIN (As := []) (rest := [.ref g, .ref x]) ⟨hx, hb, hml, hown, hts⟩ (c_chainsNew l D cI cJ cZ g _) ⟨va_cnB 0 hts gX3_init_X0_init_n22 rfl rfl rfl hE.2.2.2.2.1 (hts _ wd_X3_init_ini0) (by decide +kernel) ⟨Nat.le_of_ble_eq_true rfl, Nat.le_of_ble_eq_true rfl⟩, rfl, hts _ wd_X3_init_im0⟩ (preMS hE hP hD [7] rfl rfl rfl) rfl rfl hl.1 rfl (lv_room (Nat.le_of_ble_eq_true rfl)) dX3_init_29 ⟨Nat.le_of_ble_eq_true rfl, Nat.le_of_ble_eq_true rfl⟩) hP hD hS hA [7] [0, 1, 2, 3, 4, 5, 6] rfl rfl (by decide) (by decide) (fun u_ H locs hu hP hD hS => ?_)
  obtain ⟨gf, gn, gp⟩ := u_
  have hP : va_P D vwCl [(x, .inr (3, [.ref xh, .ref w, .null, .null, .null, .null, .long (lN 0), .long (lN 0), .long (lN 0), .int (nI 0), .int (bI false)])), (xh, .inl (cZ, 200, .inl (bIf (fun _ => false)))), (w, .inr (2, [.ref wf, .ref wt, .ref wc, .ref wl_, .int (nI 0)])), (wf, .inl (cI, 1000, .inl (nIf (fun _ => 0)))), (wt, .inl (cI, 1000, .inl (nIf (fun _ => 0)))), (wc, .inl (cJ, 1000, .inr (.inl (lNf (fun _ => 0))))), (wl_, .inl (cZ, 1000, .inl (bIf (fun _ => false)))), (g, .inr (0, [.ref gf, .ref gn, .ref gp])), (gf, .inl (cI, 200, .inl (oIf (fun _ => some 0)))), (gn, .inl (cI, 200, .inl (oIf (fun _ => some 0)))), (gp, .inl (cJ, 200, .inr (.inl (lNf (fun _ => 0)))))] H := hP
  have hD : va_D A [(x, .inr (3, [.ref xh, .ref w, .null, .null, .null, .null, .long (lN 0), .long (lN 0), .long (lN 0), .int (nI 0), .int (bI false)])), (xh, .inl (cZ, 200, .inl (bIf (fun _ => false)))), (w, .inr (2, [.ref wf, .ref wt, .ref wc, .ref wl_, .int (nI 0)])), (wf, .inl (cI, 1000, .inl (nIf (fun _ => 0)))), (wt, .inl (cI, 1000, .inl (nIf (fun _ => 0)))), (wc, .inl (cJ, 1000, .inr (.inl (lNf (fun _ => 0))))), (wl_, .inl (cZ, 1000, .inl (bIf (fun _ => false)))), (g, .inr (0, [.ref gf, .ref gn, .ref gp])), (gf, .inl (cI, 200, .inl (oIf (fun _ => some 0)))), (gn, .inl (cI, 200, .inl (oIf (fun _ => some 0)))), (gp, .inl (cJ, 200, .inr (.inl (lNf (fun _ => 0)))))] := hD
  refine va_putF (D := D) (ci := 3) (v := .ref g) (ty := .object "BlockRows$Chains") (C := RX3) (T := TX3) (N := 11) hx hb hts in_X3_init_X3 tyX3 tyX3_ok nmX3 hown hE.1 hP hD hS 0 rfl rfl 2 (by decide) (hts _ fl_X3_init_23) (fun _ h9 => h9) rfl hin rfl (by decide +kernel) rfl rfl (Nat.le_of_ble_eq_true rfl) dX3_init_32 (fun H locs hP hD hS => ?_)
  have hP : va_P D vwCl [(x, .inr (3, [.ref xh, .ref w, .ref g, .null, .null, .null, .long (lN 0), .long (lN 0), .long (lN 0), .int (nI 0), .int (bI false)])), (xh, .inl (cZ, 200, .inl (bIf (fun _ => false)))), (w, .inr (2, [.ref wf, .ref wt, .ref wc, .ref wl_, .int (nI 0)])), (wf, .inl (cI, 1000, .inl (nIf (fun _ => 0)))), (wt, .inl (cI, 1000, .inl (nIf (fun _ => 0)))), (wc, .inl (cJ, 1000, .inr (.inl (lNf (fun _ => 0))))), (wl_, .inl (cZ, 1000, .inl (bIf (fun _ => false)))), (g, .inr (0, [.ref gf, .ref gn, .ref gp])), (gf, .inl (cI, 200, .inl (oIf (fun _ => some 0)))), (gn, .inl (cI, 200, .inl (oIf (fun _ => some 0)))), (gp, .inl (cJ, 200, .inr (.inl (lNf (fun _ => 0)))))] H := hP
  have hD : va_D A [(x, .inr (3, [.ref xh, .ref w, .ref g, .null, .null, .null, .long (lN 0), .long (lN 0), .long (lN 0), .int (nI 0), .int (bI false)])), (xh, .inl (cZ, 200, .inl (bIf (fun _ => false)))), (w, .inr (2, [.ref wf, .ref wt, .ref wc, .ref wl_, .int (nI 0)])), (wf, .inl (cI, 1000, .inl (nIf (fun _ => 0)))), (wt, .inl (cI, 1000, .inl (nIf (fun _ => 0)))), (wc, .inl (cJ, 1000, .inr (.inl (lNf (fun _ => 0))))), (wl_, .inl (cZ, 1000, .inl (bIf (fun _ => false)))), (g, .inr (0, [.ref gf, .ref gn, .ref gp])), (gf, .inl (cI, 200, .inl (oIf (fun _ => some 0)))), (gn, .inl (cI, 200, .inl (oIf (fun _ => some 0)))), (gp, .inl (cJ, 200, .inr (.inl (lNf (fun _ => 0)))))] := hD
  refine lv_aload_n hx hb dX3_init_35 rfl (lv_at hl 0 rfl) ?_
  refine va_new (ci := 1) (fs := [.null, .null, .int (nI 0)]) (C := RX1) (T := TX1) (N := 3) hx hb hts in_X3_init_X1 tyX1 tyX1_ok hown (hts _ wd_X3_init_cl27) (hts _ wd_X3_init_in1) (hts _ wd_X3_init_ini1) hE.1 hP hD hS hA rfl (fun j hj => by rcases (show j = 0 ∨ j = 1 ∨ j = 2 by omega) with rfl | rfl | rfl <;> rfl) (Nat.le_of_ble_eq_true rfl) (Nat.le_of_ble_eq_true rfl) dX3_init_36 (fun a H hP hD hS => ?_)
  have hP : va_P D vwCl [(x, .inr (3, [.ref xh, .ref w, .ref g, .null, .null, .null, .long (lN 0), .long (lN 0), .long (lN 0), .int (nI 0), .int (bI false)])), (xh, .inl (cZ, 200, .inl (bIf (fun _ => false)))), (w, .inr (2, [.ref wf, .ref wt, .ref wc, .ref wl_, .int (nI 0)])), (wf, .inl (cI, 1000, .inl (nIf (fun _ => 0)))), (wt, .inl (cI, 1000, .inl (nIf (fun _ => 0)))), (wc, .inl (cJ, 1000, .inr (.inl (lNf (fun _ => 0))))), (wl_, .inl (cZ, 1000, .inl (bIf (fun _ => false)))), (g, .inr (0, [.ref gf, .ref gn, .ref gp])), (gf, .inl (cI, 200, .inl (oIf (fun _ => some 0)))), (gn, .inl (cI, 200, .inl (oIf (fun _ => some 0)))), (gp, .inl (cJ, 200, .inr (.inl (lNf (fun _ => 0))))), (a, .inr (1, [.null, .null, .int (nI 0)]))] H := hP
  have hD : va_D A [(x, .inr (3, [.ref xh, .ref w, .ref g, .null, .null, .null, .long (lN 0), .long (lN 0), .long (lN 0), .int (nI 0), .int (bI false)])), (xh, .inl (cZ, 200, .inl (bIf (fun _ => false)))), (w, .inr (2, [.ref wf, .ref wt, .ref wc, .ref wl_, .int (nI 0)])), (wf, .inl (cI, 1000, .inl (nIf (fun _ => 0)))), (wt, .inl (cI, 1000, .inl (nIf (fun _ => 0)))), (wc, .inl (cJ, 1000, .inr (.inl (lNf (fun _ => 0))))), (wl_, .inl (cZ, 1000, .inl (bIf (fun _ => false)))), (g, .inr (0, [.ref gf, .ref gn, .ref gp])), (gf, .inl (cI, 200, .inl (oIf (fun _ => some 0)))), (gn, .inl (cI, 200, .inl (oIf (fun _ => some 0)))), (gp, .inl (cJ, 200, .inr (.inl (lNf (fun _ => 0))))), (a, .inr (1, [.null, .null, .int (nI 0)]))] := hD
  refine lv_dup hx hb dX3_init_39 rfl ?_
  refine callRunV (wr := [(x, .inr (3, [.ref xh, .ref w, .ref g, .null, .null, .null, .long (lN 0), .long (lN 0), .long (lN 0), .int (nI 0), .int (bI false)])), (xh, .inl (cZ, 200, .inl (bIf (fun _ => false)))), (w, .inr (2, [.ref wf, .ref wt, .ref wc, .ref wl_, .int (nI 0)])), (wf, .inl (cI, 1000, .inl (nIf (fun _ => 0)))), (wt, .inl (cI, 1000, .inl (nIf (fun _ => 0)))), (wc, .inl (cJ, 1000, .inr (.inl (lNf (fun _ => 0))))), (wl_, .inl (cZ, 1000, .inl (bIf (fun _ => false)))), (g, .inr (0, [.ref gf, .ref gn, .ref gp])), (gf, .inl (cI, 200, .inl (oIf (fun _ => some 0)))), (gn, .inl (cI, 200, .inl (oIf (fun _ => some 0)))), (gp, .inl (cJ, 200, .inr (.inl (lNf (fun _ => 0)))))]) (va_runIN (As := []) (rest := [.ref a, .ref x]) ⟨hx, hb, hml, hown, hts⟩ (c_lineNew l D cI cJ cZ a _) ⟨va_cnB 0 hts gX3_init_X1_init_n29 rfl rfl rfl hE.2.2.2.2.2 (hts _ wd_X3_init_ini1) (by decide +kernel) ⟨Nat.le_of_ble_eq_true rfl, Nat.le_of_ble_eq_true rfl⟩, rfl, hts _ wd_X3_init_im1⟩ (preMS hE hP hD [11] rfl rfl rfl) rfl rfl hl.1 rfl (lv_room (Nat.le_of_ble_eq_true rfl)) dX3_init_40 ⟨Nat.le_of_ble_eq_true rfl, Nat.le_of_ble_eq_true rfl⟩) hP hD hS hA [11] [0, 1, 2, 3, 4, 5, 6, 7, 8, 9, 10] rfl rfl (by decide) (by decide) (fun u_ H locs hu hP hD hS => ?_)
  obtain ⟨am, ap⟩ := u_
  have hP : va_P D vwCl [(x, .inr (3, [.ref xh, .ref w, .ref g, .null, .null, .null, .long (lN 0), .long (lN 0), .long (lN 0), .int (nI 0), .int (bI false)])), (xh, .inl (cZ, 200, .inl (bIf (fun _ => false)))), (w, .inr (2, [.ref wf, .ref wt, .ref wc, .ref wl_, .int (nI 0)])), (wf, .inl (cI, 1000, .inl (nIf (fun _ => 0)))), (wt, .inl (cI, 1000, .inl (nIf (fun _ => 0)))), (wc, .inl (cJ, 1000, .inr (.inl (lNf (fun _ => 0))))), (wl_, .inl (cZ, 1000, .inl (bIf (fun _ => false)))), (g, .inr (0, [.ref gf, .ref gn, .ref gp])), (gf, .inl (cI, 200, .inl (oIf (fun _ => some 0)))), (gn, .inl (cI, 200, .inl (oIf (fun _ => some 0)))), (gp, .inl (cJ, 200, .inr (.inl (lNf (fun _ => 0))))), (a, .inr (1, [.ref am, .ref ap, .int (nI 0)])), (am, .inl (cI, 200, .inl (nIf (fun _ => 0)))), (ap, .inl (cI, 200, .inl (oIf (fun _ => some 0))))] H := hP
  have hD : va_D A [(x, .inr (3, [.ref xh, .ref w, .ref g, .null, .null, .null, .long (lN 0), .long (lN 0), .long (lN 0), .int (nI 0), .int (bI false)])), (xh, .inl (cZ, 200, .inl (bIf (fun _ => false)))), (w, .inr (2, [.ref wf, .ref wt, .ref wc, .ref wl_, .int (nI 0)])), (wf, .inl (cI, 1000, .inl (nIf (fun _ => 0)))), (wt, .inl (cI, 1000, .inl (nIf (fun _ => 0)))), (wc, .inl (cJ, 1000, .inr (.inl (lNf (fun _ => 0))))), (wl_, .inl (cZ, 1000, .inl (bIf (fun _ => false)))), (g, .inr (0, [.ref gf, .ref gn, .ref gp])), (gf, .inl (cI, 200, .inl (oIf (fun _ => some 0)))), (gn, .inl (cI, 200, .inl (oIf (fun _ => some 0)))), (gp, .inl (cJ, 200, .inr (.inl (lNf (fun _ => 0))))), (a, .inr (1, [.ref am, .ref ap, .int (nI 0)])), (am, .inl (cI, 200, .inl (nIf (fun _ => 0)))), (ap, .inl (cI, 200, .inl (oIf (fun _ => some 0))))] := hD
  refine va_putF (D := D) (ci := 3) (v := .ref a) (ty := .object "BlockRows$Line") (C := RX3) (T := TX3) (N := 11) hx hb hts in_X3_init_X3 tyX3 tyX3_ok nmX3 hown hE.1 hP hD hS 0 rfl rfl 3 (by decide) (hts _ fl_X3_init_30) (fun _ h9 => h9) rfl hin rfl (by decide +kernel) rfl rfl (Nat.le_of_ble_eq_true rfl) dX3_init_43 (fun H locs hP hD hS => ?_)
  have hP : va_P D vwCl [(x, .inr (3, [.ref xh, .ref w, .ref g, .ref a, .null, .null, .long (lN 0), .long (lN 0), .long (lN 0), .int (nI 0), .int (bI false)])), (xh, .inl (cZ, 200, .inl (bIf (fun _ => false)))), (w, .inr (2, [.ref wf, .ref wt, .ref wc, .ref wl_, .int (nI 0)])), (wf, .inl (cI, 1000, .inl (nIf (fun _ => 0)))), (wt, .inl (cI, 1000, .inl (nIf (fun _ => 0)))), (wc, .inl (cJ, 1000, .inr (.inl (lNf (fun _ => 0))))), (wl_, .inl (cZ, 1000, .inl (bIf (fun _ => false)))), (g, .inr (0, [.ref gf, .ref gn, .ref gp])), (gf, .inl (cI, 200, .inl (oIf (fun _ => some 0)))), (gn, .inl (cI, 200, .inl (oIf (fun _ => some 0)))), (gp, .inl (cJ, 200, .inr (.inl (lNf (fun _ => 0))))), (a, .inr (1, [.ref am, .ref ap, .int (nI 0)])), (am, .inl (cI, 200, .inl (nIf (fun _ => 0)))), (ap, .inl (cI, 200, .inl (oIf (fun _ => some 0))))] H := hP
  have hD : va_D A [(x, .inr (3, [.ref xh, .ref w, .ref g, .ref a, .null, .null, .long (lN 0), .long (lN 0), .long (lN 0), .int (nI 0), .int (bI false)])), (xh, .inl (cZ, 200, .inl (bIf (fun _ => false)))), (w, .inr (2, [.ref wf, .ref wt, .ref wc, .ref wl_, .int (nI 0)])), (wf, .inl (cI, 1000, .inl (nIf (fun _ => 0)))), (wt, .inl (cI, 1000, .inl (nIf (fun _ => 0)))), (wc, .inl (cJ, 1000, .inr (.inl (lNf (fun _ => 0))))), (wl_, .inl (cZ, 1000, .inl (bIf (fun _ => false)))), (g, .inr (0, [.ref gf, .ref gn, .ref gp])), (gf, .inl (cI, 200, .inl (oIf (fun _ => some 0)))), (gn, .inl (cI, 200, .inl (oIf (fun _ => some 0)))), (gp, .inl (cJ, 200, .inr (.inl (lNf (fun _ => 0))))), (a, .inr (1, [.ref am, .ref ap, .int (nI 0)])), (am, .inl (cI, 200, .inl (nIf (fun _ => 0)))), (ap, .inl (cI, 200, .inl (oIf (fun _ => some 0))))] := hD
  refine lv_aload_n hx hb dX3_init_46 rfl (lv_at hl 0 rfl) ?_
  refine va_new (ci := 1) (fs := [.null, .null, .int (nI 0)]) (C := RX1) (T := TX1) (N := 3) hx hb hts in_X3_init_X1 tyX1 tyX1_ok hown (hts _ wd_X3_init_cl27) (hts _ wd_X3_init_in1) (hts _ wd_X3_init_ini1) hE.1 hP hD hS hA rfl (fun j hj => by rcases (show j = 0 ∨ j = 1 ∨ j = 2 by omega) with rfl | rfl | rfl <;> rfl) (Nat.le_of_ble_eq_true rfl) (Nat.le_of_ble_eq_true rfl) dX3_init_47 (fun b H hP hD hS => ?_)
  have hP : va_P D vwCl [(x, .inr (3, [.ref xh, .ref w, .ref g, .ref a, .null, .null, .long (lN 0), .long (lN 0), .long (lN 0), .int (nI 0), .int (bI false)])), (xh, .inl (cZ, 200, .inl (bIf (fun _ => false)))), (w, .inr (2, [.ref wf, .ref wt, .ref wc, .ref wl_, .int (nI 0)])), (wf, .inl (cI, 1000, .inl (nIf (fun _ => 0)))), (wt, .inl (cI, 1000, .inl (nIf (fun _ => 0)))), (wc, .inl (cJ, 1000, .inr (.inl (lNf (fun _ => 0))))), (wl_, .inl (cZ, 1000, .inl (bIf (fun _ => false)))), (g, .inr (0, [.ref gf, .ref gn, .ref gp])), (gf, .inl (cI, 200, .inl (oIf (fun _ => some 0)))), (gn, .inl (cI, 200, .inl (oIf (fun _ => some 0)))), (gp, .inl (cJ, 200, .inr (.inl (lNf (fun _ => 0))))), (a, .inr (1, [.ref am, .ref ap, .int (nI 0)])), (am, .inl (cI, 200, .inl (nIf (fun _ => 0)))), (ap, .inl (cI, 200, .inl (oIf (fun _ => some 0)))), (b, .inr (1, [.null, .null, .int (nI 0)]))] H := hP
  have hD : va_D A [(x, .inr (3, [.ref xh, .ref w, .ref g, .ref a, .null, .null, .long (lN 0), .long (lN 0), .long (lN 0), .int (nI 0), .int (bI false)])), (xh, .inl (cZ, 200, .inl (bIf (fun _ => false)))), (w, .inr (2, [.ref wf, .ref wt, .ref wc, .ref wl_, .int (nI 0)])), (wf, .inl (cI, 1000, .inl (nIf (fun _ => 0)))), (wt, .inl (cI, 1000, .inl (nIf (fun _ => 0)))), (wc, .inl (cJ, 1000, .inr (.inl (lNf (fun _ => 0))))), (wl_, .inl (cZ, 1000, .inl (bIf (fun _ => false)))), (g, .inr (0, [.ref gf, .ref gn, .ref gp])), (gf, .inl (cI, 200, .inl (oIf (fun _ => some 0)))), (gn, .inl (cI, 200, .inl (oIf (fun _ => some 0)))), (gp, .inl (cJ, 200, .inr (.inl (lNf (fun _ => 0))))), (a, .inr (1, [.ref am, .ref ap, .int (nI 0)])), (am, .inl (cI, 200, .inl (nIf (fun _ => 0)))), (ap, .inl (cI, 200, .inl (oIf (fun _ => some 0)))), (b, .inr (1, [.null, .null, .int (nI 0)]))] := hD
  refine lv_dup hx hb dX3_init_50 rfl ?_
  refine callRunV (wr := [(x, .inr (3, [.ref xh, .ref w, .ref g, .ref a, .null, .null, .long (lN 0), .long (lN 0), .long (lN 0), .int (nI 0), .int (bI false)])), (xh, .inl (cZ, 200, .inl (bIf (fun _ => false)))), (w, .inr (2, [.ref wf, .ref wt, .ref wc, .ref wl_, .int (nI 0)])), (wf, .inl (cI, 1000, .inl (nIf (fun _ => 0)))), (wt, .inl (cI, 1000, .inl (nIf (fun _ => 0)))), (wc, .inl (cJ, 1000, .inr (.inl (lNf (fun _ => 0))))), (wl_, .inl (cZ, 1000, .inl (bIf (fun _ => false)))), (g, .inr (0, [.ref gf, .ref gn, .ref gp])), (gf, .inl (cI, 200, .inl (oIf (fun _ => some 0)))), (gn, .inl (cI, 200, .inl (oIf (fun _ => some 0)))), (gp, .inl (cJ, 200, .inr (.inl (lNf (fun _ => 0))))), (a, .inr (1, [.ref am, .ref ap, .int (nI 0)])), (am, .inl (cI, 200, .inl (nIf (fun _ => 0)))), (ap, .inl (cI, 200, .inl (oIf (fun _ => some 0))))]) (va_runIN (As := []) (rest := [.ref b, .ref x]) ⟨hx, hb, hml, hown, hts⟩ (c_lineNew l D cI cJ cZ b _) ⟨va_cnB 0 hts gX3_init_X1_init_n29 rfl rfl rfl hE.2.2.2.2.2 (hts _ wd_X3_init_ini1) (by decide +kernel) ⟨Nat.le_of_ble_eq_true rfl, Nat.le_of_ble_eq_true rfl⟩, rfl, hts _ wd_X3_init_im1⟩ (preMS hE hP hD [14] rfl rfl rfl) rfl rfl hl.1 rfl (lv_room (Nat.le_of_ble_eq_true rfl)) dX3_init_51 ⟨Nat.le_of_ble_eq_true rfl, Nat.le_of_ble_eq_true rfl⟩) hP hD hS hA [14] [0, 1, 2, 3, 4, 5, 6, 7, 8, 9, 10, 11, 12, 13] rfl rfl (by decide) (by decide) (fun u_ H locs hu hP hD hS => ?_)
  obtain ⟨bm, bp⟩ := u_
  have hP : va_P D vwCl [(x, .inr (3, [.ref xh, .ref w, .ref g, .ref a, .null, .null, .long (lN 0), .long (lN 0), .long (lN 0), .int (nI 0), .int (bI false)])), (xh, .inl (cZ, 200, .inl (bIf (fun _ => false)))), (w, .inr (2, [.ref wf, .ref wt, .ref wc, .ref wl_, .int (nI 0)])), (wf, .inl (cI, 1000, .inl (nIf (fun _ => 0)))), (wt, .inl (cI, 1000, .inl (nIf (fun _ => 0)))), (wc, .inl (cJ, 1000, .inr (.inl (lNf (fun _ => 0))))), (wl_, .inl (cZ, 1000, .inl (bIf (fun _ => false)))), (g, .inr (0, [.ref gf, .ref gn, .ref gp])), (gf, .inl (cI, 200, .inl (oIf (fun _ => some 0)))), (gn, .inl (cI, 200, .inl (oIf (fun _ => some 0)))), (gp, .inl (cJ, 200, .inr (.inl (lNf (fun _ => 0))))), (a, .inr (1, [.ref am, .ref ap, .int (nI 0)])), (am, .inl (cI, 200, .inl (nIf (fun _ => 0)))), (ap, .inl (cI, 200, .inl (oIf (fun _ => some 0)))), (b, .inr (1, [.ref bm, .ref bp, .int (nI 0)])), (bm, .inl (cI, 200, .inl (nIf (fun _ => 0)))), (bp, .inl (cI, 200, .inl (oIf (fun _ => some 0))))] H := hP
  have hD : va_D A [(x, .inr (3, [.ref xh, .ref w, .ref g, .ref a, .null, .null, .long (lN 0), .long (lN 0), .long (lN 0), .int (nI 0), .int (bI false)])), (xh, .inl (cZ, 200, .inl (bIf (fun _ => false)))), (w, .inr (2, [.ref wf, .ref wt, .ref wc, .ref wl_, .int (nI 0)])), (wf, .inl (cI, 1000, .inl (nIf (fun _ => 0)))), (wt, .inl (cI, 1000, .inl (nIf (fun _ => 0)))), (wc, .inl (cJ, 1000, .inr (.inl (lNf (fun _ => 0))))), (wl_, .inl (cZ, 1000, .inl (bIf (fun _ => false)))), (g, .inr (0, [.ref gf, .ref gn, .ref gp])), (gf, .inl (cI, 200, .inl (oIf (fun _ => some 0)))), (gn, .inl (cI, 200, .inl (oIf (fun _ => some 0)))), (gp, .inl (cJ, 200, .inr (.inl (lNf (fun _ => 0))))), (a, .inr (1, [.ref am, .ref ap, .int (nI 0)])), (am, .inl (cI, 200, .inl (nIf (fun _ => 0)))), (ap, .inl (cI, 200, .inl (oIf (fun _ => some 0)))), (b, .inr (1, [.ref bm, .ref bp, .int (nI 0)])), (bm, .inl (cI, 200, .inl (nIf (fun _ => 0)))), (bp, .inl (cI, 200, .inl (oIf (fun _ => some 0))))] := hD
  refine va_putF (D := D) (ci := 3) (v := .ref b) (ty := .object "BlockRows$Line") (C := RX3) (T := TX3) (N := 11) hx hb hts in_X3_init_X3 tyX3 tyX3_ok nmX3 hown hE.1 hP hD hS 0 rfl rfl 4 (by decide) (hts _ fl_X3_init_34) (fun _ h9 => h9) rfl hin rfl (by decide +kernel) rfl rfl (Nat.le_of_ble_eq_true rfl) dX3_init_54 (fun H locs hP hD hS => ?_)
  have hP : va_P D vwCl [(x, .inr (3, [.ref xh, .ref w, .ref g, .ref a, .ref b, .null, .long (lN 0), .long (lN 0), .long (lN 0), .int (nI 0), .int (bI false)])), (xh, .inl (cZ, 200, .inl (bIf (fun _ => false)))), (w, .inr (2, [.ref wf, .ref wt, .ref wc, .ref wl_, .int (nI 0)])), (wf, .inl (cI, 1000, .inl (nIf (fun _ => 0)))), (wt, .inl (cI, 1000, .inl (nIf (fun _ => 0)))), (wc, .inl (cJ, 1000, .inr (.inl (lNf (fun _ => 0))))), (wl_, .inl (cZ, 1000, .inl (bIf (fun _ => false)))), (g, .inr (0, [.ref gf, .ref gn, .ref gp])), (gf, .inl (cI, 200, .inl (oIf (fun _ => some 0)))), (gn, .inl (cI, 200, .inl (oIf (fun _ => some 0)))), (gp, .inl (cJ, 200, .inr (.inl (lNf (fun _ => 0))))), (a, .inr (1, [.ref am, .ref ap, .int (nI 0)])), (am, .inl (cI, 200, .inl (nIf (fun _ => 0)))), (ap, .inl (cI, 200, .inl (oIf (fun _ => some 0)))), (b, .inr (1, [.ref bm, .ref bp, .int (nI 0)])), (bm, .inl (cI, 200, .inl (nIf (fun _ => 0)))), (bp, .inl (cI, 200, .inl (oIf (fun _ => some 0))))] H := hP
  have hD : va_D A [(x, .inr (3, [.ref xh, .ref w, .ref g, .ref a, .ref b, .null, .long (lN 0), .long (lN 0), .long (lN 0), .int (nI 0), .int (bI false)])), (xh, .inl (cZ, 200, .inl (bIf (fun _ => false)))), (w, .inr (2, [.ref wf, .ref wt, .ref wc, .ref wl_, .int (nI 0)])), (wf, .inl (cI, 1000, .inl (nIf (fun _ => 0)))), (wt, .inl (cI, 1000, .inl (nIf (fun _ => 0)))), (wc, .inl (cJ, 1000, .inr (.inl (lNf (fun _ => 0))))), (wl_, .inl (cZ, 1000, .inl (bIf (fun _ => false)))), (g, .inr (0, [.ref gf, .ref gn, .ref gp])), (gf, .inl (cI, 200, .inl (oIf (fun _ => some 0)))), (gn, .inl (cI, 200, .inl (oIf (fun _ => some 0)))), (gp, .inl (cJ, 200, .inr (.inl (lNf (fun _ => 0))))), (a, .inr (1, [.ref am, .ref ap, .int (nI 0)])), (am, .inl (cI, 200, .inl (nIf (fun _ => 0)))), (ap, .inl (cI, 200, .inl (oIf (fun _ => some 0)))), (b, .inr (1, [.ref bm, .ref bp, .int (nI 0)])), (bm, .inl (cI, 200, .inl (nIf (fun _ => 0)))), (bp, .inl (cI, 200, .inl (oIf (fun _ => some 0))))] := hD
  refine lv_aload_n hx hb dX3_init_57 rfl (lv_at hl 0 rfl) ?_
  refine va_new (ci := 1) (fs := [.null, .null, .int (nI 0)]) (C := RX1) (T := TX1) (N := 3) hx hb hts in_X3_init_X1 tyX1 tyX1_ok hown (hts _ wd_X3_init_cl27) (hts _ wd_X3_init_in1) (hts _ wd_X3_init_ini1) hE.1 hP hD hS hA rfl (fun j hj => by rcases (show j = 0 ∨ j = 1 ∨ j = 2 by omega) with rfl | rfl | rfl <;> rfl) (Nat.le_of_ble_eq_true rfl) (Nat.le_of_ble_eq_true rfl) dX3_init_58 (fun d H hP hD hS => ?_)
  have hP : va_P D vwCl [(x, .inr (3, [.ref xh, .ref w, .ref g, .ref a, .ref b, .null, .long (lN 0), .long (lN 0), .long (lN 0), .int (nI 0), .int (bI false)])), (xh, .inl (cZ, 200, .inl (bIf (fun _ => false)))), (w, .inr (2, [.ref wf, .ref wt, .ref wc, .ref wl_, .int (nI 0)])), (wf, .inl (cI, 1000, .inl (nIf (fun _ => 0)))), (wt, .inl (cI, 1000, .inl (nIf (fun _ => 0)))), (wc, .inl (cJ, 1000, .inr (.inl (lNf (fun _ => 0))))), (wl_, .inl (cZ, 1000, .inl (bIf (fun _ => false)))), (g, .inr (0, [.ref gf, .ref gn, .ref gp])), (gf, .inl (cI, 200, .inl (oIf (fun _ => some 0)))), (gn, .inl (cI, 200, .inl (oIf (fun _ => some 0)))), (gp, .inl (cJ, 200, .inr (.inl (lNf (fun _ => 0))))), (a, .inr (1, [.ref am, .ref ap, .int (nI 0)])), (am, .inl (cI, 200, .inl (nIf (fun _ => 0)))), (ap, .inl (cI, 200, .inl (oIf (fun _ => some 0)))), (b, .inr (1, [.ref bm, .ref bp, .int (nI 0)])), (bm, .inl (cI, 200, .inl (nIf (fun _ => 0)))), (bp, .inl (cI, 200, .inl (oIf (fun _ => some 0)))), (d, .inr (1, [.null, .null, .int (nI 0)]))] H := hP
  have hD : va_D A [(x, .inr (3, [.ref xh, .ref w, .ref g, .ref a, .ref b, .null, .long (lN 0), .long (lN 0), .long (lN 0), .int (nI 0), .int (bI false)])), (xh, .inl (cZ, 200, .inl (bIf (fun _ => false)))), (w, .inr (2, [.ref wf, .ref wt, .ref wc, .ref wl_, .int (nI 0)])), (wf, .inl (cI, 1000, .inl (nIf (fun _ => 0)))), (wt, .inl (cI, 1000, .inl (nIf (fun _ => 0)))), (wc, .inl (cJ, 1000, .inr (.inl (lNf (fun _ => 0))))), (wl_, .inl (cZ, 1000, .inl (bIf (fun _ => false)))), (g, .inr (0, [.ref gf, .ref gn, .ref gp])), (gf, .inl (cI, 200, .inl (oIf (fun _ => some 0)))), (gn, .inl (cI, 200, .inl (oIf (fun _ => some 0)))), (gp, .inl (cJ, 200, .inr (.inl (lNf (fun _ => 0))))), (a, .inr (1, [.ref am, .ref ap, .int (nI 0)])), (am, .inl (cI, 200, .inl (nIf (fun _ => 0)))), (ap, .inl (cI, 200, .inl (oIf (fun _ => some 0)))), (b, .inr (1, [.ref bm, .ref bp, .int (nI 0)])), (bm, .inl (cI, 200, .inl (nIf (fun _ => 0)))), (bp, .inl (cI, 200, .inl (oIf (fun _ => some 0)))), (d, .inr (1, [.null, .null, .int (nI 0)]))] := hD
  refine lv_dup hx hb dX3_init_61 rfl ?_
  refine callRunV (wr := [(x, .inr (3, [.ref xh, .ref w, .ref g, .ref a, .ref b, .null, .long (lN 0), .long (lN 0), .long (lN 0), .int (nI 0), .int (bI false)])), (xh, .inl (cZ, 200, .inl (bIf (fun _ => false)))), (w, .inr (2, [.ref wf, .ref wt, .ref wc, .ref wl_, .int (nI 0)])), (wf, .inl (cI, 1000, .inl (nIf (fun _ => 0)))), (wt, .inl (cI, 1000, .inl (nIf (fun _ => 0)))), (wc, .inl (cJ, 1000, .inr (.inl (lNf (fun _ => 0))))), (wl_, .inl (cZ, 1000, .inl (bIf (fun _ => false)))), (g, .inr (0, [.ref gf, .ref gn, .ref gp])), (gf, .inl (cI, 200, .inl (oIf (fun _ => some 0)))), (gn, .inl (cI, 200, .inl (oIf (fun _ => some 0)))), (gp, .inl (cJ, 200, .inr (.inl (lNf (fun _ => 0))))), (a, .inr (1, [.ref am, .ref ap, .int (nI 0)])), (am, .inl (cI, 200, .inl (nIf (fun _ => 0)))), (ap, .inl (cI, 200, .inl (oIf (fun _ => some 0)))), (b, .inr (1, [.ref bm, .ref bp, .int (nI 0)])), (bm, .inl (cI, 200, .inl (nIf (fun _ => 0)))), (bp, .inl (cI, 200, .inl (oIf (fun _ => some 0))))]) (va_runIN (As := []) (rest := [.ref d, .ref x]) ⟨hx, hb, hml, hown, hts⟩ (c_lineNew l D cI cJ cZ d _) ⟨va_cnB 0 hts gX3_init_X1_init_n29 rfl rfl rfl hE.2.2.2.2.2 (hts _ wd_X3_init_ini1) (by decide +kernel) ⟨Nat.le_of_ble_eq_true rfl, Nat.le_of_ble_eq_true rfl⟩, rfl, hts _ wd_X3_init_im1⟩ (preMS hE hP hD [17] rfl rfl rfl) rfl rfl hl.1 rfl (lv_room (Nat.le_of_ble_eq_true rfl)) dX3_init_62 ⟨Nat.le_of_ble_eq_true rfl, Nat.le_of_ble_eq_true rfl⟩) hP hD hS hA [17] [0, 1, 2, 3, 4, 5, 6, 7, 8, 9, 10, 11, 12, 13, 14, 15, 16] rfl rfl (by decide) (by decide) (fun u_ H locs hu hP hD hS => ?_)
  obtain ⟨dm, dp⟩ := u_
  have hP : va_P D vwCl [(x, .inr (3, [.ref xh, .ref w, .ref g, .ref a, .ref b, .null, .long (lN 0), .long (lN 0), .long (lN 0), .int (nI 0), .int (bI false)])), (xh, .inl (cZ, 200, .inl (bIf (fun _ => false)))), (w, .inr (2, [.ref wf, .ref wt, .ref wc, .ref wl_, .int (nI 0)])), (wf, .inl (cI, 1000, .inl (nIf (fun _ => 0)))), (wt, .inl (cI, 1000, .inl (nIf (fun _ => 0)))), (wc, .inl (cJ, 1000, .inr (.inl (lNf (fun _ => 0))))), (wl_, .inl (cZ, 1000, .inl (bIf (fun _ => false)))), (g, .inr (0, [.ref gf, .ref gn, .ref gp])), (gf, .inl (cI, 200, .inl (oIf (fun _ => some 0)))), (gn, .inl (cI, 200, .inl (oIf (fun _ => some 0)))), (gp, .inl (cJ, 200, .inr (.inl (lNf (fun _ => 0))))), (a, .inr (1, [.ref am, .ref ap, .int (nI 0)])), (am, .inl (cI, 200, .inl (nIf (fun _ => 0)))), (ap, .inl (cI, 200, .inl (oIf (fun _ => some 0)))), (b, .inr (1, [.ref bm, .ref bp, .int (nI 0)])), (bm, .inl (cI, 200, .inl (nIf (fun _ => 0)))), (bp, .inl (cI, 200, .inl (oIf (fun _ => some 0)))), (d, .inr (1, [.ref dm, .ref dp, .int (nI 0)])), (dm, .inl (cI, 200, .inl (nIf (fun _ => 0)))), (dp, .inl (cI, 200, .inl (oIf (fun _ => some 0))))] H := hP
  have hD : va_D A [(x, .inr (3, [.ref xh, .ref w, .ref g, .ref a, .ref b, .null, .long (lN 0), .long (lN 0), .long (lN 0), .int (nI 0), .int (bI false)])), (xh, .inl (cZ, 200, .inl (bIf (fun _ => false)))), (w, .inr (2, [.ref wf, .ref wt, .ref wc, .ref wl_, .int (nI 0)])), (wf, .inl (cI, 1000, .inl (nIf (fun _ => 0)))), (wt, .inl (cI, 1000, .inl (nIf (fun _ => 0)))), (wc, .inl (cJ, 1000, .inr (.inl (lNf (fun _ => 0))))), (wl_, .inl (cZ, 1000, .inl (bIf (fun _ => false)))), (g, .inr (0, [.ref gf, .ref gn, .ref gp])), (gf, .inl (cI, 200, .inl (oIf (fun _ => some 0)))), (gn, .inl (cI, 200, .inl (oIf (fun _ => some 0)))), (gp, .inl (cJ, 200, .inr (.inl (lNf (fun _ => 0))))), (a, .inr (1, [.ref am, .ref ap, .int (nI 0)])), (am, .inl (cI, 200, .inl (nIf (fun _ => 0)))), (ap, .inl (cI, 200, .inl (oIf (fun _ => some 0)))), (b, .inr (1, [.ref bm, .ref bp, .int (nI 0)])), (bm, .inl (cI, 200, .inl (nIf (fun _ => 0)))), (bp, .inl (cI, 200, .inl (oIf (fun _ => some 0)))), (d, .inr (1, [.ref dm, .ref dp, .int (nI 0)])), (dm, .inl (cI, 200, .inl (nIf (fun _ => 0)))), (dp, .inl (cI, 200, .inl (oIf (fun _ => some 0))))] := hD
  refine va_putF (D := D) (ci := 3) (v := .ref d) (ty := .object "BlockRows$Line") (C := RX3) (T := TX3) (N := 11) hx hb hts in_X3_init_X3 tyX3 tyX3_ok nmX3 hown hE.1 hP hD hS 0 rfl rfl 5 (by decide) (hts _ fl_X3_init_37) (fun _ h9 => h9) rfl hin rfl (by decide +kernel) rfl rfl (Nat.le_of_ble_eq_true rfl) dX3_init_65 (fun H locs hP hD hS => ?_)
  have hP : va_P D vwCl [(x, .inr (3, [.ref xh, .ref w, .ref g, .ref a, .ref b, .ref d, .long (lN 0), .long (lN 0), .long (lN 0), .int (nI 0), .int (bI false)])), (xh, .inl (cZ, 200, .inl (bIf (fun _ => false)))), (w, .inr (2, [.ref wf, .ref wt, .ref wc, .ref wl_, .int (nI 0)])), (wf, .inl (cI, 1000, .inl (nIf (fun _ => 0)))), (wt, .inl (cI, 1000, .inl (nIf (fun _ => 0)))), (wc, .inl (cJ, 1000, .inr (.inl (lNf (fun _ => 0))))), (wl_, .inl (cZ, 1000, .inl (bIf (fun _ => false)))), (g, .inr (0, [.ref gf, .ref gn, .ref gp])), (gf, .inl (cI, 200, .inl (oIf (fun _ => some 0)))), (gn, .inl (cI, 200, .inl (oIf (fun _ => some 0)))), (gp, .inl (cJ, 200, .inr (.inl (lNf (fun _ => 0))))), (a, .inr (1, [.ref am, .ref ap, .int (nI 0)])), (am, .inl (cI, 200, .inl (nIf (fun _ => 0)))), (ap, .inl (cI, 200, .inl (oIf (fun _ => some 0)))), (b, .inr (1, [.ref bm, .ref bp, .int (nI 0)])), (bm, .inl (cI, 200, .inl (nIf (fun _ => 0)))), (bp, .inl (cI, 200, .inl (oIf (fun _ => some 0)))), (d, .inr (1, [.ref dm, .ref dp, .int (nI 0)])), (dm, .inl (cI, 200, .inl (nIf (fun _ => 0)))), (dp, .inl (cI, 200, .inl (oIf (fun _ => some 0))))] H := hP
  have hD : va_D A [(x, .inr (3, [.ref xh, .ref w, .ref g, .ref a, .ref b, .ref d, .long (lN 0), .long (lN 0), .long (lN 0), .int (nI 0), .int (bI false)])), (xh, .inl (cZ, 200, .inl (bIf (fun _ => false)))), (w, .inr (2, [.ref wf, .ref wt, .ref wc, .ref wl_, .int (nI 0)])), (wf, .inl (cI, 1000, .inl (nIf (fun _ => 0)))), (wt, .inl (cI, 1000, .inl (nIf (fun _ => 0)))), (wc, .inl (cJ, 1000, .inr (.inl (lNf (fun _ => 0))))), (wl_, .inl (cZ, 1000, .inl (bIf (fun _ => false)))), (g, .inr (0, [.ref gf, .ref gn, .ref gp])), (gf, .inl (cI, 200, .inl (oIf (fun _ => some 0)))), (gn, .inl (cI, 200, .inl (oIf (fun _ => some 0)))), (gp, .inl (cJ, 200, .inr (.inl (lNf (fun _ => 0))))), (a, .inr (1, [.ref am, .ref ap, .int (nI 0)])), (am, .inl (cI, 200, .inl (nIf (fun _ => 0)))), (ap, .inl (cI, 200, .inl (oIf (fun _ => some 0)))), (b, .inr (1, [.ref bm, .ref bp, .int (nI 0)])), (bm, .inl (cI, 200, .inl (nIf (fun _ => 0)))), (bp, .inl (cI, 200, .inl (oIf (fun _ => some 0)))), (d, .inr (1, [.ref dm, .ref dp, .int (nI 0)])), (dm, .inl (cI, 200, .inl (nIf (fun _ => 0)))), (dp, .inl (cI, 200, .inl (oIf (fun _ => some 0))))] := hD
  refine lv_aload_n hx hb dX3_init_68 rfl (lv_at hl 0 rfl) ?_
  refine lv_iconst (v := nI 1) hx hb dX3_init_69 (by decide) ?_
  refine va_put (D := D) (ci := 3) (v := .int (nI 1)) (ty := .int) (C := RX3) (T := TX3) (N := 11) hx hb hts in_X3_init_X3 tyX3 tyX3_ok nmX3 hown hE.1 hP hD hS 0 rfl rfl 9 (by decide) (hts _ fl_X3_init_40) (fun _ h9 => h9) rfl (by decide +kernel) rfl rfl (Nat.le_of_ble_eq_true rfl) dX3_init_70 (fun H locs hP hD hS => ?_)
  have hP : va_P D vwCl [(x, .inr (3, [.ref xh, .ref w, .ref g, .ref a, .ref b, .ref d, .long (lN 0), .long (lN 0), .long (lN 0), .int (nI 1), .int (bI false)])), (xh, .inl (cZ, 200, .inl (bIf (fun _ => false)))), (w, .inr (2, [.ref wf, .ref wt, .ref wc, .ref wl_, .int (nI 0)])), (wf, .inl (cI, 1000, .inl (nIf (fun _ => 0)))), (wt, .inl (cI, 1000, .inl (nIf (fun _ => 0)))), (wc, .inl (cJ, 1000, .inr (.inl (lNf (fun _ => 0))))), (wl_, .inl (cZ, 1000, .inl (bIf (fun _ => false)))), (g, .inr (0, [.ref gf, .ref gn, .ref gp])), (gf, .inl (cI, 200, .inl (oIf (fun _ => some 0)))), (gn, .inl (cI, 200, .inl (oIf (fun _ => some 0)))), (gp, .inl (cJ, 200, .inr (.inl (lNf (fun _ => 0))))), (a, .inr (1, [.ref am, .ref ap, .int (nI 0)])), (am, .inl (cI, 200, .inl (nIf (fun _ => 0)))), (ap, .inl (cI, 200, .inl (oIf (fun _ => some 0)))), (b, .inr (1, [.ref bm, .ref bp, .int (nI 0)])), (bm, .inl (cI, 200, .inl (nIf (fun _ => 0)))), (bp, .inl (cI, 200, .inl (oIf (fun _ => some 0)))), (d, .inr (1, [.ref dm, .ref dp, .int (nI 0)])), (dm, .inl (cI, 200, .inl (nIf (fun _ => 0)))), (dp, .inl (cI, 200, .inl (oIf (fun _ => some 0))))] H := hP
  have hD : va_D A [(x, .inr (3, [.ref xh, .ref w, .ref g, .ref a, .ref b, .ref d, .long (lN 0), .long (lN 0), .long (lN 0), .int (nI 1), .int (bI false)])), (xh, .inl (cZ, 200, .inl (bIf (fun _ => false)))), (w, .inr (2, [.ref wf, .ref wt, .ref wc, .ref wl_, .int (nI 0)])), (wf, .inl (cI, 1000, .inl (nIf (fun _ => 0)))), (wt, .inl (cI, 1000, .inl (nIf (fun _ => 0)))), (wc, .inl (cJ, 1000, .inr (.inl (lNf (fun _ => 0))))), (wl_, .inl (cZ, 1000, .inl (bIf (fun _ => false)))), (g, .inr (0, [.ref gf, .ref gn, .ref gp])), (gf, .inl (cI, 200, .inl (oIf (fun _ => some 0)))), (gn, .inl (cI, 200, .inl (oIf (fun _ => some 0)))), (gp, .inl (cJ, 200, .inr (.inl (lNf (fun _ => 0))))), (a, .inr (1, [.ref am, .ref ap, .int (nI 0)])), (am, .inl (cI, 200, .inl (nIf (fun _ => 0)))), (ap, .inl (cI, 200, .inl (oIf (fun _ => some 0)))), (b, .inr (1, [.ref bm, .ref bp, .int (nI 0)])), (bm, .inl (cI, 200, .inl (nIf (fun _ => 0)))), (bp, .inl (cI, 200, .inl (oIf (fun _ => some 0)))), (d, .inr (1, [.ref dm, .ref dp, .int (nI 0)])), (dm, .inl (cI, 200, .inl (nIf (fun _ => 0)))), (dp, .inl (cI, 200, .inl (oIf (fun _ => some 0))))] := hD
  refine lv_aload_n hx hb dX3_init_73 rfl (lv_at hl 0 rfl) ?_
  refine lv_iconst (v := bI true) hx hb dX3_init_74 (by decide) ?_
  refine va_put (D := D) (ci := 3) (v := .int (bI true)) (ty := .boolean) (C := RX3) (T := TX3) (N := 11) hx hb hts in_X3_init_X3 tyX3 tyX3_ok nmX3 hown hE.1 hP hD hS 0 rfl rfl 10 (by decide) (hts _ fl_X3_init_44) (fun _ h9 => h9) rfl (by decide +kernel) (bI_narrow _) (bI_fits _) (Nat.le_of_ble_eq_true rfl) dX3_init_75 (fun H locs hP hD hS => ?_)
  have hP : va_P D vwCl [(x, .inr (3, [.ref xh, .ref w, .ref g, .ref a, .ref b, .ref d, .long (lN 0), .long (lN 0), .long (lN 0), .int (nI 1), .int (bI true)])), (xh, .inl (cZ, 200, .inl (bIf (fun _ => false)))), (w, .inr (2, [.ref wf, .ref wt, .ref wc, .ref wl_, .int (nI 0)])), (wf, .inl (cI, 1000, .inl (nIf (fun _ => 0)))), (wt, .inl (cI, 1000, .inl (nIf (fun _ => 0)))), (wc, .inl (cJ, 1000, .inr (.inl (lNf (fun _ => 0))))), (wl_, .inl (cZ, 1000, .inl (bIf (fun _ => false)))), (g, .inr (0, [.ref gf, .ref gn, .ref gp])), (gf, .inl (cI, 200, .inl (oIf (fun _ => some 0)))), (gn, .inl (cI, 200, .inl (oIf (fun _ => some 0)))), (gp, .inl (cJ, 200, .inr (.inl (lNf (fun _ => 0))))), (a, .inr (1, [.ref am, .ref ap, .int (nI 0)])), (am, .inl (cI, 200, .inl (nIf (fun _ => 0)))), (ap, .inl (cI, 200, .inl (oIf (fun _ => some 0)))), (b, .inr (1, [.ref bm, .ref bp, .int (nI 0)])), (bm, .inl (cI, 200, .inl (nIf (fun _ => 0)))), (bp, .inl (cI, 200, .inl (oIf (fun _ => some 0)))), (d, .inr (1, [.ref dm, .ref dp, .int (nI 0)])), (dm, .inl (cI, 200, .inl (nIf (fun _ => 0)))), (dp, .inl (cI, 200, .inl (oIf (fun _ => some 0))))] H := hP
  have hD : va_D A [(x, .inr (3, [.ref xh, .ref w, .ref g, .ref a, .ref b, .ref d, .long (lN 0), .long (lN 0), .long (lN 0), .int (nI 1), .int (bI true)])), (xh, .inl (cZ, 200, .inl (bIf (fun _ => false)))), (w, .inr (2, [.ref wf, .ref wt, .ref wc, .ref wl_, .int (nI 0)])), (wf, .inl (cI, 1000, .inl (nIf (fun _ => 0)))), (wt, .inl (cI, 1000, .inl (nIf (fun _ => 0)))), (wc, .inl (cJ, 1000, .inr (.inl (lNf (fun _ => 0))))), (wl_, .inl (cZ, 1000, .inl (bIf (fun _ => false)))), (g, .inr (0, [.ref gf, .ref gn, .ref gp])), (gf, .inl (cI, 200, .inl (oIf (fun _ => some 0)))), (gn, .inl (cI, 200, .inl (oIf (fun _ => some 0)))), (gp, .inl (cJ, 200, .inr (.inl (lNf (fun _ => 0))))), (a, .inr (1, [.ref am, .ref ap, .int (nI 0)])), (am, .inl (cI, 200, .inl (nIf (fun _ => 0)))), (ap, .inl (cI, 200, .inl (oIf (fun _ => some 0)))), (b, .inr (1, [.ref bm, .ref bp, .int (nI 0)])), (bm, .inl (cI, 200, .inl (nIf (fun _ => 0)))), (bp, .inl (cI, 200, .inl (oIf (fun _ => some 0)))), (d, .inr (1, [.ref dm, .ref dp, .int (nI 0)])), (dm, .inl (cI, 200, .inl (nIf (fun _ => 0)))), (dp, .inl (cI, 200, .inl (oIf (fun _ => some 0))))] := hD
  refine W.widen (k := 19) (n := 6017) (by omega) (by omega) ?_
  exact e_mv (xh, w, wf, wt, wc, wl_, g, gf, gn, gp, a, am, ap, b, bm, bp, d, dm, dp) hAe hx hb hr hlocks dX3_init_78 (hP.sub [0, 1, 2, 3, 4, 5, 6, 7, 8, 9, 10, 11, 12, 13, 14, 15, 16, 17, 18, 19] rfl) (hD.sub [0, 1, 2, 3, 4, 5, 6, 7, 8, 9, 10, 11, 12, 13, 14, 15, 16, 17, 18, 19] (by decide) rfl) hS trivial
end
