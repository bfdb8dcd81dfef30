section
-- ===== PART A: goes FIRST, ahead of the names: the tables' words, and 'selects' of the private methods out of them =====
/-- a private method of a class that the tables say can be made, by its rows of tables_1 -/
def lw_okq (q : MethodName × Nat) : Prop := (q.1.cls ≠ "java/lang/invoke/MethodHandle" ∧ q.1.cls ≠ "java/lang/invoke/VarHandle") ∧ Cond.instantiable q.1.cls q.2 ∈ tables_1 ∧ Cond.privateMethod q.1 ∈ tables_1 ∧ Cond.instanceMethod q.1 ∈ tables_1
theorem lw_p0 : lw_okq (⟨"BlockRows", "isBlock", "(I)Z"⟩, 11) := ⟨⟨by decide +kernel, by decide +kernel⟩, List.mem_of_getElem? (i := 9) (by decide +kernel), List.mem_of_getElem? (i := 127) (by decide +kernel), List.mem_of_getElem? (i := 128) (by decide +kernel)⟩
theorem lw_p1 : lw_okq (⟨"BlockRows$Ways", "find", "(II)I"⟩, 5) := ⟨⟨by decide +kernel, by decide +kernel⟩, List.mem_of_getElem? (i := 17) (by decide +kernel), List.mem_of_getElem? (i := 142) (by decide +kernel), List.mem_of_getElem? (i := 143) (by decide +kernel)⟩
theorem lw_p2 : lw_okq (⟨"BlockRows$Ways", "add", "(II)I"⟩, 5) := ⟨⟨by decide +kernel, by decide +kernel⟩, List.mem_of_getElem? (i := 17) (by decide +kernel), List.mem_of_getElem? (i := 146) (by decide +kernel), List.mem_of_getElem? (i := 147) (by decide +kernel)⟩
theorem lw_p3 : lw_okq (⟨"BlockRows$Ways", "moveForward", "(I)V"⟩, 5) := ⟨⟨by decide +kernel, by decide +kernel⟩, List.mem_of_getElem? (i := 17) (by decide +kernel), List.mem_of_getElem? (i := 155) (by decide +kernel), List.mem_of_getElem? (i := 156) (by decide +kernel)⟩
theorem lw_p4 : lw_okq (⟨"BlockRows$Ways", "isBefore", "(II)Z"⟩, 5) := ⟨⟨by decide +kernel, by decide +kernel⟩, List.mem_of_getElem? (i := 17) (by decide +kernel), List.mem_of_getElem? (i := 159) (by decide +kernel), List.mem_of_getElem? (i := 160) (by decide +kernel)⟩
theorem lw_p5 : lw_okq (⟨"BlockRows$Ways", "swap", "(II)V"⟩, 5) := ⟨⟨by decide +kernel, by decide +kernel⟩, List.mem_of_getElem? (i := 17) (by decide +kernel), List.mem_of_getElem? (i := 163) (by decide +kernel), List.mem_of_getElem? (i := 164) (by decide +kernel)⟩
theorem lw_p6 : lw_okq (⟨"BlockRows", "refresh", "()V"⟩, 11) := ⟨⟨by decide +kernel, by decide +kernel⟩, List.mem_of_getElem? (i := 9) (by decide +kernel), List.mem_of_getElem? (i := 179) (by decide +kernel), List.mem_of_getElem? (i := 180) (by decide +kernel)⟩
theorem lw_p7 : lw_okq (⟨"BlockRows", "lineUpByNumber", "()V"⟩, 11) := ⟨⟨by decide +kernel, by decide +kernel⟩, List.mem_of_getElem? (i := 9) (by decide +kernel), List.mem_of_getElem? (i := 183) (by decide +kernel), List.mem_of_getElem? (i := 184) (by decide +kernel)⟩
theorem lw_p8 : lw_okq (⟨"BlockRows$Chains", "mayJoin", "(II)Z"⟩, 3) := ⟨⟨by decide +kernel, by decide +kernel⟩, List.mem_of_getElem? (i := 47) (by decide +kernel), List.mem_of_getElem? (i := 214) (by decide +kernel), List.mem_of_getElem? (i := 215) (by decide +kernel)⟩
theorem lw_p9 : lw_okq (⟨"BlockRows$Chains", "join", "(II)V"⟩, 3) := ⟨⟨by decide +kernel, by decide +kernel⟩, List.mem_of_getElem? (i := 47) (by decide +kernel), List.mem_of_getElem? (i := 223) (by decide +kernel), List.mem_of_getElem? (i := 224) (by decide +kernel)⟩
theorem lw_p10 : lw_okq (⟨"BlockRows$Chains", "mostPulled", "(LBlockRows$Line;LBlockRows$Line;)I"⟩, 3) := ⟨⟨by decide +kernel, by decide +kernel⟩, List.mem_of_getElem? (i := 47) (by decide +kernel), List.mem_of_getElem? (i := 235) (by decide +kernel), List.mem_of_getElem? (i := 236) (by decide +kernel)⟩
theorem lw_p11 : lw_okq (⟨"BlockRows$Chains", "pullOf", "(I)J"⟩, 3) := ⟨⟨by decide +kernel, by decide +kernel⟩, List.mem_of_getElem? (i := 47) (by decide +kernel), List.mem_of_getElem? (i := 243) (by decide +kernel), List.mem_of_getElem? (i := 244) (by decide +kernel)⟩
theorem lw_p12 : lw_okq (⟨"BlockRows$Chains", "appendChain", "(ILBlockRows$Line;)V"⟩, 3) := ⟨⟨by decide +kernel, by decide +kernel⟩, List.mem_of_getElem? (i := 47) (by decide +kernel), List.mem_of_getElem? (i := 247) (by decide +kernel), List.mem_of_getElem? (i := 248) (by decide +kernel)⟩
theorem lw_p13 : lw_okq (⟨"BlockRows$Chains", "pullTowards", "(ILBlockRows$Ways;)V"⟩, 3) := ⟨⟨by decide +kernel, by decide +kernel⟩, List.mem_of_getElem? (i := 47) (by decide +kernel), List.mem_of_getElem? (i := 252) (by decide +kernel), List.mem_of_getElem? (i := 253) (by decide +kernel)⟩
theorem lw_p14 : lw_okq (⟨"BlockRows", "chainsAreBetter", "()Z"⟩, 11) := ⟨⟨by decide +kernel, by decide +kernel⟩, List.mem_of_getElem? (i := 9) (by decide +kernel), List.mem_of_getElem? (i := 269) (by decide +kernel), List.mem_of_getElem? (i := 270) (by decide +kernel)⟩
theorem lw_p15 : lw_okq (⟨"BlockRowsModel", "isBlock", "(I)Z"⟩, 18) := ⟨⟨by decide +kernel, by decide +kernel⟩, List.mem_of_getElem? (i := 283) (by decide +kernel), List.mem_of_getElem? (i := 353) (by decide +kernel), List.mem_of_getElem? (i := 354) (by decide +kernel)⟩
def lw_privs_1 : List (MethodName × Nat) := [(⟨"BlockRows", "isBlock", "(I)Z"⟩, 11), (⟨"BlockRows$Ways", "find", "(II)I"⟩, 5), (⟨"BlockRows$Ways", "add", "(II)I"⟩, 5), (⟨"BlockRows$Ways", "moveForward", "(I)V"⟩, 5), (⟨"BlockRows$Ways", "isBefore", "(II)Z"⟩, 5), (⟨"BlockRows$Ways", "swap", "(II)V"⟩, 5), (⟨"BlockRows", "refresh", "()V"⟩, 11), (⟨"BlockRows", "lineUpByNumber", "()V"⟩, 11), (⟨"BlockRows$Chains", "mayJoin", "(II)Z"⟩, 3), (⟨"BlockRows$Chains", "join", "(II)V"⟩, 3), (⟨"BlockRows$Chains", "mostPulled", "(LBlockRows$Line;LBlockRows$Line;)I"⟩, 3), (⟨"BlockRows$Chains", "pullOf", "(I)J"⟩, 3), (⟨"BlockRows$Chains", "appendChain", "(ILBlockRows$Line;)V"⟩, 3), (⟨"BlockRows$Chains", "pullTowards", "(ILBlockRows$Ways;)V"⟩, 3), (⟨"BlockRows", "chainsAreBetter", "()Z"⟩, 11), (⟨"BlockRowsModel", "isBlock", "(I)Z"⟩, 18)]
theorem lw_r1 : ∀ q ∈ lw_privs_1, lw_okq q := List.forall_mem_cons.mpr ⟨lw_p0, List.forall_mem_cons.mpr ⟨lw_p1, List.forall_mem_cons.mpr ⟨lw_p2, List.forall_mem_cons.mpr ⟨lw_p3, List.forall_mem_cons.mpr ⟨lw_p4, List.forall_mem_cons.mpr ⟨lw_p5, List.forall_mem_cons.mpr ⟨lw_p6, List.forall_mem_cons.mpr ⟨lw_p7, List.forall_mem_cons.mpr ⟨lw_p8, List.forall_mem_cons.mpr ⟨lw_p9, List.forall_mem_cons.mpr ⟨lw_p10, List.forall_mem_cons.mpr ⟨lw_p11, List.forall_mem_cons.mpr ⟨lw_p12, List.forall_mem_cons.mpr ⟨lw_p13, List.forall_mem_cons.mpr ⟨lw_p14, List.forall_mem_cons.mpr ⟨lw_p15, fun _ h => absurd h List.not_mem_nil⟩⟩⟩⟩⟩⟩⟩⟩⟩⟩⟩⟩⟩⟩⟩⟩
theorem lw_p16 : lw_okq (⟨"BlockRowsModel", "find", "(II)I"⟩, 18) := ⟨⟨by decide +kernel, by decide +kernel⟩, List.mem_of_getElem? (i := 283) (by decide +kernel), List.mem_of_getElem? (i := 364) (by decide +kernel), List.mem_of_getElem? (i := 365) (by decide +kernel)⟩
theorem lw_p17 : lw_okq (⟨"BlockRowsModel", "know", "()V"⟩, 18) := ⟨⟨by decide +kernel, by decide +kernel⟩, List.mem_of_getElem? (i := 283) (by decide +kernel), List.mem_of_getElem? (i := 379) (by decide +kernel), List.mem_of_getElem? (i := 380) (by decide +kernel)⟩
theorem lw_p18 : lw_okq (⟨"BlockRowsModel", "chains", "()V"⟩, 18) := ⟨⟨by decide +kernel, by decide +kernel⟩, List.mem_of_getElem? (i := 283) (by decide +kernel), List.mem_of_getElem? (i := 383) (by decide +kernel), List.mem_of_getElem? (i := 384) (by decide +kernel)⟩
theorem lw_p19 : lw_okq (⟨"BlockRowsModel", "comesBefore", "(II)Z"⟩, 18) := ⟨⟨by decide +kernel, by decide +kernel⟩, List.mem_of_getElem? (i := 283) (by decide +kernel), List.mem_of_getElem? (i := 387) (by decide +kernel), List.mem_of_getElem? (i := 388) (by decide +kernel)⟩
theorem lw_p20 : lw_okq (⟨"BlockRowsModel", "place", "()V"⟩, 18) := ⟨⟨by decide +kernel, by decide +kernel⟩, List.mem_of_getElem? (i := 283) (by decide +kernel), List.mem_of_getElem? (i := 391) (by decide +kernel), List.mem_of_getElem? (i := 392) (by decide +kernel)⟩
theorem lw_p21 : lw_okq (⟨"BlockRowsModel", "sum", "(I)J"⟩, 18) := ⟨⟨by decide +kernel, by decide +kernel⟩, List.mem_of_getElem? (i := 283) (by decide +kernel), List.mem_of_getElem? (i := 395) (by decide +kernel), List.mem_of_getElem? (i := 396) (by decide +kernel)⟩
theorem lw_p22 : lw_okq (⟨"BlockRowsModel", "weightOf", "([II)J"⟩, 18) := ⟨⟨by decide +kernel, by decide +kernel⟩, List.mem_of_getElem? (i := 283) (by decide +kernel), List.mem_of_getElem? (i := 399) (by decide +kernel), List.mem_of_getElem? (i := 400) (by decide +kernel)⟩
def lw_privs_2 : List (MethodName × Nat) := [(⟨"BlockRowsModel", "find", "(II)I"⟩, 18), (⟨"BlockRowsModel", "know", "()V"⟩, 18), (⟨"BlockRowsModel", "chains", "()V"⟩, 18), (⟨"BlockRowsModel", "comesBefore", "(II)Z"⟩, 18), (⟨"BlockRowsModel", "place", "()V"⟩, 18), (⟨"BlockRowsModel", "sum", "(I)J"⟩, 18), (⟨"BlockRowsModel", "weightOf", "([II)J"⟩, 18)]
theorem lw_r2 : ∀ q ∈ lw_privs_2, lw_okq q := List.forall_mem_cons.mpr ⟨lw_p16, List.forall_mem_cons.mpr ⟨lw_p17, List.forall_mem_cons.mpr ⟨lw_p18, List.forall_mem_cons.mpr ⟨lw_p19, List.forall_mem_cons.mpr ⟨lw_p20, List.forall_mem_cons.mpr ⟨lw_p21, List.forall_mem_cons.mpr ⟨lw_p22, fun _ h => absurd h List.not_mem_nil⟩⟩⟩⟩⟩⟩⟩
def lw_privs : List (MethodName × Nat) := lw_privs_1 ++ (lw_privs_2)
def lw_tbl : List Cond := k2_sels lw_privs ++ tables_1
theorem lw_privs_ok : ∀ q ∈ lw_privs, lw_okq q := by
  show ∀ q ∈ lw_privs_1 ++ (lw_privs_2), lw_okq q
  exact List.forall_mem_append.mpr ⟨lw_r1, lw_r2⟩
-- ===== end of PART A; then your names; then what follows =====
/-! ===== BEGIN words of one list among another's, by their places ===== -/
theorem goodIn_r {big : List Cond} (ws : List Cond) (ps : List Nat) (hp : ws = ps.filterMap (fun i => big[i]?)) (h : ws.all goodWord = true) : GoodIn big ws := by
  intro w hw
  have h1 := List.all_eq_true.mp h w hw
  rw [hp] at hw
  obtain ⟨i, -, hi⟩ := List.mem_filterMap.mp hw
  have hm : w ∈ big := by first | exact List.mem_of_getElem? hi | exact List.getElem?_mem hi
  exact ⟨hm, good_of_word h1⟩
theorem goodIn_app {big a b : List Cond} (ha : GoodIn big a) (hb : GoodIn big b) : GoodIn big (a ++ b) := fun w h => (List.mem_append.mp h).elim (ha w) (hb w)
theorem goodIn_ca {big a b : List Cond} {c : Cond} (ha : GoodIn big (c :: a)) (hb : GoodIn big b) : GoodIn big (c :: (a ++ b)) := fun w h => (List.mem_cons.mp h).elim (fun e => ha w (List.mem_cons.mpr (Or.inl e))) (fun h => (List.mem_append.mp h).elim (fun h => ha w (List.mem_cons.mpr (Or.inr h))) (hb w))
theorem goodIn_sub {big ws : List Cond} (hm : ∀ w ∈ ws, w ∈ big) (h : ws.all goodWord = true) : GoodIn big ws := fun w hw => ⟨hm w hw, good_of_word (List.all_eq_true.mp h w hw)⟩
/-! ===== END ===== -/

/-! ===== BEGIN printed: names, fields, word lists, decode rows ===== -/
def RX0 : String := "BlockRows$Chains"
def TX0 : u_T := fun k => match k with
  | 0 => ("BlockRows$Chains", "first", "[I", true)
  | 1 => ("BlockRows$Chains", "next", "[I", true)
  | _ => ("BlockRows$Chains", "pulls", "[J", true)
def tyX0 : Nat → FieldType := fun k => match k with
  | 0 => .array .int
  | 1 => .array .int
  | _ => .array .long
abbrev wsX00 : List Cond := u_ws RX0 TX0 3
theorem nmX0 : ∀ a, a < 3 → ∀ b, b < 3 → a ≠ b → (TX0 a).2.1 ≠ (TX0 b).2.1 := by decide +kernel
theorem tyX0_ok : ∀ k, k < 3 → parseFieldDescriptor (TX0 k).2.2.1 = some (tyX0 k) := by decide +kernel
abbrev cX0_init : ByteArray := prog_2_method_1_code
def yX0_init : MethodName := ⟨RX0, "<init>", "()V"⟩
abbrev cX0_start : ByteArray := prog_2_method_2_code
def yX0_start : MethodName := ⟨RX0, "start", "(LBlockRows$Line;)V"⟩
abbrev cX0_firstOf : ByteArray := prog_2_method_3_code
def yX0_firstOf : MethodName := ⟨RX0, "firstOf", "(I)I"⟩
abbrev cX0_joinAlong : ByteArray := prog_2_method_4_code
def yX0_joinAlong : MethodName := ⟨RX0, "joinAlong", "(LBlockRows$Ways;)V"⟩
abbrev cX0_lineUp : ByteArray := prog_2_method_5_code
def yX0_lineUp : MethodName := ⟨RX0, "lineUp", "(LBlockRows$Line;LBlockRows$Ways;LBlockRows$Line;)V"⟩
abbrev cX0_mayJoin : ByteArray := prog_2_method_6_code
def yX0_mayJoin : MethodName := ⟨RX0, "mayJoin", "(II)Z"⟩
abbrev cX0_join : ByteArray := prog_2_method_7_code
def yX0_join : MethodName := ⟨RX0, "join", "(II)V"⟩
abbrev cX0_mostPulled : ByteArray := prog_2_method_8_code
def yX0_mostPulled : MethodName := ⟨RX0, "mostPulled", "(LBlockRows$Line;LBlockRows$Line;)I"⟩
abbrev cX0_pullOf : ByteArray := prog_2_method_9_code
def yX0_pullOf : MethodName := ⟨RX0, "pullOf", "(I)J"⟩
abbrev cX0_appendChain : ByteArray := prog_2_method_10_code
def yX0_appendChain : MethodName := ⟨RX0, "appendChain", "(ILBlockRows$Line;)V"⟩
abbrev cX0_pullTowards : ByteArray := prog_2_method_11_code
def yX0_pullTowards : MethodName := ⟨RX0, "pullTowards", "(ILBlockRows$Ways;)V"⟩
def RX1 : String := "BlockRows$Line"
def TX1 : u_T := fun k => match k with
  | 0 => ("BlockRows$Line", "members", "[I", true)
  | 1 => ("BlockRows$Line", "places", "[I", true)
  | _ => ("BlockRows$Line", "filled", "I", false)
def tyX1 : Nat → FieldType := fun k => match k with
  | 0 => .array .int
  | 1 => .array .int
  | _ => .int
abbrev wsX10 : List Cond := u_ws RX1 TX1 3
theorem nmX1 : ∀ a, a < 3 → ∀ b, b < 3 → a ≠ b → (TX1 a).2.1 ≠ (TX1 b).2.1 := by decide +kernel
theorem tyX1_ok : ∀ k, k < 3 → parseFieldDescriptor (TX1 k).2.2.1 = some (tyX1 k) := by decide +kernel
abbrev cX1_init : ByteArray := prog_3_method_1_code
def yX1_init : MethodName := ⟨RX1, "<init>", "()V"⟩
abbrev cX1_empty : ByteArray := prog_3_method_2_code
def yX1_empty : MethodName := ⟨RX1, "empty", "()V"⟩
abbrev cX1_append : ByteArray := prog_3_method_3_code
def yX1_append : MethodName := ⟨RX1, "append", "(I)V"⟩
abbrev cX1_blockAt : ByteArray := prog_3_method_4_code
def yX1_blockAt : MethodName := ⟨RX1, "blockAt", "(I)I"⟩
abbrev cX1_holds : ByteArray := prog_3_method_5_code
def yX1_holds : MethodName := ⟨RX1, "holds", "(I)Z"⟩
abbrev cX1_goesOn : ByteArray := prog_3_method_6_code
def yX1_goesOn : MethodName := ⟨RX1, "goesOn", "(II)Z"⟩
def RX2 : String := "BlockRows$Ways"
def TX2 : u_T := fun k => match k with
  | 0 => ("BlockRows$Ways", "from", "[I", true)
  | 1 => ("BlockRows$Ways", "to", "[I", true)
  | 2 => ("BlockRows$Ways", "counts", "[J", true)
  | 3 => ("BlockRows$Ways", "falling", "[Z", true)
  | _ => ("BlockRows$Ways", "known", "I", false)
def tyX2 : Nat → FieldType := fun k => match k with
  | 0 => .array .int
  | 1 => .array .int
  | 2 => .array .long
  | 3 => .array .boolean
  | _ => .int
abbrev wsX20 : List Cond := u_ws RX2 TX2 5
theorem nmX2 : ∀ a, a < 5 → ∀ b, b < 5 → a ≠ b → (TX2 a).2.1 ≠ (TX2 b).2.1 := by decide +kernel
theorem tyX2_ok : ∀ k, k < 5 → parseFieldDescriptor (TX2 k).2.2.1 = some (tyX2 k) := by decide +kernel
abbrev cX2_init : ByteArray := prog_4_method_1_code
def yX2_init : MethodName := ⟨RX2, "<init>", "()V"⟩
abbrev cX2_forget : ByteArray := prog_4_method_2_code
def yX2_forget : MethodName := ⟨RX2, "forget", "()V"⟩
abbrev cX2_told : ByteArray := prog_4_method_3_code
def yX2_told : MethodName := ⟨RX2, "told", "(II)J"⟩
abbrev cX2_tell : ByteArray := prog_4_method_4_code
def yX2_tell : MethodName := ⟨RX2, "tell", "(IIIZ)J"⟩
abbrev cX2_weigh : ByteArray := prog_4_method_5_code
def yX2_weigh : MethodName := ⟨RX2, "weigh", "(LBlockRows$Line;)J"⟩
abbrev cX2_find : ByteArray := prog_4_method_6_code
def yX2_find : MethodName := ⟨RX2, "find", "(II)I"⟩
abbrev cX2_add : ByteArray := prog_4_method_7_code
def yX2_add : MethodName := ⟨RX2, "add", "(II)I"⟩
abbrev cX2_moveForward : ByteArray := prog_4_method_8_code
def yX2_moveForward : MethodName := ⟨RX2, "moveForward", "(I)V"⟩
abbrev cX2_isBefore : ByteArray := prog_4_method_9_code
def yX2_isBefore : MethodName := ⟨RX2, "isBefore", "(II)Z"⟩
abbrev cX2_swap : ByteArray := prog_4_method_10_code
def yX2_swap : MethodName := ⟨RX2, "swap", "(II)V"⟩
def RX3 : String := "BlockRows"
def TX3 : u_T := fun k => match k with
  | 0 => ("BlockRows", "hot", "[Z", true)
  | 1 => ("BlockRows", "ways", "LBlockRows$Ways;", true)
  | 2 => ("BlockRows", "chains", "LBlockRows$Chains;", true)
  | 3 => ("BlockRows", "allByNumber", "LBlockRows$Line;", true)
  | 4 => ("BlockRows", "hotByNumber", "LBlockRows$Line;", true)
  | 5 => ("BlockRows", "hotByChains", "LBlockRows$Line;", true)
  | 6 => ("BlockRows", "allWeight", "J", false)
  | 7 => ("BlockRows", "hotWeight", "J", false)
  | 8 => ("BlockRows", "chainsWeight", "J", false)
  | 9 => ("BlockRows", "blocks", "I", false)
  | _ => ("BlockRows", "stale", "Z", false)
def tyX3 : Nat → FieldType := fun k => match k with
  | 0 => .array .boolean
  | 1 => .object "BlockRows$Ways"
  | 2 => .object "BlockRows$Chains"
  | 3 => .object "BlockRows$Line"
  | 4 => .object "BlockRows$Line"
  | 5 => .object "BlockRows$Line"
  | 6 => .long
  | 7 => .long
  | 8 => .long
  | 9 => .int
  | _ => .boolean
abbrev wsX30 : List Cond := u_ws RX3 TX3 11
theorem nmX3 : ∀ a, a < 11 → ∀ b, b < 11 → a ≠ b → (TX3 a).2.1 ≠ (TX3 b).2.1 := by decide +kernel
theorem tyX3_ok : ∀ k, k < 11 → parseFieldDescriptor (TX3 k).2.2.1 = some (tyX3 k) := by decide +kernel
abbrev cX3_init : ByteArray := prog_1_method_1_code
def yX3_init : MethodName := ⟨RX3, "<init>", "()V"⟩
abbrev cX3_size : ByteArray := prog_1_method_2_code
def yX3_size : MethodName := ⟨RX3, "size", "(I)Z"⟩
abbrev cX3_heat : ByteArray := prog_1_method_3_code
def yX3_heat : MethodName := ⟨RX3, "heat", "(IZ)Z"⟩
abbrev cX3_way : ByteArray := prog_1_method_4_code
def yX3_way : MethodName := ⟨RX3, "way", "(IIIZ)J"⟩
abbrev cX3_count : ByteArray := prog_1_method_5_code
def yX3_count : MethodName := ⟨RX3, "count", "(II)J"⟩
abbrev cX3_length : ByteArray := prog_1_method_6_code
def yX3_length : MethodName := ⟨RX3, "length", "()I"⟩
abbrev cX3_row : ByteArray := prog_1_method_7_code
def yX3_row : MethodName := ⟨RX3, "row", "(I)I"⟩
abbrev cX3_weight : ByteArray := prog_1_method_8_code
def yX3_weight : MethodName := ⟨RX3, "weight", "(I)J"⟩
abbrev cX3_chain : ByteArray := prog_1_method_9_code
def yX3_chain : MethodName := ⟨RX3, "chain", "(I)I"⟩
abbrev cX3_isBlock : ByteArray := prog_1_method_10_code
def yX3_isBlock : MethodName := ⟨RX3, "isBlock", "(I)Z"⟩
abbrev cX3_fitsRows : ByteArray := prog_1_method_11_code
def yX3_fitsRows : MethodName := ⟨RX3, "fitsRows", "(I)Z"⟩
abbrev cX3_chainsAreBetter : ByteArray := prog_1_method_12_code
def yX3_chainsAreBetter : MethodName := ⟨RX3, "chainsAreBetter", "()Z"⟩
abbrev cX3_refresh : ByteArray := prog_1_method_13_code
def yX3_refresh : MethodName := ⟨RX3, "refresh", "()V"⟩
abbrev cX3_lineUpByNumber : ByteArray := prog_1_method_14_code
def yX3_lineUpByNumber : MethodName := ⟨RX3, "lineUpByNumber", "()V"⟩
def RX4 : String := "BlockRowsModel"
def TX4 : u_T := fun k => match k with
  | 0 => ("BlockRowsModel", "blocks", "I", false)
  | 1 => ("BlockRowsModel", "hot", "[Z", true)
  | 2 => ("BlockRowsModel", "ways", "I", false)
  | 3 => ("BlockRowsModel", "from", "[I", true)
  | 4 => ("BlockRowsModel", "to", "[I", true)
  | 5 => ("BlockRowsModel", "counts", "[J", true)
  | 6 => ("BlockRowsModel", "fall", "[Z", true)
  | 7 => ("BlockRowsModel", "isKnown", "Z", false)
  | 8 => ("BlockRowsModel", "table", "[I", true)
  | 9 => ("BlockRowsModel", "many", "[I", true)
  | 10 => ("BlockRowsModel", "chainOf", "[I", true)
  | 11 => ("BlockRowsModel", "byChains", "[I", true)
  | 12 => ("BlockRowsModel", "byNumber", "[I", true)
  | 13 => ("BlockRowsModel", "hots", "I", false)
  | 14 => ("BlockRowsModel", "isBetter", "Z", false)
  | 15 => ("BlockRowsModel", "looked", "[Z", true)
  | 16 => ("BlockRowsModel", "isPlaced", "[Z", true)
  | _ => ("BlockRowsModel", "all", "[I", true)
def tyX4 : Nat → FieldType := fun k => match k with
  | 0 => .int
  | 1 => .array .boolean
  | 2 => .int
  | 3 => .array .int
  | 4 => .array .int
  | 5 => .array .long
  | 6 => .array .boolean
  | 7 => .boolean
  | 8 => .array .int
  | 9 => .array .int
  | 10 => .array .int
  | 11 => .array .int
  | 12 => .array .int
  | 13 => .int
  | 14 => .boolean
  | 15 => .array .boolean
  | 16 => .array .boolean
  | _ => .array .int
abbrev wsX40 : List Cond := u_ws RX4 TX4 18
theorem nmX4 : ∀ a, a < 18 → ∀ b, b < 18 → a ≠ b → (TX4 a).2.1 ≠ (TX4 b).2.1 := by decide +kernel
theorem tyX4_ok : ∀ k, k < 18 → parseFieldDescriptor (TX4 k).2.2.1 = some (tyX4 k) := by decide +kernel
abbrev cX4_init : ByteArray := prog_6_method_1_code
def yX4_init : MethodName := ⟨RX4, "<init>", "()V"⟩
abbrev cX4_isBlock : ByteArray := prog_6_method_3_code
def yX4_isBlock : MethodName := ⟨RX4, "isBlock", "(I)Z"⟩
abbrev cX4_size : ByteArray := prog_6_method_4_code
def yX4_size : MethodName := ⟨RX4, "size", "(I)Z"⟩
abbrev cX4_heat : ByteArray := prog_6_method_5_code
def yX4_heat : MethodName := ⟨RX4, "heat", "(IZ)Z"⟩
abbrev cX4_find : ByteArray := prog_6_method_6_code
def yX4_find : MethodName := ⟨RX4, "find", "(II)I"⟩
abbrev cX4_way : ByteArray := prog_6_method_7_code
def yX4_way : MethodName := ⟨RX4, "way", "(IIIZ)J"⟩
abbrev cX4_count : ByteArray := prog_6_method_8_code
def yX4_count : MethodName := ⟨RX4, "count", "(II)J"⟩
abbrev cX4_know : ByteArray := prog_6_method_9_code
def yX4_know : MethodName := ⟨RX4, "know", "()V"⟩
abbrev cX4_comesBefore : ByteArray := prog_6_method_10_code
def yX4_comesBefore : MethodName := ⟨RX4, "comesBefore", "(II)Z"⟩
abbrev cX4_chains : ByteArray := prog_6_method_11_code
def yX4_chains : MethodName := ⟨RX4, "chains", "()V"⟩
abbrev cX4_place : ByteArray := prog_6_method_12_code
def yX4_place : MethodName := ⟨RX4, "place", "()V"⟩
abbrev cX4_sum : ByteArray := prog_6_method_13_code
def yX4_sum : MethodName := ⟨RX4, "sum", "(I)J"⟩
abbrev cX4_weightOf : ByteArray := prog_6_method_14_code
def yX4_weightOf : MethodName := ⟨RX4, "weightOf", "([II)J"⟩
abbrev cX4_length : ByteArray := prog_6_method_15_code
def yX4_length : MethodName := ⟨RX4, "length", "()I"⟩
abbrev cX4_row : ByteArray := prog_6_method_16_code
def yX4_row : MethodName := ⟨RX4, "row", "(I)I"⟩
abbrev cX4_weight : ByteArray := prog_6_method_17_code
def yX4_weight : MethodName := ⟨RX4, "weight", "(I)J"⟩
abbrev cX4_chain : ByteArray := prog_6_method_18_code
def yX4_chain : MethodName := ⟨RX4, "chain", "(I)I"⟩
def RJ9 : String := "java/lang/Math"
def TJ9 : u_T := fun k => match k with
  | _ => ("", "", "", false)
def tyJ9 : Nat → FieldType := fun k => match k with
  | _ => .int
abbrev wsJ90 : List Cond := u_ws RJ9 TJ9 0
theorem nmJ9 : ∀ a, a < 0 → ∀ b, b < 0 → a ≠ b → (TJ9 a).2.1 ≠ (TJ9 b).2.1 := by decide +kernel
theorem tyJ9_ok : ∀ k, k < 0 → parseFieldDescriptor (TJ9 k).2.2.1 = some (tyJ9 k) := by decide +kernel
abbrev cJ9_min_f86c9 : ByteArray := prog_7_method_70_code
def yJ9_min_f86c9 : MethodName := ⟨RJ9, "min", "(JJ)J"⟩
def RJ7 : String := "java/util/Arrays"
def TJ7 : u_T := fun k => match k with
  | _ => ("", "", "", false)
def tyJ7 : Nat → FieldType := fun k => match k with
  | _ => .int
abbrev wsJ70 : List Cond := u_ws RJ7 TJ7 0
theorem nmJ7 : ∀ a, a < 0 → ∀ b, b < 0 → a ≠ b → (TJ7 a).2.1 ≠ (TJ7 b).2.1 := by decide +kernel
theorem tyJ7_ok : ∀ k, k < 0 → parseFieldDescriptor (TJ7 k).2.2.1 = some (tyJ7 k) := by decide +kernel
abbrev cJ7_fill_d0a16 : ByteArray := prog_8_method_101_code
def yJ7_fill_d0a16 : MethodName := ⟨RJ7, "fill", "([JJ)V"⟩
abbrev cJ7_fill_53178 : ByteArray := prog_8_method_103_code
def yJ7_fill_53178 : MethodName := ⟨RJ7, "fill", "([II)V"⟩
def RL : String := "BlockRowsLaw"
abbrev cL_law : ByteArray := code
def yL_law : MethodName := ⟨RL, "law", "([I)Z"⟩
def wsX0_init : List Cond := .code yX0_init cX0_init 1 none :: ([.methodLink RX0 3 objectInit, .instanceMethod objectInit, .code objectInit ⟨#[0xb1]⟩ 1 none, .arrayClass .int, .fieldLink RX0 9 "BlockRows$Chains" "first" "[I", .fieldLink RX0 15 "BlockRows$Chains" "next" "[I", .arrayClass .long, .fieldLink RX0 18 "BlockRows$Chains" "pulls" "[J"] ++ wsX00)
def wsJ7_fill_53178 : List Cond := .code yJ7_fill_53178 cJ7_fill_53178 4 none :: ([])
def wsX3_fitsRows : List Cond := .code yX3_fitsRows cX3_fitsRows 1 (some .boolean) :: ([])
def wsX1_holds : List Cond := .code yX1_holds cX1_holds 2 (some .boolean) :: ([.fieldLink RX1 15 "BlockRows$Line" "places" "[I", .static yX3_fitsRows, .initialized RX3, .code yX3_fitsRows cX3_fitsRows 1 (some .boolean)] ++ wsX10)
def wsX0_start : List Cond := .code yX0_start cX0_start 3 none :: ([.fieldLink RX0 15 "BlockRows$Chains" "next" "[I", .fieldLink RX0 9 "BlockRows$Chains" "first" "[I", .methodLink RX0 22 yJ7_fill_53178, .static yJ7_fill_53178, .initialized RJ7, .code yJ7_fill_53178 cJ7_fill_53178 4 none, .methodLink RX0 28 yX1_holds, .instanceMethod yX1_holds, .selects RX1 yX1_holds yX1_holds, .initialized RX1, .code yX1_holds cX1_holds 2 (some .boolean), .fieldLink RX1 15 "BlockRows$Line" "places" "[I", .static yX3_fitsRows, .initialized RX3, .code yX3_fitsRows cX3_fitsRows 1 (some .boolean)] ++ wsX00 ++ wsX10)
def wsX0_firstOf : List Cond := .code yX0_firstOf cX0_firstOf 2 (some .int) :: ([.fieldLink RX0 9 "BlockRows$Chains" "first" "[I", .static yX3_fitsRows, .initialized RX3, .code yX3_fitsRows cX3_fitsRows 1 (some .boolean)] ++ wsX00)
def wsX0_mayJoin : List Cond := .code yX0_mayJoin cX0_mayJoin 5 (some .boolean) :: ([.fieldLink RX0 15 "BlockRows$Chains" "next" "[I", .methodLink RX0 85 yX0_firstOf, .instanceMethod yX0_firstOf, .selects RX0 yX0_firstOf yX0_firstOf, .initialized RX0, .code yX0_firstOf cX0_firstOf 2 (some .int), .fieldLink RX0 9 "BlockRows$Chains" "first" "[I", .static yX3_fitsRows, .initialized RX3, .code yX3_fitsRows cX3_fitsRows 1 (some .boolean)] ++ wsX00)
def wsX0_join : List Cond := .code yX0_join cX0_join 6 none :: ([.fieldLink RX0 15 "BlockRows$Chains" "next" "[I", .fieldLink RX0 9 "BlockRows$Chains" "first" "[I", .methodLink RX0 85 yX0_firstOf, .instanceMethod yX0_firstOf, .selects RX0 yX0_firstOf yX0_firstOf, .initialized RX0, .code yX0_firstOf cX0_firstOf 2 (some .int), .static yX3_fitsRows, .initialized RX3, .code yX3_fitsRows cX3_fitsRows 1 (some .boolean)] ++ wsX00)
def wsX0_joinAlong : List Cond := .code yX0_joinAlong cX0_joinAlong 5 none :: ([.methodLink RX0 56 yX0_mayJoin, .instanceMethod yX0_mayJoin, .selects RX0 yX0_mayJoin yX0_mayJoin, .initialized RX0, .code yX0_mayJoin cX0_mayJoin 5 (some .boolean), .fieldLink RX0 15 "BlockRows$Chains" "next" "[I", .methodLink RX0 85 yX0_firstOf, .instanceMethod yX0_firstOf, .selects RX0 yX0_firstOf yX0_firstOf, .code yX0_firstOf cX0_firstOf 2 (some .int), .fieldLink RX0 9 "BlockRows$Chains" "first" "[I", .static yX3_fitsRows, .initialized RX3, .code yX3_fitsRows cX3_fitsRows 1 (some .boolean), .methodLink RX0 60 yX0_join, .instanceMethod yX0_join, .selects RX0 yX0_join yX0_join, .code yX0_join cX0_join 6 none] ++ wsX20 ++ wsX00)
def wsX1_empty : List Cond := .code yX1_empty cX1_empty 1 none :: ([.fieldLink RX1 18 "BlockRows$Line" "filled" "I", .fieldLink RX1 15 "BlockRows$Line" "places" "[I", .methodLink RX1 22 yJ7_fill_53178, .static yJ7_fill_53178, .initialized RJ7, .code yJ7_fill_53178 cJ7_fill_53178 4 none] ++ wsX10)
def wsJ7_fill_d0a16 : List Cond := .code yJ7_fill_d0a16 cJ7_fill_d0a16 5 none :: ([])
def wsX1_blockAt : List Cond := .code yX1_blockAt cX1_blockAt 2 (some .int) :: ([.fieldLink RX1 18 "BlockRows$Line" "filled" "I", .fieldLink RX1 9 "BlockRows$Line" "members" "[I"] ++ wsX10)
def wsX0_pullOf : List Cond := .code yX0_pullOf cX0_pullOf 2 (some .long) :: ([.fieldLink RX0 18 "BlockRows$Chains" "pulls" "[J", .static yX3_fitsRows, .initialized RX3, .code yX3_fitsRows cX3_fitsRows 1 (some .boolean)] ++ wsX00)
def wsX0_mostPulled_r1 : List Cond := [Cond.methodLink RX0 89 yX1_blockAt, Cond.instanceMethod yX1_blockAt, Cond.selects RX1 yX1_blockAt yX1_blockAt, Cond.initialized RX1, Cond.code yX1_blockAt cX1_blockAt 2 (some .int), Cond.fieldLink RX1 18 "BlockRows$Line" "filled" "I", Cond.fieldLink RX1 9 "BlockRows$Line" "members" "[I", Cond.methodLink RX0 28 yX1_holds, Cond.instanceMethod yX1_holds, Cond.selects RX1 yX1_holds yX1_holds, Cond.code yX1_holds cX1_holds 2 (some .boolean), Cond.fieldLink RX1 15 "BlockRows$Line" "places" "[I", Cond.static yX3_fitsRows, Cond.initialized RX3, Cond.code yX3_fitsRows cX3_fitsRows 1 (some .boolean), Cond.methodLink RX0 85 yX0_firstOf, Cond.instanceMethod yX0_firstOf, Cond.selects RX0 yX0_firstOf yX0_firstOf, Cond.initialized RX0, Cond.code yX0_firstOf cX0_firstOf 2 (some .int), Cond.fieldLink RX0 9 "BlockRows$Chains" "first" "[I", Cond.methodLink RX0 92 yX0_pullOf, Cond.instanceMethod yX0_pullOf, Cond.selects RX0 yX0_pullOf yX0_pullOf]
def wsX0_mostPulled_r2 : List Cond := [Cond.code yX0_pullOf cX0_pullOf 2 (some .long), Cond.fieldLink RX0 18 "BlockRows$Chains" "pulls" "[J"]
def wsX0_mostPulled : List Cond := .code yX0_mostPulled cX0_mostPulled 6 (some .int) :: ((wsX0_mostPulled_r1 ++ wsX0_mostPulled_r2) ++ wsX10 ++ wsX00)
def wsX1_append : List Cond := .code yX1_append cX1_append 2 none :: ([.fieldLink RX1 18 "BlockRows$Line" "filled" "I", .fieldLink RX1 9 "BlockRows$Line" "members" "[I", .fieldLink RX1 15 "BlockRows$Line" "places" "[I", .static yX3_fitsRows, .initialized RX3, .code yX3_fitsRows cX3_fitsRows 1 (some .boolean)] ++ wsX10)
def wsX0_appendChain : List Cond := .code yX0_appendChain cX0_appendChain 5 none :: ([.fieldLink RX0 15 "BlockRows$Chains" "next" "[I", .static yX3_fitsRows, .initialized RX3, .code yX3_fitsRows cX3_fitsRows 1 (some .boolean), .methodLink RX0 96 yX1_append, .instanceMethod yX1_append, .selects RX1 yX1_append yX1_append, .initialized RX1, .code yX1_append cX1_append 2 none, .fieldLink RX1 18 "BlockRows$Line" "filled" "I", .fieldLink RX1 9 "BlockRows$Line" "members" "[I", .fieldLink RX1 15 "BlockRows$Line" "places" "[I"] ++ wsX00 ++ wsX10)
def wsX0_pullTowards : List Cond := .code yX0_pullTowards cX0_pullTowards 6 none :: ([.fieldLink RX0 18 "BlockRows$Chains" "pulls" "[J", .methodLink RX0 85 yX0_firstOf, .instanceMethod yX0_firstOf, .selects RX0 yX0_firstOf yX0_firstOf, .initialized RX0, .code yX0_firstOf cX0_firstOf 2 (some .int), .fieldLink RX0 9 "BlockRows$Chains" "first" "[I", .static yX3_fitsRows, .initialized RX3, .code yX3_fitsRows cX3_fitsRows 1 (some .boolean)] ++ wsX20 ++ wsX00)
def wsX0_lineUp_r1 : List Cond := [Cond.fieldLink RX0 18 "BlockRows$Chains" "pulls" "[J", Cond.methodLink RX0 64 yX1_empty, Cond.instanceMethod yX1_empty, Cond.selects RX1 yX1_empty yX1_empty, Cond.initialized RX1, Cond.code yX1_empty cX1_empty 1 none, Cond.fieldLink RX1 18 "BlockRows$Line" "filled" "I", Cond.fieldLink RX1 15 "BlockRows$Line" "places" "[I", Cond.methodLink RX1 22 yJ7_fill_53178, Cond.static yJ7_fill_53178, Cond.initialized RJ7, Cond.code yJ7_fill_53178 cJ7_fill_53178 4 none, Cond.methodLink RX0 67 yJ7_fill_d0a16, Cond.static yJ7_fill_d0a16, Cond.code yJ7_fill_d0a16 cJ7_fill_d0a16 5 none, Cond.methodLink RX0 73 yX0_mostPulled, Cond.instanceMethod yX0_mostPulled, Cond.selects RX0 yX0_mostPulled yX0_mostPulled, Cond.initialized RX0, Cond.code yX0_mostPulled cX0_mostPulled 6 (some .int), Cond.methodLink RX0 89 yX1_blockAt, Cond.instanceMethod yX1_blockAt, Cond.selects RX1 yX1_blockAt yX1_blockAt, Cond.code yX1_blockAt cX1_blockAt 2 (some .int)]
def wsX0_lineUp_r2 : List Cond := [Cond.fieldLink RX1 9 "BlockRows$Line" "members" "[I", Cond.methodLink RX0 28 yX1_holds, Cond.instanceMethod yX1_holds, Cond.selects RX1 yX1_holds yX1_holds, Cond.code yX1_holds cX1_holds 2 (some .boolean), Cond.static yX3_fitsRows, Cond.initialized RX3, Cond.code yX3_fitsRows cX3_fitsRows 1 (some .boolean), Cond.methodLink RX0 85 yX0_firstOf, Cond.instanceMethod yX0_firstOf, Cond.selects RX0 yX0_firstOf yX0_firstOf, Cond.code yX0_firstOf cX0_firstOf 2 (some .int), Cond.fieldLink RX0 9 "BlockRows$Chains" "first" "[I", Cond.methodLink RX0 92 yX0_pullOf, Cond.instanceMethod yX0_pullOf, Cond.selects RX0 yX0_pullOf yX0_pullOf, Cond.code yX0_pullOf cX0_pullOf 2 (some .long), Cond.methodLink RX0 77 yX0_appendChain, Cond.instanceMethod yX0_appendChain, Cond.selects RX0 yX0_appendChain yX0_appendChain, Cond.code yX0_appendChain cX0_appendChain 5 none, Cond.fieldLink RX0 15 "BlockRows$Chains" "next" "[I", Cond.methodLink RX0 96 yX1_append, Cond.instanceMethod yX1_append]
def wsX0_lineUp_r3 : List Cond := [Cond.selects RX1 yX1_append yX1_append, Cond.code yX1_append cX1_append 2 none, Cond.methodLink RX0 81 yX0_pullTowards, Cond.instanceMethod yX0_pullTowards, Cond.selects RX0 yX0_pullTowards yX0_pullTowards, Cond.code yX0_pullTowards cX0_pullTowards 6 none]
def wsX0_lineUp : List Cond := .code yX0_lineUp cX0_lineUp 6 none :: ((wsX0_lineUp_r1 ++ (wsX0_lineUp_r2 ++ wsX0_lineUp_r3)) ++ wsX00 ++ wsX10 ++ wsX20)
def wsX1_init : List Cond := .code yX1_init cX1_init 1 none :: ([.methodLink RX1 3 objectInit, .instanceMethod objectInit, .code objectInit ⟨#[0xb1]⟩ 1 none, .arrayClass .int, .fieldLink RX1 9 "BlockRows$Line" "members" "[I", .fieldLink RX1 15 "BlockRows$Line" "places" "[I"] ++ wsX10)
def wsX1_goesOn : List Cond := .code yX1_goesOn cX1_goesOn 3 (some .boolean) :: ([.fieldLink RX1 15 "BlockRows$Line" "places" "[I", .methodLink RX1 32 yX1_holds, .instanceMethod yX1_holds, .selects RX1 yX1_holds yX1_holds, .initialized RX1, .code yX1_holds cX1_holds 2 (some .boolean), .static yX3_fitsRows, .initialized RX3, .code yX3_fitsRows cX3_fitsRows 1 (some .boolean)] ++ wsX10)
def wsX2_init : List Cond := .code yX2_init cX2_init 1 none :: ([.methodLink RX2 3 objectInit, .instanceMethod objectInit, .code objectInit ⟨#[0xb1]⟩ 1 none, .arrayClass .int, .fieldLink RX2 9 "BlockRows$Ways" "from" "[I", .fieldLink RX2 15 "BlockRows$Ways" "to" "[I", .arrayClass .long, .fieldLink RX2 18 "BlockRows$Ways" "counts" "[J", .arrayClass .boolean, .fieldLink RX2 22 "BlockRows$Ways" "falling" "[Z"] ++ wsX20)
def wsX2_forget : List Cond := .code yX2_forget cX2_forget 1 none :: ([.fieldLink RX2 26 "BlockRows$Ways" "known" "I"] ++ wsX20)
def wsX2_find : List Cond := .code yX2_find cX2_find 4 (some .int) :: ([.fieldLink RX2 26 "BlockRows$Ways" "known" "I", .fieldLink RX2 9 "BlockRows$Ways" "from" "[I", .fieldLink RX2 15 "BlockRows$Ways" "to" "[I"] ++ wsX20)
def wsX2_told : List Cond := .code yX2_told cX2_told 4 (some .long) :: ([.fieldLink RX2 18 "BlockRows$Ways" "counts" "[J", .methodLink RX2 30 yX2_find, .instanceMethod yX2_find, .selects RX2 yX2_find yX2_find, .initialized RX2, .code yX2_find cX2_find 4 (some .int), .fieldLink RX2 26 "BlockRows$Ways" "known" "I", .fieldLink RX2 9 "BlockRows$Ways" "from" "[I", .fieldLink RX2 15 "BlockRows$Ways" "to" "[I"] ++ wsX20)
def wsX2_add : List Cond := .code yX2_add cX2_add 4 (some .int) :: ([.fieldLink RX2 26 "BlockRows$Ways" "known" "I", .fieldLink RX2 9 "BlockRows$Ways" "from" "[I", .fieldLink RX2 15 "BlockRows$Ways" "to" "[I", .fieldLink RX2 18 "BlockRows$Ways" "counts" "[J"] ++ wsX20)
def wsX2_isBefore : List Cond := .code yX2_isBefore cX2_isBefore 3 (some .boolean) :: ([.fieldLink RX2 18 "BlockRows$Ways" "counts" "[J", .fieldLink RX2 9 "BlockRows$Ways" "from" "[I", .fieldLink RX2 15 "BlockRows$Ways" "to" "[I"] ++ wsX20)
def wsX2_swap : List Cond := .code yX2_swap cX2_swap 8 none :: ([.fieldLink RX2 9 "BlockRows$Ways" "from" "[I", .fieldLink RX2 15 "BlockRows$Ways" "to" "[I", .fieldLink RX2 18 "BlockRows$Ways" "counts" "[J", .fieldLink RX2 22 "BlockRows$Ways" "falling" "[Z"] ++ wsX20)
def wsX2_moveForward : List Cond := .code yX2_moveForward cX2_moveForward 3 none :: ([.methodLink RX2 57 yX2_isBefore, .instanceMethod yX2_isBefore, .selects RX2 yX2_isBefore yX2_isBefore, .initialized RX2, .code yX2_isBefore cX2_isBefore 3 (some .boolean), .fieldLink RX2 18 "BlockRows$Ways" "counts" "[J", .fieldLink RX2 9 "BlockRows$Ways" "from" "[I", .fieldLink RX2 15 "BlockRows$Ways" "to" "[I", .methodLink RX2 60 yX2_swap, .instanceMethod yX2_swap, .selects RX2 yX2_swap yX2_swap, .code yX2_swap cX2_swap 8 none, .fieldLink RX2 22 "BlockRows$Ways" "falling" "[Z"] ++ wsX20)
def wsX2_tell_r1 : List Cond := [Cond.constantLong RX2 37 (-3), Cond.constantLong RX2 39 (1000000000000000), Cond.fieldLink RX2 18 "BlockRows$Ways" "counts" "[J", Cond.methodLink RX2 41 Lib.MathLoose.min_long.x, Cond.static Lib.MathLoose.min_long.x, Cond.initialized "java/lang/Math", Cond.code Lib.MathLoose.min_long.x Lib.MathLoose.min_long.code 4 (some .long), Cond.fieldLink RX2 22 "BlockRows$Ways" "falling" "[Z", Cond.methodLink RX2 30 yX2_find, Cond.instanceMethod yX2_find, Cond.selects RX2 yX2_find yX2_find, Cond.initialized RX2, Cond.code yX2_find cX2_find 4 (some .int), Cond.fieldLink RX2 26 "BlockRows$Ways" "known" "I", Cond.fieldLink RX2 9 "BlockRows$Ways" "from" "[I", Cond.fieldLink RX2 15 "BlockRows$Ways" "to" "[I", Cond.methodLink RX2 34 yX2_add, Cond.instanceMethod yX2_add, Cond.selects RX2 yX2_add yX2_add, Cond.code yX2_add cX2_add 4 (some .int), Cond.methodLink RX2 47 yX2_moveForward, Cond.instanceMethod yX2_moveForward, Cond.selects RX2 yX2_moveForward yX2_moveForward, Cond.code yX2_moveForward cX2_moveForward 3 none]
def wsX2_tell_r2 : List Cond := [Cond.methodLink RX2 57 yX2_isBefore, Cond.instanceMethod yX2_isBefore, Cond.selects RX2 yX2_isBefore yX2_isBefore, Cond.code yX2_isBefore cX2_isBefore 3 (some .boolean), Cond.methodLink RX2 60 yX2_swap, Cond.instanceMethod yX2_swap, Cond.selects RX2 yX2_swap yX2_swap, Cond.code yX2_swap cX2_swap 8 none]
def wsX2_tell : List Cond := .code yX2_tell cX2_tell 8 (some .long) :: ((wsX2_tell_r1 ++ wsX2_tell_r2) ++ wsX20)
def wsX2_weigh : List Cond := .code yX2_weigh cX2_weigh 5 (some .long) :: ([.fieldLink RX2 26 "BlockRows$Ways" "known" "I", .fieldLink RX2 22 "BlockRows$Ways" "falling" "[Z", .fieldLink RX2 9 "BlockRows$Ways" "from" "[I", .fieldLink RX2 15 "BlockRows$Ways" "to" "[I", .fieldLink RX2 18 "BlockRows$Ways" "counts" "[J", .methodLink RX2 51 yX1_goesOn, .instanceMethod yX1_goesOn, .selects RX1 yX1_goesOn yX1_goesOn, .initialized RX1, .code yX1_goesOn cX1_goesOn 3 (some .boolean), .fieldLink RX1 15 "BlockRows$Line" "places" "[I", .methodLink RX1 32 yX1_holds, .instanceMethod yX1_holds, .selects RX1 yX1_holds yX1_holds, .code yX1_holds cX1_holds 2 (some .boolean), .static yX3_fitsRows, .initialized RX3, .code yX3_fitsRows cX3_fitsRows 1 (some .boolean)] ++ wsX20 ++ wsX10)
def wsX3_init_r1 : List Cond := [Cond.methodLink RX3 1 objectInit, Cond.instanceMethod objectInit, Cond.code objectInit ⟨#[0xb1]⟩ 1 none, Cond.arrayClass .boolean, Cond.fieldLink RX3 9 "BlockRows" "hot" "[Z", Cond.classLink RX3 13 RX2, Cond.instantiable RX2 5, Cond.initialized RX2, Cond.fieldLink RX3 16 "BlockRows" "ways" "LBlockRows$Ways;", Cond.classLink RX3 20 RX0, Cond.instantiable RX0 3, Cond.initialized RX0, Cond.fieldLink RX3 23 "BlockRows" "chains" "LBlockRows$Chains;", Cond.classLink RX3 27 RX1, Cond.instantiable RX1 3, Cond.initialized RX1, Cond.fieldLink RX3 30 "BlockRows" "allByNumber" "LBlockRows$Line;", Cond.fieldLink RX3 34 "BlockRows" "hotByNumber" "LBlockRows$Line;", Cond.fieldLink RX3 37 "BlockRows" "hotByChains" "LBlockRows$Line;", Cond.fieldLink RX3 40 "BlockRows" "blocks" "I", Cond.fieldLink RX3 44 "BlockRows" "stale" "Z", Cond.instanceMethod yX2_init, Cond.code yX2_init cX2_init 1 none, Cond.methodLink RX2 3 objectInit]
def wsX3_init_r2 : List Cond := [Cond.arrayClass .int, Cond.fieldLink RX2 9 "BlockRows$Ways" "from" "[I", Cond.fieldLink RX2 15 "BlockRows$Ways" "to" "[I", Cond.arrayClass .long, Cond.fieldLink RX2 18 "BlockRows$Ways" "counts" "[J", Cond.fieldLink RX2 22 "BlockRows$Ways" "falling" "[Z", Cond.instanceMethod yX0_init, Cond.code yX0_init cX0_init 1 none, Cond.methodLink RX0 3 objectInit, Cond.fieldLink RX0 9 "BlockRows$Chains" "first" "[I", Cond.fieldLink RX0 15 "BlockRows$Chains" "next" "[I", Cond.fieldLink RX0 18 "BlockRows$Chains" "pulls" "[J", Cond.instanceMethod yX1_init, Cond.code yX1_init cX1_init 1 none, Cond.methodLink RX1 3 objectInit, Cond.fieldLink RX1 9 "BlockRows$Line" "members" "[I", Cond.fieldLink RX1 15 "BlockRows$Line" "places" "[I"]
def wsX3_init : List Cond := .code yX3_init cX3_init 1 none :: ((wsX3_init_r1 ++ wsX3_init_r2) ++ wsX30 ++ wsX20 ++ wsX00 ++ wsX10)
def wsX3_size : List Cond := .code yX3_size cX3_size 3 (some .boolean) :: ([.fieldLink RX3 40 "BlockRows" "blocks" "I", .fieldLink RX3 9 "BlockRows" "hot" "[Z", .fieldLink RX3 16 "BlockRows" "ways" "LBlockRows$Ways;", .fieldLink RX3 44 "BlockRows" "stale" "Z", .methodLink RX3 48 yX2_forget, .instanceMethod yX2_forget, .selects RX2 yX2_forget yX2_forget, .initialized RX2, .code yX2_forget cX2_forget 1 none, .fieldLink RX2 26 "BlockRows$Ways" "known" "I"] ++ wsX30 ++ wsX20)
def wsX3_isBlock : List Cond := .code yX3_isBlock cX3_isBlock 2 (some .boolean) :: ([.fieldLink RX3 40 "BlockRows" "blocks" "I"] ++ wsX30)
def wsX3_heat : List Cond := .code yX3_heat cX3_heat 3 (some .boolean) :: ([.fieldLink RX3 9 "BlockRows" "hot" "[Z", .fieldLink RX3 44 "BlockRows" "stale" "Z", .methodLink RX3 51 yX3_isBlock, .instanceMethod yX3_isBlock, .selects RX3 yX3_isBlock yX3_isBlock, .initialized RX3, .code yX3_isBlock cX3_isBlock 2 (some .boolean), .fieldLink RX3 40 "BlockRows" "blocks" "I"] ++ wsX30)
def wsX3_way_r1 : List Cond := [Cond.constantLong RX3 55 (-1), Cond.constant RX3 57 (1000000000), Cond.constantLong RX3 58 (-2), Cond.fieldLink RX3 44 "BlockRows" "stale" "Z", Cond.fieldLink RX3 16 "BlockRows" "ways" "LBlockRows$Ways;", Cond.methodLink RX3 51 yX3_isBlock, Cond.instanceMethod yX3_isBlock, Cond.selects RX3 yX3_isBlock yX3_isBlock, Cond.initialized RX3, Cond.code yX3_isBlock cX3_isBlock 2 (some .boolean), Cond.fieldLink RX3 40 "BlockRows" "blocks" "I", Cond.methodLink RX3 60 yX2_tell, Cond.instanceMethod yX2_tell, Cond.selects RX2 yX2_tell yX2_tell, Cond.initialized RX2, Cond.code yX2_tell cX2_tell 8 (some .long), Cond.constantLong RX2 37 (-3), Cond.constantLong RX2 39 (1000000000000000), Cond.fieldLink RX2 18 "BlockRows$Ways" "counts" "[J", Cond.methodLink RX2 41 Lib.MathLoose.min_long.x, Cond.static Lib.MathLoose.min_long.x, Cond.initialized "java/lang/Math", Cond.code Lib.MathLoose.min_long.x Lib.MathLoose.min_long.code 4 (some .long), Cond.fieldLink RX2 22 "BlockRows$Ways" "falling" "[Z"]
def wsX3_way_r2 : List Cond := [Cond.methodLink RX2 30 yX2_find, Cond.instanceMethod yX2_find, Cond.selects RX2 yX2_find yX2_find, Cond.code yX2_find cX2_find 4 (some .int), Cond.fieldLink RX2 26 "BlockRows$Ways" "known" "I", Cond.fieldLink RX2 9 "BlockRows$Ways" "from" "[I", Cond.fieldLink RX2 15 "BlockRows$Ways" "to" "[I", Cond.methodLink RX2 34 yX2_add, Cond.instanceMethod yX2_add, Cond.selects RX2 yX2_add yX2_add, Cond.code yX2_add cX2_add 4 (some .int), Cond.methodLink RX2 47 yX2_moveForward, Cond.instanceMethod yX2_moveForward, Cond.selects RX2 yX2_moveForward yX2_moveForward, Cond.code yX2_moveForward cX2_moveForward 3 none, Cond.methodLink RX2 57 yX2_isBefore, Cond.instanceMethod yX2_isBefore, Cond.selects RX2 yX2_isBefore yX2_isBefore, Cond.code yX2_isBefore cX2_isBefore 3 (some .boolean), Cond.methodLink RX2 60 yX2_swap, Cond.instanceMethod yX2_swap, Cond.selects RX2 yX2_swap yX2_swap, Cond.code yX2_swap cX2_swap 8 none]
def wsX3_way : List Cond := .code yX3_way cX3_way 5 (some .long) :: ((wsX3_way_r1 ++ wsX3_way_r2) ++ wsX30 ++ wsX20)
def wsX3_count : List Cond := .code yX3_count cX3_count 3 (some .long) :: ([.fieldLink RX3 16 "BlockRows" "ways" "LBlockRows$Ways;", .methodLink RX3 64 yX2_told, .instanceMethod yX2_told, .selects RX2 yX2_told yX2_told, .initialized RX2, .code yX2_told cX2_told 4 (some .long), .fieldLink RX2 18 "BlockRows$Ways" "counts" "[J", .methodLink RX2 30 yX2_find, .instanceMethod yX2_find, .selects RX2 yX2_find yX2_find, .code yX2_find cX2_find 4 (some .int), .fieldLink RX2 26 "BlockRows$Ways" "known" "I", .fieldLink RX2 9 "BlockRows$Ways" "from" "[I", .fieldLink RX2 15 "BlockRows$Ways" "to" "[I"] ++ wsX30 ++ wsX20)
def wsX3_lineUpByNumber : List Cond := .code yX3_lineUpByNumber cX3_lineUpByNumber 2 none :: ([.fieldLink RX3 30 "BlockRows" "allByNumber" "LBlockRows$Line;", .fieldLink RX3 34 "BlockRows" "hotByNumber" "LBlockRows$Line;", .fieldLink RX3 40 "BlockRows" "blocks" "I", .fieldLink RX3 9 "BlockRows" "hot" "[Z", .methodLink RX3 114 yX1_empty, .instanceMethod yX1_empty, .selects RX1 yX1_empty yX1_empty, .initialized RX1, .code yX1_empty cX1_empty 1 none, .fieldLink RX1 18 "BlockRows$Line" "filled" "I", .fieldLink RX1 15 "BlockRows$Line" "places" "[I", .methodLink RX1 22 yJ7_fill_53178, .static yJ7_fill_53178, .initialized RJ7, .code yJ7_fill_53178 cJ7_fill_53178 4 none, .methodLink RX3 117 yX1_append, .instanceMethod yX1_append, .selects RX1 yX1_append yX1_append, .code yX1_append cX1_append 2 none, .fieldLink RX1 9 "BlockRows$Line" "members" "[I", .static yX3_fitsRows, .initialized RX3, .code yX3_fitsRows cX3_fitsRows 1 (some .boolean)] ++ wsX30 ++ wsX10)
def wsX3_refresh_r1 : List Cond := [Cond.fieldLink RX3 44 "BlockRows" "stale" "Z", Cond.fieldLink RX3 23 "BlockRows" "chains" "LBlockRows$Chains;", Cond.fieldLink RX3 34 "BlockRows" "hotByNumber" "LBlockRows$Line;", Cond.fieldLink RX3 16 "BlockRows" "ways" "LBlockRows$Ways;", Cond.fieldLink RX3 37 "BlockRows" "hotByChains" "LBlockRows$Line;", Cond.fieldLink RX3 30 "BlockRows" "allByNumber" "LBlockRows$Line;", Cond.fieldLink RX3 89 "BlockRows" "allWeight" "J", Cond.fieldLink RX3 86 "BlockRows" "hotWeight" "J", Cond.fieldLink RX3 82 "BlockRows" "chainsWeight" "J", Cond.methodLink RX3 95 yX3_lineUpByNumber, Cond.instanceMethod yX3_lineUpByNumber, Cond.selects RX3 yX3_lineUpByNumber yX3_lineUpByNumber, Cond.initialized RX3, Cond.code yX3_lineUpByNumber cX3_lineUpByNumber 2 none, Cond.fieldLink RX3 40 "BlockRows" "blocks" "I", Cond.fieldLink RX3 9 "BlockRows" "hot" "[Z", Cond.methodLink RX3 114 yX1_empty, Cond.instanceMethod yX1_empty, Cond.selects RX1 yX1_empty yX1_empty, Cond.initialized RX1, Cond.code yX1_empty cX1_empty 1 none, Cond.fieldLink RX1 18 "BlockRows$Line" "filled" "I", Cond.fieldLink RX1 15 "BlockRows$Line" "places" "[I", Cond.methodLink RX1 22 yJ7_fill_53178]
def wsX3_refresh_r2 : List Cond := [Cond.static yJ7_fill_53178, Cond.initialized RJ7, Cond.code yJ7_fill_53178 cJ7_fill_53178 4 none, Cond.methodLink RX3 117 yX1_append, Cond.instanceMethod yX1_append, Cond.selects RX1 yX1_append yX1_append, Cond.code yX1_append cX1_append 2 none, Cond.fieldLink RX1 9 "BlockRows$Line" "members" "[I", Cond.static yX3_fitsRows, Cond.code yX3_fitsRows cX3_fitsRows 1 (some .boolean), Cond.methodLink RX3 98 yX0_start, Cond.instanceMethod yX0_start, Cond.selects RX0 yX0_start yX0_start, Cond.initialized RX0, Cond.code yX0_start cX0_start 3 none, Cond.fieldLink RX0 15 "BlockRows$Chains" "next" "[I", Cond.fieldLink RX0 9 "BlockRows$Chains" "first" "[I", Cond.methodLink RX0 22 yJ7_fill_53178, Cond.methodLink RX0 28 yX1_holds, Cond.instanceMethod yX1_holds, Cond.selects RX1 yX1_holds yX1_holds, Cond.code yX1_holds cX1_holds 2 (some .boolean), Cond.methodLink RX3 102 yX0_joinAlong, Cond.instanceMethod yX0_joinAlong]
def wsX3_refresh_r3 : List Cond := [Cond.selects RX0 yX0_joinAlong yX0_joinAlong, Cond.code yX0_joinAlong cX0_joinAlong 5 none, Cond.methodLink RX0 56 yX0_mayJoin, Cond.instanceMethod yX0_mayJoin, Cond.selects RX0 yX0_mayJoin yX0_mayJoin, Cond.code yX0_mayJoin cX0_mayJoin 5 (some .boolean), Cond.methodLink RX0 85 yX0_firstOf, Cond.instanceMethod yX0_firstOf, Cond.selects RX0 yX0_firstOf yX0_firstOf, Cond.code yX0_firstOf cX0_firstOf 2 (some .int), Cond.methodLink RX0 60 yX0_join, Cond.instanceMethod yX0_join, Cond.selects RX0 yX0_join yX0_join, Cond.code yX0_join cX0_join 6 none, Cond.methodLink RX3 106 yX0_lineUp, Cond.instanceMethod yX0_lineUp, Cond.selects RX0 yX0_lineUp yX0_lineUp, Cond.code yX0_lineUp cX0_lineUp 6 none, Cond.fieldLink RX0 18 "BlockRows$Chains" "pulls" "[J", Cond.methodLink RX0 64 yX1_empty, Cond.methodLink RX0 67 yJ7_fill_d0a16, Cond.static yJ7_fill_d0a16, Cond.code yJ7_fill_d0a16 cJ7_fill_d0a16 5 none, Cond.methodLink RX0 73 yX0_mostPulled]
def wsX3_refresh_r4 : List Cond := [Cond.instanceMethod yX0_mostPulled, Cond.selects RX0 yX0_mostPulled yX0_mostPulled, Cond.code yX0_mostPulled cX0_mostPulled 6 (some .int), Cond.methodLink RX0 89 yX1_blockAt, Cond.instanceMethod yX1_blockAt, Cond.selects RX1 yX1_blockAt yX1_blockAt, Cond.code yX1_blockAt cX1_blockAt 2 (some .int), Cond.methodLink RX0 92 yX0_pullOf, Cond.instanceMethod yX0_pullOf, Cond.selects RX0 yX0_pullOf yX0_pullOf, Cond.code yX0_pullOf cX0_pullOf 2 (some .long), Cond.methodLink RX0 77 yX0_appendChain, Cond.instanceMethod yX0_appendChain, Cond.selects RX0 yX0_appendChain yX0_appendChain, Cond.code yX0_appendChain cX0_appendChain 5 none, Cond.methodLink RX0 96 yX1_append, Cond.methodLink RX0 81 yX0_pullTowards, Cond.instanceMethod yX0_pullTowards, Cond.selects RX0 yX0_pullTowards yX0_pullTowards, Cond.code yX0_pullTowards cX0_pullTowards 6 none, Cond.methodLink RX3 110 yX2_weigh, Cond.instanceMethod yX2_weigh, Cond.selects RX2 yX2_weigh yX2_weigh, Cond.initialized RX2]
def wsX3_refresh_r5 : List Cond := [Cond.code yX2_weigh cX2_weigh 5 (some .long), Cond.fieldLink RX2 26 "BlockRows$Ways" "known" "I", Cond.fieldLink RX2 22 "BlockRows$Ways" "falling" "[Z", Cond.fieldLink RX2 9 "BlockRows$Ways" "from" "[I", Cond.fieldLink RX2 15 "BlockRows$Ways" "to" "[I", Cond.fieldLink RX2 18 "BlockRows$Ways" "counts" "[J", Cond.methodLink RX2 51 yX1_goesOn, Cond.instanceMethod yX1_goesOn, Cond.selects RX1 yX1_goesOn yX1_goesOn, Cond.code yX1_goesOn cX1_goesOn 3 (some .boolean), Cond.methodLink RX1 32 yX1_holds]
def wsX3_refresh : List Cond := .code yX3_refresh cX3_refresh 1 none :: ((wsX3_refresh_r1 ++ (wsX3_refresh_r2 ++ (wsX3_refresh_r3 ++ (wsX3_refresh_r4 ++ wsX3_refresh_r5)))) ++ wsX30 ++ wsX10 ++ wsX00 ++ wsX20)
def wsX3_length_r1 : List Cond := [Cond.fieldLink RX3 34 "BlockRows" "hotByNumber" "LBlockRows$Line;", Cond.methodLink RX3 68 yX3_refresh, Cond.instanceMethod yX3_refresh, Cond.selects RX3 yX3_refresh yX3_refresh, Cond.initialized RX3, Cond.code yX3_refresh cX3_refresh 1 none, Cond.fieldLink RX3 44 "BlockRows" "stale" "Z", Cond.fieldLink RX3 23 "BlockRows" "chains" "LBlockRows$Chains;", Cond.fieldLink RX3 16 "BlockRows" "ways" "LBlockRows$Ways;", Cond.fieldLink RX3 37 "BlockRows" "hotByChains" "LBlockRows$Line;", Cond.fieldLink RX3 30 "BlockRows" "allByNumber" "LBlockRows$Line;", Cond.fieldLink RX3 89 "BlockRows" "allWeight" "J", Cond.fieldLink RX3 86 "BlockRows" "hotWeight" "J", Cond.fieldLink RX3 82 "BlockRows" "chainsWeight" "J", Cond.methodLink RX3 95 yX3_lineUpByNumber, Cond.instanceMethod yX3_lineUpByNumber, Cond.selects RX3 yX3_lineUpByNumber yX3_lineUpByNumber, Cond.code yX3_lineUpByNumber cX3_lineUpByNumber 2 none, Cond.fieldLink RX3 40 "BlockRows" "blocks" "I", Cond.fieldLink RX3 9 "BlockRows" "hot" "[Z", Cond.methodLink RX3 114 yX1_empty, Cond.instanceMethod yX1_empty, Cond.selects RX1 yX1_empty yX1_empty, Cond.initialized RX1]
def wsX3_length_r2 : List Cond := [Cond.code yX1_empty cX1_empty 1 none, Cond.fieldLink RX1 18 "BlockRows$Line" "filled" "I", Cond.fieldLink RX1 15 "BlockRows$Line" "places" "[I", Cond.methodLink RX1 22 yJ7_fill_53178, Cond.static yJ7_fill_53178, Cond.initialized RJ7, Cond.code yJ7_fill_53178 cJ7_fill_53178 4 none, Cond.methodLink RX3 117 yX1_append, Cond.instanceMethod yX1_append, Cond.selects RX1 yX1_append yX1_append, Cond.code yX1_append cX1_append 2 none, Cond.fieldLink RX1 9 "BlockRows$Line" "members" "[I", Cond.static yX3_fitsRows, Cond.code yX3_fitsRows cX3_fitsRows 1 (some .boolean), Cond.methodLink RX3 98 yX0_start, Cond.instanceMethod yX0_start, Cond.selects RX0 yX0_start yX0_start, Cond.initialized RX0, Cond.code yX0_start cX0_start 3 none, Cond.fieldLink RX0 15 "BlockRows$Chains" "next" "[I", Cond.fieldLink RX0 9 "BlockRows$Chains" "first" "[I", Cond.methodLink RX0 22 yJ7_fill_53178, Cond.methodLink RX0 28 yX1_holds, Cond.instanceMethod yX1_holds]
def wsX3_length_r3 : List Cond := [Cond.selects RX1 yX1_holds yX1_holds, Cond.code yX1_holds cX1_holds 2 (some .boolean), Cond.methodLink RX3 102 yX0_joinAlong, Cond.instanceMethod yX0_joinAlong, Cond.selects RX0 yX0_joinAlong yX0_joinAlong, Cond.code yX0_joinAlong cX0_joinAlong 5 none, Cond.methodLink RX0 56 yX0_mayJoin, Cond.instanceMethod yX0_mayJoin, Cond.selects RX0 yX0_mayJoin yX0_mayJoin, Cond.code yX0_mayJoin cX0_mayJoin 5 (some .boolean), Cond.methodLink RX0 85 yX0_firstOf, Cond.instanceMethod yX0_firstOf, Cond.selects RX0 yX0_firstOf yX0_firstOf, Cond.code yX0_firstOf cX0_firstOf 2 (some .int), Cond.methodLink RX0 60 yX0_join, Cond.instanceMethod yX0_join, Cond.selects RX0 yX0_join yX0_join, Cond.code yX0_join cX0_join 6 none, Cond.methodLink RX3 106 yX0_lineUp, Cond.instanceMethod yX0_lineUp, Cond.selects RX0 yX0_lineUp yX0_lineUp, Cond.code yX0_lineUp cX0_lineUp 6 none, Cond.fieldLink RX0 18 "BlockRows$Chains" "pulls" "[J", Cond.methodLink RX0 64 yX1_empty]
def wsX3_length_r4 : List Cond := [Cond.methodLink RX0 67 yJ7_fill_d0a16, Cond.static yJ7_fill_d0a16, Cond.code yJ7_fill_d0a16 cJ7_fill_d0a16 5 none, Cond.methodLink RX0 73 yX0_mostPulled, Cond.instanceMethod yX0_mostPulled, Cond.selects RX0 yX0_mostPulled yX0_mostPulled, Cond.code yX0_mostPulled cX0_mostPulled 6 (some .int), Cond.methodLink RX0 89 yX1_blockAt, Cond.instanceMethod yX1_blockAt, Cond.selects RX1 yX1_blockAt yX1_blockAt, Cond.code yX1_blockAt cX1_blockAt 2 (some .int), Cond.methodLink RX0 92 yX0_pullOf, Cond.instanceMethod yX0_pullOf, Cond.selects RX0 yX0_pullOf yX0_pullOf, Cond.code yX0_pullOf cX0_pullOf 2 (some .long), Cond.methodLink RX0 77 yX0_appendChain, Cond.instanceMethod yX0_appendChain, Cond.selects RX0 yX0_appendChain yX0_appendChain, Cond.code yX0_appendChain cX0_appendChain 5 none, Cond.methodLink RX0 96 yX1_append, Cond.methodLink RX0 81 yX0_pullTowards, Cond.instanceMethod yX0_pullTowards, Cond.selects RX0 yX0_pullTowards yX0_pullTowards, Cond.code yX0_pullTowards cX0_pullTowards 6 none]
def wsX3_length_r5 : List Cond := [Cond.methodLink RX3 110 yX2_weigh, Cond.instanceMethod yX2_weigh, Cond.selects RX2 yX2_weigh yX2_weigh, Cond.initialized RX2, Cond.code yX2_weigh cX2_weigh 5 (some .long), Cond.fieldLink RX2 26 "BlockRows$Ways" "known" "I", Cond.fieldLink RX2 22 "BlockRows$Ways" "falling" "[Z", Cond.fieldLink RX2 9 "BlockRows$Ways" "from" "[I", Cond.fieldLink RX2 15 "BlockRows$Ways" "to" "[I", Cond.fieldLink RX2 18 "BlockRows$Ways" "counts" "[J", Cond.methodLink RX2 51 yX1_goesOn, Cond.instanceMethod yX1_goesOn, Cond.selects RX1 yX1_goesOn yX1_goesOn, Cond.code yX1_goesOn cX1_goesOn 3 (some .boolean), Cond.methodLink RX1 32 yX1_holds]
def wsX3_length : List Cond := .code yX3_length cX3_length 1 (some .int) :: ((wsX3_length_r1 ++ (wsX3_length_r2 ++ (wsX3_length_r3 ++ (wsX3_length_r4 ++ wsX3_length_r5)))) ++ wsX30 ++ wsX10 ++ wsX00 ++ wsX20)
def wsX3_chainsAreBetter : List Cond := .code yX3_chainsAreBetter cX3_chainsAreBetter 1 (some .boolean) :: ([.fieldLink RX3 82 "BlockRows" "chainsWeight" "J", .fieldLink RX3 86 "BlockRows" "hotWeight" "J"] ++ wsX30)
def wsX3_row_r1 : List Cond := [Cond.fieldLink RX3 37 "BlockRows" "hotByChains" "LBlockRows$Line;", Cond.fieldLink RX3 34 "BlockRows" "hotByNumber" "LBlockRows$Line;", Cond.methodLink RX3 68 yX3_refresh, Cond.instanceMethod yX3_refresh, Cond.selects RX3 yX3_refresh yX3_refresh, Cond.initialized RX3, Cond.code yX3_refresh cX3_refresh 1 none, Cond.fieldLink RX3 44 "BlockRows" "stale" "Z", Cond.fieldLink RX3 23 "BlockRows" "chains" "LBlockRows$Chains;", Cond.fieldLink RX3 16 "BlockRows" "ways" "LBlockRows$Ways;", Cond.fieldLink RX3 30 "BlockRows" "allByNumber" "LBlockRows$Line;", Cond.fieldLink RX3 89 "BlockRows" "allWeight" "J", Cond.fieldLink RX3 86 "BlockRows" "hotWeight" "J", Cond.fieldLink RX3 82 "BlockRows" "chainsWeight" "J", Cond.methodLink RX3 95 yX3_lineUpByNumber, Cond.instanceMethod yX3_lineUpByNumber, Cond.selects RX3 yX3_lineUpByNumber yX3_lineUpByNumber, Cond.code yX3_lineUpByNumber cX3_lineUpByNumber 2 none, Cond.fieldLink RX3 40 "BlockRows" "blocks" "I", Cond.fieldLink RX3 9 "BlockRows" "hot" "[Z", Cond.methodLink RX3 114 yX1_empty, Cond.instanceMethod yX1_empty, Cond.selects RX1 yX1_empty yX1_empty, Cond.initialized RX1]
def wsX3_row_r2 : List Cond := [Cond.code yX1_empty cX1_empty 1 none, Cond.fieldLink RX1 18 "BlockRows$Line" "filled" "I", Cond.fieldLink RX1 15 "BlockRows$Line" "places" "[I", Cond.methodLink RX1 22 yJ7_fill_53178, Cond.static yJ7_fill_53178, Cond.initialized RJ7, Cond.code yJ7_fill_53178 cJ7_fill_53178 4 none, Cond.methodLink RX3 117 yX1_append, Cond.instanceMethod yX1_append, Cond.selects RX1 yX1_append yX1_append, Cond.code yX1_append cX1_append 2 none, Cond.fieldLink RX1 9 "BlockRows$Line" "members" "[I", Cond.static yX3_fitsRows, Cond.code yX3_fitsRows cX3_fitsRows 1 (some .boolean), Cond.methodLink RX3 98 yX0_start, Cond.instanceMethod yX0_start, Cond.selects RX0 yX0_start yX0_start, Cond.initialized RX0, Cond.code yX0_start cX0_start 3 none, Cond.fieldLink RX0 15 "BlockRows$Chains" "next" "[I", Cond.fieldLink RX0 9 "BlockRows$Chains" "first" "[I", Cond.methodLink RX0 22 yJ7_fill_53178, Cond.methodLink RX0 28 yX1_holds, Cond.instanceMethod yX1_holds]
def wsX3_row_r3 : List Cond := [Cond.selects RX1 yX1_holds yX1_holds, Cond.code yX1_holds cX1_holds 2 (some .boolean), Cond.methodLink RX3 102 yX0_joinAlong, Cond.instanceMethod yX0_joinAlong, Cond.selects RX0 yX0_joinAlong yX0_joinAlong, Cond.code yX0_joinAlong cX0_joinAlong 5 none, Cond.methodLink RX0 56 yX0_mayJoin, Cond.instanceMethod yX0_mayJoin, Cond.selects RX0 yX0_mayJoin yX0_mayJoin, Cond.code yX0_mayJoin cX0_mayJoin 5 (some .boolean), Cond.methodLink RX0 85 yX0_firstOf, Cond.instanceMethod yX0_firstOf, Cond.selects RX0 yX0_firstOf yX0_firstOf, Cond.code yX0_firstOf cX0_firstOf 2 (some .int), Cond.methodLink RX0 60 yX0_join, Cond.instanceMethod yX0_join, Cond.selects RX0 yX0_join yX0_join, Cond.code yX0_join cX0_join 6 none, Cond.methodLink RX3 106 yX0_lineUp, Cond.instanceMethod yX0_lineUp, Cond.selects RX0 yX0_lineUp yX0_lineUp, Cond.code yX0_lineUp cX0_lineUp 6 none, Cond.fieldLink RX0 18 "BlockRows$Chains" "pulls" "[J", Cond.methodLink RX0 64 yX1_empty]
def wsX3_row_r4 : List Cond := [Cond.methodLink RX0 67 yJ7_fill_d0a16, Cond.static yJ7_fill_d0a16, Cond.code yJ7_fill_d0a16 cJ7_fill_d0a16 5 none, Cond.methodLink RX0 73 yX0_mostPulled, Cond.instanceMethod yX0_mostPulled, Cond.selects RX0 yX0_mostPulled yX0_mostPulled, Cond.code yX0_mostPulled cX0_mostPulled 6 (some .int), Cond.methodLink RX0 89 yX1_blockAt, Cond.instanceMethod yX1_blockAt, Cond.selects RX1 yX1_blockAt yX1_blockAt, Cond.code yX1_blockAt cX1_blockAt 2 (some .int), Cond.methodLink RX0 92 yX0_pullOf, Cond.instanceMethod yX0_pullOf, Cond.selects RX0 yX0_pullOf yX0_pullOf, Cond.code yX0_pullOf cX0_pullOf 2 (some .long), Cond.methodLink RX0 77 yX0_appendChain, Cond.instanceMethod yX0_appendChain, Cond.selects RX0 yX0_appendChain yX0_appendChain, Cond.code yX0_appendChain cX0_appendChain 5 none, Cond.methodLink RX0 96 yX1_append, Cond.methodLink RX0 81 yX0_pullTowards, Cond.instanceMethod yX0_pullTowards, Cond.selects RX0 yX0_pullTowards yX0_pullTowards, Cond.code yX0_pullTowards cX0_pullTowards 6 none]
def wsX3_row_r5 : List Cond := [Cond.methodLink RX3 110 yX2_weigh, Cond.instanceMethod yX2_weigh, Cond.selects RX2 yX2_weigh yX2_weigh, Cond.initialized RX2, Cond.code yX2_weigh cX2_weigh 5 (some .long), Cond.fieldLink RX2 26 "BlockRows$Ways" "known" "I", Cond.fieldLink RX2 22 "BlockRows$Ways" "falling" "[Z", Cond.fieldLink RX2 9 "BlockRows$Ways" "from" "[I", Cond.fieldLink RX2 15 "BlockRows$Ways" "to" "[I", Cond.fieldLink RX2 18 "BlockRows$Ways" "counts" "[J", Cond.methodLink RX2 51 yX1_goesOn, Cond.instanceMethod yX1_goesOn, Cond.selects RX1 yX1_goesOn yX1_goesOn, Cond.code yX1_goesOn cX1_goesOn 3 (some .boolean), Cond.methodLink RX1 32 yX1_holds, Cond.methodLink RX3 74 yX3_chainsAreBetter, Cond.instanceMethod yX3_chainsAreBetter, Cond.selects RX3 yX3_chainsAreBetter yX3_chainsAreBetter, Cond.code yX3_chainsAreBetter cX3_chainsAreBetter 1 (some .boolean), Cond.methodLink RX3 78 yX1_blockAt]
def wsX3_row : List Cond := .code yX3_row cX3_row 2 (some .int) :: ((wsX3_row_r1 ++ (wsX3_row_r2 ++ (wsX3_row_r3 ++ (wsX3_row_r4 ++ wsX3_row_r5)))) ++ wsX30 ++ wsX10 ++ wsX00 ++ wsX20)
def wsX3_weight_r1 : List Cond := [Cond.fieldLink RX3 82 "BlockRows" "chainsWeight" "J", Cond.fieldLink RX3 86 "BlockRows" "hotWeight" "J", Cond.fieldLink RX3 89 "BlockRows" "allWeight" "J", Cond.constantLong RX3 55 (-1), Cond.methodLink RX3 68 yX3_refresh, Cond.instanceMethod yX3_refresh, Cond.selects RX3 yX3_refresh yX3_refresh, Cond.initialized RX3, Cond.code yX3_refresh cX3_refresh 1 none, Cond.fieldLink RX3 44 "BlockRows" "stale" "Z", Cond.fieldLink RX3 23 "BlockRows" "chains" "LBlockRows$Chains;", Cond.fieldLink RX3 34 "BlockRows" "hotByNumber" "LBlockRows$Line;", Cond.fieldLink RX3 16 "BlockRows" "ways" "LBlockRows$Ways;", Cond.fieldLink RX3 37 "BlockRows" "hotByChains" "LBlockRows$Line;", Cond.fieldLink RX3 30 "BlockRows" "allByNumber" "LBlockRows$Line;", Cond.methodLink RX3 95 yX3_lineUpByNumber, Cond.instanceMethod yX3_lineUpByNumber, Cond.selects RX3 yX3_lineUpByNumber yX3_lineUpByNumber, Cond.code yX3_lineUpByNumber cX3_lineUpByNumber 2 none, Cond.fieldLink RX3 40 "BlockRows" "blocks" "I", Cond.fieldLink RX3 9 "BlockRows" "hot" "[Z", Cond.methodLink RX3 114 yX1_empty, Cond.instanceMethod yX1_empty, Cond.selects RX1 yX1_empty yX1_empty]
def wsX3_weight_r2 : List Cond := [Cond.initialized RX1, Cond.code yX1_empty cX1_empty 1 none, Cond.fieldLink RX1 18 "BlockRows$Line" "filled" "I", Cond.fieldLink RX1 15 "BlockRows$Line" "places" "[I", Cond.methodLink RX1 22 yJ7_fill_53178, Cond.static yJ7_fill_53178, Cond.initialized RJ7, Cond.code yJ7_fill_53178 cJ7_fill_53178 4 none, Cond.methodLink RX3 117 yX1_append, Cond.instanceMethod yX1_append, Cond.selects RX1 yX1_append yX1_append, Cond.code yX1_append cX1_append 2 none, Cond.fieldLink RX1 9 "BlockRows$Line" "members" "[I", Cond.static yX3_fitsRows, Cond.code yX3_fitsRows cX3_fitsRows 1 (some .boolean), Cond.methodLink RX3 98 yX0_start, Cond.instanceMethod yX0_start, Cond.selects RX0 yX0_start yX0_start, Cond.initialized RX0, Cond.code yX0_start cX0_start 3 none, Cond.fieldLink RX0 15 "BlockRows$Chains" "next" "[I", Cond.fieldLink RX0 9 "BlockRows$Chains" "first" "[I", Cond.methodLink RX0 22 yJ7_fill_53178, Cond.methodLink RX0 28 yX1_holds]
def wsX3_weight_r3 : List Cond := [Cond.instanceMethod yX1_holds, Cond.selects RX1 yX1_holds yX1_holds, Cond.code yX1_holds cX1_holds 2 (some .boolean), Cond.methodLink RX3 102 yX0_joinAlong, Cond.instanceMethod yX0_joinAlong, Cond.selects RX0 yX0_joinAlong yX0_joinAlong, Cond.code yX0_joinAlong cX0_joinAlong 5 none, Cond.methodLink RX0 56 yX0_mayJoin, Cond.instanceMethod yX0_mayJoin, Cond.selects RX0 yX0_mayJoin yX0_mayJoin, Cond.code yX0_mayJoin cX0_mayJoin 5 (some .boolean), Cond.methodLink RX0 85 yX0_firstOf, Cond.instanceMethod yX0_firstOf, Cond.selects RX0 yX0_firstOf yX0_firstOf, Cond.code yX0_firstOf cX0_firstOf 2 (some .int), Cond.methodLink RX0 60 yX0_join, Cond.instanceMethod yX0_join, Cond.selects RX0 yX0_join yX0_join, Cond.code yX0_join cX0_join 6 none, Cond.methodLink RX3 106 yX0_lineUp, Cond.instanceMethod yX0_lineUp, Cond.selects RX0 yX0_lineUp yX0_lineUp, Cond.code yX0_lineUp cX0_lineUp 6 none, Cond.fieldLink RX0 18 "BlockRows$Chains" "pulls" "[J"]
def wsX3_weight_r4 : List Cond := [Cond.methodLink RX0 64 yX1_empty, Cond.methodLink RX0 67 yJ7_fill_d0a16, Cond.static yJ7_fill_d0a16, Cond.code yJ7_fill_d0a16 cJ7_fill_d0a16 5 none, Cond.methodLink RX0 73 yX0_mostPulled, Cond.instanceMethod yX0_mostPulled, Cond.selects RX0 yX0_mostPulled yX0_mostPulled, Cond.code yX0_mostPulled cX0_mostPulled 6 (some .int), Cond.methodLink RX0 89 yX1_blockAt, Cond.instanceMethod yX1_blockAt, Cond.selects RX1 yX1_blockAt yX1_blockAt, Cond.code yX1_blockAt cX1_blockAt 2 (some .int), Cond.methodLink RX0 92 yX0_pullOf, Cond.instanceMethod yX0_pullOf, Cond.selects RX0 yX0_pullOf yX0_pullOf, Cond.code yX0_pullOf cX0_pullOf 2 (some .long), Cond.methodLink RX0 77 yX0_appendChain, Cond.instanceMethod yX0_appendChain, Cond.selects RX0 yX0_appendChain yX0_appendChain, Cond.code yX0_appendChain cX0_appendChain 5 none, Cond.methodLink RX0 96 yX1_append, Cond.methodLink RX0 81 yX0_pullTowards, Cond.instanceMethod yX0_pullTowards, Cond.selects RX0 yX0_pullTowards yX0_pullTowards]
def wsX3_weight_r5 : List Cond := [Cond.code yX0_pullTowards cX0_pullTowards 6 none, Cond.methodLink RX3 110 yX2_weigh, Cond.instanceMethod yX2_weigh, Cond.selects RX2 yX2_weigh yX2_weigh, Cond.initialized RX2, Cond.code yX2_weigh cX2_weigh 5 (some .long), Cond.fieldLink RX2 26 "BlockRows$Ways" "known" "I", Cond.fieldLink RX2 22 "BlockRows$Ways" "falling" "[Z", Cond.fieldLink RX2 9 "BlockRows$Ways" "from" "[I", Cond.fieldLink RX2 15 "BlockRows$Ways" "to" "[I", Cond.fieldLink RX2 18 "BlockRows$Ways" "counts" "[J", Cond.methodLink RX2 51 yX1_goesOn, Cond.instanceMethod yX1_goesOn, Cond.selects RX1 yX1_goesOn yX1_goesOn, Cond.code yX1_goesOn cX1_goesOn 3 (some .boolean), Cond.methodLink RX1 32 yX1_holds, Cond.methodLink RX3 74 yX3_chainsAreBetter, Cond.instanceMethod yX3_chainsAreBetter, Cond.selects RX3 yX3_chainsAreBetter yX3_chainsAreBetter, Cond.code yX3_chainsAreBetter cX3_chainsAreBetter 1 (some .boolean)]
def wsX3_weight : List Cond := .code yX3_weight cX3_weight 2 (some .long) :: ((wsX3_weight_r1 ++ (wsX3_weight_r2 ++ (wsX3_weight_r3 ++ (wsX3_weight_r4 ++ wsX3_weight_r5)))) ++ wsX30 ++ wsX10 ++ wsX00 ++ wsX20)
def wsX3_chain_r1 : List Cond := [Cond.fieldLink RX3 23 "BlockRows" "chains" "LBlockRows$Chains;", Cond.methodLink RX3 68 yX3_refresh, Cond.instanceMethod yX3_refresh, Cond.selects RX3 yX3_refresh yX3_refresh, Cond.initialized RX3, Cond.code yX3_refresh cX3_refresh 1 none, Cond.fieldLink RX3 44 "BlockRows" "stale" "Z", Cond.fieldLink RX3 34 "BlockRows" "hotByNumber" "LBlockRows$Line;", Cond.fieldLink RX3 16 "BlockRows" "ways" "LBlockRows$Ways;", Cond.fieldLink RX3 37 "BlockRows" "hotByChains" "LBlockRows$Line;", Cond.fieldLink RX3 30 "BlockRows" "allByNumber" "LBlockRows$Line;", Cond.fieldLink RX3 89 "BlockRows" "allWeight" "J", Cond.fieldLink RX3 86 "BlockRows" "hotWeight" "J", Cond.fieldLink RX3 82 "BlockRows" "chainsWeight" "J", Cond.methodLink RX3 95 yX3_lineUpByNumber, Cond.instanceMethod yX3_lineUpByNumber, Cond.selects RX3 yX3_lineUpByNumber yX3_lineUpByNumber, Cond.code yX3_lineUpByNumber cX3_lineUpByNumber 2 none, Cond.fieldLink RX3 40 "BlockRows" "blocks" "I", Cond.fieldLink RX3 9 "BlockRows" "hot" "[Z", Cond.methodLink RX3 114 yX1_empty, Cond.instanceMethod yX1_empty, Cond.selects RX1 yX1_empty yX1_empty, Cond.initialized RX1]
def wsX3_chain_r2 : List Cond := [Cond.code yX1_empty cX1_empty 1 none, Cond.fieldLink RX1 18 "BlockRows$Line" "filled" "I", Cond.fieldLink RX1 15 "BlockRows$Line" "places" "[I", Cond.methodLink RX1 22 yJ7_fill_53178, Cond.static yJ7_fill_53178, Cond.initialized RJ7, Cond.code yJ7_fill_53178 cJ7_fill_53178 4 none, Cond.methodLink RX3 117 yX1_append, Cond.instanceMethod yX1_append, Cond.selects RX1 yX1_append yX1_append, Cond.code yX1_append cX1_append 2 none, Cond.fieldLink RX1 9 "BlockRows$Line" "members" "[I", Cond.static yX3_fitsRows, Cond.code yX3_fitsRows cX3_fitsRows 1 (some .boolean), Cond.methodLink RX3 98 yX0_start, Cond.instanceMethod yX0_start, Cond.selects RX0 yX0_start yX0_start, Cond.initialized RX0, Cond.code yX0_start cX0_start 3 none, Cond.fieldLink RX0 15 "BlockRows$Chains" "next" "[I", Cond.fieldLink RX0 9 "BlockRows$Chains" "first" "[I", Cond.methodLink RX0 22 yJ7_fill_53178, Cond.methodLink RX0 28 yX1_holds, Cond.instanceMethod yX1_holds]
def wsX3_chain_r3 : List Cond := [Cond.selects RX1 yX1_holds yX1_holds, Cond.code yX1_holds cX1_holds 2 (some .boolean), Cond.methodLink RX3 102 yX0_joinAlong, Cond.instanceMethod yX0_joinAlong, Cond.selects RX0 yX0_joinAlong yX0_joinAlong, Cond.code yX0_joinAlong cX0_joinAlong 5 none, Cond.methodLink RX0 56 yX0_mayJoin, Cond.instanceMethod yX0_mayJoin, Cond.selects RX0 yX0_mayJoin yX0_mayJoin, Cond.code yX0_mayJoin cX0_mayJoin 5 (some .boolean), Cond.methodLink RX0 85 yX0_firstOf, Cond.instanceMethod yX0_firstOf, Cond.selects RX0 yX0_firstOf yX0_firstOf, Cond.code yX0_firstOf cX0_firstOf 2 (some .int), Cond.methodLink RX0 60 yX0_join, Cond.instanceMethod yX0_join, Cond.selects RX0 yX0_join yX0_join, Cond.code yX0_join cX0_join 6 none, Cond.methodLink RX3 106 yX0_lineUp, Cond.instanceMethod yX0_lineUp, Cond.selects RX0 yX0_lineUp yX0_lineUp, Cond.code yX0_lineUp cX0_lineUp 6 none, Cond.fieldLink RX0 18 "BlockRows$Chains" "pulls" "[J", Cond.methodLink RX0 64 yX1_empty]
def wsX3_chain_r4 : List Cond := [Cond.methodLink RX0 67 yJ7_fill_d0a16, Cond.static yJ7_fill_d0a16, Cond.code yJ7_fill_d0a16 cJ7_fill_d0a16 5 none, Cond.methodLink RX0 73 yX0_mostPulled, Cond.instanceMethod yX0_mostPulled, Cond.selects RX0 yX0_mostPulled yX0_mostPulled, Cond.code yX0_mostPulled cX0_mostPulled 6 (some .int), Cond.methodLink RX0 89 yX1_blockAt, Cond.instanceMethod yX1_blockAt, Cond.selects RX1 yX1_blockAt yX1_blockAt, Cond.code yX1_blockAt cX1_blockAt 2 (some .int), Cond.methodLink RX0 92 yX0_pullOf, Cond.instanceMethod yX0_pullOf, Cond.selects RX0 yX0_pullOf yX0_pullOf, Cond.code yX0_pullOf cX0_pullOf 2 (some .long), Cond.methodLink RX0 77 yX0_appendChain, Cond.instanceMethod yX0_appendChain, Cond.selects RX0 yX0_appendChain yX0_appendChain, Cond.code yX0_appendChain cX0_appendChain 5 none, Cond.methodLink RX0 96 yX1_append, Cond.methodLink RX0 81 yX0_pullTowards, Cond.instanceMethod yX0_pullTowards, Cond.selects RX0 yX0_pullTowards yX0_pullTowards, Cond.code yX0_pullTowards cX0_pullTowards 6 none]
def wsX3_chain_r5 : List Cond := [Cond.methodLink RX3 110 yX2_weigh, Cond.instanceMethod yX2_weigh, Cond.selects RX2 yX2_weigh yX2_weigh, Cond.initialized RX2, Cond.code yX2_weigh cX2_weigh 5 (some .long), Cond.fieldLink RX2 26 "BlockRows$Ways" "known" "I", Cond.fieldLink RX2 22 "BlockRows$Ways" "falling" "[Z", Cond.fieldLink RX2 9 "BlockRows$Ways" "from" "[I", Cond.fieldLink RX2 15 "BlockRows$Ways" "to" "[I", Cond.fieldLink RX2 18 "BlockRows$Ways" "counts" "[J", Cond.methodLink RX2 51 yX1_goesOn, Cond.instanceMethod yX1_goesOn, Cond.selects RX1 yX1_goesOn yX1_goesOn, Cond.code yX1_goesOn cX1_goesOn 3 (some .boolean), Cond.methodLink RX1 32 yX1_holds, Cond.methodLink RX3 51 yX3_isBlock, Cond.instanceMethod yX3_isBlock, Cond.selects RX3 yX3_isBlock yX3_isBlock, Cond.code yX3_isBlock cX3_isBlock 2 (some .boolean), Cond.methodLink RX3 92 yX0_firstOf]
def wsX3_chain : List Cond := .code yX3_chain cX3_chain 2 (some .int) :: ((wsX3_chain_r1 ++ (wsX3_chain_r2 ++ (wsX3_chain_r3 ++ (wsX3_chain_r4 ++ wsX3_chain_r5)))) ++ wsX30 ++ wsX10 ++ wsX00 ++ wsX20)
def wsX4_init : List Cond := .code yX4_init cX4_init 1 none :: ([.methodLink RX4 1 objectInit, .instanceMethod objectInit, .code objectInit ⟨#[0xb1]⟩ 1 none, .fieldLink RX4 7 "BlockRowsModel" "blocks" "I", .arrayClass .boolean, .fieldLink RX4 13 "BlockRowsModel" "hot" "[Z", .arrayClass .int, .fieldLink RX4 17 "BlockRowsModel" "from" "[I", .fieldLink RX4 21 "BlockRowsModel" "to" "[I", .arrayClass .long, .fieldLink RX4 24 "BlockRowsModel" "counts" "[J", .fieldLink RX4 28 "BlockRowsModel" "fall" "[Z", .constant RX4 31 (40000), .fieldLink RX4 32 "BlockRowsModel" "table" "[I", .fieldLink RX4 35 "BlockRowsModel" "many" "[I", .fieldLink RX4 38 "BlockRowsModel" "chainOf" "[I", .fieldLink RX4 41 "BlockRowsModel" "byChains" "[I", .fieldLink RX4 44 "BlockRowsModel" "byNumber" "[I", .fieldLink RX4 47 "BlockRowsModel" "looked" "[Z", .fieldLink RX4 50 "BlockRowsModel" "isPlaced" "[Z", .fieldLink RX4 53 "BlockRowsModel" "all" "[I"] ++ wsX40)
def wsX4_isBlock : List Cond := .code yX4_isBlock cX4_isBlock 2 (some .boolean) :: ([.fieldLink RX4 7 "BlockRowsModel" "blocks" "I"] ++ wsX40)
def wsX4_size : List Cond := .code yX4_size cX4_size 3 (some .boolean) :: ([.fieldLink RX4 7 "BlockRowsModel" "blocks" "I", .fieldLink RX4 56 "BlockRowsModel" "ways" "I", .fieldLink RX4 13 "BlockRowsModel" "hot" "[Z", .fieldLink RX4 59 "BlockRowsModel" "isKnown" "Z"] ++ wsX40)
def wsX4_heat : List Cond := .code yX4_heat cX4_heat 3 (some .boolean) :: ([.fieldLink RX4 13 "BlockRowsModel" "hot" "[Z", .fieldLink RX4 59 "BlockRowsModel" "isKnown" "Z", .methodLink RX4 63 yX4_isBlock, .instanceMethod yX4_isBlock, .selects RX4 yX4_isBlock yX4_isBlock, .initialized RX4, .code yX4_isBlock cX4_isBlock 2 (some .boolean), .fieldLink RX4 7 "BlockRowsModel" "blocks" "I"] ++ wsX40)
def wsX4_find : List Cond := .code yX4_find cX4_find 4 (some .int) :: ([.fieldLink RX4 56 "BlockRowsModel" "ways" "I", .fieldLink RX4 17 "BlockRowsModel" "from" "[I", .fieldLink RX4 21 "BlockRowsModel" "to" "[I"] ++ wsX40)
def wsX4_way_r1 : List Cond := [Cond.constantLong RX4 67 (-1), Cond.constant RX4 69 (1000000000), Cond.constantLong RX4 70 (-2), Cond.fieldLink RX4 56 "BlockRowsModel" "ways" "I", Cond.constantLong RX4 76 (-3), Cond.fieldLink RX4 17 "BlockRowsModel" "from" "[I", Cond.fieldLink RX4 21 "BlockRowsModel" "to" "[I", Cond.fieldLink RX4 24 "BlockRowsModel" "counts" "[J", Cond.constantLong RX4 78 (1000000000000000), Cond.methodLink RX4 80 Lib.MathLoose.min_long.x, Cond.static Lib.MathLoose.min_long.x, Cond.initialized "java/lang/Math", Cond.code Lib.MathLoose.min_long.x Lib.MathLoose.min_long.code 4 (some .long), Cond.fieldLink RX4 28 "BlockRowsModel" "fall" "[Z", Cond.fieldLink RX4 59 "BlockRowsModel" "isKnown" "Z", Cond.methodLink RX4 63 yX4_isBlock, Cond.instanceMethod yX4_isBlock, Cond.selects RX4 yX4_isBlock yX4_isBlock, Cond.initialized RX4, Cond.code yX4_isBlock cX4_isBlock 2 (some .boolean), Cond.fieldLink RX4 7 "BlockRowsModel" "blocks" "I", Cond.methodLink RX4 72 yX4_find, Cond.instanceMethod yX4_find, Cond.selects RX4 yX4_find yX4_find]
def wsX4_way_r2 : List Cond := [Cond.code yX4_find cX4_find 4 (some .int)]
def wsX4_way : List Cond := .code yX4_way cX4_way 6 (some .long) :: ((wsX4_way_r1 ++ wsX4_way_r2) ++ wsX40)
def wsX4_count : List Cond := .code yX4_count cX4_count 4 (some .long) :: ([.fieldLink RX4 24 "BlockRowsModel" "counts" "[J", .methodLink RX4 72 yX4_find, .instanceMethod yX4_find, .selects RX4 yX4_find yX4_find, .initialized RX4, .code yX4_find cX4_find 4 (some .int), .fieldLink RX4 56 "BlockRowsModel" "ways" "I", .fieldLink RX4 17 "BlockRowsModel" "from" "[I", .fieldLink RX4 21 "BlockRowsModel" "to" "[I"] ++ wsX40)
def wsX4_comesBefore : List Cond := .code yX4_comesBefore cX4_comesBefore 3 (some .boolean) :: ([.fieldLink RX4 24 "BlockRowsModel" "counts" "[J", .fieldLink RX4 17 "BlockRowsModel" "from" "[I", .fieldLink RX4 21 "BlockRowsModel" "to" "[I"] ++ wsX40)
def wsX4_chains : List Cond := .code yX4_chains cX4_chains 7 none :: ([.fieldLink RX4 56 "BlockRowsModel" "ways" "I", .fieldLink RX4 47 "BlockRowsModel" "looked" "[Z", .fieldLink RX4 28 "BlockRowsModel" "fall" "[Z", .fieldLink RX4 24 "BlockRowsModel" "counts" "[J", .fieldLink RX4 13 "BlockRowsModel" "hot" "[Z", .fieldLink RX4 17 "BlockRowsModel" "from" "[I", .fieldLink RX4 21 "BlockRowsModel" "to" "[I", .fieldLink RX4 38 "BlockRowsModel" "chainOf" "[I", .fieldLink RX4 32 "BlockRowsModel" "table" "[I", .fieldLink RX4 35 "BlockRowsModel" "many" "[I", .methodLink RX4 102 yX4_comesBefore, .instanceMethod yX4_comesBefore, .selects RX4 yX4_comesBefore yX4_comesBefore, .initialized RX4, .code yX4_comesBefore cX4_comesBefore 3 (some .boolean)] ++ wsX40)
def wsX4_sum : List Cond := .code yX4_sum cX4_sum 7 (some .long) :: ([.fieldLink RX4 56 "BlockRowsModel" "ways" "I", .fieldLink RX4 17 "BlockRowsModel" "from" "[I", .fieldLink RX4 21 "BlockRowsModel" "to" "[I", .fieldLink RX4 38 "BlockRowsModel" "chainOf" "[I", .fieldLink RX4 50 "BlockRowsModel" "isPlaced" "[Z", .fieldLink RX4 24 "BlockRowsModel" "counts" "[J"] ++ wsX40)
def wsX4_place : List Cond := .code yX4_place cX4_place 8 none :: ([.fieldLink RX4 7 "BlockRowsModel" "blocks" "I", .fieldLink RX4 50 "BlockRowsModel" "isPlaced" "[Z", .fieldLink RX4 86 "BlockRowsModel" "hots" "I", .constantLong RX4 67 (-1), .fieldLink RX4 13 "BlockRowsModel" "hot" "[Z", .fieldLink RX4 38 "BlockRowsModel" "chainOf" "[I", .fieldLink RX4 35 "BlockRowsModel" "many" "[I", .fieldLink RX4 41 "BlockRowsModel" "byChains" "[I", .fieldLink RX4 32 "BlockRowsModel" "table" "[I", .methodLink RX4 106 yX4_sum, .instanceMethod yX4_sum, .selects RX4 yX4_sum yX4_sum, .initialized RX4, .code yX4_sum cX4_sum 7 (some .long), .fieldLink RX4 56 "BlockRowsModel" "ways" "I", .fieldLink RX4 17 "BlockRowsModel" "from" "[I", .fieldLink RX4 21 "BlockRowsModel" "to" "[I", .fieldLink RX4 24 "BlockRowsModel" "counts" "[J"] ++ wsX40)
def wsX4_weightOf : List Cond := .code yX4_weightOf cX4_weightOf 7 (some .long) :: ([.fieldLink RX4 28 "BlockRowsModel" "fall" "[Z", .fieldLink RX4 24 "BlockRowsModel" "counts" "[J", .methodLink RX4 72 yX4_find, .instanceMethod yX4_find, .selects RX4 yX4_find yX4_find, .initialized RX4, .code yX4_find cX4_find 4 (some .int), .fieldLink RX4 56 "BlockRowsModel" "ways" "I", .fieldLink RX4 17 "BlockRowsModel" "from" "[I", .fieldLink RX4 21 "BlockRowsModel" "to" "[I"] ++ wsX40)
def wsX4_know_r1 : List Cond := [Cond.fieldLink RX4 59 "BlockRowsModel" "isKnown" "Z", Cond.fieldLink RX4 86 "BlockRowsModel" "hots" "I", Cond.fieldLink RX4 7 "BlockRowsModel" "blocks" "I", Cond.fieldLink RX4 38 "BlockRowsModel" "chainOf" "[I", Cond.fieldLink RX4 13 "BlockRowsModel" "hot" "[Z", Cond.fieldLink RX4 35 "BlockRowsModel" "many" "[I", Cond.fieldLink RX4 32 "BlockRowsModel" "table" "[I", Cond.fieldLink RX4 44 "BlockRowsModel" "byNumber" "[I", Cond.fieldLink RX4 41 "BlockRowsModel" "byChains" "[I", Cond.fieldLink RX4 99 "BlockRowsModel" "isBetter" "Z", Cond.methodLink RX4 89 yX4_chains, Cond.instanceMethod yX4_chains, Cond.selects RX4 yX4_chains yX4_chains, Cond.initialized RX4, Cond.code yX4_chains cX4_chains 7 none, Cond.fieldLink RX4 56 "BlockRowsModel" "ways" "I", Cond.fieldLink RX4 47 "BlockRowsModel" "looked" "[Z", Cond.fieldLink RX4 28 "BlockRowsModel" "fall" "[Z", Cond.fieldLink RX4 24 "BlockRowsModel" "counts" "[J", Cond.fieldLink RX4 17 "BlockRowsModel" "from" "[I", Cond.fieldLink RX4 21 "BlockRowsModel" "to" "[I", Cond.methodLink RX4 102 yX4_comesBefore, Cond.instanceMethod yX4_comesBefore, Cond.selects RX4 yX4_comesBefore yX4_comesBefore]
def wsX4_know_r2 : List Cond := [Cond.code yX4_comesBefore cX4_comesBefore 3 (some .boolean), Cond.methodLink RX4 92 yX4_place, Cond.instanceMethod yX4_place, Cond.selects RX4 yX4_place yX4_place, Cond.code yX4_place cX4_place 8 none, Cond.fieldLink RX4 50 "BlockRowsModel" "isPlaced" "[Z", Cond.constantLong RX4 67 (-1), Cond.methodLink RX4 106 yX4_sum, Cond.instanceMethod yX4_sum, Cond.selects RX4 yX4_sum yX4_sum, Cond.code yX4_sum cX4_sum 7 (some .long), Cond.methodLink RX4 95 yX4_weightOf, Cond.instanceMethod yX4_weightOf, Cond.selects RX4 yX4_weightOf yX4_weightOf, Cond.code yX4_weightOf cX4_weightOf 7 (some .long), Cond.methodLink RX4 72 yX4_find, Cond.instanceMethod yX4_find, Cond.selects RX4 yX4_find yX4_find, Cond.code yX4_find cX4_find 4 (some .int)]
def wsX4_know : List Cond := .code yX4_know cX4_know 2 none :: ((wsX4_know_r1 ++ wsX4_know_r2) ++ wsX40)
def wsX4_length_r1 : List Cond := [Cond.fieldLink RX4 86 "BlockRowsModel" "hots" "I", Cond.methodLink RX4 110 yX4_know, Cond.instanceMethod yX4_know, Cond.selects RX4 yX4_know yX4_know, Cond.initialized RX4, Cond.code yX4_know cX4_know 2 none, Cond.fieldLink RX4 59 "BlockRowsModel" "isKnown" "Z", Cond.fieldLink RX4 7 "BlockRowsModel" "blocks" "I", Cond.fieldLink RX4 38 "BlockRowsModel" "chainOf" "[I", Cond.fieldLink RX4 13 "BlockRowsModel" "hot" "[Z", Cond.fieldLink RX4 35 "BlockRowsModel" "many" "[I", Cond.fieldLink RX4 32 "BlockRowsModel" "table" "[I", Cond.fieldLink RX4 44 "BlockRowsModel" "byNumber" "[I", Cond.fieldLink RX4 41 "BlockRowsModel" "byChains" "[I", Cond.fieldLink RX4 99 "BlockRowsModel" "isBetter" "Z", Cond.methodLink RX4 89 yX4_chains, Cond.instanceMethod yX4_chains, Cond.selects RX4 yX4_chains yX4_chains, Cond.code yX4_chains cX4_chains 7 none, Cond.fieldLink RX4 56 "BlockRowsModel" "ways" "I", Cond.fieldLink RX4 47 "BlockRowsModel" "looked" "[Z", Cond.fieldLink RX4 28 "BlockRowsModel" "fall" "[Z", Cond.fieldLink RX4 24 "BlockRowsModel" "counts" "[J", Cond.fieldLink RX4 17 "BlockRowsModel" "from" "[I"]
def wsX4_length_r2 : List Cond := [Cond.fieldLink RX4 21 "BlockRowsModel" "to" "[I", Cond.methodLink RX4 102 yX4_comesBefore, Cond.instanceMethod yX4_comesBefore, Cond.selects RX4 yX4_comesBefore yX4_comesBefore, Cond.code yX4_comesBefore cX4_comesBefore 3 (some .boolean), Cond.methodLink RX4 92 yX4_place, Cond.instanceMethod yX4_place, Cond.selects RX4 yX4_place yX4_place, Cond.code yX4_place cX4_place 8 none, Cond.fieldLink RX4 50 "BlockRowsModel" "isPlaced" "[Z", Cond.constantLong RX4 67 (-1), Cond.methodLink RX4 106 yX4_sum, Cond.instanceMethod yX4_sum, Cond.selects RX4 yX4_sum yX4_sum, Cond.code yX4_sum cX4_sum 7 (some .long), Cond.methodLink RX4 95 yX4_weightOf, Cond.instanceMethod yX4_weightOf, Cond.selects RX4 yX4_weightOf yX4_weightOf, Cond.code yX4_weightOf cX4_weightOf 7 (some .long), Cond.methodLink RX4 72 yX4_find, Cond.instanceMethod yX4_find, Cond.selects RX4 yX4_find yX4_find, Cond.code yX4_find cX4_find 4 (some .int)]
def wsX4_length : List Cond := .code yX4_length cX4_length 1 (some .int) :: ((wsX4_length_r1 ++ wsX4_length_r2) ++ wsX40)
def wsX4_row_r1 : List Cond := [Cond.fieldLink RX4 86 "BlockRowsModel" "hots" "I", Cond.fieldLink RX4 99 "BlockRowsModel" "isBetter" "Z", Cond.fieldLink RX4 41 "BlockRowsModel" "byChains" "[I", Cond.fieldLink RX4 44 "BlockRowsModel" "byNumber" "[I", Cond.methodLink RX4 110 yX4_know, Cond.instanceMethod yX4_know, Cond.selects RX4 yX4_know yX4_know, Cond.initialized RX4, Cond.code yX4_know cX4_know 2 none, Cond.fieldLink RX4 59 "BlockRowsModel" "isKnown" "Z", Cond.fieldLink RX4 7 "BlockRowsModel" "blocks" "I", Cond.fieldLink RX4 38 "BlockRowsModel" "chainOf" "[I", Cond.fieldLink RX4 13 "BlockRowsModel" "hot" "[Z", Cond.fieldLink RX4 35 "BlockRowsModel" "many" "[I", Cond.fieldLink RX4 32 "BlockRowsModel" "table" "[I", Cond.methodLink RX4 89 yX4_chains, Cond.instanceMethod yX4_chains, Cond.selects RX4 yX4_chains yX4_chains, Cond.code yX4_chains cX4_chains 7 none, Cond.fieldLink RX4 56 "BlockRowsModel" "ways" "I", Cond.fieldLink RX4 47 "BlockRowsModel" "looked" "[Z", Cond.fieldLink RX4 28 "BlockRowsModel" "fall" "[Z", Cond.fieldLink RX4 24 "BlockRowsModel" "counts" "[J", Cond.fieldLink RX4 17 "BlockRowsModel" "from" "[I"]
def wsX4_row_r2 : List Cond := [Cond.fieldLink RX4 21 "BlockRowsModel" "to" "[I", Cond.methodLink RX4 102 yX4_comesBefore, Cond.instanceMethod yX4_comesBefore, Cond.selects RX4 yX4_comesBefore yX4_comesBefore, Cond.code yX4_comesBefore cX4_comesBefore 3 (some .boolean), Cond.methodLink RX4 92 yX4_place, Cond.instanceMethod yX4_place, Cond.selects RX4 yX4_place yX4_place, Cond.code yX4_place cX4_place 8 none, Cond.fieldLink RX4 50 "BlockRowsModel" "isPlaced" "[Z", Cond.constantLong RX4 67 (-1), Cond.methodLink RX4 106 yX4_sum, Cond.instanceMethod yX4_sum, Cond.selects RX4 yX4_sum yX4_sum, Cond.code yX4_sum cX4_sum 7 (some .long), Cond.methodLink RX4 95 yX4_weightOf, Cond.instanceMethod yX4_weightOf, Cond.selects RX4 yX4_weightOf yX4_weightOf, Cond.code yX4_weightOf cX4_weightOf 7 (some .long), Cond.methodLink RX4 72 yX4_find, Cond.instanceMethod yX4_find, Cond.selects RX4 yX4_find yX4_find, Cond.code yX4_find cX4_find 4 (some .int)]
def wsX4_row : List Cond := .code yX4_row cX4_row 2 (some .int) :: ((wsX4_row_r1 ++ wsX4_row_r2) ++ wsX40)
def wsX4_weight_r1 : List Cond := [Cond.constantLong RX4 67 (-1), Cond.fieldLink RX4 7 "BlockRowsModel" "blocks" "I", Cond.fieldLink RX4 53 "BlockRowsModel" "all" "[I", Cond.fieldLink RX4 99 "BlockRowsModel" "isBetter" "Z", Cond.fieldLink RX4 41 "BlockRowsModel" "byChains" "[I", Cond.fieldLink RX4 44 "BlockRowsModel" "byNumber" "[I", Cond.fieldLink RX4 86 "BlockRowsModel" "hots" "I", Cond.methodLink RX4 110 yX4_know, Cond.instanceMethod yX4_know, Cond.selects RX4 yX4_know yX4_know, Cond.initialized RX4, Cond.code yX4_know cX4_know 2 none, Cond.fieldLink RX4 59 "BlockRowsModel" "isKnown" "Z", Cond.fieldLink RX4 38 "BlockRowsModel" "chainOf" "[I", Cond.fieldLink RX4 13 "BlockRowsModel" "hot" "[Z", Cond.fieldLink RX4 35 "BlockRowsModel" "many" "[I", Cond.fieldLink RX4 32 "BlockRowsModel" "table" "[I", Cond.methodLink RX4 89 yX4_chains, Cond.instanceMethod yX4_chains, Cond.selects RX4 yX4_chains yX4_chains, Cond.code yX4_chains cX4_chains 7 none, Cond.fieldLink RX4 56 "BlockRowsModel" "ways" "I", Cond.fieldLink RX4 47 "BlockRowsModel" "looked" "[Z", Cond.fieldLink RX4 28 "BlockRowsModel" "fall" "[Z"]
def wsX4_weight_r2 : List Cond := [Cond.fieldLink RX4 24 "BlockRowsModel" "counts" "[J", Cond.fieldLink RX4 17 "BlockRowsModel" "from" "[I", Cond.fieldLink RX4 21 "BlockRowsModel" "to" "[I", Cond.methodLink RX4 102 yX4_comesBefore, Cond.instanceMethod yX4_comesBefore, Cond.selects RX4 yX4_comesBefore yX4_comesBefore, Cond.code yX4_comesBefore cX4_comesBefore 3 (some .boolean), Cond.methodLink RX4 92 yX4_place, Cond.instanceMethod yX4_place, Cond.selects RX4 yX4_place yX4_place, Cond.code yX4_place cX4_place 8 none, Cond.fieldLink RX4 50 "BlockRowsModel" "isPlaced" "[Z", Cond.methodLink RX4 106 yX4_sum, Cond.instanceMethod yX4_sum, Cond.selects RX4 yX4_sum yX4_sum, Cond.code yX4_sum cX4_sum 7 (some .long), Cond.methodLink RX4 95 yX4_weightOf, Cond.instanceMethod yX4_weightOf, Cond.selects RX4 yX4_weightOf yX4_weightOf, Cond.code yX4_weightOf cX4_weightOf 7 (some .long), Cond.methodLink RX4 72 yX4_find, Cond.instanceMethod yX4_find, Cond.selects RX4 yX4_find yX4_find, Cond.code yX4_find cX4_find 4 (some .int)]
def wsX4_weight : List Cond := .code yX4_weight cX4_weight 3 (some .long) :: ((wsX4_weight_r1 ++ wsX4_weight_r2) ++ wsX40)
def wsX4_chain_r1 : List Cond := [Cond.fieldLink RX4 13 "BlockRowsModel" "hot" "[Z", Cond.fieldLink RX4 32 "BlockRowsModel" "table" "[I", Cond.fieldLink RX4 38 "BlockRowsModel" "chainOf" "[I", Cond.methodLink RX4 110 yX4_know, Cond.instanceMethod yX4_know, Cond.selects RX4 yX4_know yX4_know, Cond.initialized RX4, Cond.code yX4_know cX4_know 2 none, Cond.fieldLink RX4 59 "BlockRowsModel" "isKnown" "Z", Cond.fieldLink RX4 86 "BlockRowsModel" "hots" "I", Cond.fieldLink RX4 7 "BlockRowsModel" "blocks" "I", Cond.fieldLink RX4 35 "BlockRowsModel" "many" "[I", Cond.fieldLink RX4 44 "BlockRowsModel" "byNumber" "[I", Cond.fieldLink RX4 41 "BlockRowsModel" "byChains" "[I", Cond.fieldLink RX4 99 "BlockRowsModel" "isBetter" "Z", Cond.methodLink RX4 89 yX4_chains, Cond.instanceMethod yX4_chains, Cond.selects RX4 yX4_chains yX4_chains, Cond.code yX4_chains cX4_chains 7 none, Cond.fieldLink RX4 56 "BlockRowsModel" "ways" "I", Cond.fieldLink RX4 47 "BlockRowsModel" "looked" "[Z", Cond.fieldLink RX4 28 "BlockRowsModel" "fall" "[Z", Cond.fieldLink RX4 24 "BlockRowsModel" "counts" "[J", Cond.fieldLink RX4 17 "BlockRowsModel" "from" "[I"]
def wsX4_chain_r2 : List Cond := [Cond.fieldLink RX4 21 "BlockRowsModel" "to" "[I", Cond.methodLink RX4 102 yX4_comesBefore, Cond.instanceMethod yX4_comesBefore, Cond.selects RX4 yX4_comesBefore yX4_comesBefore, Cond.code yX4_comesBefore cX4_comesBefore 3 (some .boolean), Cond.methodLink RX4 92 yX4_place, Cond.instanceMethod yX4_place, Cond.selects RX4 yX4_place yX4_place, Cond.code yX4_place cX4_place 8 none, Cond.fieldLink RX4 50 "BlockRowsModel" "isPlaced" "[Z", Cond.constantLong RX4 67 (-1), Cond.methodLink RX4 106 yX4_sum, Cond.instanceMethod yX4_sum, Cond.selects RX4 yX4_sum yX4_sum, Cond.code yX4_sum cX4_sum 7 (some .long), Cond.methodLink RX4 95 yX4_weightOf, Cond.instanceMethod yX4_weightOf, Cond.selects RX4 yX4_weightOf yX4_weightOf, Cond.code yX4_weightOf cX4_weightOf 7 (some .long), Cond.methodLink RX4 72 yX4_find, Cond.instanceMethod yX4_find, Cond.selects RX4 yX4_find yX4_find, Cond.code yX4_find cX4_find 4 (some .int), Cond.methodLink RX4 63 yX4_isBlock]
def wsX4_chain_r3 : List Cond := [Cond.instanceMethod yX4_isBlock, Cond.selects RX4 yX4_isBlock yX4_isBlock, Cond.code yX4_isBlock cX4_isBlock 2 (some .boolean)]
def wsX4_chain : List Cond := .code yX4_chain cX4_chain 2 (some .int) :: ((wsX4_chain_r1 ++ (wsX4_chain_r2 ++ wsX4_chain_r3)) ++ wsX40)
def wsJ9_min_f86c9 : List Cond := .code yJ9_min_f86c9 cJ9_min_f86c9 4 (some .long) :: ([])
def wsL_law_r1 : List Cond := [Cond.classLink RL 7 RX3, Cond.instantiable RX3 11, Cond.initialized RX3, Cond.classLink RL 10 RX4, Cond.instantiable RX4 18, Cond.initialized RX4, Cond.methodLink RL 9 yX3_init, Cond.instanceMethod yX3_init, Cond.code yX3_init cX3_init 1 none, Cond.methodLink RX3 1 objectInit, Cond.instanceMethod objectInit, Cond.code objectInit ⟨#[0xb1]⟩ 1 none, Cond.arrayClass .boolean, Cond.fieldLink RX3 9 "BlockRows" "hot" "[Z", Cond.classLink RX3 13 RX2, Cond.instantiable RX2 5, Cond.initialized RX2, Cond.fieldLink RX3 16 "BlockRows" "ways" "LBlockRows$Ways;", Cond.classLink RX3 20 RX0, Cond.instantiable RX0 3, Cond.initialized RX0, Cond.fieldLink RX3 23 "BlockRows" "chains" "LBlockRows$Chains;", Cond.classLink RX3 27 RX1, Cond.instantiable RX1 3]
def wsL_law_r2 : List Cond := [Cond.initialized RX1, Cond.fieldLink RX3 30 "BlockRows" "allByNumber" "LBlockRows$Line;", Cond.fieldLink RX3 34 "BlockRows" "hotByNumber" "LBlockRows$Line;", Cond.fieldLink RX3 37 "BlockRows" "hotByChains" "LBlockRows$Line;", Cond.fieldLink RX3 40 "BlockRows" "blocks" "I", Cond.fieldLink RX3 44 "BlockRows" "stale" "Z", Cond.instanceMethod yX2_init, Cond.code yX2_init cX2_init 1 none, Cond.methodLink RX2 3 objectInit, Cond.arrayClass .int, Cond.fieldLink RX2 9 "BlockRows$Ways" "from" "[I", Cond.fieldLink RX2 15 "BlockRows$Ways" "to" "[I", Cond.arrayClass .long, Cond.fieldLink RX2 18 "BlockRows$Ways" "counts" "[J", Cond.fieldLink RX2 22 "BlockRows$Ways" "falling" "[Z", Cond.instanceMethod yX0_init, Cond.code yX0_init cX0_init 1 none, Cond.methodLink RX0 3 objectInit, Cond.fieldLink RX0 9 "BlockRows$Chains" "first" "[I", Cond.fieldLink RX0 15 "BlockRows$Chains" "next" "[I", Cond.fieldLink RX0 18 "BlockRows$Chains" "pulls" "[J", Cond.instanceMethod yX1_init, Cond.code yX1_init cX1_init 1 none, Cond.methodLink RX1 3 objectInit]
def wsL_law_r3 : List Cond := [Cond.fieldLink RX1 9 "BlockRows$Line" "members" "[I", Cond.fieldLink RX1 15 "BlockRows$Line" "places" "[I", Cond.methodLink RL 12 yX4_init, Cond.instanceMethod yX4_init, Cond.code yX4_init cX4_init 1 none, Cond.methodLink RX4 1 objectInit, Cond.fieldLink RX4 7 "BlockRowsModel" "blocks" "I", Cond.fieldLink RX4 13 "BlockRowsModel" "hot" "[Z", Cond.fieldLink RX4 17 "BlockRowsModel" "from" "[I", Cond.fieldLink RX4 21 "BlockRowsModel" "to" "[I", Cond.fieldLink RX4 24 "BlockRowsModel" "counts" "[J", Cond.fieldLink RX4 28 "BlockRowsModel" "fall" "[Z", Cond.constant RX4 31 (40000), Cond.fieldLink RX4 32 "BlockRowsModel" "table" "[I", Cond.fieldLink RX4 35 "BlockRowsModel" "many" "[I", Cond.fieldLink RX4 38 "BlockRowsModel" "chainOf" "[I", Cond.fieldLink RX4 41 "BlockRowsModel" "byChains" "[I", Cond.fieldLink RX4 44 "BlockRowsModel" "byNumber" "[I", Cond.fieldLink RX4 47 "BlockRowsModel" "looked" "[Z", Cond.fieldLink RX4 50 "BlockRowsModel" "isPlaced" "[Z", Cond.fieldLink RX4 53 "BlockRowsModel" "all" "[I", Cond.methodLink RL 13 yX3_size, Cond.instanceMethod yX3_size, Cond.selects RX3 yX3_size yX3_size]
def wsL_law_r4 : List Cond := [Cond.code yX3_size cX3_size 3 (some .boolean), Cond.methodLink RX3 48 yX2_forget, Cond.instanceMethod yX2_forget, Cond.selects RX2 yX2_forget yX2_forget, Cond.code yX2_forget cX2_forget 1 none, Cond.fieldLink RX2 26 "BlockRows$Ways" "known" "I", Cond.methodLink RL 17 yX4_size, Cond.instanceMethod yX4_size, Cond.selects RX4 yX4_size yX4_size, Cond.code yX4_size cX4_size 3 (some .boolean), Cond.fieldLink RX4 56 "BlockRowsModel" "ways" "I", Cond.fieldLink RX4 59 "BlockRowsModel" "isKnown" "Z", Cond.methodLink RL 18 yX3_heat, Cond.instanceMethod yX3_heat, Cond.selects RX3 yX3_heat yX3_heat, Cond.code yX3_heat cX3_heat 3 (some .boolean), Cond.methodLink RX3 51 yX3_isBlock, Cond.instanceMethod yX3_isBlock, Cond.selects RX3 yX3_isBlock yX3_isBlock, Cond.code yX3_isBlock cX3_isBlock 2 (some .boolean), Cond.methodLink RL 22 yX4_heat, Cond.instanceMethod yX4_heat, Cond.selects RX4 yX4_heat yX4_heat, Cond.code yX4_heat cX4_heat 3 (some .boolean)]
def wsL_law_r5 : List Cond := [Cond.methodLink RX4 63 yX4_isBlock, Cond.instanceMethod yX4_isBlock, Cond.selects RX4 yX4_isBlock yX4_isBlock, Cond.code yX4_isBlock cX4_isBlock 2 (some .boolean), Cond.methodLink RL 23 yX3_way, Cond.instanceMethod yX3_way, Cond.selects RX3 yX3_way yX3_way, Cond.code yX3_way cX3_way 5 (some .long), Cond.constantLong RX3 55 (-1), Cond.constant RX3 57 (1000000000), Cond.constantLong RX3 58 (-2), Cond.methodLink RX3 60 yX2_tell, Cond.instanceMethod yX2_tell, Cond.selects RX2 yX2_tell yX2_tell, Cond.code yX2_tell cX2_tell 8 (some .long), Cond.constantLong RX2 37 (-3), Cond.constantLong RX2 39 (1000000000000000), Cond.methodLink RX2 41 Lib.MathLoose.min_long.x, Cond.static Lib.MathLoose.min_long.x, Cond.initialized "java/lang/Math", Cond.code Lib.MathLoose.min_long.x Lib.MathLoose.min_long.code 4 (some .long), Cond.methodLink RX2 30 yX2_find, Cond.instanceMethod yX2_find, Cond.selects RX2 yX2_find yX2_find]
def wsL_law_r6 : List Cond := [Cond.code yX2_find cX2_find 4 (some .int), Cond.methodLink RX2 34 yX2_add, Cond.instanceMethod yX2_add, Cond.selects RX2 yX2_add yX2_add, Cond.code yX2_add cX2_add 4 (some .int), Cond.methodLink RX2 47 yX2_moveForward, Cond.instanceMethod yX2_moveForward, Cond.selects RX2 yX2_moveForward yX2_moveForward, Cond.code yX2_moveForward cX2_moveForward 3 none, Cond.methodLink RX2 57 yX2_isBefore, Cond.instanceMethod yX2_isBefore, Cond.selects RX2 yX2_isBefore yX2_isBefore, Cond.code yX2_isBefore cX2_isBefore 3 (some .boolean), Cond.methodLink RX2 60 yX2_swap, Cond.instanceMethod yX2_swap, Cond.selects RX2 yX2_swap yX2_swap, Cond.code yX2_swap cX2_swap 8 none, Cond.methodLink RL 27 yX4_way, Cond.instanceMethod yX4_way, Cond.selects RX4 yX4_way yX4_way, Cond.code yX4_way cX4_way 6 (some .long), Cond.constantLong RX4 67 (-1), Cond.constant RX4 69 (1000000000), Cond.constantLong RX4 70 (-2)]
def wsL_law_r7 : List Cond := [Cond.constantLong RX4 76 (-3), Cond.constantLong RX4 78 (1000000000000000), Cond.methodLink RX4 80 Lib.MathLoose.min_long.x, Cond.methodLink RX4 72 yX4_find, Cond.instanceMethod yX4_find, Cond.selects RX4 yX4_find yX4_find, Cond.code yX4_find cX4_find 4 (some .int), Cond.methodLink RL 28 yX3_count, Cond.instanceMethod yX3_count, Cond.selects RX3 yX3_count yX3_count, Cond.code yX3_count cX3_count 3 (some .long), Cond.methodLink RX3 64 yX2_told, Cond.instanceMethod yX2_told, Cond.selects RX2 yX2_told yX2_told, Cond.code yX2_told cX2_told 4 (some .long), Cond.methodLink RL 32 yX4_count, Cond.instanceMethod yX4_count, Cond.selects RX4 yX4_count yX4_count, Cond.code yX4_count cX4_count 4 (some .long), Cond.methodLink RL 33 yX3_length, Cond.instanceMethod yX3_length, Cond.selects RX3 yX3_length yX3_length, Cond.code yX3_length cX3_length 1 (some .int), Cond.methodLink RX3 68 yX3_refresh]
def wsL_law_r8 : List Cond := [Cond.instanceMethod yX3_refresh, Cond.selects RX3 yX3_refresh yX3_refresh, Cond.code yX3_refresh cX3_refresh 1 none, Cond.fieldLink RX3 89 "BlockRows" "allWeight" "J", Cond.fieldLink RX3 86 "BlockRows" "hotWeight" "J", Cond.fieldLink RX3 82 "BlockRows" "chainsWeight" "J", Cond.methodLink RX3 95 yX3_lineUpByNumber, Cond.instanceMethod yX3_lineUpByNumber, Cond.selects RX3 yX3_lineUpByNumber yX3_lineUpByNumber, Cond.code yX3_lineUpByNumber cX3_lineUpByNumber 2 none, Cond.methodLink RX3 114 yX1_empty, Cond.instanceMethod yX1_empty, Cond.selects RX1 yX1_empty yX1_empty, Cond.code yX1_empty cX1_empty 1 none, Cond.fieldLink RX1 18 "BlockRows$Line" "filled" "I", Cond.methodLink RX1 22 yJ7_fill_53178, Cond.static yJ7_fill_53178, Cond.initialized RJ7, Cond.code yJ7_fill_53178 cJ7_fill_53178 4 none, Cond.methodLink RX3 117 yX1_append, Cond.instanceMethod yX1_append, Cond.selects RX1 yX1_append yX1_append, Cond.code yX1_append cX1_append 2 none, Cond.static yX3_fitsRows]
def wsL_law_r9 : List Cond := [Cond.code yX3_fitsRows cX3_fitsRows 1 (some .boolean), Cond.methodLink RX3 98 yX0_start, Cond.instanceMethod yX0_start, Cond.selects RX0 yX0_start yX0_start, Cond.code yX0_start cX0_start 3 none, Cond.methodLink RX0 22 yJ7_fill_53178, Cond.methodLink RX0 28 yX1_holds, Cond.instanceMethod yX1_holds, Cond.selects RX1 yX1_holds yX1_holds, Cond.code yX1_holds cX1_holds 2 (some .boolean), Cond.methodLink RX3 102 yX0_joinAlong, Cond.instanceMethod yX0_joinAlong, Cond.selects RX0 yX0_joinAlong yX0_joinAlong, Cond.code yX0_joinAlong cX0_joinAlong 5 none, Cond.methodLink RX0 56 yX0_mayJoin, Cond.instanceMethod yX0_mayJoin, Cond.selects RX0 yX0_mayJoin yX0_mayJoin, Cond.code yX0_mayJoin cX0_mayJoin 5 (some .boolean), Cond.methodLink RX0 85 yX0_firstOf, Cond.instanceMethod yX0_firstOf, Cond.selects RX0 yX0_firstOf yX0_firstOf, Cond.code yX0_firstOf cX0_firstOf 2 (some .int), Cond.methodLink RX0 60 yX0_join, Cond.instanceMethod yX0_join]
def wsL_law_r10 : List Cond := [Cond.selects RX0 yX0_join yX0_join, Cond.code yX0_join cX0_join 6 none, Cond.methodLink RX3 106 yX0_lineUp, Cond.instanceMethod yX0_lineUp, Cond.selects RX0 yX0_lineUp yX0_lineUp, Cond.code yX0_lineUp cX0_lineUp 6 none, Cond.methodLink RX0 64 yX1_empty, Cond.methodLink RX0 67 yJ7_fill_d0a16, Cond.static yJ7_fill_d0a16, Cond.code yJ7_fill_d0a16 cJ7_fill_d0a16 5 none, Cond.methodLink RX0 73 yX0_mostPulled, Cond.instanceMethod yX0_mostPulled, Cond.selects RX0 yX0_mostPulled yX0_mostPulled, Cond.code yX0_mostPulled cX0_mostPulled 6 (some .int), Cond.methodLink RX0 89 yX1_blockAt, Cond.instanceMethod yX1_blockAt, Cond.selects RX1 yX1_blockAt yX1_blockAt, Cond.code yX1_blockAt cX1_blockAt 2 (some .int), Cond.methodLink RX0 92 yX0_pullOf, Cond.instanceMethod yX0_pullOf, Cond.selects RX0 yX0_pullOf yX0_pullOf, Cond.code yX0_pullOf cX0_pullOf 2 (some .long), Cond.methodLink RX0 77 yX0_appendChain, Cond.instanceMethod yX0_appendChain]
def wsL_law_r11 : List Cond := [Cond.selects RX0 yX0_appendChain yX0_appendChain, Cond.code yX0_appendChain cX0_appendChain 5 none, Cond.methodLink RX0 96 yX1_append, Cond.methodLink RX0 81 yX0_pullTowards, Cond.instanceMethod yX0_pullTowards, Cond.selects RX0 yX0_pullTowards yX0_pullTowards, Cond.code yX0_pullTowards cX0_pullTowards 6 none, Cond.methodLink RX3 110 yX2_weigh, Cond.instanceMethod yX2_weigh, Cond.selects RX2 yX2_weigh yX2_weigh, Cond.code yX2_weigh cX2_weigh 5 (some .long), Cond.methodLink RX2 51 yX1_goesOn, Cond.instanceMethod yX1_goesOn, Cond.selects RX1 yX1_goesOn yX1_goesOn, Cond.code yX1_goesOn cX1_goesOn 3 (some .boolean), Cond.methodLink RX1 32 yX1_holds, Cond.methodLink RL 37 yX4_length, Cond.instanceMethod yX4_length, Cond.selects RX4 yX4_length yX4_length, Cond.code yX4_length cX4_length 1 (some .int), Cond.fieldLink RX4 86 "BlockRowsModel" "hots" "I", Cond.methodLink RX4 110 yX4_know, Cond.instanceMethod yX4_know, Cond.selects RX4 yX4_know yX4_know]
def wsL_law_r12 : List Cond := [Cond.code yX4_know cX4_know 2 none, Cond.fieldLink RX4 99 "BlockRowsModel" "isBetter" "Z", Cond.methodLink RX4 89 yX4_chains, Cond.instanceMethod yX4_chains, Cond.selects RX4 yX4_chains yX4_chains, Cond.code yX4_chains cX4_chains 7 none, Cond.methodLink RX4 102 yX4_comesBefore, Cond.instanceMethod yX4_comesBefore, Cond.selects RX4 yX4_comesBefore yX4_comesBefore, Cond.code yX4_comesBefore cX4_comesBefore 3 (some .boolean), Cond.methodLink RX4 92 yX4_place, Cond.instanceMethod yX4_place, Cond.selects RX4 yX4_place yX4_place, Cond.code yX4_place cX4_place 8 none, Cond.methodLink RX4 106 yX4_sum, Cond.instanceMethod yX4_sum, Cond.selects RX4 yX4_sum yX4_sum, Cond.code yX4_sum cX4_sum 7 (some .long), Cond.methodLink RX4 95 yX4_weightOf, Cond.instanceMethod yX4_weightOf, Cond.selects RX4 yX4_weightOf yX4_weightOf, Cond.code yX4_weightOf cX4_weightOf 7 (some .long), Cond.methodLink RL 38 yX3_row, Cond.instanceMethod yX3_row]
def wsL_law_r13 : List Cond := [Cond.selects RX3 yX3_row yX3_row, Cond.code yX3_row cX3_row 2 (some .int), Cond.methodLink RX3 74 yX3_chainsAreBetter, Cond.instanceMethod yX3_chainsAreBetter, Cond.selects RX3 yX3_chainsAreBetter yX3_chainsAreBetter, Cond.code yX3_chainsAreBetter cX3_chainsAreBetter 1 (some .boolean), Cond.methodLink RX3 78 yX1_blockAt, Cond.methodLink RL 42 yX4_row, Cond.instanceMethod yX4_row, Cond.selects RX4 yX4_row yX4_row, Cond.code yX4_row cX4_row 2 (some .int), Cond.methodLink RL 43 yX3_weight, Cond.instanceMethod yX3_weight, Cond.selects RX3 yX3_weight yX3_weight, Cond.code yX3_weight cX3_weight 2 (some .long), Cond.methodLink RL 47 yX4_weight, Cond.instanceMethod yX4_weight, Cond.selects RX4 yX4_weight yX4_weight, Cond.code yX4_weight cX4_weight 3 (some .long), Cond.methodLink RL 48 yX3_chain, Cond.instanceMethod yX3_chain, Cond.selects RX3 yX3_chain yX3_chain, Cond.code yX3_chain cX3_chain 2 (some .int), Cond.methodLink RX3 92 yX0_firstOf]
def wsL_law_r14 : List Cond := [Cond.methodLink RL 51 yX4_chain, Cond.instanceMethod yX4_chain, Cond.selects RX4 yX4_chain yX4_chain, Cond.code yX4_chain cX4_chain 2 (some .int)]
def wsL_law : List Cond := (wsL_law_r1 ++ (wsL_law_r2 ++ (wsL_law_r3 ++ (wsL_law_r4 ++ (wsL_law_r5 ++ (wsL_law_r6 ++ (wsL_law_r7 ++ (wsL_law_r8 ++ (wsL_law_r9 ++ (wsL_law_r10 ++ (wsL_law_r11 ++ (wsL_law_r12 ++ (wsL_law_r13 ++ wsL_law_r14))))))))))))) ++ wsX30 ++ wsX40 ++ wsX20 ++ wsX00 ++ wsX10 ++ ([] : List Cond)
abbrev vwCl : List vw_C := [(RX0, TX0, 3), (RX1, TX1, 3), (RX2, TX2, 5), (RX3, TX3, 11), (RX4, TX4, 18)]
end
section
set_option maxRecDepth 20000 in
theorem wsL_law_r1_in : GoodIn lw_tbl wsL_law_r1 := goodIn_p _ [35, 38] rfl (by decide +kernel)
set_option maxRecDepth 20000 in
theorem wsL_law_r2_in : GoodIn lw_tbl wsL_law_r2 := goodIn_p _ [43, 73, 89] rfl (by decide +kernel)
set_option maxRecDepth 20000 in
theorem wsL_law_r3_in : GoodIn lw_tbl wsL_law_r3 := goodIn_p _ [309] rfl (by decide +kernel)
set_option maxRecDepth 20000 in
theorem wsL_law_r4_in : GoodIn lw_tbl wsL_law_r4 := goodIn_p _ [140, 144, 370, 148, 152, 374] rfl (by decide +kernel)
set_option maxRecDepth 20000 in
theorem wsL_law_r5_in : GoodIn lw_tbl wsL_law_r5 := goodIn_p _ [378, 156, 163, 176] rfl (by decide +kernel)
set_option maxRecDepth 20000 in
theorem wsL_law_r6_in : GoodIn lw_tbl wsL_law_r6 := goodIn_p _ [167, 171, 180, 184, 188, 382] rfl (by decide +kernel)
set_option maxRecDepth 20000 in
theorem wsL_law_r7_in : GoodIn lw_tbl wsL_law_r7 := goodIn_p _ [389, 192, 196, 396, 200] rfl (by decide +kernel)
set_option maxRecDepth 20000 in
theorem wsL_law_r8_in : GoodIn lw_tbl wsL_law_r8 := goodIn_p _ [204, 208, 212, 215, 219] rfl (by decide +kernel)
set_option maxRecDepth 20000 in
theorem wsL_law_r9_in : GoodIn lw_tbl wsL_law_r9 := goodIn_p _ [222, 226, 231, 235, 239, 243] rfl (by decide +kernel)
set_option maxRecDepth 20000 in
theorem wsL_law_r10_in : GoodIn lw_tbl wsL_law_r10 := goodIn_p _ [248, 252, 256, 260, 264, 268] rfl (by decide +kernel)
set_option maxRecDepth 20000 in
theorem wsL_law_r11_in : GoodIn lw_tbl wsL_law_r11 := goodIn_p _ [272, 277, 281, 285, 400] rfl (by decide +kernel)
set_option maxRecDepth 20000 in
theorem wsL_law_r12_in : GoodIn lw_tbl wsL_law_r12 := goodIn_p _ [404, 408, 412, 416, 420, 424] rfl (by decide +kernel)
set_option maxRecDepth 20000 in
theorem wsL_law_r13_in : GoodIn lw_tbl wsL_law_r13 := goodIn_p _ [290, 294, 428, 299, 432, 303] rfl (by decide +kernel)
set_option maxRecDepth 20000 in
theorem wsL_law_r14_in : GoodIn lw_tbl wsL_law_r14 := goodIn_p _ [436] rfl (by decide +kernel)
set_option maxRecDepth 20000 in
theorem wsX30_lin : GoodIn lw_tbl wsX30 := goodIn_p _ [] rfl (by decide +kernel)
set_option maxRecDepth 20000 in
theorem wsX40_lin : GoodIn lw_tbl wsX40 := goodIn_p _ [] rfl (by decide +kernel)
set_option maxRecDepth 20000 in
theorem wsX20_lin : GoodIn lw_tbl wsX20 := goodIn_p _ [] rfl (by decide +kernel)
set_option maxRecDepth 20000 in
theorem wsX00_lin : GoodIn lw_tbl wsX00 := goodIn_p _ [] rfl (by decide +kernel)
set_option maxRecDepth 20000 in
theorem wsX10_lin : GoodIn lw_tbl wsX10 := goodIn_p _ [] rfl (by decide +kernel)
theorem wsL_law_good : GoodIn lw_tbl wsL_law := goodIn_app (goodIn_app (goodIn_app (goodIn_app (goodIn_app (goodIn_app (goodIn_app wsL_law_r1_in (goodIn_app wsL_law_r2_in (goodIn_app wsL_law_r3_in (goodIn_app wsL_law_r4_in (goodIn_app wsL_law_r5_in (goodIn_app wsL_law_r6_in (goodIn_app wsL_law_r7_in (goodIn_app wsL_law_r8_in (goodIn_app wsL_law_r9_in (goodIn_app wsL_law_r10_in (goodIn_app wsL_law_r11_in (goodIn_app wsL_law_r12_in (goodIn_app wsL_law_r13_in (wsL_law_r14_in)))))))))))))) wsX30_lin) wsX40_lin) wsX20_lin) wsX00_lin) wsX10_lin) (fun w h => absurd h List.not_mem_nil)
theorem wsL_law_in : ∀ w ∈ wsL_law, w ∈ lw_tbl := fun w h => (wsL_law_good w h).1
theorem inlX0 : ∀ w ∈ wsX00, w ∈ wsL_law := fun _ h => List.mem_append_left _ (List.mem_append_left _ (List.mem_append_right _ h))
theorem inX0 : ∀ w ∈ wsX00, w ∈ lw_tbl := fun w h => wsL_law_in w (inlX0 w h)
theorem inlX1 : ∀ w ∈ wsX10, w ∈ wsL_law := fun _ h => List.mem_append_left _ (List.mem_append_right _ h)
theorem inX1 : ∀ w ∈ wsX10, w ∈ lw_tbl := fun w h => wsL_law_in w (inlX1 w h)
theorem inlX2 : ∀ w ∈ wsX20, w ∈ wsL_law := fun _ h => List.mem_append_left _ (List.mem_append_left _ (List.mem_append_left _ (List.mem_append_right _ h)))
theorem inX2 : ∀ w ∈ wsX20, w ∈ lw_tbl := fun w h => wsL_law_in w (inlX2 w h)
theorem inlX3 : ∀ w ∈ wsX30, w ∈ wsL_law := fun _ h => List.mem_append_left _ (List.mem_append_left _ (List.mem_append_left _ (List.mem_append_left _ (List.mem_append_left _ (List.mem_append_right _ h)))))
theorem inX3 : ∀ w ∈ wsX30, w ∈ lw_tbl := fun w h => wsL_law_in w (inlX3 w h)
theorem inlX4 : ∀ w ∈ wsX40, w ∈ wsL_law := fun _ h => List.mem_append_left _ (List.mem_append_left _ (List.mem_append_left _ (List.mem_append_left _ (List.mem_append_right _ h))))
theorem inX4 : ∀ w ∈ wsX40, w ∈ lw_tbl := fun w h => wsL_law_in w (inlX4 w h)
theorem inJ9 : ∀ w ∈ wsJ90, w ∈ lw_tbl := by decide +kernel
theorem inJ7 : ∀ w ∈ wsJ70, w ∈ lw_tbl := by decide +kernel
end
section
theorem dX0_init_0 : decode cX0_init 0 = .ok (.aload_n 0, 1) := by decide +kernel
theorem dX0_init_1 : decode cX0_init 1 = .ok (.invokespecial 3, 3) := by decide +kernel
theorem dX0_init_4 : decode cX0_init 4 = .ok (.aload_n 0, 1) := by decide +kernel
theorem dX0_init_5 : decode cX0_init 5 = .ok (.sipush 200, 3) := by decide +kernel
theorem dX0_init_8 : decode cX0_init 8 = .ok (.newarray .int, 2) := by decide +kernel
theorem dX0_init_10 : decode cX0_init 10 = .ok (.putfield 9, 3) := by decide +kernel
theorem dX0_init_13 : decode cX0_init 13 = .ok (.aload_n 0, 1) := by decide +kernel
theorem dX0_init_14 : decode cX0_init 14 = .ok (.sipush 200, 3) := by decide +kernel
theorem dX0_init_17 : decode cX0_init 17 = .ok (.newarray .int, 2) := by decide +kernel
theorem dX0_init_19 : decode cX0_init 19 = .ok (.putfield 15, 3) := by decide +kernel
theorem dX0_init_22 : decode cX0_init 22 = .ok (.aload_n 0, 1) := by decide +kernel
theorem dX0_init_23 : decode cX0_init 23 = .ok (.sipush 200, 3) := by decide +kernel
theorem dX0_init_26 : decode cX0_init 26 = .ok (.newarray .long, 2) := by decide +kernel
theorem dX0_init_28 : decode cX0_init 28 = .ok (.putfield 18, 3) := by decide +kernel
theorem dX0_init_31 : decode cX0_init 31 = .ok (.return_, 1) := by decide +kernel
set_option maxRecDepth 20000 in
theorem ggX0_start_J7_fill_53178 : GoodIn wsX0_start wsJ7_fill_53178 := goodIn_r _ [6] (by decide +kernel) (by decide +kernel)
set_option maxRecDepth 20000 in
theorem gX0_start_J7_fill_53178 : GoodIn wsX0_start (va_wsS RX0 22 yJ7_fill_53178 wsJ7_fill_53178) := goodIn_app (goodIn_of _ (by decide +kernel)) ggX0_start_J7_fill_53178
set_option maxRecDepth 20000 in
theorem ggX0_start_X1_holds : GoodIn wsX0_start wsX1_holds := goodIn_r _ [11, 12, 13, 14, 15, 19, 20, 21] (by decide +kernel) (by decide +kernel)
set_option maxRecDepth 20000 in
theorem gX0_start_X1_holds : GoodIn wsX0_start (wsV RX0 28 RX1 yX1_holds wsX1_holds) := goodIn_app (goodIn_of _ (by decide +kernel)) ggX0_start_X1_holds
theorem dX0_start_0 : decode cX0_start 0 = .ok (.aload_n 0, 1) := by decide +kernel
theorem dX0_start_1 : decode cX0_start 1 = .ok (.getfield 15, 3) := by decide +kernel
theorem dX0_start_4 : decode cX0_start 4 = .ok (.iconst (-1), 1) := by decide +kernel
theorem dX0_start_5 : decode cX0_start 5 = .ok (.invokestatic 22, 3) := by decide +kernel
theorem dX0_start_8 : decode cX0_start 8 = .ok (.iconst 0, 1) := by decide +kernel
theorem dX0_start_9 : decode cX0_start 9 = .ok (.istore_n 2, 1) := by decide +kernel
theorem dX0_start_10 : decode cX0_start 10 = .ok (.iload_n 2, 1) := by decide +kernel
theorem dX0_start_11 : decode cX0_start 11 = .ok (.sipush 200, 3) := by decide +kernel
theorem dX0_start_14 : decode cX0_start 14 = .ok (.if_icmp .ge 28, 3) := by decide +kernel
theorem dX0_start_17 : decode cX0_start 17 = .ok (.aload_n 0, 1) := by decide +kernel
theorem dX0_start_18 : decode cX0_start 18 = .ok (.getfield 9, 3) := by decide +kernel
theorem dX0_start_21 : decode cX0_start 21 = .ok (.iload_n 2, 1) := by decide +kernel
theorem dX0_start_22 : decode cX0_start 22 = .ok (.aload_n 1, 1) := by decide +kernel
theorem dX0_start_23 : decode cX0_start 23 = .ok (.iload_n 2, 1) := by decide +kernel
theorem dX0_start_24 : decode cX0_start 24 = .ok (.invokevirtual 28, 3) := by decide +kernel
theorem dX0_start_27 : decode cX0_start 27 = .ok (.ifCond .eq 7, 3) := by decide +kernel
theorem dX0_start_30 : decode cX0_start 30 = .ok (.iload_n 2, 1) := by decide +kernel
theorem dX0_start_31 : decode cX0_start 31 = .ok (.goto 4, 3) := by decide +kernel
theorem dX0_start_34 : decode cX0_start 34 = .ok (.iconst (-1), 1) := by decide +kernel
theorem dX0_start_35 : decode cX0_start 35 = .ok (.iastore, 1) := by decide +kernel
theorem dX0_start_36 : decode cX0_start 36 = .ok (.iinc 2 1, 3) := by decide +kernel
theorem dX0_start_39 : decode cX0_start 39 = .ok (.goto (-29), 3) := by decide +kernel
theorem dX0_start_42 : decode cX0_start 42 = .ok (.return_, 1) := by decide +kernel
set_option maxRecDepth 20000 in
theorem ggX0_firstOf_X3_fitsRows : GoodIn wsX0_firstOf wsX3_fitsRows := goodIn_r _ [4] (by decide +kernel) (by decide +kernel)
set_option maxRecDepth 20000 in
theorem gX0_firstOf_X3_fitsRows_n34 : GoodIn wsX0_firstOf (wsX3_fitsRows) := ggX0_firstOf_X3_fitsRows
theorem dX0_firstOf_0 : decode cX0_firstOf 0 = .ok (.iload_n 1, 1) := by decide +kernel
theorem dX0_firstOf_1 : decode cX0_firstOf 1 = .ok (.invokestatic 34, 3) := by decide +kernel
theorem dX0_firstOf_4 : decode cX0_firstOf 4 = .ok (.ifCond .eq 12, 3) := by decide +kernel
theorem dX0_firstOf_7 : decode cX0_firstOf 7 = .ok (.aload_n 0, 1) := by decide +kernel
theorem dX0_firstOf_8 : decode cX0_firstOf 8 = .ok (.getfield 9, 3) := by decide +kernel
theorem dX0_firstOf_11 : decode cX0_firstOf 11 = .ok (.iload_n 1, 1) := by decide +kernel
theorem dX0_firstOf_12 : decode cX0_firstOf 12 = .ok (.iaload, 1) := by decide +kernel
theorem dX0_firstOf_13 : decode cX0_firstOf 13 = .ok (.goto 4, 3) := by decide +kernel
theorem dX0_firstOf_16 : decode cX0_firstOf 16 = .ok (.iconst (-1), 1) := by decide +kernel
theorem dX0_firstOf_17 : decode cX0_firstOf 17 = .ok (.ireturn, 1) := by decide +kernel
set_option maxRecDepth 20000 in
theorem ggX0_joinAlong_X0_mayJoin : GoodIn wsX0_joinAlong wsX0_mayJoin := goodIn_r _ [5, 6, 7, 8, 9, 4, 10, 11, 12, 13, 14, 24, 25, 26] (by decide +kernel) (by decide +kernel)
set_option maxRecDepth 20000 in
theorem gX0_joinAlong_X0_mayJoin : GoodIn wsX0_joinAlong (wsV RX0 56 RX0 yX0_mayJoin wsX0_mayJoin) := goodIn_app (goodIn_of _ (by decide +kernel)) ggX0_joinAlong_X0_mayJoin
set_option maxRecDepth 20000 in
theorem ggX0_joinAlong_X0_join : GoodIn wsX0_joinAlong wsX0_join := goodIn_r _ [18, 6, 11, 7, 8, 9, 4, 10, 12, 13, 14, 24, 25, 26] (by decide +kernel) (by decide +kernel)
set_option maxRecDepth 20000 in
theorem gX0_joinAlong_X0_join : GoodIn wsX0_joinAlong (wsV RX0 60 RX0 yX0_join wsX0_join) := goodIn_app (goodIn_of _ (by decide +kernel)) ggX0_joinAlong_X0_join
theorem dX0_joinAlong_0 : decode cX0_joinAlong 0 = .ok (.iconst 0, 1) := by decide +kernel
theorem dX0_joinAlong_1 : decode cX0_joinAlong 1 = .ok (.istore_n 2, 1) := by decide +kernel
theorem dX0_joinAlong_2 : decode cX0_joinAlong 2 = .ok (.iload_n 2, 1) := by decide +kernel
theorem dX0_joinAlong_3 : decode cX0_joinAlong 3 = .ok (.aload_n 1, 1) := by decide +kernel
theorem dX0_joinAlong_4 : decode cX0_joinAlong 4 = .ok (.getfield 37, 3) := by decide +kernel
theorem dX0_joinAlong_7 : decode cX0_joinAlong 7 = .ok (.if_icmp .ge 61, 3) := by decide +kernel
theorem dX0_joinAlong_10 : decode cX0_joinAlong 10 = .ok (.aload_n 1, 1) := by decide +kernel
theorem dX0_joinAlong_11 : decode cX0_joinAlong 11 = .ok (.getfield 43, 3) := by decide +kernel
theorem dX0_joinAlong_14 : decode cX0_joinAlong 14 = .ok (.iload_n 2, 1) := by decide +kernel
theorem dX0_joinAlong_15 : decode cX0_joinAlong 15 = .ok (.iaload, 1) := by decide +kernel
theorem dX0_joinAlong_16 : decode cX0_joinAlong 16 = .ok (.istore_n 3, 1) := by decide +kernel
theorem dX0_joinAlong_17 : decode cX0_joinAlong 17 = .ok (.aload_n 1, 1) := by decide +kernel
theorem dX0_joinAlong_18 : decode cX0_joinAlong 18 = .ok (.getfield 46, 3) := by decide +kernel
theorem dX0_joinAlong_21 : decode cX0_joinAlong 21 = .ok (.iload_n 2, 1) := by decide +kernel
theorem dX0_joinAlong_22 : decode cX0_joinAlong 22 = .ok (.iaload, 1) := by decide +kernel
theorem dX0_joinAlong_23 : decode cX0_joinAlong 23 = .ok (.istore 4, 2) := by decide +kernel
theorem dX0_joinAlong_25 : decode cX0_joinAlong 25 = .ok (.aload_n 1, 1) := by decide +kernel
theorem dX0_joinAlong_26 : decode cX0_joinAlong 26 = .ok (.getfield 49, 3) := by decide +kernel
theorem dX0_joinAlong_29 : decode cX0_joinAlong 29 = .ok (.iload_n 2, 1) := by decide +kernel
theorem dX0_joinAlong_30 : decode cX0_joinAlong 30 = .ok (.baload, 1) := by decide +kernel
theorem dX0_joinAlong_31 : decode cX0_joinAlong 31 = .ok (.ifCond .eq 31, 3) := by decide +kernel
theorem dX0_joinAlong_34 : decode cX0_joinAlong 34 = .ok (.aload_n 1, 1) := by decide +kernel
theorem dX0_joinAlong_35 : decode cX0_joinAlong 35 = .ok (.getfield 53, 3) := by decide +kernel
theorem dX0_joinAlong_38 : decode cX0_joinAlong 38 = .ok (.iload_n 2, 1) := by decide +kernel
theorem dX0_joinAlong_39 : decode cX0_joinAlong 39 = .ok (.laload, 1) := by decide +kernel
theorem dX0_joinAlong_40 : decode cX0_joinAlong 40 = .ok (.lconst 0, 1) := by decide +kernel
theorem dX0_joinAlong_41 : decode cX0_joinAlong 41 = .ok (.lcmp, 1) := by decide +kernel
theorem dX0_joinAlong_42 : decode cX0_joinAlong 42 = .ok (.ifCond .le 20, 3) := by decide +kernel
theorem dX0_joinAlong_45 : decode cX0_joinAlong 45 = .ok (.aload_n 0, 1) := by decide +kernel
theorem dX0_joinAlong_46 : decode cX0_joinAlong 46 = .ok (.iload_n 3, 1) := by decide +kernel
theorem dX0_joinAlong_47 : decode cX0_joinAlong 47 = .ok (.iload 4, 2) := by decide +kernel
theorem dX0_joinAlong_49 : decode cX0_joinAlong 49 = .ok (.invokevirtual 56, 3) := by decide +kernel
theorem dX0_joinAlong_52 : decode cX0_joinAlong 52 = .ok (.ifCond .eq 10, 3) := by decide +kernel
theorem dX0_joinAlong_55 : decode cX0_joinAlong 55 = .ok (.aload_n 0, 1) := by decide +kernel
theorem dX0_joinAlong_56 : decode cX0_joinAlong 56 = .ok (.iload_n 3, 1) := by decide +kernel
theorem dX0_joinAlong_57 : decode cX0_joinAlong 57 = .ok (.iload 4, 2) := by decide +kernel
theorem dX0_joinAlong_59 : decode cX0_joinAlong 59 = .ok (.invokevirtual 60, 3) := by decide +kernel
theorem dX0_joinAlong_62 : decode cX0_joinAlong 62 = .ok (.iinc 2 1, 3) := by decide +kernel
theorem dX0_joinAlong_65 : decode cX0_joinAlong 65 = .ok (.goto (-63), 3) := by decide +kernel
theorem dX0_joinAlong_68 : decode cX0_joinAlong 68 = .ok (.return_, 1) := by decide +kernel
set_option maxRecDepth 20000 in
theorem ggX0_lineUp_X1_empty : GoodIn wsX0_lineUp wsX1_empty := goodIn_r _ [6, 7, 8, 9, 10, 11, 12, 58, 59, 60] (by decide +kernel) (by decide +kernel)
set_option maxRecDepth 20000 in
theorem gX0_lineUp_X1_empty : GoodIn wsX0_lineUp (wsV RX0 64 RX1 yX1_empty wsX1_empty) := goodIn_app (goodIn_of _ (by decide +kernel)) ggX0_lineUp_X1_empty
set_option maxRecDepth 20000 in
theorem ggX0_lineUp_J7_fill_d0a16 : GoodIn wsX0_lineUp wsJ7_fill_d0a16 := goodIn_r _ [15] (by decide +kernel) (by decide +kernel)
set_option maxRecDepth 20000 in
theorem gX0_lineUp_J7_fill_d0a16 : GoodIn wsX0_lineUp (va_wsS RX0 67 yJ7_fill_d0a16 wsJ7_fill_d0a16) := goodIn_app (goodIn_of _ (by decide +kernel)) ggX0_lineUp_J7_fill_d0a16
set_option maxRecDepth 20000 in
theorem ggX0_lineUp_X0_mostPulled : GoodIn wsX0_lineUp wsX0_mostPulled := goodIn_r _ [20, 21, 22, 23, 5, 24, 7, 25, 26, 27, 28, 29, 8, 30, 31, 32, 33, 34, 35, 19, 36, 37, 38, 39, 40, 41, 1, 58, 59, 60, 55, 56, 57] (by decide +kernel) (by decide +kernel)
set_option maxRecDepth 20000 in
theorem gX0_lineUp_X0_mostPulled : GoodIn wsX0_lineUp (wsV RX0 73 RX0 yX0_mostPulled wsX0_mostPulled) := goodIn_app (goodIn_of _ (by decide +kernel)) ggX0_lineUp_X0_mostPulled
set_option maxRecDepth 20000 in
theorem ggX0_lineUp_X0_appendChain : GoodIn wsX0_lineUp wsX0_appendChain := goodIn_r _ [45, 46, 30, 31, 32, 47, 48, 49, 5, 50, 7, 25, 8, 55, 56, 57, 58, 59, 60] (by decide +kernel) (by decide +kernel)
set_option maxRecDepth 20000 in
theorem gX0_lineUp_X0_appendChain : GoodIn wsX0_lineUp (wsV RX0 77 RX0 yX0_appendChain wsX0_appendChain) := goodIn_app (goodIn_of _ (by decide +kernel)) ggX0_lineUp_X0_appendChain
set_option maxRecDepth 20000 in
theorem ggX0_lineUp_X0_pullTowards : GoodIn wsX0_lineUp wsX0_pullTowards := goodIn_r _ [54, 1, 33, 34, 35, 19, 36, 37, 30, 31, 32, 61, 62, 63, 64, 65, 55, 56, 57] (by decide +kernel) (by decide +kernel)
set_option maxRecDepth 20000 in
theorem gX0_lineUp_X0_pullTowards : GoodIn wsX0_lineUp (wsV RX0 81 RX0 yX0_pullTowards wsX0_pullTowards) := goodIn_app (goodIn_of _ (by decide +kernel)) ggX0_lineUp_X0_pullTowards
theorem dX0_lineUp_0 : decode cX0_lineUp 0 = .ok (.aload_n 3, 1) := by decide +kernel
theorem dX0_lineUp_1 : decode cX0_lineUp 1 = .ok (.invokevirtual 64, 3) := by decide +kernel
theorem dX0_lineUp_4 : decode cX0_lineUp 4 = .ok (.aload_n 0, 1) := by decide +kernel
theorem dX0_lineUp_5 : decode cX0_lineUp 5 = .ok (.getfield 18, 3) := by decide +kernel
theorem dX0_lineUp_8 : decode cX0_lineUp 8 = .ok (.lconst 0, 1) := by decide +kernel
theorem dX0_lineUp_9 : decode cX0_lineUp 9 = .ok (.invokestatic 67, 3) := by decide +kernel
theorem dX0_lineUp_12 : decode cX0_lineUp 12 = .ok (.iconst 0, 1) := by decide +kernel
theorem dX0_lineUp_13 : decode cX0_lineUp 13 = .ok (.istore 4, 2) := by decide +kernel
theorem dX0_lineUp_15 : decode cX0_lineUp 15 = .ok (.iload 4, 2) := by decide +kernel
theorem dX0_lineUp_17 : decode cX0_lineUp 17 = .ok (.sipush 200, 3) := by decide +kernel
theorem dX0_lineUp_20 : decode cX0_lineUp 20 = .ok (.if_icmp .ge 49, 3) := by decide +kernel
theorem dX0_lineUp_23 : decode cX0_lineUp 23 = .ok (.aload_n 3, 1) := by decide +kernel
theorem dX0_lineUp_24 : decode cX0_lineUp 24 = .ok (.getfield 70, 3) := by decide +kernel
theorem dX0_lineUp_27 : decode cX0_lineUp 27 = .ok (.aload_n 1, 1) := by decide +kernel
theorem dX0_lineUp_28 : decode cX0_lineUp 28 = .ok (.getfield 70, 3) := by decide +kernel
theorem dX0_lineUp_31 : decode cX0_lineUp 31 = .ok (.if_icmp .ge 38, 3) := by decide +kernel
theorem dX0_lineUp_34 : decode cX0_lineUp 34 = .ok (.aload_n 0, 1) := by decide +kernel
theorem dX0_lineUp_35 : decode cX0_lineUp 35 = .ok (.aload_n 1, 1) := by decide +kernel
theorem dX0_lineUp_36 : decode cX0_lineUp 36 = .ok (.aload_n 3, 1) := by decide +kernel
theorem dX0_lineUp_37 : decode cX0_lineUp 37 = .ok (.invokevirtual 73, 3) := by decide +kernel
theorem dX0_lineUp_40 : decode cX0_lineUp 40 = .ok (.istore 5, 2) := by decide +kernel
theorem dX0_lineUp_42 : decode cX0_lineUp 42 = .ok (.iload 5, 2) := by decide +kernel
theorem dX0_lineUp_44 : decode cX0_lineUp 44 = .ok (.iconst (-1), 1) := by decide +kernel
theorem dX0_lineUp_45 : decode cX0_lineUp 45 = .ok (.if_icmp .ne 4, 3) := by decide +kernel
theorem dX0_lineUp_48 : decode cX0_lineUp 48 = .ok (.return_, 1) := by decide +kernel
theorem dX0_lineUp_49 : decode cX0_lineUp 49 = .ok (.aload_n 0, 1) := by decide +kernel
theorem dX0_lineUp_50 : decode cX0_lineUp 50 = .ok (.iload 5, 2) := by decide +kernel
theorem dX0_lineUp_52 : decode cX0_lineUp 52 = .ok (.aload_n 3, 1) := by decide +kernel
theorem dX0_lineUp_53 : decode cX0_lineUp 53 = .ok (.invokevirtual 77, 3) := by decide +kernel
theorem dX0_lineUp_56 : decode cX0_lineUp 56 = .ok (.aload_n 0, 1) := by decide +kernel
theorem dX0_lineUp_57 : decode cX0_lineUp 57 = .ok (.iload 5, 2) := by decide +kernel
theorem dX0_lineUp_59 : decode cX0_lineUp 59 = .ok (.aload_n 2, 1) := by decide +kernel
theorem dX0_lineUp_60 : decode cX0_lineUp 60 = .ok (.invokevirtual 81, 3) := by decide +kernel
theorem dX0_lineUp_63 : decode cX0_lineUp 63 = .ok (.iinc 4 1, 3) := by decide +kernel
theorem dX0_lineUp_66 : decode cX0_lineUp 66 = .ok (.goto (-51), 3) := by decide +kernel
theorem dX0_lineUp_69 : decode cX0_lineUp 69 = .ok (.return_, 1) := by decide +kernel
set_option maxRecDepth 20000 in
theorem ggX0_mayJoin_X0_firstOf : GoodIn wsX0_mayJoin wsX0_firstOf := goodIn_r _ [6, 7, 8, 9, 10, 11, 12, 13] (by decide +kernel) (by decide +kernel)
set_option maxRecDepth 20000 in
theorem gX0_mayJoin_X0_firstOf : GoodIn wsX0_mayJoin (wsV RX0 85 RX0 yX0_firstOf wsX0_firstOf) := goodIn_app (goodIn_of _ (by decide +kernel)) ggX0_mayJoin_X0_firstOf
theorem dX0_mayJoin_0 : decode cX0_mayJoin 0 = .ok (.aload_n 0, 1) := by decide +kernel
theorem dX0_mayJoin_1 : decode cX0_mayJoin 1 = .ok (.iload_n 1, 1) := by decide +kernel
theorem dX0_mayJoin_2 : decode cX0_mayJoin 2 = .ok (.invokevirtual 85, 3) := by decide +kernel
theorem dX0_mayJoin_5 : decode cX0_mayJoin 5 = .ok (.iconst (-1), 1) := by decide +kernel
theorem dX0_mayJoin_6 : decode cX0_mayJoin 6 = .ok (.if_icmp .eq 17, 3) := by decide +kernel
theorem dX0_mayJoin_9 : decode cX0_mayJoin 9 = .ok (.aload_n 0, 1) := by decide +kernel
theorem dX0_mayJoin_10 : decode cX0_mayJoin 10 = .ok (.getfield 15, 3) := by decide +kernel
theorem dX0_mayJoin_13 : decode cX0_mayJoin 13 = .ok (.iload_n 1, 1) := by decide +kernel
theorem dX0_mayJoin_14 : decode cX0_mayJoin 14 = .ok (.iaload, 1) := by decide +kernel
theorem dX0_mayJoin_15 : decode cX0_mayJoin 15 = .ok (.iconst (-1), 1) := by decide +kernel
theorem dX0_mayJoin_16 : decode cX0_mayJoin 16 = .ok (.if_icmp .ne 7, 3) := by decide +kernel
theorem dX0_mayJoin_19 : decode cX0_mayJoin 19 = .ok (.iconst 1, 1) := by decide +kernel
theorem dX0_mayJoin_20 : decode cX0_mayJoin 20 = .ok (.goto 4, 3) := by decide +kernel
theorem dX0_mayJoin_23 : decode cX0_mayJoin 23 = .ok (.iconst 0, 1) := by decide +kernel
theorem dX0_mayJoin_24 : decode cX0_mayJoin 24 = .ok (.istore_n 3, 1) := by decide +kernel
theorem dX0_mayJoin_25 : decode cX0_mayJoin 25 = .ok (.aload_n 0, 1) := by decide +kernel
theorem dX0_mayJoin_26 : decode cX0_mayJoin 26 = .ok (.iload_n 2, 1) := by decide +kernel
theorem dX0_mayJoin_27 : decode cX0_mayJoin 27 = .ok (.invokevirtual 85, 3) := by decide +kernel
theorem dX0_mayJoin_30 : decode cX0_mayJoin 30 = .ok (.iload_n 2, 1) := by decide +kernel
theorem dX0_mayJoin_31 : decode cX0_mayJoin 31 = .ok (.if_icmp .ne 7, 3) := by decide +kernel
theorem dX0_mayJoin_34 : decode cX0_mayJoin 34 = .ok (.iconst 1, 1) := by decide +kernel
theorem dX0_mayJoin_35 : decode cX0_mayJoin 35 = .ok (.goto 4, 3) := by decide +kernel
theorem dX0_mayJoin_38 : decode cX0_mayJoin 38 = .ok (.iconst 0, 1) := by decide +kernel
theorem dX0_mayJoin_39 : decode cX0_mayJoin 39 = .ok (.istore 4, 2) := by decide +kernel
theorem dX0_mayJoin_41 : decode cX0_mayJoin 41 = .ok (.iload_n 3, 1) := by decide +kernel
theorem dX0_mayJoin_42 : decode cX0_mayJoin 42 = .ok (.ifCond .eq 25, 3) := by decide +kernel
theorem dX0_mayJoin_45 : decode cX0_mayJoin 45 = .ok (.iload 4, 2) := by decide +kernel
theorem dX0_mayJoin_47 : decode cX0_mayJoin 47 = .ok (.ifCond .eq 20, 3) := by decide +kernel
theorem dX0_mayJoin_50 : decode cX0_mayJoin 50 = .ok (.aload_n 0, 1) := by decide +kernel
theorem dX0_mayJoin_51 : decode cX0_mayJoin 51 = .ok (.iload_n 1, 1) := by decide +kernel
theorem dX0_mayJoin_52 : decode cX0_mayJoin 52 = .ok (.invokevirtual 85, 3) := by decide +kernel
theorem dX0_mayJoin_55 : decode cX0_mayJoin 55 = .ok (.iload_n 2, 1) := by decide +kernel
theorem dX0_mayJoin_56 : decode cX0_mayJoin 56 = .ok (.if_icmp .eq 11, 3) := by decide +kernel
theorem dX0_mayJoin_59 : decode cX0_mayJoin 59 = .ok (.iload_n 2, 1) := by decide +kernel
theorem dX0_mayJoin_60 : decode cX0_mayJoin 60 = .ok (.ifCond .eq 7, 3) := by decide +kernel
theorem dX0_mayJoin_63 : decode cX0_mayJoin 63 = .ok (.iconst 1, 1) := by decide +kernel
theorem dX0_mayJoin_64 : decode cX0_mayJoin 64 = .ok (.goto 4, 3) := by decide +kernel
theorem dX0_mayJoin_67 : decode cX0_mayJoin 67 = .ok (.iconst 0, 1) := by decide +kernel
theorem dX0_mayJoin_68 : decode cX0_mayJoin 68 = .ok (.ireturn, 1) := by decide +kernel
set_option maxRecDepth 20000 in
theorem ggX0_join_X0_firstOf : GoodIn wsX0_join wsX0_firstOf := goodIn_r _ [7, 2, 8, 9, 10, 11, 12, 13] (by decide +kernel) (by decide +kernel)
set_option maxRecDepth 20000 in
theorem gX0_join_X0_firstOf : GoodIn wsX0_join (wsV RX0 85 RX0 yX0_firstOf wsX0_firstOf) := goodIn_app (goodIn_of _ (by decide +kernel)) ggX0_join_X0_firstOf
set_option maxRecDepth 20000 in
theorem ggX0_join_X3_fitsRows : GoodIn wsX0_join wsX3_fitsRows := goodIn_r _ [10] (by decide +kernel) (by decide +kernel)
set_option maxRecDepth 20000 in
theorem gX0_join_X3_fitsRows_n34 : GoodIn wsX0_join (wsX3_fitsRows) := ggX0_join_X3_fitsRows
theorem dX0_join_0 : decode cX0_join 0 = .ok (.aload_n 0, 1) := by decide +kernel
theorem dX0_join_1 : decode cX0_join 1 = .ok (.iload_n 1, 1) := by decide +kernel
theorem dX0_join_2 : decode cX0_join 2 = .ok (.invokevirtual 85, 3) := by decide +kernel
theorem dX0_join_5 : decode cX0_join 5 = .ok (.istore_n 3, 1) := by decide +kernel
theorem dX0_join_6 : decode cX0_join 6 = .ok (.aload_n 0, 1) := by decide +kernel
theorem dX0_join_7 : decode cX0_join 7 = .ok (.getfield 15, 3) := by decide +kernel
theorem dX0_join_10 : decode cX0_join 10 = .ok (.iload_n 1, 1) := by decide +kernel
theorem dX0_join_11 : decode cX0_join 11 = .ok (.iload_n 2, 1) := by decide +kernel
theorem dX0_join_12 : decode cX0_join 12 = .ok (.iastore, 1) := by decide +kernel
theorem dX0_join_13 : decode cX0_join 13 = .ok (.iload_n 2, 1) := by decide +kernel
theorem dX0_join_14 : decode cX0_join 14 = .ok (.istore 4, 2) := by decide +kernel
theorem dX0_join_16 : decode cX0_join 16 = .ok (.iconst 0, 1) := by decide +kernel
theorem dX0_join_17 : decode cX0_join 17 = .ok (.istore 5, 2) := by decide +kernel
theorem dX0_join_19 : decode cX0_join 19 = .ok (.iload 5, 2) := by decide +kernel
theorem dX0_join_21 : decode cX0_join 21 = .ok (.sipush 200, 3) := by decide +kernel
theorem dX0_join_24 : decode cX0_join 24 = .ok (.if_icmp .ge 34, 3) := by decide +kernel
theorem dX0_join_27 : decode cX0_join 27 = .ok (.iload 4, 2) := by decide +kernel
theorem dX0_join_29 : decode cX0_join 29 = .ok (.invokestatic 34, 3) := by decide +kernel
theorem dX0_join_32 : decode cX0_join 32 = .ok (.ifCond .eq 26, 3) := by decide +kernel
theorem dX0_join_35 : decode cX0_join 35 = .ok (.aload_n 0, 1) := by decide +kernel
theorem dX0_join_36 : decode cX0_join 36 = .ok (.getfield 9, 3) := by decide +kernel
theorem dX0_join_39 : decode cX0_join 39 = .ok (.iload 4, 2) := by decide +kernel
theorem dX0_join_41 : decode cX0_join 41 = .ok (.iload_n 3, 1) := by decide +kernel
theorem dX0_join_42 : decode cX0_join 42 = .ok (.iastore, 1) := by decide +kernel
theorem dX0_join_43 : decode cX0_join 43 = .ok (.aload_n 0, 1) := by decide +kernel
theorem dX0_join_44 : decode cX0_join 44 = .ok (.getfield 15, 3) := by decide +kernel
theorem dX0_join_47 : decode cX0_join 47 = .ok (.iload 4, 2) := by decide +kernel
theorem dX0_join_49 : decode cX0_join 49 = .ok (.iaload, 1) := by decide +kernel
theorem dX0_join_50 : decode cX0_join 50 = .ok (.istore 4, 2) := by decide +kernel
theorem dX0_join_52 : decode cX0_join 52 = .ok (.iinc 5 1, 3) := by decide +kernel
theorem dX0_join_55 : decode cX0_join 55 = .ok (.goto (-36), 3) := by decide +kernel
theorem dX0_join_58 : decode cX0_join 58 = .ok (.return_, 1) := by decide +kernel
set_option maxRecDepth 20000 in
theorem ggX0_mostPulled_X1_blockAt : GoodIn wsX0_mostPulled wsX1_blockAt := goodIn_r _ [5, 6, 7, 27, 28, 29] (by decide +kernel) (by decide +kernel)
set_option maxRecDepth 20000 in
theorem gX0_mostPulled_X1_blockAt : GoodIn wsX0_mostPulled (wsV RX0 89 RX1 yX1_blockAt wsX1_blockAt) := goodIn_app (goodIn_of _ (by decide +kernel)) ggX0_mostPulled_X1_blockAt
set_option maxRecDepth 20000 in
theorem ggX0_mostPulled_X1_holds : GoodIn wsX0_mostPulled wsX1_holds := goodIn_r _ [11, 12, 13, 14, 15, 27, 28, 29] (by decide +kernel) (by decide +kernel)
set_option maxRecDepth 20000 in
theorem gX0_mostPulled_X1_holds : GoodIn wsX0_mostPulled (wsV RX0 28 RX1 yX1_holds wsX1_holds) := goodIn_app (goodIn_of _ (by decide +kernel)) ggX0_mostPulled_X1_holds
set_option maxRecDepth 20000 in
theorem ggX0_mostPulled_X0_firstOf : GoodIn wsX0_mostPulled wsX0_firstOf := goodIn_r _ [20, 21, 13, 14, 15, 30, 31, 32] (by decide +kernel) (by decide +kernel)
set_option maxRecDepth 20000 in
theorem gX0_mostPulled_X0_firstOf : GoodIn wsX0_mostPulled (wsV RX0 85 RX0 yX0_firstOf wsX0_firstOf) := goodIn_app (goodIn_of _ (by decide +kernel)) ggX0_mostPulled_X0_firstOf
set_option maxRecDepth 20000 in
theorem ggX0_mostPulled_X0_pullOf : GoodIn wsX0_mostPulled wsX0_pullOf := goodIn_r _ [25, 26, 13, 14, 15, 30, 31, 32] (by decide +kernel) (by decide +kernel)
set_option maxRecDepth 20000 in
theorem gX0_mostPulled_X0_pullOf : GoodIn wsX0_mostPulled (wsV RX0 92 RX0 yX0_pullOf wsX0_pullOf) := goodIn_app (goodIn_of _ (by decide +kernel)) ggX0_mostPulled_X0_pullOf
theorem dX0_mostPulled_0 : decode cX0_mostPulled 0 = .ok (.iconst (-1), 1) := by decide +kernel
theorem dX0_mostPulled_1 : decode cX0_mostPulled 1 = .ok (.istore_n 3, 1) := by decide +kernel
theorem dX0_mostPulled_2 : decode cX0_mostPulled 2 = .ok (.iconst 0, 1) := by decide +kernel
theorem dX0_mostPulled_3 : decode cX0_mostPulled 3 = .ok (.istore 4, 2) := by decide +kernel
theorem dX0_mostPulled_5 : decode cX0_mostPulled 5 = .ok (.iload 4, 2) := by decide +kernel
theorem dX0_mostPulled_7 : decode cX0_mostPulled 7 = .ok (.aload_n 1, 1) := by decide +kernel
theorem dX0_mostPulled_8 : decode cX0_mostPulled 8 = .ok (.getfield 70, 3) := by decide +kernel
theorem dX0_mostPulled_11 : decode cX0_mostPulled 11 = .ok (.if_icmp .ge 57, 3) := by decide +kernel
theorem dX0_mostPulled_14 : decode cX0_mostPulled 14 = .ok (.aload_n 1, 1) := by decide +kernel
theorem dX0_mostPulled_15 : decode cX0_mostPulled 15 = .ok (.iload 4, 2) := by decide +kernel
theorem dX0_mostPulled_17 : decode cX0_mostPulled 17 = .ok (.invokevirtual 89, 3) := by decide +kernel
theorem dX0_mostPulled_20 : decode cX0_mostPulled 20 = .ok (.istore 5, 2) := by decide +kernel
theorem dX0_mostPulled_22 : decode cX0_mostPulled 22 = .ok (.aload_n 2, 1) := by decide +kernel
theorem dX0_mostPulled_23 : decode cX0_mostPulled 23 = .ok (.iload 5, 2) := by decide +kernel
theorem dX0_mostPulled_25 : decode cX0_mostPulled 25 = .ok (.invokevirtual 28, 3) := by decide +kernel
theorem dX0_mostPulled_28 : decode cX0_mostPulled 28 = .ok (.ifCond .ne 34, 3) := by decide +kernel
theorem dX0_mostPulled_31 : decode cX0_mostPulled 31 = .ok (.iload_n 3, 1) := by decide +kernel
theorem dX0_mostPulled_32 : decode cX0_mostPulled 32 = .ok (.iconst (-1), 1) := by decide +kernel
theorem dX0_mostPulled_33 : decode cX0_mostPulled 33 = .ok (.if_icmp .eq 22, 3) := by decide +kernel
theorem dX0_mostPulled_36 : decode cX0_mostPulled 36 = .ok (.aload_n 0, 1) := by decide +kernel
theorem dX0_mostPulled_37 : decode cX0_mostPulled 37 = .ok (.aload_n 0, 1) := by decide +kernel
theorem dX0_mostPulled_38 : decode cX0_mostPulled 38 = .ok (.iload 5, 2) := by decide +kernel
theorem dX0_mostPulled_40 : decode cX0_mostPulled 40 = .ok (.invokevirtual 85, 3) := by decide +kernel
theorem dX0_mostPulled_43 : decode cX0_mostPulled 43 = .ok (.invokevirtual 92, 3) := by decide +kernel
theorem dX0_mostPulled_46 : decode cX0_mostPulled 46 = .ok (.aload_n 0, 1) := by decide +kernel
theorem dX0_mostPulled_47 : decode cX0_mostPulled 47 = .ok (.iload_n 3, 1) := by decide +kernel
theorem dX0_mostPulled_48 : decode cX0_mostPulled 48 = .ok (.invokevirtual 92, 3) := by decide +kernel
theorem dX0_mostPulled_51 : decode cX0_mostPulled 51 = .ok (.lcmp, 1) := by decide +kernel
theorem dX0_mostPulled_52 : decode cX0_mostPulled 52 = .ok (.ifCond .le 10, 3) := by decide +kernel
theorem dX0_mostPulled_55 : decode cX0_mostPulled 55 = .ok (.aload_n 0, 1) := by decide +kernel
theorem dX0_mostPulled_56 : decode cX0_mostPulled 56 = .ok (.iload 5, 2) := by decide +kernel
theorem dX0_mostPulled_58 : decode cX0_mostPulled 58 = .ok (.invokevirtual 85, 3) := by decide +kernel
theorem dX0_mostPulled_61 : decode cX0_mostPulled 61 = .ok (.istore_n 3, 1) := by decide +kernel
theorem dX0_mostPulled_62 : decode cX0_mostPulled 62 = .ok (.iinc 4 1, 3) := by decide +kernel
theorem dX0_mostPulled_65 : decode cX0_mostPulled 65 = .ok (.goto (-60), 3) := by decide +kernel
theorem dX0_mostPulled_68 : decode cX0_mostPulled 68 = .ok (.iload_n 3, 1) := by decide +kernel
theorem dX0_mostPulled_69 : decode cX0_mostPulled 69 = .ok (.ireturn, 1) := by decide +kernel
set_option maxRecDepth 20000 in
theorem ggX0_pullOf_X3_fitsRows : GoodIn wsX0_pullOf wsX3_fitsRows := goodIn_r _ [4] (by decide +kernel) (by decide +kernel)
set_option maxRecDepth 20000 in
theorem gX0_pullOf_X3_fitsRows_n34 : GoodIn wsX0_pullOf (wsX3_fitsRows) := ggX0_pullOf_X3_fitsRows
theorem dX0_pullOf_0 : decode cX0_pullOf 0 = .ok (.iload_n 1, 1) := by decide +kernel
theorem dX0_pullOf_1 : decode cX0_pullOf 1 = .ok (.invokestatic 34, 3) := by decide +kernel
theorem dX0_pullOf_4 : decode cX0_pullOf 4 = .ok (.ifCond .eq 12, 3) := by decide +kernel
theorem dX0_pullOf_7 : decode cX0_pullOf 7 = .ok (.aload_n 0, 1) := by decide +kernel
theorem dX0_pullOf_8 : decode cX0_pullOf 8 = .ok (.getfield 18, 3) := by decide +kernel
theorem dX0_pullOf_11 : decode cX0_pullOf 11 = .ok (.iload_n 1, 1) := by decide +kernel
theorem dX0_pullOf_12 : decode cX0_pullOf 12 = .ok (.laload, 1) := by decide +kernel
theorem dX0_pullOf_13 : decode cX0_pullOf 13 = .ok (.goto 4, 3) := by decide +kernel
theorem dX0_pullOf_16 : decode cX0_pullOf 16 = .ok (.lconst 0, 1) := by decide +kernel
theorem dX0_pullOf_17 : decode cX0_pullOf 17 = .ok (.lreturn, 1) := by decide +kernel
set_option maxRecDepth 20000 in
theorem ggX0_appendChain_X3_fitsRows : GoodIn wsX0_appendChain wsX3_fitsRows := goodIn_r _ [4] (by decide +kernel) (by decide +kernel)
set_option maxRecDepth 20000 in
theorem gX0_appendChain_X3_fitsRows_n34 : GoodIn wsX0_appendChain (wsX3_fitsRows) := ggX0_appendChain_X3_fitsRows
set_option maxRecDepth 20000 in
theorem ggX0_appendChain_X1_append : GoodIn wsX0_appendChain wsX1_append := goodIn_r _ [9, 10, 11, 12, 2, 3, 4, 16, 17, 18] (by decide +kernel) (by decide +kernel)
set_option maxRecDepth 20000 in
theorem gX0_appendChain_X1_append : GoodIn wsX0_appendChain (wsV RX0 96 RX1 yX1_append wsX1_append) := goodIn_app (goodIn_of _ (by decide +kernel)) ggX0_appendChain_X1_append
theorem dX0_appendChain_0 : decode cX0_appendChain 0 = .ok (.iload_n 1, 1) := by decide +kernel
theorem dX0_appendChain_1 : decode cX0_appendChain 1 = .ok (.istore_n 3, 1) := by decide +kernel
theorem dX0_appendChain_2 : decode cX0_appendChain 2 = .ok (.iconst 0, 1) := by decide +kernel
theorem dX0_appendChain_3 : decode cX0_appendChain 3 = .ok (.istore 4, 2) := by decide +kernel
theorem dX0_appendChain_5 : decode cX0_appendChain 5 = .ok (.iload 4, 2) := by decide +kernel
theorem dX0_appendChain_7 : decode cX0_appendChain 7 = .ok (.sipush 200, 3) := by decide +kernel
theorem dX0_appendChain_10 : decode cX0_appendChain 10 = .ok (.if_icmp .ge 28, 3) := by decide +kernel
theorem dX0_appendChain_13 : decode cX0_appendChain 13 = .ok (.iload_n 3, 1) := by decide +kernel
theorem dX0_appendChain_14 : decode cX0_appendChain 14 = .ok (.invokestatic 34, 3) := by decide +kernel
theorem dX0_appendChain_17 : decode cX0_appendChain 17 = .ok (.ifCond .eq 21, 3) := by decide +kernel
theorem dX0_appendChain_20 : decode cX0_appendChain 20 = .ok (.aload_n 2, 1) := by decide +kernel
theorem dX0_appendChain_21 : decode cX0_appendChain 21 = .ok (.iload_n 3, 1) := by decide +kernel
theorem dX0_appendChain_22 : decode cX0_appendChain 22 = .ok (.invokevirtual 96, 3) := by decide +kernel
theorem dX0_appendChain_25 : decode cX0_appendChain 25 = .ok (.aload_n 0, 1) := by decide +kernel
theorem dX0_appendChain_26 : decode cX0_appendChain 26 = .ok (.getfield 15, 3) := by decide +kernel
theorem dX0_appendChain_29 : decode cX0_appendChain 29 = .ok (.iload_n 3, 1) := by decide +kernel
theorem dX0_appendChain_30 : decode cX0_appendChain 30 = .ok (.iaload, 1) := by decide +kernel
theorem dX0_appendChain_31 : decode cX0_appendChain 31 = .ok (.istore_n 3, 1) := by decide +kernel
theorem dX0_appendChain_32 : decode cX0_appendChain 32 = .ok (.iinc 4 1, 3) := by decide +kernel
theorem dX0_appendChain_35 : decode cX0_appendChain 35 = .ok (.goto (-30), 3) := by decide +kernel
theorem dX0_appendChain_38 : decode cX0_appendChain 38 = .ok (.return_, 1) := by decide +kernel
set_option maxRecDepth 20000 in
theorem ggX0_pullTowards_X0_firstOf : GoodIn wsX0_pullTowards wsX0_firstOf := goodIn_r _ [6, 7, 8, 9, 10, 16, 17, 18] (by decide +kernel) (by decide +kernel)
set_option maxRecDepth 20000 in
theorem gX0_pullTowards_X0_firstOf : GoodIn wsX0_pullTowards (wsV RX0 85 RX0 yX0_firstOf wsX0_firstOf) := goodIn_app (goodIn_of _ (by decide +kernel)) ggX0_pullTowards_X0_firstOf
set_option maxRecDepth 20000 in
theorem ggX0_pullTowards_X3_fitsRows : GoodIn wsX0_pullTowards wsX3_fitsRows := goodIn_r _ [10] (by decide +kernel) (by decide +kernel)
set_option maxRecDepth 20000 in
theorem gX0_pullTowards_X3_fitsRows_n34 : GoodIn wsX0_pullTowards (wsX3_fitsRows) := ggX0_pullTowards_X3_fitsRows
theorem dX0_pullTowards_0 : decode cX0_pullTowards 0 = .ok (.iconst 0, 1) := by decide +kernel
theorem dX0_pullTowards_1 : decode cX0_pullTowards 1 = .ok (.istore_n 3, 1) := by decide +kernel
theorem dX0_pullTowards_2 : decode cX0_pullTowards 2 = .ok (.iload_n 3, 1) := by decide +kernel
theorem dX0_pullTowards_3 : decode cX0_pullTowards 3 = .ok (.aload_n 2, 1) := by decide +kernel
theorem dX0_pullTowards_4 : decode cX0_pullTowards 4 = .ok (.getfield 37, 3) := by decide +kernel
theorem dX0_pullTowards_7 : decode cX0_pullTowards 7 = .ok (.if_icmp .ge 93, 3) := by decide +kernel
theorem dX0_pullTowards_10 : decode cX0_pullTowards 10 = .ok (.aload_n 0, 1) := by decide +kernel
theorem dX0_pullTowards_11 : decode cX0_pullTowards 11 = .ok (.aload_n 2, 1) := by decide +kernel
theorem dX0_pullTowards_12 : decode cX0_pullTowards 12 = .ok (.getfield 43, 3) := by decide +kernel
theorem dX0_pullTowards_15 : decode cX0_pullTowards 15 = .ok (.iload_n 3, 1) := by decide +kernel
theorem dX0_pullTowards_16 : decode cX0_pullTowards 16 = .ok (.iaload, 1) := by decide +kernel
theorem dX0_pullTowards_17 : decode cX0_pullTowards 17 = .ok (.invokevirtual 85, 3) := by decide +kernel
theorem dX0_pullTowards_20 : decode cX0_pullTowards 20 = .ok (.istore 4, 2) := by decide +kernel
theorem dX0_pullTowards_22 : decode cX0_pullTowards 22 = .ok (.aload_n 0, 1) := by decide +kernel
theorem dX0_pullTowards_23 : decode cX0_pullTowards 23 = .ok (.aload_n 2, 1) := by decide +kernel
theorem dX0_pullTowards_24 : decode cX0_pullTowards 24 = .ok (.getfield 46, 3) := by decide +kernel
theorem dX0_pullTowards_27 : decode cX0_pullTowards 27 = .ok (.iload_n 3, 1) := by decide +kernel
theorem dX0_pullTowards_28 : decode cX0_pullTowards 28 = .ok (.iaload, 1) := by decide +kernel
theorem dX0_pullTowards_29 : decode cX0_pullTowards 29 = .ok (.invokevirtual 85, 3) := by decide +kernel
theorem dX0_pullTowards_32 : decode cX0_pullTowards 32 = .ok (.istore 5, 2) := by decide +kernel
theorem dX0_pullTowards_34 : decode cX0_pullTowards 34 = .ok (.iload 4, 2) := by decide +kernel
theorem dX0_pullTowards_36 : decode cX0_pullTowards 36 = .ok (.iload_n 1, 1) := by decide +kernel
theorem dX0_pullTowards_37 : decode cX0_pullTowards 37 = .ok (.if_icmp .ne 27, 3) := by decide +kernel
theorem dX0_pullTowards_40 : decode cX0_pullTowards 40 = .ok (.iload 5, 2) := by decide +kernel
theorem dX0_pullTowards_42 : decode cX0_pullTowards 42 = .ok (.invokestatic 34, 3) := by decide +kernel
theorem dX0_pullTowards_45 : decode cX0_pullTowards 45 = .ok (.ifCond .eq 19, 3) := by decide +kernel
theorem dX0_pullTowards_48 : decode cX0_pullTowards 48 = .ok (.aload_n 0, 1) := by decide +kernel
theorem dX0_pullTowards_49 : decode cX0_pullTowards 49 = .ok (.getfield 18, 3) := by decide +kernel
theorem dX0_pullTowards_52 : decode cX0_pullTowards 52 = .ok (.iload 5, 2) := by decide +kernel
theorem dX0_pullTowards_54 : decode cX0_pullTowards 54 = .ok (.dup2, 1) := by decide +kernel
theorem dX0_pullTowards_55 : decode cX0_pullTowards 55 = .ok (.laload, 1) := by decide +kernel
theorem dX0_pullTowards_56 : decode cX0_pullTowards 56 = .ok (.aload_n 2, 1) := by decide +kernel
theorem dX0_pullTowards_57 : decode cX0_pullTowards 57 = .ok (.getfield 53, 3) := by decide +kernel
theorem dX0_pullTowards_60 : decode cX0_pullTowards 60 = .ok (.iload_n 3, 1) := by decide +kernel
theorem dX0_pullTowards_61 : decode cX0_pullTowards 61 = .ok (.laload, 1) := by decide +kernel
theorem dX0_pullTowards_62 : decode cX0_pullTowards 62 = .ok (.ladd, 1) := by decide +kernel
theorem dX0_pullTowards_63 : decode cX0_pullTowards 63 = .ok (.lastore, 1) := by decide +kernel
theorem dX0_pullTowards_64 : decode cX0_pullTowards 64 = .ok (.iload 5, 2) := by decide +kernel
theorem dX0_pullTowards_66 : decode cX0_pullTowards 66 = .ok (.iload_n 1, 1) := by decide +kernel
theorem dX0_pullTowards_67 : decode cX0_pullTowards 67 = .ok (.if_icmp .ne 27, 3) := by decide +kernel
theorem dX0_pullTowards_70 : decode cX0_pullTowards 70 = .ok (.iload 4, 2) := by decide +kernel
theorem dX0_pullTowards_72 : decode cX0_pullTowards 72 = .ok (.invokestatic 34, 3) := by decide +kernel
theorem dX0_pullTowards_75 : decode cX0_pullTowards 75 = .ok (.ifCond .eq 19, 3) := by decide +kernel
theorem dX0_pullTowards_78 : decode cX0_pullTowards 78 = .ok (.aload_n 0, 1) := by decide +kernel
theorem dX0_pullTowards_79 : decode cX0_pullTowards 79 = .ok (.getfield 18, 3) := by decide +kernel
theorem dX0_pullTowards_82 : decode cX0_pullTowards 82 = .ok (.iload 4, 2) := by decide +kernel
theorem dX0_pullTowards_84 : decode cX0_pullTowards 84 = .ok (.dup2, 1) := by decide +kernel
theorem dX0_pullTowards_85 : decode cX0_pullTowards 85 = .ok (.laload, 1) := by decide +kernel
theorem dX0_pullTowards_86 : decode cX0_pullTowards 86 = .ok (.aload_n 2, 1) := by decide +kernel
theorem dX0_pullTowards_87 : decode cX0_pullTowards 87 = .ok (.getfield 53, 3) := by decide +kernel
theorem dX0_pullTowards_90 : decode cX0_pullTowards 90 = .ok (.iload_n 3, 1) := by decide +kernel
theorem dX0_pullTowards_91 : decode cX0_pullTowards 91 = .ok (.laload, 1) := by decide +kernel
theorem dX0_pullTowards_92 : decode cX0_pullTowards 92 = .ok (.ladd, 1) := by decide +kernel
theorem dX0_pullTowards_93 : decode cX0_pullTowards 93 = .ok (.lastore, 1) := by decide +kernel
theorem dX0_pullTowards_94 : decode cX0_pullTowards 94 = .ok (.iinc 3 1, 3) := by decide +kernel
theorem dX0_pullTowards_97 : decode cX0_pullTowards 97 = .ok (.goto (-95), 3) := by decide +kernel
theorem dX0_pullTowards_100 : decode cX0_pullTowards 100 = .ok (.return_, 1) := by decide +kernel
theorem dX1_init_0 : decode cX1_init 0 = .ok (.aload_n 0, 1) := by decide +kernel
theorem dX1_init_1 : decode cX1_init 1 = .ok (.invokespecial 3, 3) := by decide +kernel
theorem dX1_init_4 : decode cX1_init 4 = .ok (.aload_n 0, 1) := by decide +kernel
theorem dX1_init_5 : decode cX1_init 5 = .ok (.sipush 200, 3) := by decide +kernel
theorem dX1_init_8 : decode cX1_init 8 = .ok (.newarray .int, 2) := by decide +kernel
theorem dX1_init_10 : decode cX1_init 10 = .ok (.putfield 9, 3) := by decide +kernel
theorem dX1_init_13 : decode cX1_init 13 = .ok (.aload_n 0, 1) := by decide +kernel
theorem dX1_init_14 : decode cX1_init 14 = .ok (.sipush 200, 3) := by decide +kernel
theorem dX1_init_17 : decode cX1_init 17 = .ok (.newarray .int, 2) := by decide +kernel
theorem dX1_init_19 : decode cX1_init 19 = .ok (.putfield 15, 3) := by decide +kernel
theorem dX1_init_22 : decode cX1_init 22 = .ok (.return_, 1) := by decide +kernel
set_option maxRecDepth 20000 in
theorem ggX1_empty_J7_fill_53178 : GoodIn wsX1_empty wsJ7_fill_53178 := goodIn_r _ [6] (by decide +kernel) (by decide +kernel)
set_option maxRecDepth 20000 in
theorem gX1_empty_J7_fill_53178 : GoodIn wsX1_empty (va_wsS RX1 22 yJ7_fill_53178 wsJ7_fill_53178) := goodIn_app (goodIn_of _ (by decide +kernel)) ggX1_empty_J7_fill_53178
theorem dX1_empty_0 : decode cX1_empty 0 = .ok (.aload_n 0, 1) := by decide +kernel
theorem dX1_empty_1 : decode cX1_empty 1 = .ok (.iconst 0, 1) := by decide +kernel
theorem dX1_empty_2 : decode cX1_empty 2 = .ok (.putfield 18, 3) := by decide +kernel
theorem dX1_empty_5 : decode cX1_empty 5 = .ok (.aload_n 0, 1) := by decide +kernel
theorem dX1_empty_6 : decode cX1_empty 6 = .ok (.getfield 15, 3) := by decide +kernel
theorem dX1_empty_9 : decode cX1_empty 9 = .ok (.iconst (-1), 1) := by decide +kernel
theorem dX1_empty_10 : decode cX1_empty 10 = .ok (.invokestatic 22, 3) := by decide +kernel
theorem dX1_empty_13 : decode cX1_empty 13 = .ok (.return_, 1) := by decide +kernel
set_option maxRecDepth 20000 in
theorem ggX1_append_X3_fitsRows : GoodIn wsX1_append wsX3_fitsRows := goodIn_r _ [6] (by decide +kernel) (by decide +kernel)
set_option maxRecDepth 20000 in
theorem gX1_append_X3_fitsRows_n28 : GoodIn wsX1_append (wsX3_fitsRows) := ggX1_append_X3_fitsRows
theorem dX1_append_0 : decode cX1_append 0 = .ok (.aload_n 0, 1) := by decide +kernel
theorem dX1_append_1 : decode cX1_append 1 = .ok (.getfield 18, 3) := by decide +kernel
theorem dX1_append_4 : decode cX1_append 4 = .ok (.sipush 200, 3) := by decide +kernel
theorem dX1_append_7 : decode cX1_append 7 = .ok (.if_icmp .ge 10, 3) := by decide +kernel
theorem dX1_append_10 : decode cX1_append 10 = .ok (.iload_n 1, 1) := by decide +kernel
theorem dX1_append_11 : decode cX1_append 11 = .ok (.invokestatic 28, 3) := by decide +kernel
theorem dX1_append_14 : decode cX1_append 14 = .ok (.ifCond .ne 4, 3) := by decide +kernel
theorem dX1_append_17 : decode cX1_append 17 = .ok (.return_, 1) := by decide +kernel
theorem dX1_append_18 : decode cX1_append 18 = .ok (.aload_n 0, 1) := by decide +kernel
theorem dX1_append_19 : decode cX1_append 19 = .ok (.getfield 9, 3) := by decide +kernel
theorem dX1_append_22 : decode cX1_append 22 = .ok (.aload_n 0, 1) := by decide +kernel
theorem dX1_append_23 : decode cX1_append 23 = .ok (.getfield 18, 3) := by decide +kernel
theorem dX1_append_26 : decode cX1_append 26 = .ok (.iload_n 1, 1) := by decide +kernel
theorem dX1_append_27 : decode cX1_append 27 = .ok (.iastore, 1) := by decide +kernel
theorem dX1_append_28 : decode cX1_append 28 = .ok (.aload_n 0, 1) := by decide +kernel
theorem dX1_append_29 : decode cX1_append 29 = .ok (.getfield 15, 3) := by decide +kernel
theorem dX1_append_32 : decode cX1_append 32 = .ok (.iload_n 1, 1) := by decide +kernel
theorem dX1_append_33 : decode cX1_append 33 = .ok (.aload_n 0, 1) := by decide +kernel
theorem dX1_append_34 : decode cX1_append 34 = .ok (.getfield 18, 3) := by decide +kernel
theorem dX1_append_37 : decode cX1_append 37 = .ok (.iastore, 1) := by decide +kernel
theorem dX1_append_38 : decode cX1_append 38 = .ok (.aload_n 0, 1) := by decide +kernel
theorem dX1_append_39 : decode cX1_append 39 = .ok (.dup, 1) := by decide +kernel
theorem dX1_append_40 : decode cX1_append 40 = .ok (.getfield 18, 3) := by decide +kernel
theorem dX1_append_43 : decode cX1_append 43 = .ok (.iconst 1, 1) := by decide +kernel
theorem dX1_append_44 : decode cX1_append 44 = .ok (.iadd, 1) := by decide +kernel
theorem dX1_append_45 : decode cX1_append 45 = .ok (.putfield 18, 3) := by decide +kernel
theorem dX1_append_48 : decode cX1_append 48 = .ok (.return_, 1) := by decide +kernel
theorem dX1_blockAt_0 : decode cX1_blockAt 0 = .ok (.iload_n 1, 1) := by decide +kernel
theorem dX1_blockAt_1 : decode cX1_blockAt 1 = .ok (.ifCond .lt 20, 3) := by decide +kernel
theorem dX1_blockAt_4 : decode cX1_blockAt 4 = .ok (.iload_n 1, 1) := by decide +kernel
theorem dX1_blockAt_5 : decode cX1_blockAt 5 = .ok (.aload_n 0, 1) := by decide +kernel
theorem dX1_blockAt_6 : decode cX1_blockAt 6 = .ok (.getfield 18, 3) := by decide +kernel
theorem dX1_blockAt_9 : decode cX1_blockAt 9 = .ok (.if_icmp .ge 12, 3) := by decide +kernel
theorem dX1_blockAt_12 : decode cX1_blockAt 12 = .ok (.aload_n 0, 1) := by decide +kernel
theorem dX1_blockAt_13 : decode cX1_blockAt 13 = .ok (.getfield 9, 3) := by decide +kernel
theorem dX1_blockAt_16 : decode cX1_blockAt 16 = .ok (.iload_n 1, 1) := by decide +kernel
theorem dX1_blockAt_17 : decode cX1_blockAt 17 = .ok (.iaload, 1) := by decide +kernel
theorem dX1_blockAt_18 : decode cX1_blockAt 18 = .ok (.goto 4, 3) := by decide +kernel
theorem dX1_blockAt_21 : decode cX1_blockAt 21 = .ok (.iconst (-1), 1) := by decide +kernel
theorem dX1_blockAt_22 : decode cX1_blockAt 22 = .ok (.ireturn, 1) := by decide +kernel
set_option maxRecDepth 20000 in
theorem ggX1_holds_X3_fitsRows : GoodIn wsX1_holds wsX3_fitsRows := goodIn_r _ [4] (by decide +kernel) (by decide +kernel)
set_option maxRecDepth 20000 in
theorem gX1_holds_X3_fitsRows_n28 : GoodIn wsX1_holds (wsX3_fitsRows) := ggX1_holds_X3_fitsRows
theorem dX1_holds_0 : decode cX1_holds 0 = .ok (.iload_n 1, 1) := by decide +kernel
theorem dX1_holds_1 : decode cX1_holds 1 = .ok (.invokestatic 28, 3) := by decide +kernel
theorem dX1_holds_4 : decode cX1_holds 4 = .ok (.ifCond .eq 17, 3) := by decide +kernel
theorem dX1_holds_7 : decode cX1_holds 7 = .ok (.aload_n 0, 1) := by decide +kernel
theorem dX1_holds_8 : decode cX1_holds 8 = .ok (.getfield 15, 3) := by decide +kernel
theorem dX1_holds_11 : decode cX1_holds 11 = .ok (.iload_n 1, 1) := by decide +kernel
theorem dX1_holds_12 : decode cX1_holds 12 = .ok (.iaload, 1) := by decide +kernel
theorem dX1_holds_13 : decode cX1_holds 13 = .ok (.iconst (-1), 1) := by decide +kernel
theorem dX1_holds_14 : decode cX1_holds 14 = .ok (.if_icmp .eq 7, 3) := by decide +kernel
theorem dX1_holds_17 : decode cX1_holds 17 = .ok (.iconst 1, 1) := by decide +kernel
theorem dX1_holds_18 : decode cX1_holds 18 = .ok (.goto 4, 3) := by decide +kernel
theorem dX1_holds_21 : decode cX1_holds 21 = .ok (.iconst 0, 1) := by decide +kernel
theorem dX1_holds_22 : decode cX1_holds 22 = .ok (.ireturn, 1) := by decide +kernel
set_option maxRecDepth 20000 in
theorem ggX1_goesOn_X1_holds : GoodIn wsX1_goesOn wsX1_holds := goodIn_r _ [6, 1, 7, 8, 9, 10, 11, 12] (by decide +kernel) (by decide +kernel)
set_option maxRecDepth 20000 in
theorem gX1_goesOn_X1_holds : GoodIn wsX1_goesOn (wsV RX1 32 RX1 yX1_holds wsX1_holds) := goodIn_app (goodIn_of _ (by decide +kernel)) ggX1_goesOn_X1_holds
theorem dX1_goesOn_0 : decode cX1_goesOn 0 = .ok (.aload_n 0, 1) := by decide +kernel
theorem dX1_goesOn_1 : decode cX1_goesOn 1 = .ok (.iload_n 1, 1) := by decide +kernel
theorem dX1_goesOn_2 : decode cX1_goesOn 2 = .ok (.invokevirtual 32, 3) := by decide +kernel
theorem dX1_goesOn_5 : decode cX1_goesOn 5 = .ok (.ifCond .eq 32, 3) := by decide +kernel
theorem dX1_goesOn_8 : decode cX1_goesOn 8 = .ok (.aload_n 0, 1) := by decide +kernel
theorem dX1_goesOn_9 : decode cX1_goesOn 9 = .ok (.iload_n 2, 1) := by decide +kernel
theorem dX1_goesOn_10 : decode cX1_goesOn 10 = .ok (.invokevirtual 32, 3) := by decide +kernel
theorem dX1_goesOn_13 : decode cX1_goesOn 13 = .ok (.ifCond .eq 24, 3) := by decide +kernel
theorem dX1_goesOn_16 : decode cX1_goesOn 16 = .ok (.aload_n 0, 1) := by decide +kernel
theorem dX1_goesOn_17 : decode cX1_goesOn 17 = .ok (.getfield 15, 3) := by decide +kernel
theorem dX1_goesOn_20 : decode cX1_goesOn 20 = .ok (.iload_n 2, 1) := by decide +kernel
theorem dX1_goesOn_21 : decode cX1_goesOn 21 = .ok (.iaload, 1) := by decide +kernel
theorem dX1_goesOn_22 : decode cX1_goesOn 22 = .ok (.aload_n 0, 1) := by decide +kernel
theorem dX1_goesOn_23 : decode cX1_goesOn 23 = .ok (.getfield 15, 3) := by decide +kernel
theorem dX1_goesOn_26 : decode cX1_goesOn 26 = .ok (.iload_n 1, 1) := by decide +kernel
theorem dX1_goesOn_27 : decode cX1_goesOn 27 = .ok (.iaload, 1) := by decide +kernel
theorem dX1_goesOn_28 : decode cX1_goesOn 28 = .ok (.iconst 1, 1) := by decide +kernel
theorem dX1_goesOn_29 : decode cX1_goesOn 29 = .ok (.iadd, 1) := by decide +kernel
theorem dX1_goesOn_30 : decode cX1_goesOn 30 = .ok (.if_icmp .ne 7, 3) := by decide +kernel
theorem dX1_goesOn_33 : decode cX1_goesOn 33 = .ok (.iconst 1, 1) := by decide +kernel
theorem dX1_goesOn_34 : decode cX1_goesOn 34 = .ok (.goto 4, 3) := by decide +kernel
theorem dX1_goesOn_37 : decode cX1_goesOn 37 = .ok (.iconst 0, 1) := by decide +kernel
theorem dX1_goesOn_38 : decode cX1_goesOn 38 = .ok (.ireturn, 1) := by decide +kernel
theorem dX2_init_0 : decode cX2_init 0 = .ok (.aload_n 0, 1) := by decide +kernel
theorem dX2_init_1 : decode cX2_init 1 = .ok (.invokespecial 3, 3) := by decide +kernel
theorem dX2_init_4 : decode cX2_init 4 = .ok (.aload_n 0, 1) := by decide +kernel
theorem dX2_init_5 : decode cX2_init 5 = .ok (.sipush 1000, 3) := by decide +kernel
theorem dX2_init_8 : decode cX2_init 8 = .ok (.newarray .int, 2) := by decide +kernel
theorem dX2_init_10 : decode cX2_init 10 = .ok (.putfield 9, 3) := by decide +kernel
theorem dX2_init_13 : decode cX2_init 13 = .ok (.aload_n 0, 1) := by decide +kernel
theorem dX2_init_14 : decode cX2_init 14 = .ok (.sipush 1000, 3) := by decide +kernel
theorem dX2_init_17 : decode cX2_init 17 = .ok (.newarray .int, 2) := by decide +kernel
theorem dX2_init_19 : decode cX2_init 19 = .ok (.putfield 15, 3) := by decide +kernel
theorem dX2_init_22 : decode cX2_init 22 = .ok (.aload_n 0, 1) := by decide +kernel
theorem dX2_init_23 : decode cX2_init 23 = .ok (.sipush 1000, 3) := by decide +kernel
theorem dX2_init_26 : decode cX2_init 26 = .ok (.newarray .long, 2) := by decide +kernel
theorem dX2_init_28 : decode cX2_init 28 = .ok (.putfield 18, 3) := by decide +kernel
theorem dX2_init_31 : decode cX2_init 31 = .ok (.aload_n 0, 1) := by decide +kernel
theorem dX2_init_32 : decode cX2_init 32 = .ok (.sipush 1000, 3) := by decide +kernel
theorem dX2_init_35 : decode cX2_init 35 = .ok (.newarray .boolean, 2) := by decide +kernel
theorem dX2_init_37 : decode cX2_init 37 = .ok (.putfield 22, 3) := by decide +kernel
theorem dX2_init_40 : decode cX2_init 40 = .ok (.return_, 1) := by decide +kernel
theorem dX2_forget_0 : decode cX2_forget 0 = .ok (.aload_n 0, 1) := by decide +kernel
theorem dX2_forget_1 : decode cX2_forget 1 = .ok (.iconst 0, 1) := by decide +kernel
theorem dX2_forget_2 : decode cX2_forget 2 = .ok (.putfield 26, 3) := by decide +kernel
theorem dX2_forget_5 : decode cX2_forget 5 = .ok (.return_, 1) := by decide +kernel
set_option maxRecDepth 20000 in
theorem ggX2_told_X2_find : GoodIn wsX2_told wsX2_find := goodIn_r _ [6, 7, 8, 9, 10, 11, 12, 13, 14] (by decide +kernel) (by decide +kernel)
set_option maxRecDepth 20000 in
theorem gX2_told_X2_find : GoodIn wsX2_told (wsV RX2 30 RX2 yX2_find wsX2_find) := goodIn_app (goodIn_of _ (by decide +kernel)) ggX2_told_X2_find
theorem dX2_told_0 : decode cX2_told 0 = .ok (.aload_n 0, 1) := by decide +kernel
theorem dX2_told_1 : decode cX2_told 1 = .ok (.iload_n 1, 1) := by decide +kernel
theorem dX2_told_2 : decode cX2_told 2 = .ok (.iload_n 2, 1) := by decide +kernel
theorem dX2_told_3 : decode cX2_told 3 = .ok (.invokevirtual 30, 3) := by decide +kernel
theorem dX2_told_6 : decode cX2_told 6 = .ok (.istore_n 3, 1) := by decide +kernel
theorem dX2_told_7 : decode cX2_told 7 = .ok (.iload_n 3, 1) := by decide +kernel
theorem dX2_told_8 : decode cX2_told 8 = .ok (.iconst (-1), 1) := by decide +kernel
theorem dX2_told_9 : decode cX2_told 9 = .ok (.if_icmp .ne 7, 3) := by decide +kernel
theorem dX2_told_12 : decode cX2_told 12 = .ok (.lconst 0, 1) := by decide +kernel
theorem dX2_told_13 : decode cX2_told 13 = .ok (.goto 9, 3) := by decide +kernel
theorem dX2_told_16 : decode cX2_told 16 = .ok (.aload_n 0, 1) := by decide +kernel
theorem dX2_told_17 : decode cX2_told 17 = .ok (.getfield 18, 3) := by decide +kernel
theorem dX2_told_20 : decode cX2_told 20 = .ok (.iload_n 3, 1) := by decide +kernel
theorem dX2_told_21 : decode cX2_told 21 = .ok (.laload, 1) := by decide +kernel
theorem dX2_told_22 : decode cX2_told 22 = .ok (.lreturn, 1) := by decide +kernel
set_option maxRecDepth 20000 in
theorem ggX2_tell_X2_find : GoodIn wsX2_tell wsX2_find := goodIn_r _ [13, 14, 15, 16, 33, 34, 35, 36, 37] (by decide +kernel) (by decide +kernel)
set_option maxRecDepth 20000 in
theorem gX2_tell_X2_find : GoodIn wsX2_tell (wsV RX2 30 RX2 yX2_find wsX2_find) := goodIn_app (goodIn_of _ (by decide +kernel)) ggX2_tell_X2_find
set_option maxRecDepth 20000 in
theorem ggX2_tell_X2_add : GoodIn wsX2_tell wsX2_add := goodIn_r _ [20, 14, 15, 16, 3, 33, 34, 35, 36, 37] (by decide +kernel) (by decide +kernel)
set_option maxRecDepth 20000 in
theorem gX2_tell_X2_add : GoodIn wsX2_tell (wsV RX2 34 RX2 yX2_add wsX2_add) := goodIn_app (goodIn_of _ (by decide +kernel)) ggX2_tell_X2_add
set_option maxRecDepth 20000 in
theorem ggX2_tell_X2_moveForward : GoodIn wsX2_tell wsX2_moveForward := goodIn_r _ [24, 25, 26, 27, 12, 28, 3, 15, 16, 29, 30, 31, 32, 8, 33, 34, 35, 36, 37] (by decide +kernel) (by decide +kernel)
set_option maxRecDepth 20000 in
theorem gX2_tell_X2_moveForward : GoodIn wsX2_tell (wsV RX2 47 RX2 yX2_moveForward wsX2_moveForward) := goodIn_app (goodIn_of _ (by decide +kernel)) ggX2_tell_X2_moveForward
theorem dX2_tell_0 : decode cX2_tell 0 = .ok (.aload_n 0, 1) := by decide +kernel
theorem dX2_tell_1 : decode cX2_tell 1 = .ok (.iload_n 1, 1) := by decide +kernel
theorem dX2_tell_2 : decode cX2_tell 2 = .ok (.iload_n 2, 1) := by decide +kernel
theorem dX2_tell_3 : decode cX2_tell 3 = .ok (.invokevirtual 30, 3) := by decide +kernel
theorem dX2_tell_6 : decode cX2_tell 6 = .ok (.istore 5, 2) := by decide +kernel
theorem dX2_tell_8 : decode cX2_tell 8 = .ok (.iload 5, 2) := by decide +kernel
theorem dX2_tell_10 : decode cX2_tell 10 = .ok (.iconst (-1), 1) := by decide +kernel
theorem dX2_tell_11 : decode cX2_tell 11 = .ok (.if_icmp .ne 11, 3) := by decide +kernel
theorem dX2_tell_14 : decode cX2_tell 14 = .ok (.aload_n 0, 1) := by decide +kernel
theorem dX2_tell_15 : decode cX2_tell 15 = .ok (.iload_n 1, 1) := by decide +kernel
theorem dX2_tell_16 : decode cX2_tell 16 = .ok (.iload_n 2, 1) := by decide +kernel
theorem dX2_tell_17 : decode cX2_tell 17 = .ok (.invokevirtual 34, 3) := by decide +kernel
theorem dX2_tell_20 : decode cX2_tell 20 = .ok (.istore 5, 2) := by decide +kernel
theorem dX2_tell_22 : decode cX2_tell 22 = .ok (.iload 5, 2) := by decide +kernel
theorem dX2_tell_24 : decode cX2_tell 24 = .ok (.iconst (-1), 1) := by decide +kernel
theorem dX2_tell_25 : decode cX2_tell 25 = .ok (.if_icmp .ne 7, 3) := by decide +kernel
theorem dX2_tell_28 : decode cX2_tell 28 = .ok (.ldc2_w 37, 3) := by decide +kernel
theorem dX2_tell_31 : decode cX2_tell 31 = .ok (.lreturn, 1) := by decide +kernel
theorem dX2_tell_32 : decode cX2_tell 32 = .ok (.ldc2_w 39, 3) := by decide +kernel
theorem dX2_tell_35 : decode cX2_tell 35 = .ok (.aload_n 0, 1) := by decide +kernel
theorem dX2_tell_36 : decode cX2_tell 36 = .ok (.getfield 18, 3) := by decide +kernel
theorem dX2_tell_39 : decode cX2_tell 39 = .ok (.iload 5, 2) := by decide +kernel
theorem dX2_tell_41 : decode cX2_tell 41 = .ok (.laload, 1) := by decide +kernel
theorem dX2_tell_42 : decode cX2_tell 42 = .ok (.iload_n 3, 1) := by decide +kernel
theorem dX2_tell_43 : decode cX2_tell 43 = .ok (.i2l, 1) := by decide +kernel
theorem dX2_tell_44 : decode cX2_tell 44 = .ok (.ladd, 1) := by decide +kernel
theorem dX2_tell_45 : decode cX2_tell 45 = .ok (.invokestatic 41, 3) := by decide +kernel
theorem dX2_tell_48 : decode cX2_tell 48 = .ok (.lstore 6, 2) := by decide +kernel
theorem dX2_tell_50 : decode cX2_tell 50 = .ok (.aload_n 0, 1) := by decide +kernel
theorem dX2_tell_51 : decode cX2_tell 51 = .ok (.getfield 18, 3) := by decide +kernel
theorem dX2_tell_54 : decode cX2_tell 54 = .ok (.iload 5, 2) := by decide +kernel
theorem dX2_tell_56 : decode cX2_tell 56 = .ok (.lload 6, 2) := by decide +kernel
theorem dX2_tell_58 : decode cX2_tell 58 = .ok (.lastore, 1) := by decide +kernel
theorem dX2_tell_59 : decode cX2_tell 59 = .ok (.aload_n 0, 1) := by decide +kernel
theorem dX2_tell_60 : decode cX2_tell 60 = .ok (.getfield 22, 3) := by decide +kernel
theorem dX2_tell_63 : decode cX2_tell 63 = .ok (.iload 5, 2) := by decide +kernel
theorem dX2_tell_65 : decode cX2_tell 65 = .ok (.iload 4, 2) := by decide +kernel
theorem dX2_tell_67 : decode cX2_tell 67 = .ok (.bastore, 1) := by decide +kernel
theorem dX2_tell_68 : decode cX2_tell 68 = .ok (.aload_n 0, 1) := by decide +kernel
theorem dX2_tell_69 : decode cX2_tell 69 = .ok (.iload 5, 2) := by decide +kernel
theorem dX2_tell_71 : decode cX2_tell 71 = .ok (.invokevirtual 47, 3) := by decide +kernel
theorem dX2_tell_74 : decode cX2_tell 74 = .ok (.lload 6, 2) := by decide +kernel
theorem dX2_tell_76 : decode cX2_tell 76 = .ok (.lreturn, 1) := by decide +kernel
set_option maxRecDepth 20000 in
theorem ggX2_weigh_X1_goesOn : GoodIn wsX2_weigh wsX1_goesOn := goodIn_r _ [10, 11, 12, 13, 14, 9, 15, 16, 17, 18, 24, 25, 26] (by decide +kernel) (by decide +kernel)
set_option maxRecDepth 20000 in
theorem gX2_weigh_X1_goesOn : GoodIn wsX2_weigh (wsV RX2 51 RX1 yX1_goesOn wsX1_goesOn) := goodIn_app (goodIn_of _ (by decide +kernel)) ggX2_weigh_X1_goesOn
theorem dX2_weigh_0 : decode cX2_weigh 0 = .ok (.lconst 0, 1) := by decide +kernel
theorem dX2_weigh_1 : decode cX2_weigh 1 = .ok (.lstore_n 2, 1) := by decide +kernel
theorem dX2_weigh_2 : decode cX2_weigh 2 = .ok (.iconst 0, 1) := by decide +kernel
theorem dX2_weigh_3 : decode cX2_weigh 3 = .ok (.istore 4, 2) := by decide +kernel
theorem dX2_weigh_5 : decode cX2_weigh 5 = .ok (.iload 4, 2) := by decide +kernel
theorem dX2_weigh_7 : decode cX2_weigh 7 = .ok (.aload_n 0, 1) := by decide +kernel
theorem dX2_weigh_8 : decode cX2_weigh 8 = .ok (.getfield 26, 3) := by decide +kernel
theorem dX2_weigh_11 : decode cX2_weigh 11 = .ok (.if_icmp .ge 50, 3) := by decide +kernel
theorem dX2_weigh_14 : decode cX2_weigh 14 = .ok (.aload_n 0, 1) := by decide +kernel
theorem dX2_weigh_15 : decode cX2_weigh 15 = .ok (.getfield 22, 3) := by decide +kernel
theorem dX2_weigh_18 : decode cX2_weigh 18 = .ok (.iload 4, 2) := by decide +kernel
theorem dX2_weigh_20 : decode cX2_weigh 20 = .ok (.baload, 1) := by decide +kernel
theorem dX2_weigh_21 : decode cX2_weigh 21 = .ok (.ifCond .eq 34, 3) := by decide +kernel
theorem dX2_weigh_24 : decode cX2_weigh 24 = .ok (.aload_n 1, 1) := by decide +kernel
theorem dX2_weigh_25 : decode cX2_weigh 25 = .ok (.aload_n 0, 1) := by decide +kernel
theorem dX2_weigh_26 : decode cX2_weigh 26 = .ok (.getfield 9, 3) := by decide +kernel
theorem dX2_weigh_29 : decode cX2_weigh 29 = .ok (.iload 4, 2) := by decide +kernel
theorem dX2_weigh_31 : decode cX2_weigh 31 = .ok (.iaload, 1) := by decide +kernel
theorem dX2_weigh_32 : decode cX2_weigh 32 = .ok (.aload_n 0, 1) := by decide +kernel
theorem dX2_weigh_33 : decode cX2_weigh 33 = .ok (.getfield 15, 3) := by decide +kernel
theorem dX2_weigh_36 : decode cX2_weigh 36 = .ok (.iload 4, 2) := by decide +kernel
theorem dX2_weigh_38 : decode cX2_weigh 38 = .ok (.iaload, 1) := by decide +kernel
theorem dX2_weigh_39 : decode cX2_weigh 39 = .ok (.invokevirtual 51, 3) := by decide +kernel
theorem dX2_weigh_42 : decode cX2_weigh 42 = .ok (.ifCond .eq 13, 3) := by decide +kernel
theorem dX2_weigh_45 : decode cX2_weigh 45 = .ok (.lload_n 2, 1) := by decide +kernel
theorem dX2_weigh_46 : decode cX2_weigh 46 = .ok (.aload_n 0, 1) := by decide +kernel
theorem dX2_weigh_47 : decode cX2_weigh 47 = .ok (.getfield 18, 3) := by decide +kernel
theorem dX2_weigh_50 : decode cX2_weigh 50 = .ok (.iload 4, 2) := by decide +kernel
theorem dX2_weigh_52 : decode cX2_weigh 52 = .ok (.laload, 1) := by decide +kernel
theorem dX2_weigh_53 : decode cX2_weigh 53 = .ok (.ladd, 1) := by decide +kernel
theorem dX2_weigh_54 : decode cX2_weigh 54 = .ok (.lstore_n 2, 1) := by decide +kernel
theorem dX2_weigh_55 : decode cX2_weigh 55 = .ok (.iinc 4 1, 3) := by decide +kernel
theorem dX2_weigh_58 : decode cX2_weigh 58 = .ok (.goto (-53), 3) := by decide +kernel
theorem dX2_weigh_61 : decode cX2_weigh 61 = .ok (.lload_n 2, 1) := by decide +kernel
theorem dX2_weigh_62 : decode cX2_weigh 62 = .ok (.lreturn, 1) := by decide +kernel
theorem dX2_find_0 : decode cX2_find 0 = .ok (.iconst 0, 1) := by decide +kernel
theorem dX2_find_1 : decode cX2_find 1 = .ok (.istore_n 3, 1) := by decide +kernel
theorem dX2_find_2 : decode cX2_find 2 = .ok (.iload_n 3, 1) := by decide +kernel
theorem dX2_find_3 : decode cX2_find 3 = .ok (.aload_n 0, 1) := by decide +kernel
theorem dX2_find_4 : decode cX2_find 4 = .ok (.getfield 26, 3) := by decide +kernel
theorem dX2_find_7 : decode cX2_find 7 = .ok (.if_icmp .ge 31, 3) := by decide +kernel
theorem dX2_find_10 : decode cX2_find 10 = .ok (.aload_n 0, 1) := by decide +kernel
theorem dX2_find_11 : decode cX2_find 11 = .ok (.getfield 9, 3) := by decide +kernel
theorem dX2_find_14 : decode cX2_find 14 = .ok (.iload_n 3, 1) := by decide +kernel
theorem dX2_find_15 : decode cX2_find 15 = .ok (.iaload, 1) := by decide +kernel
theorem dX2_find_16 : decode cX2_find 16 = .ok (.iload_n 1, 1) := by decide +kernel
theorem dX2_find_17 : decode cX2_find 17 = .ok (.if_icmp .ne 15, 3) := by decide +kernel
theorem dX2_find_20 : decode cX2_find 20 = .ok (.aload_n 0, 1) := by decide +kernel
theorem dX2_find_21 : decode cX2_find 21 = .ok (.getfield 15, 3) := by decide +kernel
theorem dX2_find_24 : decode cX2_find 24 = .ok (.iload_n 3, 1) := by decide +kernel
theorem dX2_find_25 : decode cX2_find 25 = .ok (.iaload, 1) := by decide +kernel
theorem dX2_find_26 : decode cX2_find 26 = .ok (.iload_n 2, 1) := by decide +kernel
theorem dX2_find_27 : decode cX2_find 27 = .ok (.if_icmp .ne 5, 3) := by decide +kernel
theorem dX2_find_30 : decode cX2_find 30 = .ok (.iload_n 3, 1) := by decide +kernel
theorem dX2_find_31 : decode cX2_find 31 = .ok (.ireturn, 1) := by decide +kernel
theorem dX2_find_32 : decode cX2_find 32 = .ok (.iinc 3 1, 3) := by decide +kernel
theorem dX2_find_35 : decode cX2_find 35 = .ok (.goto (-33), 3) := by decide +kernel
theorem dX2_find_38 : decode cX2_find 38 = .ok (.iconst (-1), 1) := by decide +kernel
theorem dX2_find_39 : decode cX2_find 39 = .ok (.ireturn, 1) := by decide +kernel
theorem dX2_add_0 : decode cX2_add 0 = .ok (.aload_n 0, 1) := by decide +kernel
theorem dX2_add_1 : decode cX2_add 1 = .ok (.getfield 26, 3) := by decide +kernel
theorem dX2_add_4 : decode cX2_add 4 = .ok (.sipush 1000, 3) := by decide +kernel
theorem dX2_add_7 : decode cX2_add 7 = .ok (.if_icmp .lt 5, 3) := by decide +kernel
theorem dX2_add_10 : decode cX2_add 10 = .ok (.iconst (-1), 1) := by decide +kernel
theorem dX2_add_11 : decode cX2_add 11 = .ok (.ireturn, 1) := by decide +kernel
theorem dX2_add_12 : decode cX2_add 12 = .ok (.aload_n 0, 1) := by decide +kernel
theorem dX2_add_13 : decode cX2_add 13 = .ok (.getfield 26, 3) := by decide +kernel
theorem dX2_add_16 : decode cX2_add 16 = .ok (.istore_n 3, 1) := by decide +kernel
theorem dX2_add_17 : decode cX2_add 17 = .ok (.aload_n 0, 1) := by decide +kernel
theorem dX2_add_18 : decode cX2_add 18 = .ok (.getfield 9, 3) := by decide +kernel
theorem dX2_add_21 : decode cX2_add 21 = .ok (.iload_n 3, 1) := by decide +kernel
theorem dX2_add_22 : decode cX2_add 22 = .ok (.iload_n 1, 1) := by decide +kernel
theorem dX2_add_23 : decode cX2_add 23 = .ok (.iastore, 1) := by decide +kernel
theorem dX2_add_24 : decode cX2_add 24 = .ok (.aload_n 0, 1) := by decide +kernel
theorem dX2_add_25 : decode cX2_add 25 = .ok (.getfield 15, 3) := by decide +kernel
theorem dX2_add_28 : decode cX2_add 28 = .ok (.iload_n 3, 1) := by decide +kernel
theorem dX2_add_29 : decode cX2_add 29 = .ok (.iload_n 2, 1) := by decide +kernel
theorem dX2_add_30 : decode cX2_add 30 = .ok (.iastore, 1) := by decide +kernel
theorem dX2_add_31 : decode cX2_add 31 = .ok (.aload_n 0, 1) := by decide +kernel
theorem dX2_add_32 : decode cX2_add 32 = .ok (.getfield 18, 3) := by decide +kernel
end
section
theorem dX2_add_35 : decode cX2_add 35 = .ok (.iload_n 3, 1) := by decide +kernel
theorem dX2_add_36 : decode cX2_add 36 = .ok (.lconst 0, 1) := by decide +kernel
theorem dX2_add_37 : decode cX2_add 37 = .ok (.lastore, 1) := by decide +kernel
theorem dX2_add_38 : decode cX2_add 38 = .ok (.aload_n 0, 1) := by decide +kernel
theorem dX2_add_39 : decode cX2_add 39 = .ok (.dup, 1) := by decide +kernel
theorem dX2_add_40 : decode cX2_add 40 = .ok (.getfield 26, 3) := by decide +kernel
theorem dX2_add_43 : decode cX2_add 43 = .ok (.iconst 1, 1) := by decide +kernel
theorem dX2_add_44 : decode cX2_add 44 = .ok (.iadd, 1) := by decide +kernel
theorem dX2_add_45 : decode cX2_add 45 = .ok (.putfield 26, 3) := by decide +kernel
theorem dX2_add_48 : decode cX2_add 48 = .ok (.iload_n 3, 1) := by decide +kernel
theorem dX2_add_49 : decode cX2_add 49 = .ok (.ireturn, 1) := by decide +kernel
set_option maxRecDepth 20000 in
theorem ggX2_moveForward_X2_isBefore : GoodIn wsX2_moveForward wsX2_isBefore := goodIn_r _ [5, 6, 7, 8, 14, 15, 16, 17, 18] (by decide +kernel) (by decide +kernel)
set_option maxRecDepth 20000 in
theorem gX2_moveForward_X2_isBefore : GoodIn wsX2_moveForward (wsV RX2 57 RX2 yX2_isBefore wsX2_isBefore) := goodIn_app (goodIn_of _ (by decide +kernel)) ggX2_moveForward_X2_isBefore
set_option maxRecDepth 20000 in
theorem ggX2_moveForward_X2_swap : GoodIn wsX2_moveForward wsX2_swap := goodIn_r _ [12, 7, 8, 6, 13, 14, 15, 16, 17, 18] (by decide +kernel) (by decide +kernel)
set_option maxRecDepth 20000 in
theorem gX2_moveForward_X2_swap : GoodIn wsX2_moveForward (wsV RX2 60 RX2 yX2_swap wsX2_swap) := goodIn_app (goodIn_of _ (by decide +kernel)) ggX2_moveForward_X2_swap
theorem dX2_moveForward_0 : decode cX2_moveForward 0 = .ok (.iload_n 1, 1) := by decide +kernel
theorem dX2_moveForward_1 : decode cX2_moveForward 1 = .ok (.istore_n 2, 1) := by decide +kernel
theorem dX2_moveForward_2 : decode cX2_moveForward 2 = .ok (.iload_n 2, 1) := by decide +kernel
theorem dX2_moveForward_3 : decode cX2_moveForward 3 = .ok (.ifCond .le 28, 3) := by decide +kernel
theorem dX2_moveForward_6 : decode cX2_moveForward 6 = .ok (.aload_n 0, 1) := by decide +kernel
theorem dX2_moveForward_7 : decode cX2_moveForward 7 = .ok (.iload_n 2, 1) := by decide +kernel
theorem dX2_moveForward_8 : decode cX2_moveForward 8 = .ok (.iload_n 2, 1) := by decide +kernel
theorem dX2_moveForward_9 : decode cX2_moveForward 9 = .ok (.iconst 1, 1) := by decide +kernel
theorem dX2_moveForward_10 : decode cX2_moveForward 10 = .ok (.isub, 1) := by decide +kernel
theorem dX2_moveForward_11 : decode cX2_moveForward 11 = .ok (.invokevirtual 57, 3) := by decide +kernel
theorem dX2_moveForward_14 : decode cX2_moveForward 14 = .ok (.ifCond .eq 17, 3) := by decide +kernel
theorem dX2_moveForward_17 : decode cX2_moveForward 17 = .ok (.aload_n 0, 1) := by decide +kernel
theorem dX2_moveForward_18 : decode cX2_moveForward 18 = .ok (.iload_n 2, 1) := by decide +kernel
theorem dX2_moveForward_19 : decode cX2_moveForward 19 = .ok (.iload_n 2, 1) := by decide +kernel
theorem dX2_moveForward_20 : decode cX2_moveForward 20 = .ok (.iconst 1, 1) := by decide +kernel
theorem dX2_moveForward_21 : decode cX2_moveForward 21 = .ok (.isub, 1) := by decide +kernel
theorem dX2_moveForward_22 : decode cX2_moveForward 22 = .ok (.invokevirtual 60, 3) := by decide +kernel
theorem dX2_moveForward_25 : decode cX2_moveForward 25 = .ok (.iinc 2 (-1), 3) := by decide +kernel
theorem dX2_moveForward_28 : decode cX2_moveForward 28 = .ok (.goto (-26), 3) := by decide +kernel
theorem dX2_moveForward_31 : decode cX2_moveForward 31 = .ok (.return_, 1) := by decide +kernel
theorem dX2_isBefore_0 : decode cX2_isBefore 0 = .ok (.aload_n 0, 1) := by decide +kernel
theorem dX2_isBefore_1 : decode cX2_isBefore 1 = .ok (.getfield 18, 3) := by decide +kernel
theorem dX2_isBefore_4 : decode cX2_isBefore 4 = .ok (.iload_n 1, 1) := by decide +kernel
theorem dX2_isBefore_5 : decode cX2_isBefore 5 = .ok (.laload, 1) := by decide +kernel
theorem dX2_isBefore_6 : decode cX2_isBefore 6 = .ok (.aload_n 0, 1) := by decide +kernel
theorem dX2_isBefore_7 : decode cX2_isBefore 7 = .ok (.getfield 18, 3) := by decide +kernel
theorem dX2_isBefore_10 : decode cX2_isBefore 10 = .ok (.iload_n 2, 1) := by decide +kernel
theorem dX2_isBefore_11 : decode cX2_isBefore 11 = .ok (.laload, 1) := by decide +kernel
theorem dX2_isBefore_12 : decode cX2_isBefore 12 = .ok (.lcmp, 1) := by decide +kernel
theorem dX2_isBefore_13 : decode cX2_isBefore 13 = .ok (.ifCond .eq 25, 3) := by decide +kernel
theorem dX2_isBefore_16 : decode cX2_isBefore 16 = .ok (.aload_n 0, 1) := by decide +kernel
theorem dX2_isBefore_17 : decode cX2_isBefore 17 = .ok (.getfield 18, 3) := by decide +kernel
theorem dX2_isBefore_20 : decode cX2_isBefore 20 = .ok (.iload_n 1, 1) := by decide +kernel
theorem dX2_isBefore_21 : decode cX2_isBefore 21 = .ok (.laload, 1) := by decide +kernel
theorem dX2_isBefore_22 : decode cX2_isBefore 22 = .ok (.aload_n 0, 1) := by decide +kernel
theorem dX2_isBefore_23 : decode cX2_isBefore 23 = .ok (.getfield 18, 3) := by decide +kernel
theorem dX2_isBefore_26 : decode cX2_isBefore 26 = .ok (.iload_n 2, 1) := by decide +kernel
theorem dX2_isBefore_27 : decode cX2_isBefore 27 = .ok (.laload, 1) := by decide +kernel
theorem dX2_isBefore_28 : decode cX2_isBefore 28 = .ok (.lcmp, 1) := by decide +kernel
theorem dX2_isBefore_29 : decode cX2_isBefore 29 = .ok (.ifCond .le 7, 3) := by decide +kernel
theorem dX2_isBefore_32 : decode cX2_isBefore 32 = .ok (.iconst 1, 1) := by decide +kernel
theorem dX2_isBefore_33 : decode cX2_isBefore 33 = .ok (.goto 4, 3) := by decide +kernel
theorem dX2_isBefore_36 : decode cX2_isBefore 36 = .ok (.iconst 0, 1) := by decide +kernel
theorem dX2_isBefore_37 : decode cX2_isBefore 37 = .ok (.ireturn, 1) := by decide +kernel
theorem dX2_isBefore_38 : decode cX2_isBefore 38 = .ok (.aload_n 0, 1) := by decide +kernel
theorem dX2_isBefore_39 : decode cX2_isBefore 39 = .ok (.getfield 9, 3) := by decide +kernel
theorem dX2_isBefore_42 : decode cX2_isBefore 42 = .ok (.iload_n 1, 1) := by decide +kernel
theorem dX2_isBefore_43 : decode cX2_isBefore 43 = .ok (.iaload, 1) := by decide +kernel
theorem dX2_isBefore_44 : decode cX2_isBefore 44 = .ok (.aload_n 0, 1) := by decide +kernel
theorem dX2_isBefore_45 : decode cX2_isBefore 45 = .ok (.getfield 9, 3) := by decide +kernel
theorem dX2_isBefore_48 : decode cX2_isBefore 48 = .ok (.iload_n 2, 1) := by decide +kernel
theorem dX2_isBefore_49 : decode cX2_isBefore 49 = .ok (.iaload, 1) := by decide +kernel
theorem dX2_isBefore_50 : decode cX2_isBefore 50 = .ok (.if_icmp .eq 24, 3) := by decide +kernel
theorem dX2_isBefore_53 : decode cX2_isBefore 53 = .ok (.aload_n 0, 1) := by decide +kernel
theorem dX2_isBefore_54 : decode cX2_isBefore 54 = .ok (.getfield 9, 3) := by decide +kernel
theorem dX2_isBefore_57 : decode cX2_isBefore 57 = .ok (.iload_n 1, 1) := by decide +kernel
theorem dX2_isBefore_58 : decode cX2_isBefore 58 = .ok (.iaload, 1) := by decide +kernel
theorem dX2_isBefore_59 : decode cX2_isBefore 59 = .ok (.aload_n 0, 1) := by decide +kernel
theorem dX2_isBefore_60 : decode cX2_isBefore 60 = .ok (.getfield 9, 3) := by decide +kernel
theorem dX2_isBefore_63 : decode cX2_isBefore 63 = .ok (.iload_n 2, 1) := by decide +kernel
theorem dX2_isBefore_64 : decode cX2_isBefore 64 = .ok (.iaload, 1) := by decide +kernel
theorem dX2_isBefore_65 : decode cX2_isBefore 65 = .ok (.if_icmp .ge 7, 3) := by decide +kernel
theorem dX2_isBefore_68 : decode cX2_isBefore 68 = .ok (.iconst 1, 1) := by decide +kernel
theorem dX2_isBefore_69 : decode cX2_isBefore 69 = .ok (.goto 4, 3) := by decide +kernel
theorem dX2_isBefore_72 : decode cX2_isBefore 72 = .ok (.iconst 0, 1) := by decide +kernel
theorem dX2_isBefore_73 : decode cX2_isBefore 73 = .ok (.ireturn, 1) := by decide +kernel
theorem dX2_isBefore_74 : decode cX2_isBefore 74 = .ok (.aload_n 0, 1) := by decide +kernel
theorem dX2_isBefore_75 : decode cX2_isBefore 75 = .ok (.getfield 15, 3) := by decide +kernel
theorem dX2_isBefore_78 : decode cX2_isBefore 78 = .ok (.iload_n 1, 1) := by decide +kernel
theorem dX2_isBefore_79 : decode cX2_isBefore 79 = .ok (.iaload, 1) := by decide +kernel
theorem dX2_isBefore_80 : decode cX2_isBefore 80 = .ok (.aload_n 0, 1) := by decide +kernel
theorem dX2_isBefore_81 : decode cX2_isBefore 81 = .ok (.getfield 15, 3) := by decide +kernel
theorem dX2_isBefore_84 : decode cX2_isBefore 84 = .ok (.iload_n 2, 1) := by decide +kernel
theorem dX2_isBefore_85 : decode cX2_isBefore 85 = .ok (.iaload, 1) := by decide +kernel
theorem dX2_isBefore_86 : decode cX2_isBefore 86 = .ok (.if_icmp .ge 7, 3) := by decide +kernel
theorem dX2_isBefore_89 : decode cX2_isBefore 89 = .ok (.iconst 1, 1) := by decide +kernel
theorem dX2_isBefore_90 : decode cX2_isBefore 90 = .ok (.goto 4, 3) := by decide +kernel
theorem dX2_isBefore_93 : decode cX2_isBefore 93 = .ok (.iconst 0, 1) := by decide +kernel
theorem dX2_isBefore_94 : decode cX2_isBefore 94 = .ok (.ireturn, 1) := by decide +kernel
theorem dX2_swap_0 : decode cX2_swap 0 = .ok (.aload_n 0, 1) := by decide +kernel
theorem dX2_swap_1 : decode cX2_swap 1 = .ok (.getfield 9, 3) := by decide +kernel
theorem dX2_swap_4 : decode cX2_swap 4 = .ok (.iload_n 1, 1) := by decide +kernel
theorem dX2_swap_5 : decode cX2_swap 5 = .ok (.iaload, 1) := by decide +kernel
theorem dX2_swap_6 : decode cX2_swap 6 = .ok (.istore_n 3, 1) := by decide +kernel
theorem dX2_swap_7 : decode cX2_swap 7 = .ok (.aload_n 0, 1) := by decide +kernel
theorem dX2_swap_8 : decode cX2_swap 8 = .ok (.getfield 15, 3) := by decide +kernel
theorem dX2_swap_11 : decode cX2_swap 11 = .ok (.iload_n 1, 1) := by decide +kernel
theorem dX2_swap_12 : decode cX2_swap 12 = .ok (.iaload, 1) := by decide +kernel
theorem dX2_swap_13 : decode cX2_swap 13 = .ok (.istore 4, 2) := by decide +kernel
theorem dX2_swap_15 : decode cX2_swap 15 = .ok (.aload_n 0, 1) := by decide +kernel
theorem dX2_swap_16 : decode cX2_swap 16 = .ok (.getfield 18, 3) := by decide +kernel
theorem dX2_swap_19 : decode cX2_swap 19 = .ok (.iload_n 1, 1) := by decide +kernel
theorem dX2_swap_20 : decode cX2_swap 20 = .ok (.laload, 1) := by decide +kernel
theorem dX2_swap_21 : decode cX2_swap 21 = .ok (.lstore 5, 2) := by decide +kernel
theorem dX2_swap_23 : decode cX2_swap 23 = .ok (.aload_n 0, 1) := by decide +kernel
theorem dX2_swap_24 : decode cX2_swap 24 = .ok (.getfield 22, 3) := by decide +kernel
theorem dX2_swap_27 : decode cX2_swap 27 = .ok (.iload_n 1, 1) := by decide +kernel
theorem dX2_swap_28 : decode cX2_swap 28 = .ok (.baload, 1) := by decide +kernel
theorem dX2_swap_29 : decode cX2_swap 29 = .ok (.istore 7, 2) := by decide +kernel
theorem dX2_swap_31 : decode cX2_swap 31 = .ok (.aload_n 0, 1) := by decide +kernel
theorem dX2_swap_32 : decode cX2_swap 32 = .ok (.getfield 9, 3) := by decide +kernel
theorem dX2_swap_35 : decode cX2_swap 35 = .ok (.iload_n 1, 1) := by decide +kernel
theorem dX2_swap_36 : decode cX2_swap 36 = .ok (.aload_n 0, 1) := by decide +kernel
theorem dX2_swap_37 : decode cX2_swap 37 = .ok (.getfield 9, 3) := by decide +kernel
theorem dX2_swap_40 : decode cX2_swap 40 = .ok (.iload_n 2, 1) := by decide +kernel
theorem dX2_swap_41 : decode cX2_swap 41 = .ok (.iaload, 1) := by decide +kernel
theorem dX2_swap_42 : decode cX2_swap 42 = .ok (.iastore, 1) := by decide +kernel
theorem dX2_swap_43 : decode cX2_swap 43 = .ok (.aload_n 0, 1) := by decide +kernel
theorem dX2_swap_44 : decode cX2_swap 44 = .ok (.getfield 15, 3) := by decide +kernel
theorem dX2_swap_47 : decode cX2_swap 47 = .ok (.iload_n 1, 1) := by decide +kernel
theorem dX2_swap_48 : decode cX2_swap 48 = .ok (.aload_n 0, 1) := by decide +kernel
theorem dX2_swap_49 : decode cX2_swap 49 = .ok (.getfield 15, 3) := by decide +kernel
theorem dX2_swap_52 : decode cX2_swap 52 = .ok (.iload_n 2, 1) := by decide +kernel
theorem dX2_swap_53 : decode cX2_swap 53 = .ok (.iaload, 1) := by decide +kernel
theorem dX2_swap_54 : decode cX2_swap 54 = .ok (.iastore, 1) := by decide +kernel
theorem dX2_swap_55 : decode cX2_swap 55 = .ok (.aload_n 0, 1) := by decide +kernel
theorem dX2_swap_56 : decode cX2_swap 56 = .ok (.getfield 18, 3) := by decide +kernel
theorem dX2_swap_59 : decode cX2_swap 59 = .ok (.iload_n 1, 1) := by decide +kernel
theorem dX2_swap_60 : decode cX2_swap 60 = .ok (.aload_n 0, 1) := by decide +kernel
theorem dX2_swap_61 : decode cX2_swap 61 = .ok (.getfield 18, 3) := by decide +kernel
theorem dX2_swap_64 : decode cX2_swap 64 = .ok (.iload_n 2, 1) := by decide +kernel
theorem dX2_swap_65 : decode cX2_swap 65 = .ok (.laload, 1) := by decide +kernel
theorem dX2_swap_66 : decode cX2_swap 66 = .ok (.lastore, 1) := by decide +kernel
theorem dX2_swap_67 : decode cX2_swap 67 = .ok (.aload_n 0, 1) := by decide +kernel
theorem dX2_swap_68 : decode cX2_swap 68 = .ok (.getfield 22, 3) := by decide +kernel
theorem dX2_swap_71 : decode cX2_swap 71 = .ok (.iload_n 1, 1) := by decide +kernel
theorem dX2_swap_72 : decode cX2_swap 72 = .ok (.aload_n 0, 1) := by decide +kernel
theorem dX2_swap_73 : decode cX2_swap 73 = .ok (.getfield 22, 3) := by decide +kernel
theorem dX2_swap_76 : decode cX2_swap 76 = .ok (.iload_n 2, 1) := by decide +kernel
theorem dX2_swap_77 : decode cX2_swap 77 = .ok (.baload, 1) := by decide +kernel
theorem dX2_swap_78 : decode cX2_swap 78 = .ok (.bastore, 1) := by decide +kernel
theorem dX2_swap_79 : decode cX2_swap 79 = .ok (.aload_n 0, 1) := by decide +kernel
theorem dX2_swap_80 : decode cX2_swap 80 = .ok (.getfield 9, 3) := by decide +kernel
theorem dX2_swap_83 : decode cX2_swap 83 = .ok (.iload_n 2, 1) := by decide +kernel
theorem dX2_swap_84 : decode cX2_swap 84 = .ok (.iload_n 3, 1) := by decide +kernel
theorem dX2_swap_85 : decode cX2_swap 85 = .ok (.iastore, 1) := by decide +kernel
theorem dX2_swap_86 : decode cX2_swap 86 = .ok (.aload_n 0, 1) := by decide +kernel
theorem dX2_swap_87 : decode cX2_swap 87 = .ok (.getfield 15, 3) := by decide +kernel
theorem dX2_swap_90 : decode cX2_swap 90 = .ok (.iload_n 2, 1) := by decide +kernel
theorem dX2_swap_91 : decode cX2_swap 91 = .ok (.iload 4, 2) := by decide +kernel
theorem dX2_swap_93 : decode cX2_swap 93 = .ok (.iastore, 1) := by decide +kernel
theorem dX2_swap_94 : decode cX2_swap 94 = .ok (.aload_n 0, 1) := by decide +kernel
theorem dX2_swap_95 : decode cX2_swap 95 = .ok (.getfield 18, 3) := by decide +kernel
theorem dX2_swap_98 : decode cX2_swap 98 = .ok (.iload_n 2, 1) := by decide +kernel
theorem dX2_swap_99 : decode cX2_swap 99 = .ok (.lload 5, 2) := by decide +kernel
theorem dX2_swap_101 : decode cX2_swap 101 = .ok (.lastore, 1) := by decide +kernel
theorem dX2_swap_102 : decode cX2_swap 102 = .ok (.aload_n 0, 1) := by decide +kernel
theorem dX2_swap_103 : decode cX2_swap 103 = .ok (.getfield 22, 3) := by decide +kernel
theorem dX2_swap_106 : decode cX2_swap 106 = .ok (.iload_n 2, 1) := by decide +kernel
theorem dX2_swap_107 : decode cX2_swap 107 = .ok (.iload 7, 2) := by decide +kernel
theorem dX2_swap_109 : decode cX2_swap 109 = .ok (.bastore, 1) := by decide +kernel
theorem dX2_swap_110 : decode cX2_swap 110 = .ok (.return_, 1) := by decide +kernel
set_option maxRecDepth 20000 in
theorem ggX3_init_X2_init : GoodIn wsX3_init wsX2_init := goodIn_r _ [23, 24, 2, 3, 25, 26, 27, 28, 29, 4, 30, 53, 54, 55, 56, 57] (by decide +kernel) (by decide +kernel)
set_option maxRecDepth 20000 in
theorem gX3_init_X2_init_n15 : GoodIn wsX3_init (wsX2_init) := ggX3_init_X2_init
set_option maxRecDepth 20000 in
theorem ggX3_init_X0_init : GoodIn wsX3_init wsX0_init := goodIn_r _ [32, 33, 2, 3, 25, 34, 35, 28, 36, 58, 59, 60] (by decide +kernel) (by decide +kernel)
set_option maxRecDepth 20000 in
theorem gX3_init_X0_init_n22 : GoodIn wsX3_init (wsX0_init) := ggX3_init_X0_init
set_option maxRecDepth 20000 in
theorem ggX3_init_X1_init : GoodIn wsX3_init wsX1_init := goodIn_r _ [38, 39, 2, 3, 25, 40, 41, 61, 62, 63] (by decide +kernel) (by decide +kernel)
set_option maxRecDepth 20000 in
theorem gX3_init_X1_init_n29 : GoodIn wsX3_init (wsX1_init) := ggX3_init_X1_init
theorem dX3_init_0 : decode cX3_init 0 = .ok (.aload_n 0, 1) := by decide +kernel
theorem dX3_init_1 : decode cX3_init 1 = .ok (.invokespecial 1, 3) := by decide +kernel
theorem dX3_init_4 : decode cX3_init 4 = .ok (.aload_n 0, 1) := by decide +kernel
theorem dX3_init_5 : decode cX3_init 5 = .ok (.sipush 200, 3) := by decide +kernel
theorem dX3_init_8 : decode cX3_init 8 = .ok (.newarray .boolean, 2) := by decide +kernel
theorem dX3_init_10 : decode cX3_init 10 = .ok (.putfield 9, 3) := by decide +kernel
theorem dX3_init_13 : decode cX3_init 13 = .ok (.aload_n 0, 1) := by decide +kernel
theorem dX3_init_14 : decode cX3_init 14 = .ok (.new 13, 3) := by decide +kernel
theorem dX3_init_17 : decode cX3_init 17 = .ok (.dup, 1) := by decide +kernel
theorem dX3_init_18 : decode cX3_init 18 = .ok (.invokespecial 15, 3) := by decide +kernel
theorem dX3_init_21 : decode cX3_init 21 = .ok (.putfield 16, 3) := by decide +kernel
theorem dX3_init_24 : decode cX3_init 24 = .ok (.aload_n 0, 1) := by decide +kernel
theorem dX3_init_25 : decode cX3_init 25 = .ok (.new 20, 3) := by decide +kernel
theorem dX3_init_28 : decode cX3_init 28 = .ok (.dup, 1) := by decide +kernel
theorem dX3_init_29 : decode cX3_init 29 = .ok (.invokespecial 22, 3) := by decide +kernel
theorem dX3_init_32 : decode cX3_init 32 = .ok (.putfield 23, 3) := by decide +kernel
theorem dX3_init_35 : decode cX3_init 35 = .ok (.aload_n 0, 1) := by decide +kernel
theorem dX3_init_36 : decode cX3_init 36 = .ok (.new 27, 3) := by decide +kernel
theorem dX3_init_39 : decode cX3_init 39 = .ok (.dup, 1) := by decide +kernel
theorem dX3_init_40 : decode cX3_init 40 = .ok (.invokespecial 29, 3) := by decide +kernel
theorem dX3_init_43 : decode cX3_init 43 = .ok (.putfield 30, 3) := by decide +kernel
theorem dX3_init_46 : decode cX3_init 46 = .ok (.aload_n 0, 1) := by decide +kernel
theorem dX3_init_47 : decode cX3_init 47 = .ok (.new 27, 3) := by decide +kernel
theorem dX3_init_50 : decode cX3_init 50 = .ok (.dup, 1) := by decide +kernel
theorem dX3_init_51 : decode cX3_init 51 = .ok (.invokespecial 29, 3) := by decide +kernel
theorem dX3_init_54 : decode cX3_init 54 = .ok (.putfield 34, 3) := by decide +kernel
theorem dX3_init_57 : decode cX3_init 57 = .ok (.aload_n 0, 1) := by decide +kernel
theorem dX3_init_58 : decode cX3_init 58 = .ok (.new 27, 3) := by decide +kernel
theorem dX3_init_61 : decode cX3_init 61 = .ok (.dup, 1) := by decide +kernel
theorem dX3_init_62 : decode cX3_init 62 = .ok (.invokespecial 29, 3) := by decide +kernel
theorem dX3_init_65 : decode cX3_init 65 = .ok (.putfield 37, 3) := by decide +kernel
theorem dX3_init_68 : decode cX3_init 68 = .ok (.aload_n 0, 1) := by decide +kernel
theorem dX3_init_69 : decode cX3_init 69 = .ok (.iconst 1, 1) := by decide +kernel
theorem dX3_init_70 : decode cX3_init 70 = .ok (.putfield 40, 3) := by decide +kernel
theorem dX3_init_73 : decode cX3_init 73 = .ok (.aload_n 0, 1) := by decide +kernel
theorem dX3_init_74 : decode cX3_init 74 = .ok (.iconst 1, 1) := by decide +kernel
theorem dX3_init_75 : decode cX3_init 75 = .ok (.putfield 44, 3) := by decide +kernel
theorem dX3_init_78 : decode cX3_init 78 = .ok (.return_, 1) := by decide +kernel
set_option maxRecDepth 20000 in
theorem ggX3_size_X2_forget : GoodIn wsX3_size wsX2_forget := goodIn_r _ [9, 10, 22, 23, 24, 25, 26] (by decide +kernel) (by decide +kernel)
set_option maxRecDepth 20000 in
theorem gX3_size_X2_forget : GoodIn wsX3_size (wsV RX3 48 RX2 yX2_forget wsX2_forget) := goodIn_app (goodIn_of _ (by decide +kernel)) ggX3_size_X2_forget
theorem dX3_size_0 : decode cX3_size 0 = .ok (.iload_n 1, 1) := by decide +kernel
theorem dX3_size_1 : decode cX3_size 1 = .ok (.iconst 1, 1) := by decide +kernel
theorem dX3_size_2 : decode cX3_size 2 = .ok (.if_icmp .lt 10, 3) := by decide +kernel
theorem dX3_size_5 : decode cX3_size 5 = .ok (.iload_n 1, 1) := by decide +kernel
theorem dX3_size_6 : decode cX3_size 6 = .ok (.sipush 200, 3) := by decide +kernel
theorem dX3_size_9 : decode cX3_size 9 = .ok (.if_icmp .le 5, 3) := by decide +kernel
theorem dX3_size_12 : decode cX3_size 12 = .ok (.iconst 0, 1) := by decide +kernel
theorem dX3_size_13 : decode cX3_size 13 = .ok (.ireturn, 1) := by decide +kernel
theorem dX3_size_14 : decode cX3_size 14 = .ok (.aload_n 0, 1) := by decide +kernel
theorem dX3_size_15 : decode cX3_size 15 = .ok (.iload_n 1, 1) := by decide +kernel
theorem dX3_size_16 : decode cX3_size 16 = .ok (.putfield 40, 3) := by decide +kernel
theorem dX3_size_19 : decode cX3_size 19 = .ok (.iconst 0, 1) := by decide +kernel
theorem dX3_size_20 : decode cX3_size 20 = .ok (.istore_n 2, 1) := by decide +kernel
theorem dX3_size_21 : decode cX3_size 21 = .ok (.iload_n 2, 1) := by decide +kernel
theorem dX3_size_22 : decode cX3_size 22 = .ok (.sipush 200, 3) := by decide +kernel
theorem dX3_size_25 : decode cX3_size 25 = .ok (.if_icmp .ge 16, 3) := by decide +kernel
theorem dX3_size_28 : decode cX3_size 28 = .ok (.aload_n 0, 1) := by decide +kernel
theorem dX3_size_29 : decode cX3_size 29 = .ok (.getfield 9, 3) := by decide +kernel
theorem dX3_size_32 : decode cX3_size 32 = .ok (.iload_n 2, 1) := by decide +kernel
theorem dX3_size_33 : decode cX3_size 33 = .ok (.iconst 0, 1) := by decide +kernel
theorem dX3_size_34 : decode cX3_size 34 = .ok (.bastore, 1) := by decide +kernel
theorem dX3_size_35 : decode cX3_size 35 = .ok (.iinc 2 1, 3) := by decide +kernel
theorem dX3_size_38 : decode cX3_size 38 = .ok (.goto (-17), 3) := by decide +kernel
theorem dX3_size_41 : decode cX3_size 41 = .ok (.aload_n 0, 1) := by decide +kernel
theorem dX3_size_42 : decode cX3_size 42 = .ok (.getfield 16, 3) := by decide +kernel
theorem dX3_size_45 : decode cX3_size 45 = .ok (.invokevirtual 48, 3) := by decide +kernel
theorem dX3_size_48 : decode cX3_size 48 = .ok (.aload_n 0, 1) := by decide +kernel
theorem dX3_size_49 : decode cX3_size 49 = .ok (.iconst 1, 1) := by decide +kernel
theorem dX3_size_50 : decode cX3_size 50 = .ok (.putfield 44, 3) := by decide +kernel
theorem dX3_size_53 : decode cX3_size 53 = .ok (.iconst 1, 1) := by decide +kernel
theorem dX3_size_54 : decode cX3_size 54 = .ok (.ireturn, 1) := by decide +kernel
set_option maxRecDepth 20000 in
theorem ggX3_heat_X3_isBlock : GoodIn wsX3_heat wsX3_isBlock := goodIn_r _ [7, 8, 9, 10, 11, 12, 13, 14, 15, 16, 17, 18, 19] (by decide +kernel) (by decide +kernel)
set_option maxRecDepth 20000 in
theorem gX3_heat_X3_isBlock : GoodIn wsX3_heat (wsV RX3 51 RX3 yX3_isBlock wsX3_isBlock) := goodIn_app (goodIn_of _ (by decide +kernel)) ggX3_heat_X3_isBlock
theorem dX3_heat_0 : decode cX3_heat 0 = .ok (.aload_n 0, 1) := by decide +kernel
theorem dX3_heat_1 : decode cX3_heat 1 = .ok (.iload_n 1, 1) := by decide +kernel
theorem dX3_heat_2 : decode cX3_heat 2 = .ok (.invokevirtual 51, 3) := by decide +kernel
theorem dX3_heat_5 : decode cX3_heat 5 = .ok (.ifCond .ne 5, 3) := by decide +kernel
theorem dX3_heat_8 : decode cX3_heat 8 = .ok (.iconst 0, 1) := by decide +kernel
theorem dX3_heat_9 : decode cX3_heat 9 = .ok (.ireturn, 1) := by decide +kernel
theorem dX3_heat_10 : decode cX3_heat 10 = .ok (.aload_n 0, 1) := by decide +kernel
theorem dX3_heat_11 : decode cX3_heat 11 = .ok (.getfield 9, 3) := by decide +kernel
theorem dX3_heat_14 : decode cX3_heat 14 = .ok (.iload_n 1, 1) := by decide +kernel
theorem dX3_heat_15 : decode cX3_heat 15 = .ok (.iload_n 2, 1) := by decide +kernel
theorem dX3_heat_16 : decode cX3_heat 16 = .ok (.bastore, 1) := by decide +kernel
theorem dX3_heat_17 : decode cX3_heat 17 = .ok (.aload_n 0, 1) := by decide +kernel
theorem dX3_heat_18 : decode cX3_heat 18 = .ok (.iconst 1, 1) := by decide +kernel
theorem dX3_heat_19 : decode cX3_heat 19 = .ok (.putfield 44, 3) := by decide +kernel
theorem dX3_heat_22 : decode cX3_heat 22 = .ok (.iconst 1, 1) := by decide +kernel
theorem dX3_heat_23 : decode cX3_heat 23 = .ok (.ireturn, 1) := by decide +kernel
set_option maxRecDepth 20000 in
theorem ggX3_way_X3_isBlock : GoodIn wsX3_way wsX3_isBlock := goodIn_r _ [10, 11, 48, 49, 50, 51, 52, 53, 54, 55, 56, 57, 58] (by decide +kernel) (by decide +kernel)
set_option maxRecDepth 20000 in
theorem gX3_way_X3_isBlock : GoodIn wsX3_way (wsV RX3 51 RX3 yX3_isBlock wsX3_isBlock) := goodIn_app (goodIn_of _ (by decide +kernel)) ggX3_way_X3_isBlock
set_option maxRecDepth 20000 in
theorem ggX3_way_X2_tell : GoodIn wsX3_way wsX2_tell := goodIn_r _ [16, 17, 18, 19, 20, 21, 22, 23, 24, 25, 26, 27, 15, 28, 29, 30, 31, 32, 33, 34, 35, 36, 37, 38, 39, 40, 41, 42, 43, 44, 45, 46, 47, 59, 60, 61, 62, 63] (by decide +kernel) (by decide +kernel)
set_option maxRecDepth 20000 in
theorem gX3_way_X2_tell : GoodIn wsX3_way (wsV RX3 60 RX2 yX2_tell wsX2_tell) := goodIn_app (goodIn_of _ (by decide +kernel)) ggX3_way_X2_tell
theorem dX3_way_0 : decode cX3_way 0 = .ok (.aload_n 0, 1) := by decide +kernel
theorem dX3_way_1 : decode cX3_way 1 = .ok (.iload_n 1, 1) := by decide +kernel
theorem dX3_way_2 : decode cX3_way 2 = .ok (.invokevirtual 51, 3) := by decide +kernel
theorem dX3_way_5 : decode cX3_way 5 = .ok (.ifCond .eq 11, 3) := by decide +kernel
theorem dX3_way_8 : decode cX3_way 8 = .ok (.aload_n 0, 1) := by decide +kernel
theorem dX3_way_9 : decode cX3_way 9 = .ok (.iload_n 2, 1) := by decide +kernel
theorem dX3_way_10 : decode cX3_way 10 = .ok (.invokevirtual 51, 3) := by decide +kernel
theorem dX3_way_13 : decode cX3_way 13 = .ok (.ifCond .ne 7, 3) := by decide +kernel
theorem dX3_way_16 : decode cX3_way 16 = .ok (.ldc2_w 55, 3) := by decide +kernel
theorem dX3_way_19 : decode cX3_way 19 = .ok (.lreturn, 1) := by decide +kernel
theorem dX3_way_20 : decode cX3_way 20 = .ok (.iload_n 3, 1) := by decide +kernel
theorem dX3_way_21 : decode cX3_way 21 = .ok (.ifCond .lt 9, 3) := by decide +kernel
theorem dX3_way_24 : decode cX3_way 24 = .ok (.iload_n 3, 1) := by decide +kernel
theorem dX3_way_25 : decode cX3_way 25 = .ok (.ldc 57, 2) := by decide +kernel
theorem dX3_way_27 : decode cX3_way 27 = .ok (.if_icmp .le 7, 3) := by decide +kernel
theorem dX3_way_30 : decode cX3_way 30 = .ok (.ldc2_w 58, 3) := by decide +kernel
theorem dX3_way_33 : decode cX3_way 33 = .ok (.lreturn, 1) := by decide +kernel
theorem dX3_way_34 : decode cX3_way 34 = .ok (.aload_n 0, 1) := by decide +kernel
theorem dX3_way_35 : decode cX3_way 35 = .ok (.iconst 1, 1) := by decide +kernel
theorem dX3_way_36 : decode cX3_way 36 = .ok (.putfield 44, 3) := by decide +kernel
theorem dX3_way_39 : decode cX3_way 39 = .ok (.aload_n 0, 1) := by decide +kernel
theorem dX3_way_40 : decode cX3_way 40 = .ok (.getfield 16, 3) := by decide +kernel
theorem dX3_way_43 : decode cX3_way 43 = .ok (.iload_n 1, 1) := by decide +kernel
theorem dX3_way_44 : decode cX3_way 44 = .ok (.iload_n 2, 1) := by decide +kernel
theorem dX3_way_45 : decode cX3_way 45 = .ok (.iload_n 3, 1) := by decide +kernel
theorem dX3_way_46 : decode cX3_way 46 = .ok (.iload 4, 2) := by decide +kernel
theorem dX3_way_48 : decode cX3_way 48 = .ok (.invokevirtual 60, 3) := by decide +kernel
theorem dX3_way_51 : decode cX3_way 51 = .ok (.lreturn, 1) := by decide +kernel
set_option maxRecDepth 20000 in
theorem ggX3_count_X2_told : GoodIn wsX3_count wsX2_told := goodIn_r _ [6, 7, 8, 9, 10, 5, 11, 12, 13, 14, 26, 27, 28, 29, 30] (by decide +kernel) (by decide +kernel)
set_option maxRecDepth 20000 in
theorem gX3_count_X2_told : GoodIn wsX3_count (wsV RX3 64 RX2 yX2_told wsX2_told) := goodIn_app (goodIn_of _ (by decide +kernel)) ggX3_count_X2_told
theorem dX3_count_0 : decode cX3_count 0 = .ok (.aload_n 0, 1) := by decide +kernel
theorem dX3_count_1 : decode cX3_count 1 = .ok (.getfield 16, 3) := by decide +kernel
theorem dX3_count_4 : decode cX3_count 4 = .ok (.iload_n 1, 1) := by decide +kernel
theorem dX3_count_5 : decode cX3_count 5 = .ok (.iload_n 2, 1) := by decide +kernel
theorem dX3_count_6 : decode cX3_count 6 = .ok (.invokevirtual 64, 3) := by decide +kernel
theorem dX3_count_9 : decode cX3_count 9 = .ok (.lreturn, 1) := by decide +kernel
set_option maxRecDepth 20000 in
theorem ggX3_length_X3_refresh : GoodIn wsX3_length wsX3_refresh := goodIn_r _ [6, 7, 8, 1, 9, 10, 11, 12, 13, 14, 15, 16, 17, 5, 18, 19, 20, 21, 22, 23, 24, 25, 26, 27, 28, 29, 30, 31, 32, 33, 34, 35, 36, 37, 38, 39, 40, 41, 42, 43, 44, 45, 46, 47, 48, 49, 50, 51, 52, 53, 54, 55, 56, 57, 58, 59, 60, 61, 62, 63, 64, 65, 66, 67, 68, 69, 70, 71, 72, 73, 74, 75, 76, 77, 78, 79, 80, 81, 82, 83, 84, 85, 86, 87, 88, 89, 90, 91, 92, 93, 94, 95, 96, 97, 98, 99, 100, 101, 102, 103, 104, 105, 106, 107, 108, 109, 110, 111, 112, 113, 114, 115, 116, 117, 118, 119, 120, 121, 122, 123, 124, 125, 126, 127, 128, 129, 130, 131, 132, 133] (by decide +kernel) (by decide +kernel)
set_option maxRecDepth 20000 in
theorem gX3_length_X3_refresh : GoodIn wsX3_length (wsV RX3 68 RX3 yX3_refresh wsX3_refresh) := goodIn_app (goodIn_of _ (by decide +kernel)) ggX3_length_X3_refresh
theorem dX3_length_0 : decode cX3_length 0 = .ok (.aload_n 0, 1) := by decide +kernel
theorem dX3_length_1 : decode cX3_length 1 = .ok (.invokevirtual 68, 3) := by decide +kernel
theorem dX3_length_4 : decode cX3_length 4 = .ok (.aload_n 0, 1) := by decide +kernel
theorem dX3_length_5 : decode cX3_length 5 = .ok (.getfield 34, 3) := by decide +kernel
theorem dX3_length_8 : decode cX3_length 8 = .ok (.getfield 71, 3) := by decide +kernel
theorem dX3_length_11 : decode cX3_length 11 = .ok (.ireturn, 1) := by decide +kernel
set_option maxRecDepth 20000 in
theorem ggX3_row_X3_refresh : GoodIn wsX3_row wsX3_refresh := goodIn_r _ [7, 8, 9, 2, 10, 1, 11, 12, 13, 14, 15, 16, 17, 6, 18, 19, 20, 21, 22, 23, 24, 25, 26, 27, 28, 29, 30, 31, 32, 33, 34, 35, 36, 37, 38, 39, 40, 41, 42, 43, 44, 45, 46, 47, 48, 49, 50, 51, 52, 53, 54, 55, 56, 57, 58, 59, 60, 61, 62, 63, 64, 65, 66, 67, 68, 69, 70, 71, 72, 73, 74, 75, 76, 77, 78, 79, 80, 81, 82, 83, 84, 85, 86, 87, 88, 89, 90, 91, 92, 93, 94, 95, 96, 97, 98, 99, 100, 101, 102, 103, 104, 105, 106, 107, 108, 109, 110, 111, 117, 118, 119, 120, 121, 122, 123, 124, 125, 126, 127, 128, 129, 130, 131, 132, 133, 134, 135, 136, 137, 138] (by decide +kernel) (by decide +kernel)
set_option maxRecDepth 20000 in
theorem gX3_row_X3_refresh : GoodIn wsX3_row (wsV RX3 68 RX3 yX3_refresh wsX3_refresh) := goodIn_app (goodIn_of _ (by decide +kernel)) ggX3_row_X3_refresh
set_option maxRecDepth 20000 in
theorem ggX3_row_X3_chainsAreBetter : GoodIn wsX3_row wsX3_chainsAreBetter := goodIn_r _ [115, 14, 13, 117, 118, 119, 120, 121, 122, 123, 124, 125, 126, 127] (by decide +kernel) (by decide +kernel)
set_option maxRecDepth 20000 in
theorem gX3_row_X3_chainsAreBetter : GoodIn wsX3_row (wsV RX3 74 RX3 yX3_chainsAreBetter wsX3_chainsAreBetter) := goodIn_app (goodIn_of _ (by decide +kernel)) ggX3_row_X3_chainsAreBetter
set_option maxRecDepth 20000 in
theorem ggX3_row_X1_blockAt : GoodIn wsX3_row wsX1_blockAt := goodIn_r _ [83, 26, 36, 128, 129, 130] (by decide +kernel) (by decide +kernel)
set_option maxRecDepth 20000 in
theorem gX3_row_X1_blockAt : GoodIn wsX3_row (wsV RX3 78 RX1 yX1_blockAt wsX1_blockAt) := goodIn_app (goodIn_of _ (by decide +kernel)) ggX3_row_X1_blockAt
theorem dX3_row_0 : decode cX3_row 0 = .ok (.aload_n 0, 1) := by decide +kernel
theorem dX3_row_1 : decode cX3_row 1 = .ok (.invokevirtual 68, 3) := by decide +kernel
theorem dX3_row_4 : decode cX3_row 4 = .ok (.aload_n 0, 1) := by decide +kernel
theorem dX3_row_5 : decode cX3_row 5 = .ok (.invokevirtual 74, 3) := by decide +kernel
theorem dX3_row_8 : decode cX3_row 8 = .ok (.ifCond .eq 14, 3) := by decide +kernel
theorem dX3_row_11 : decode cX3_row 11 = .ok (.aload_n 0, 1) := by decide +kernel
theorem dX3_row_12 : decode cX3_row 12 = .ok (.getfield 37, 3) := by decide +kernel
theorem dX3_row_15 : decode cX3_row 15 = .ok (.iload_n 1, 1) := by decide +kernel
theorem dX3_row_16 : decode cX3_row 16 = .ok (.invokevirtual 78, 3) := by decide +kernel
theorem dX3_row_19 : decode cX3_row 19 = .ok (.goto 11, 3) := by decide +kernel
theorem dX3_row_22 : decode cX3_row 22 = .ok (.aload_n 0, 1) := by decide +kernel
theorem dX3_row_23 : decode cX3_row 23 = .ok (.getfield 34, 3) := by decide +kernel
theorem dX3_row_26 : decode cX3_row 26 = .ok (.iload_n 1, 1) := by decide +kernel
theorem dX3_row_27 : decode cX3_row 27 = .ok (.invokevirtual 78, 3) := by decide +kernel
theorem dX3_row_30 : decode cX3_row 30 = .ok (.ireturn, 1) := by decide +kernel
set_option maxRecDepth 20000 in
theorem ggX3_weight_X3_refresh : GoodIn wsX3_weight wsX3_refresh := goodIn_r _ [9, 10, 11, 12, 13, 14, 15, 3, 2, 1, 16, 17, 18, 8, 19, 20, 21, 22, 23, 24, 25, 26, 27, 28, 29, 30, 31, 32, 33, 34, 35, 36, 37, 38, 39, 40, 41, 42, 43, 44, 45, 46, 47, 48, 49, 50, 51, 52, 53, 54, 55, 56, 57, 58, 59, 60, 61, 62, 63, 64, 65, 66, 67, 68, 69, 70, 71, 72, 73, 74, 75, 76, 77, 78, 79, 80, 81, 82, 83, 84, 85, 86, 87, 88, 89, 90, 91, 92, 93, 94, 95, 96, 97, 98, 99, 100, 101, 102, 103, 104, 105, 106, 107, 108, 109, 110, 111, 112, 117, 118, 119, 120, 121, 122, 123, 124, 125, 126, 127, 128, 129, 130, 131, 132, 133, 134, 135, 136, 137, 138] (by decide +kernel) (by decide +kernel)
set_option maxRecDepth 20000 in
theorem gX3_weight_X3_refresh : GoodIn wsX3_weight (wsV RX3 68 RX3 yX3_refresh wsX3_refresh) := goodIn_app (goodIn_of _ (by decide +kernel)) ggX3_weight_X3_refresh
set_option maxRecDepth 20000 in
theorem ggX3_weight_X3_chainsAreBetter : GoodIn wsX3_weight wsX3_chainsAreBetter := goodIn_r _ [116, 1, 2, 117, 118, 119, 120, 121, 122, 123, 124, 125, 126, 127] (by decide +kernel) (by decide +kernel)
set_option maxRecDepth 20000 in
theorem gX3_weight_X3_chainsAreBetter : GoodIn wsX3_weight (wsV RX3 74 RX3 yX3_chainsAreBetter wsX3_chainsAreBetter) := goodIn_app (goodIn_of _ (by decide +kernel)) ggX3_weight_X3_chainsAreBetter
theorem dX3_weight_0 : decode cX3_weight 0 = .ok (.aload_n 0, 1) := by decide +kernel
theorem dX3_weight_1 : decode cX3_weight 1 = .ok (.invokevirtual 68, 3) := by decide +kernel
theorem dX3_weight_4 : decode cX3_weight 4 = .ok (.iload_n 1, 1) := by decide +kernel
theorem dX3_weight_5 : decode cX3_weight 5 = .ok (.tableswitch 65 0 3 #[31, 50, 55, 60], 31) := by decide +kernel
theorem dX3_weight_36 : decode cX3_weight 36 = .ok (.aload_n 0, 1) := by decide +kernel
theorem dX3_weight_37 : decode cX3_weight 37 = .ok (.invokevirtual 74, 3) := by decide +kernel
theorem dX3_weight_40 : decode cX3_weight 40 = .ok (.ifCond .eq 10, 3) := by decide +kernel
theorem dX3_weight_43 : decode cX3_weight 43 = .ok (.aload_n 0, 1) := by decide +kernel
theorem dX3_weight_44 : decode cX3_weight 44 = .ok (.getfield 82, 3) := by decide +kernel
theorem dX3_weight_47 : decode cX3_weight 47 = .ok (.goto 7, 3) := by decide +kernel
theorem dX3_weight_50 : decode cX3_weight 50 = .ok (.aload_n 0, 1) := by decide +kernel
theorem dX3_weight_51 : decode cX3_weight 51 = .ok (.getfield 86, 3) := by decide +kernel
theorem dX3_weight_54 : decode cX3_weight 54 = .ok (.lreturn, 1) := by decide +kernel
theorem dX3_weight_55 : decode cX3_weight 55 = .ok (.aload_n 0, 1) := by decide +kernel
theorem dX3_weight_56 : decode cX3_weight 56 = .ok (.getfield 86, 3) := by decide +kernel
theorem dX3_weight_59 : decode cX3_weight 59 = .ok (.lreturn, 1) := by decide +kernel
theorem dX3_weight_60 : decode cX3_weight 60 = .ok (.aload_n 0, 1) := by decide +kernel
theorem dX3_weight_61 : decode cX3_weight 61 = .ok (.getfield 89, 3) := by decide +kernel
theorem dX3_weight_64 : decode cX3_weight 64 = .ok (.lreturn, 1) := by decide +kernel
theorem dX3_weight_65 : decode cX3_weight 65 = .ok (.aload_n 0, 1) := by decide +kernel
theorem dX3_weight_66 : decode cX3_weight 66 = .ok (.getfield 82, 3) := by decide +kernel
theorem dX3_weight_69 : decode cX3_weight 69 = .ok (.lreturn, 1) := by decide +kernel
theorem dX3_weight_70 : decode cX3_weight 70 = .ok (.ldc2_w 55, 3) := by decide +kernel
theorem dX3_weight_73 : decode cX3_weight 73 = .ok (.lreturn, 1) := by decide +kernel
set_option maxRecDepth 20000 in
theorem ggX3_chain_X3_refresh : GoodIn wsX3_chain wsX3_refresh := goodIn_r _ [6, 7, 1, 8, 9, 10, 11, 12, 13, 14, 15, 16, 17, 5, 18, 19, 20, 21, 22, 23, 24, 25, 26, 27, 28, 29, 30, 31, 32, 33, 34, 35, 36, 37, 38, 39, 40, 41, 42, 43, 44, 45, 46, 47, 48, 49, 50, 51, 52, 53, 54, 55, 56, 57, 58, 59, 60, 61, 62, 63, 64, 65, 66, 67, 68, 69, 70, 71, 72, 73, 74, 75, 76, 77, 78, 79, 80, 81, 82, 83, 84, 85, 86, 87, 88, 89, 90, 91, 92, 93, 94, 95, 96, 97, 98, 99, 100, 101, 102, 103, 104, 105, 106, 107, 108, 109, 110, 111, 117, 118, 119, 120, 121, 122, 123, 124, 125, 126, 127, 128, 129, 130, 131, 132, 133, 134, 135, 136, 137, 138] (by decide +kernel) (by decide +kernel)
set_option maxRecDepth 20000 in
theorem gX3_chain_X3_refresh : GoodIn wsX3_chain (wsV RX3 68 RX3 yX3_refresh wsX3_refresh) := goodIn_app (goodIn_of _ (by decide +kernel)) ggX3_chain_X3_refresh
set_option maxRecDepth 20000 in
theorem ggX3_chain_X3_isBlock : GoodIn wsX3_chain wsX3_isBlock := goodIn_r _ [115, 19, 117, 118, 119, 120, 121, 122, 123, 124, 125, 126, 127] (by decide +kernel) (by decide +kernel)
set_option maxRecDepth 20000 in
theorem gX3_chain_X3_isBlock : GoodIn wsX3_chain (wsV RX3 51 RX3 yX3_isBlock wsX3_isBlock) := goodIn_app (goodIn_of _ (by decide +kernel)) ggX3_chain_X3_isBlock
set_option maxRecDepth 20000 in
theorem ggX3_chain_X0_firstOf : GoodIn wsX3_chain wsX0_firstOf := goodIn_r _ [62, 45, 37, 5, 38, 131, 132, 133] (by decide +kernel) (by decide +kernel)
set_option maxRecDepth 20000 in
theorem gX3_chain_X0_firstOf : GoodIn wsX3_chain (wsV RX3 92 RX0 yX0_firstOf wsX0_firstOf) := goodIn_app (goodIn_of _ (by decide +kernel)) ggX3_chain_X0_firstOf
theorem dX3_chain_0 : decode cX3_chain 0 = .ok (.aload_n 0, 1) := by decide +kernel
theorem dX3_chain_1 : decode cX3_chain 1 = .ok (.invokevirtual 68, 3) := by decide +kernel
theorem dX3_chain_4 : decode cX3_chain 4 = .ok (.aload_n 0, 1) := by decide +kernel
theorem dX3_chain_5 : decode cX3_chain 5 = .ok (.iload_n 1, 1) := by decide +kernel
theorem dX3_chain_6 : decode cX3_chain 6 = .ok (.invokevirtual 51, 3) := by decide +kernel
theorem dX3_chain_9 : decode cX3_chain 9 = .ok (.ifCond .eq 14, 3) := by decide +kernel
theorem dX3_chain_12 : decode cX3_chain 12 = .ok (.aload_n 0, 1) := by decide +kernel
theorem dX3_chain_13 : decode cX3_chain 13 = .ok (.getfield 23, 3) := by decide +kernel
theorem dX3_chain_16 : decode cX3_chain 16 = .ok (.iload_n 1, 1) := by decide +kernel
theorem dX3_chain_17 : decode cX3_chain 17 = .ok (.invokevirtual 92, 3) := by decide +kernel
theorem dX3_chain_20 : decode cX3_chain 20 = .ok (.goto 4, 3) := by decide +kernel
theorem dX3_chain_23 : decode cX3_chain 23 = .ok (.iconst (-1), 1) := by decide +kernel
theorem dX3_chain_24 : decode cX3_chain 24 = .ok (.ireturn, 1) := by decide +kernel
theorem dX3_isBlock_0 : decode cX3_isBlock 0 = .ok (.iload_n 1, 1) := by decide +kernel
theorem dX3_isBlock_1 : decode cX3_isBlock 1 = .ok (.ifCond .lt 15, 3) := by decide +kernel
theorem dX3_isBlock_4 : decode cX3_isBlock 4 = .ok (.iload_n 1, 1) := by decide +kernel
theorem dX3_isBlock_5 : decode cX3_isBlock 5 = .ok (.aload_n 0, 1) := by decide +kernel
theorem dX3_isBlock_6 : decode cX3_isBlock 6 = .ok (.getfield 40, 3) := by decide +kernel
theorem dX3_isBlock_9 : decode cX3_isBlock 9 = .ok (.if_icmp .ge 7, 3) := by decide +kernel
theorem dX3_isBlock_12 : decode cX3_isBlock 12 = .ok (.iconst 1, 1) := by decide +kernel
theorem dX3_isBlock_13 : decode cX3_isBlock 13 = .ok (.goto 4, 3) := by decide +kernel
theorem dX3_isBlock_16 : decode cX3_isBlock 16 = .ok (.iconst 0, 1) := by decide +kernel
theorem dX3_isBlock_17 : decode cX3_isBlock 17 = .ok (.ireturn, 1) := by decide +kernel
theorem dX3_fitsRows_0 : decode cX3_fitsRows 0 = .ok (.iload_n 0, 1) := by decide +kernel
theorem dX3_fitsRows_1 : decode cX3_fitsRows 1 = .ok (.ifCond .lt 14, 3) := by decide +kernel
theorem dX3_fitsRows_4 : decode cX3_fitsRows 4 = .ok (.iload_n 0, 1) := by decide +kernel
theorem dX3_fitsRows_5 : decode cX3_fitsRows 5 = .ok (.sipush 200, 3) := by decide +kernel
theorem dX3_fitsRows_8 : decode cX3_fitsRows 8 = .ok (.if_icmp .ge 7, 3) := by decide +kernel
theorem dX3_fitsRows_11 : decode cX3_fitsRows 11 = .ok (.iconst 1, 1) := by decide +kernel
theorem dX3_fitsRows_12 : decode cX3_fitsRows 12 = .ok (.goto 4, 3) := by decide +kernel
theorem dX3_fitsRows_15 : decode cX3_fitsRows 15 = .ok (.iconst 0, 1) := by decide +kernel
theorem dX3_fitsRows_16 : decode cX3_fitsRows 16 = .ok (.ireturn, 1) := by decide +kernel
theorem dX3_chainsAreBetter_0 : decode cX3_chainsAreBetter 0 = .ok (.aload_n 0, 1) := by decide +kernel
theorem dX3_chainsAreBetter_1 : decode cX3_chainsAreBetter 1 = .ok (.getfield 82, 3) := by decide +kernel
theorem dX3_chainsAreBetter_4 : decode cX3_chainsAreBetter 4 = .ok (.aload_n 0, 1) := by decide +kernel
theorem dX3_chainsAreBetter_5 : decode cX3_chainsAreBetter 5 = .ok (.getfield 86, 3) := by decide +kernel
theorem dX3_chainsAreBetter_8 : decode cX3_chainsAreBetter 8 = .ok (.lcmp, 1) := by decide +kernel
theorem dX3_chainsAreBetter_9 : decode cX3_chainsAreBetter 9 = .ok (.ifCond .le 7, 3) := by decide +kernel
theorem dX3_chainsAreBetter_12 : decode cX3_chainsAreBetter 12 = .ok (.iconst 1, 1) := by decide +kernel
theorem dX3_chainsAreBetter_13 : decode cX3_chainsAreBetter 13 = .ok (.goto 4, 3) := by decide +kernel
theorem dX3_chainsAreBetter_16 : decode cX3_chainsAreBetter 16 = .ok (.iconst 0, 1) := by decide +kernel
theorem dX3_chainsAreBetter_17 : decode cX3_chainsAreBetter 17 = .ok (.ireturn, 1) := by decide +kernel
set_option maxRecDepth 20000 in
theorem ggX3_refresh_X3_lineUpByNumber : GoodIn wsX3_refresh wsX3_lineUpByNumber := goodIn_r _ [14, 6, 3, 15, 16, 17, 18, 19, 20, 21, 22, 23, 24, 25, 26, 27, 28, 29, 30, 31, 32, 33, 13, 34, 108, 109, 110, 111, 112, 113, 114, 115, 116, 117, 118, 119, 120, 121] (by decide +kernel) (by decide +kernel)
set_option maxRecDepth 20000 in
theorem gX3_refresh_X3_lineUpByNumber : GoodIn wsX3_refresh (wsV RX3 95 RX3 yX3_lineUpByNumber wsX3_lineUpByNumber) := goodIn_app (goodIn_of _ (by decide +kernel)) ggX3_refresh_X3_lineUpByNumber
set_option maxRecDepth 20000 in
theorem ggX3_refresh_X0_start : GoodIn wsX3_refresh wsX0_start := goodIn_r _ [39, 40, 41, 42, 25, 26, 27, 43, 44, 45, 20, 46, 23, 33, 13, 34, 122, 123, 124, 119, 120, 121] (by decide +kernel) (by decide +kernel)
set_option maxRecDepth 20000 in
theorem gX3_refresh_X0_start : GoodIn wsX3_refresh (wsV RX3 98 RX0 yX0_start wsX0_start) := goodIn_app (goodIn_of _ (by decide +kernel)) ggX3_refresh_X0_start
set_option maxRecDepth 20000 in
theorem ggX3_refresh_X0_joinAlong : GoodIn wsX3_refresh wsX0_joinAlong := goodIn_r _ [50, 51, 52, 53, 38, 54, 40, 55, 56, 57, 58, 41, 33, 13, 34, 59, 60, 61, 62, 125, 126, 127, 128, 129, 122, 123, 124] (by decide +kernel) (by decide +kernel)
set_option maxRecDepth 20000 in
theorem gX3_refresh_X0_joinAlong : GoodIn wsX3_refresh (wsV RX3 102 RX0 yX0_joinAlong wsX0_joinAlong) := goodIn_app (goodIn_of _ (by decide +kernel)) ggX3_refresh_X0_joinAlong
set_option maxRecDepth 20000 in
theorem ggX3_refresh_X0_lineUp : GoodIn wsX3_refresh wsX0_lineUp := goodIn_r _ [66, 67, 68, 18, 19, 20, 21, 22, 23, 24, 25, 26, 27, 69, 70, 71, 72, 73, 74, 38, 75, 76, 77, 78, 79, 32, 43, 44, 45, 46, 33, 13, 34, 55, 56, 57, 58, 41, 80, 81, 82, 83, 84, 85, 86, 87, 40, 88, 29, 30, 31, 89, 90, 91, 92, 122, 123, 124, 119, 120, 121, 125, 126, 127, 128, 129] (by decide +kernel) (by decide +kernel)
set_option maxRecDepth 20000 in
theorem gX3_refresh_X0_lineUp : GoodIn wsX3_refresh (wsV RX3 106 RX0 yX0_lineUp wsX0_lineUp) := goodIn_app (goodIn_of _ (by decide +kernel)) ggX3_refresh_X0_lineUp
set_option maxRecDepth 20000 in
theorem ggX3_refresh_X2_weigh : GoodIn wsX3_refresh wsX2_weigh := goodIn_r _ [97, 98, 99, 100, 101, 102, 103, 104, 105, 20, 106, 23, 107, 44, 45, 46, 33, 13, 34, 125, 126, 127, 128, 129, 119, 120, 121] (by decide +kernel) (by decide +kernel)
set_option maxRecDepth 20000 in
theorem gX3_refresh_X2_weigh : GoodIn wsX3_refresh (wsV RX3 110 RX2 yX2_weigh wsX2_weigh) := goodIn_app (goodIn_of _ (by decide +kernel)) ggX3_refresh_X2_weigh
theorem dX3_refresh_0 : decode cX3_refresh 0 = .ok (.aload_n 0, 1) := by decide +kernel
theorem dX3_refresh_1 : decode cX3_refresh 1 = .ok (.getfield 44, 3) := by decide +kernel
theorem dX3_refresh_4 : decode cX3_refresh 4 = .ok (.ifCond .ne 4, 3) := by decide +kernel
theorem dX3_refresh_7 : decode cX3_refresh 7 = .ok (.return_, 1) := by decide +kernel
theorem dX3_refresh_8 : decode cX3_refresh 8 = .ok (.aload_n 0, 1) := by decide +kernel
theorem dX3_refresh_9 : decode cX3_refresh 9 = .ok (.invokevirtual 95, 3) := by decide +kernel
theorem dX3_refresh_12 : decode cX3_refresh 12 = .ok (.aload_n 0, 1) := by decide +kernel
theorem dX3_refresh_13 : decode cX3_refresh 13 = .ok (.getfield 23, 3) := by decide +kernel
theorem dX3_refresh_16 : decode cX3_refresh 16 = .ok (.aload_n 0, 1) := by decide +kernel
theorem dX3_refresh_17 : decode cX3_refresh 17 = .ok (.getfield 34, 3) := by decide +kernel
theorem dX3_refresh_20 : decode cX3_refresh 20 = .ok (.invokevirtual 98, 3) := by decide +kernel
theorem dX3_refresh_23 : decode cX3_refresh 23 = .ok (.aload_n 0, 1) := by decide +kernel
theorem dX3_refresh_24 : decode cX3_refresh 24 = .ok (.getfield 23, 3) := by decide +kernel
theorem dX3_refresh_27 : decode cX3_refresh 27 = .ok (.aload_n 0, 1) := by decide +kernel
theorem dX3_refresh_28 : decode cX3_refresh 28 = .ok (.getfield 16, 3) := by decide +kernel
theorem dX3_refresh_31 : decode cX3_refresh 31 = .ok (.invokevirtual 102, 3) := by decide +kernel
theorem dX3_refresh_34 : decode cX3_refresh 34 = .ok (.aload_n 0, 1) := by decide +kernel
theorem dX3_refresh_35 : decode cX3_refresh 35 = .ok (.getfield 23, 3) := by decide +kernel
theorem dX3_refresh_38 : decode cX3_refresh 38 = .ok (.aload_n 0, 1) := by decide +kernel
theorem dX3_refresh_39 : decode cX3_refresh 39 = .ok (.getfield 34, 3) := by decide +kernel
theorem dX3_refresh_42 : decode cX3_refresh 42 = .ok (.aload_n 0, 1) := by decide +kernel
theorem dX3_refresh_43 : decode cX3_refresh 43 = .ok (.getfield 16, 3) := by decide +kernel
theorem dX3_refresh_46 : decode cX3_refresh 46 = .ok (.aload_n 0, 1) := by decide +kernel
theorem dX3_refresh_47 : decode cX3_refresh 47 = .ok (.getfield 37, 3) := by decide +kernel
theorem dX3_refresh_50 : decode cX3_refresh 50 = .ok (.invokevirtual 106, 3) := by decide +kernel
theorem dX3_refresh_53 : decode cX3_refresh 53 = .ok (.aload_n 0, 1) := by decide +kernel
theorem dX3_refresh_54 : decode cX3_refresh 54 = .ok (.aload_n 0, 1) := by decide +kernel
theorem dX3_refresh_55 : decode cX3_refresh 55 = .ok (.getfield 16, 3) := by decide +kernel
theorem dX3_refresh_58 : decode cX3_refresh 58 = .ok (.aload_n 0, 1) := by decide +kernel
theorem dX3_refresh_59 : decode cX3_refresh 59 = .ok (.getfield 30, 3) := by decide +kernel
theorem dX3_refresh_62 : decode cX3_refresh 62 = .ok (.invokevirtual 110, 3) := by decide +kernel
theorem dX3_refresh_65 : decode cX3_refresh 65 = .ok (.putfield 89, 3) := by decide +kernel
theorem dX3_refresh_68 : decode cX3_refresh 68 = .ok (.aload_n 0, 1) := by decide +kernel
theorem dX3_refresh_69 : decode cX3_refresh 69 = .ok (.aload_n 0, 1) := by decide +kernel
theorem dX3_refresh_70 : decode cX3_refresh 70 = .ok (.getfield 16, 3) := by decide +kernel
theorem dX3_refresh_73 : decode cX3_refresh 73 = .ok (.aload_n 0, 1) := by decide +kernel
theorem dX3_refresh_74 : decode cX3_refresh 74 = .ok (.getfield 34, 3) := by decide +kernel
theorem dX3_refresh_77 : decode cX3_refresh 77 = .ok (.invokevirtual 110, 3) := by decide +kernel
theorem dX3_refresh_80 : decode cX3_refresh 80 = .ok (.putfield 86, 3) := by decide +kernel
theorem dX3_refresh_83 : decode cX3_refresh 83 = .ok (.aload_n 0, 1) := by decide +kernel
theorem dX3_refresh_84 : decode cX3_refresh 84 = .ok (.aload_n 0, 1) := by decide +kernel
theorem dX3_refresh_85 : decode cX3_refresh 85 = .ok (.getfield 16, 3) := by decide +kernel
theorem dX3_refresh_88 : decode cX3_refresh 88 = .ok (.aload_n 0, 1) := by decide +kernel
theorem dX3_refresh_89 : decode cX3_refresh 89 = .ok (.getfield 37, 3) := by decide +kernel
theorem dX3_refresh_92 : decode cX3_refresh 92 = .ok (.invokevirtual 110, 3) := by decide +kernel
theorem dX3_refresh_95 : decode cX3_refresh 95 = .ok (.putfield 82, 3) := by decide +kernel
theorem dX3_refresh_98 : decode cX3_refresh 98 = .ok (.aload_n 0, 1) := by decide +kernel
theorem dX3_refresh_99 : decode cX3_refresh 99 = .ok (.iconst 0, 1) := by decide +kernel
theorem dX3_refresh_100 : decode cX3_refresh 100 = .ok (.putfield 44, 3) := by decide +kernel
theorem dX3_refresh_103 : decode cX3_refresh 103 = .ok (.return_, 1) := by decide +kernel
set_option maxRecDepth 20000 in
theorem ggX3_lineUpByNumber_X1_empty : GoodIn wsX3_lineUpByNumber wsX1_empty := goodIn_r _ [9, 10, 11, 12, 13, 14, 15, 35, 36, 37] (by decide +kernel) (by decide +kernel)
set_option maxRecDepth 20000 in
theorem gX3_lineUpByNumber_X1_empty : GoodIn wsX3_lineUpByNumber (wsV RX3 114 RX1 yX1_empty wsX1_empty) := goodIn_app (goodIn_of _ (by decide +kernel)) ggX3_lineUpByNumber_X1_empty
set_option maxRecDepth 20000 in
theorem ggX3_lineUpByNumber_X1_append : GoodIn wsX3_lineUpByNumber wsX1_append := goodIn_r _ [19, 10, 20, 11, 21, 22, 23, 35, 36, 37] (by decide +kernel) (by decide +kernel)
set_option maxRecDepth 20000 in
theorem gX3_lineUpByNumber_X1_append : GoodIn wsX3_lineUpByNumber (wsV RX3 117 RX1 yX1_append wsX1_append) := goodIn_app (goodIn_of _ (by decide +kernel)) ggX3_lineUpByNumber_X1_append
theorem dX3_lineUpByNumber_0 : decode cX3_lineUpByNumber 0 = .ok (.aload_n 0, 1) := by decide +kernel
theorem dX3_lineUpByNumber_1 : decode cX3_lineUpByNumber 1 = .ok (.getfield 30, 3) := by decide +kernel
theorem dX3_lineUpByNumber_4 : decode cX3_lineUpByNumber 4 = .ok (.invokevirtual 114, 3) := by decide +kernel
theorem dX3_lineUpByNumber_7 : decode cX3_lineUpByNumber 7 = .ok (.aload_n 0, 1) := by decide +kernel
theorem dX3_lineUpByNumber_8 : decode cX3_lineUpByNumber 8 = .ok (.getfield 34, 3) := by decide +kernel
theorem dX3_lineUpByNumber_11 : decode cX3_lineUpByNumber 11 = .ok (.invokevirtual 114, 3) := by decide +kernel
theorem dX3_lineUpByNumber_14 : decode cX3_lineUpByNumber 14 = .ok (.iconst 0, 1) := by decide +kernel
theorem dX3_lineUpByNumber_15 : decode cX3_lineUpByNumber 15 = .ok (.istore_n 1, 1) := by decide +kernel
theorem dX3_lineUpByNumber_16 : decode cX3_lineUpByNumber 16 = .ok (.iload_n 1, 1) := by decide +kernel
theorem dX3_lineUpByNumber_17 : decode cX3_lineUpByNumber 17 = .ok (.aload_n 0, 1) := by decide +kernel
theorem dX3_lineUpByNumber_18 : decode cX3_lineUpByNumber 18 = .ok (.getfield 40, 3) := by decide +kernel
theorem dX3_lineUpByNumber_21 : decode cX3_lineUpByNumber 21 = .ok (.if_icmp .ge 34, 3) := by decide +kernel
theorem dX3_lineUpByNumber_24 : decode cX3_lineUpByNumber 24 = .ok (.aload_n 0, 1) := by decide +kernel
theorem dX3_lineUpByNumber_25 : decode cX3_lineUpByNumber 25 = .ok (.getfield 30, 3) := by decide +kernel
theorem dX3_lineUpByNumber_28 : decode cX3_lineUpByNumber 28 = .ok (.iload_n 1, 1) := by decide +kernel
theorem dX3_lineUpByNumber_29 : decode cX3_lineUpByNumber 29 = .ok (.invokevirtual 117, 3) := by decide +kernel
theorem dX3_lineUpByNumber_32 : decode cX3_lineUpByNumber 32 = .ok (.aload_n 0, 1) := by decide +kernel
theorem dX3_lineUpByNumber_33 : decode cX3_lineUpByNumber 33 = .ok (.getfield 9, 3) := by decide +kernel
theorem dX3_lineUpByNumber_36 : decode cX3_lineUpByNumber 36 = .ok (.iload_n 1, 1) := by decide +kernel
theorem dX3_lineUpByNumber_37 : decode cX3_lineUpByNumber 37 = .ok (.baload, 1) := by decide +kernel
theorem dX3_lineUpByNumber_38 : decode cX3_lineUpByNumber 38 = .ok (.ifCond .eq 11, 3) := by decide +kernel
theorem dX3_lineUpByNumber_41 : decode cX3_lineUpByNumber 41 = .ok (.aload_n 0, 1) := by decide +kernel
theorem dX3_lineUpByNumber_42 : decode cX3_lineUpByNumber 42 = .ok (.getfield 34, 3) := by decide +kernel
theorem dX3_lineUpByNumber_45 : decode cX3_lineUpByNumber 45 = .ok (.iload_n 1, 1) := by decide +kernel
theorem dX3_lineUpByNumber_46 : decode cX3_lineUpByNumber 46 = .ok (.invokevirtual 117, 3) := by decide +kernel
theorem dX3_lineUpByNumber_49 : decode cX3_lineUpByNumber 49 = .ok (.iinc 1 1, 3) := by decide +kernel
theorem dX3_lineUpByNumber_52 : decode cX3_lineUpByNumber 52 = .ok (.goto (-36), 3) := by decide +kernel
theorem dX3_lineUpByNumber_55 : decode cX3_lineUpByNumber 55 = .ok (.return_, 1) := by decide +kernel
theorem dX4_init_0 : decode cX4_init 0 = .ok (.aload_n 0, 1) := by decide +kernel
theorem dX4_init_1 : decode cX4_init 1 = .ok (.invokespecial 1, 3) := by decide +kernel
theorem dX4_init_4 : decode cX4_init 4 = .ok (.aload_n 0, 1) := by decide +kernel
theorem dX4_init_5 : decode cX4_init 5 = .ok (.iconst 1, 1) := by decide +kernel
theorem dX4_init_6 : decode cX4_init 6 = .ok (.putfield 7, 3) := by decide +kernel
theorem dX4_init_9 : decode cX4_init 9 = .ok (.aload_n 0, 1) := by decide +kernel
theorem dX4_init_10 : decode cX4_init 10 = .ok (.sipush 200, 3) := by decide +kernel
theorem dX4_init_13 : decode cX4_init 13 = .ok (.newarray .boolean, 2) := by decide +kernel
theorem dX4_init_15 : decode cX4_init 15 = .ok (.putfield 13, 3) := by decide +kernel
theorem dX4_init_18 : decode cX4_init 18 = .ok (.aload_n 0, 1) := by decide +kernel
theorem dX4_init_19 : decode cX4_init 19 = .ok (.sipush 1000, 3) := by decide +kernel
theorem dX4_init_22 : decode cX4_init 22 = .ok (.newarray .int, 2) := by decide +kernel
theorem dX4_init_24 : decode cX4_init 24 = .ok (.putfield 17, 3) := by decide +kernel
theorem dX4_init_27 : decode cX4_init 27 = .ok (.aload_n 0, 1) := by decide +kernel
theorem dX4_init_28 : decode cX4_init 28 = .ok (.sipush 1000, 3) := by decide +kernel
theorem dX4_init_31 : decode cX4_init 31 = .ok (.newarray .int, 2) := by decide +kernel
theorem dX4_init_33 : decode cX4_init 33 = .ok (.putfield 21, 3) := by decide +kernel
theorem dX4_init_36 : decode cX4_init 36 = .ok (.aload_n 0, 1) := by decide +kernel
theorem dX4_init_37 : decode cX4_init 37 = .ok (.sipush 1000, 3) := by decide +kernel
theorem dX4_init_40 : decode cX4_init 40 = .ok (.newarray .long, 2) := by decide +kernel
theorem dX4_init_42 : decode cX4_init 42 = .ok (.putfield 24, 3) := by decide +kernel
theorem dX4_init_45 : decode cX4_init 45 = .ok (.aload_n 0, 1) := by decide +kernel
theorem dX4_init_46 : decode cX4_init 46 = .ok (.sipush 1000, 3) := by decide +kernel
theorem dX4_init_49 : decode cX4_init 49 = .ok (.newarray .boolean, 2) := by decide +kernel
theorem dX4_init_51 : decode cX4_init 51 = .ok (.putfield 28, 3) := by decide +kernel
theorem dX4_init_54 : decode cX4_init 54 = .ok (.aload_n 0, 1) := by decide +kernel
theorem dX4_init_55 : decode cX4_init 55 = .ok (.ldc 31, 2) := by decide +kernel
theorem dX4_init_57 : decode cX4_init 57 = .ok (.newarray .int, 2) := by decide +kernel
theorem dX4_init_59 : decode cX4_init 59 = .ok (.putfield 32, 3) := by decide +kernel
theorem dX4_init_62 : decode cX4_init 62 = .ok (.aload_n 0, 1) := by decide +kernel
theorem dX4_init_63 : decode cX4_init 63 = .ok (.sipush 200, 3) := by decide +kernel
theorem dX4_init_66 : decode cX4_init 66 = .ok (.newarray .int, 2) := by decide +kernel
theorem dX4_init_68 : decode cX4_init 68 = .ok (.putfield 35, 3) := by decide +kernel
theorem dX4_init_71 : decode cX4_init 71 = .ok (.aload_n 0, 1) := by decide +kernel
theorem dX4_init_72 : decode cX4_init 72 = .ok (.sipush 200, 3) := by decide +kernel
theorem dX4_init_75 : decode cX4_init 75 = .ok (.newarray .int, 2) := by decide +kernel
theorem dX4_init_77 : decode cX4_init 77 = .ok (.putfield 38, 3) := by decide +kernel
theorem dX4_init_80 : decode cX4_init 80 = .ok (.aload_n 0, 1) := by decide +kernel
theorem dX4_init_81 : decode cX4_init 81 = .ok (.sipush 200, 3) := by decide +kernel
theorem dX4_init_84 : decode cX4_init 84 = .ok (.newarray .int, 2) := by decide +kernel
theorem dX4_init_86 : decode cX4_init 86 = .ok (.putfield 41, 3) := by decide +kernel
theorem dX4_init_89 : decode cX4_init 89 = .ok (.aload_n 0, 1) := by decide +kernel
theorem dX4_init_90 : decode cX4_init 90 = .ok (.sipush 200, 3) := by decide +kernel
theorem dX4_init_93 : decode cX4_init 93 = .ok (.newarray .int, 2) := by decide +kernel
theorem dX4_init_95 : decode cX4_init 95 = .ok (.putfield 44, 3) := by decide +kernel
theorem dX4_init_98 : decode cX4_init 98 = .ok (.aload_n 0, 1) := by decide +kernel
theorem dX4_init_99 : decode cX4_init 99 = .ok (.sipush 1000, 3) := by decide +kernel
theorem dX4_init_102 : decode cX4_init 102 = .ok (.newarray .boolean, 2) := by decide +kernel
theorem dX4_init_104 : decode cX4_init 104 = .ok (.putfield 47, 3) := by decide +kernel
theorem dX4_init_107 : decode cX4_init 107 = .ok (.aload_n 0, 1) := by decide +kernel
theorem dX4_init_108 : decode cX4_init 108 = .ok (.sipush 200, 3) := by decide +kernel
theorem dX4_init_111 : decode cX4_init 111 = .ok (.newarray .boolean, 2) := by decide +kernel
theorem dX4_init_113 : decode cX4_init 113 = .ok (.putfield 50, 3) := by decide +kernel
theorem dX4_init_116 : decode cX4_init 116 = .ok (.aload_n 0, 1) := by decide +kernel
theorem dX4_init_117 : decode cX4_init 117 = .ok (.sipush 200, 3) := by decide +kernel
theorem dX4_init_120 : decode cX4_init 120 = .ok (.newarray .int, 2) := by decide +kernel
theorem dX4_init_122 : decode cX4_init 122 = .ok (.putfield 53, 3) := by decide +kernel
theorem dX4_init_125 : decode cX4_init 125 = .ok (.return_, 1) := by decide +kernel
theorem dX4_isBlock_0 : decode cX4_isBlock 0 = .ok (.iload_n 1, 1) := by decide +kernel
theorem dX4_isBlock_1 : decode cX4_isBlock 1 = .ok (.ifCond .lt 15, 3) := by decide +kernel
theorem dX4_isBlock_4 : decode cX4_isBlock 4 = .ok (.iload_n 1, 1) := by decide +kernel
theorem dX4_isBlock_5 : decode cX4_isBlock 5 = .ok (.aload_n 0, 1) := by decide +kernel
theorem dX4_isBlock_6 : decode cX4_isBlock 6 = .ok (.getfield 7, 3) := by decide +kernel
theorem dX4_isBlock_9 : decode cX4_isBlock 9 = .ok (.if_icmp .ge 7, 3) := by decide +kernel
theorem dX4_isBlock_12 : decode cX4_isBlock 12 = .ok (.iconst 1, 1) := by decide +kernel
theorem dX4_isBlock_13 : decode cX4_isBlock 13 = .ok (.goto 4, 3) := by decide +kernel
theorem dX4_isBlock_16 : decode cX4_isBlock 16 = .ok (.iconst 0, 1) := by decide +kernel
theorem dX4_isBlock_17 : decode cX4_isBlock 17 = .ok (.ireturn, 1) := by decide +kernel
theorem dX4_size_0 : decode cX4_size 0 = .ok (.iload_n 1, 1) := by decide +kernel
theorem dX4_size_1 : decode cX4_size 1 = .ok (.iconst 1, 1) := by decide +kernel
theorem dX4_size_2 : decode cX4_size 2 = .ok (.if_icmp .lt 10, 3) := by decide +kernel
theorem dX4_size_5 : decode cX4_size 5 = .ok (.iload_n 1, 1) := by decide +kernel
theorem dX4_size_6 : decode cX4_size 6 = .ok (.sipush 200, 3) := by decide +kernel
theorem dX4_size_9 : decode cX4_size 9 = .ok (.if_icmp .le 5, 3) := by decide +kernel
theorem dX4_size_12 : decode cX4_size 12 = .ok (.iconst 0, 1) := by decide +kernel
theorem dX4_size_13 : decode cX4_size 13 = .ok (.ireturn, 1) := by decide +kernel
theorem dX4_size_14 : decode cX4_size 14 = .ok (.aload_n 0, 1) := by decide +kernel
theorem dX4_size_15 : decode cX4_size 15 = .ok (.iload_n 1, 1) := by decide +kernel
theorem dX4_size_16 : decode cX4_size 16 = .ok (.putfield 7, 3) := by decide +kernel
theorem dX4_size_19 : decode cX4_size 19 = .ok (.aload_n 0, 1) := by decide +kernel
theorem dX4_size_20 : decode cX4_size 20 = .ok (.iconst 0, 1) := by decide +kernel
theorem dX4_size_21 : decode cX4_size 21 = .ok (.putfield 56, 3) := by decide +kernel
theorem dX4_size_24 : decode cX4_size 24 = .ok (.iconst 0, 1) := by decide +kernel
theorem dX4_size_25 : decode cX4_size 25 = .ok (.istore_n 2, 1) := by decide +kernel
theorem dX4_size_26 : decode cX4_size 26 = .ok (.iload_n 2, 1) := by decide +kernel
theorem dX4_size_27 : decode cX4_size 27 = .ok (.sipush 200, 3) := by decide +kernel
theorem dX4_size_30 : decode cX4_size 30 = .ok (.if_icmp .ge 16, 3) := by decide +kernel
theorem dX4_size_33 : decode cX4_size 33 = .ok (.aload_n 0, 1) := by decide +kernel
theorem dX4_size_34 : decode cX4_size 34 = .ok (.getfield 13, 3) := by decide +kernel
theorem dX4_size_37 : decode cX4_size 37 = .ok (.iload_n 2, 1) := by decide +kernel
theorem dX4_size_38 : decode cX4_size 38 = .ok (.iconst 0, 1) := by decide +kernel
theorem dX4_size_39 : decode cX4_size 39 = .ok (.bastore, 1) := by decide +kernel
theorem dX4_size_40 : decode cX4_size 40 = .ok (.iinc 2 1, 3) := by decide +kernel
theorem dX4_size_43 : decode cX4_size 43 = .ok (.goto (-17), 3) := by decide +kernel
theorem dX4_size_46 : decode cX4_size 46 = .ok (.aload_n 0, 1) := by decide +kernel
theorem dX4_size_47 : decode cX4_size 47 = .ok (.iconst 0, 1) := by decide +kernel
theorem dX4_size_48 : decode cX4_size 48 = .ok (.putfield 59, 3) := by decide +kernel
theorem dX4_size_51 : decode cX4_size 51 = .ok (.iconst 1, 1) := by decide +kernel
theorem dX4_size_52 : decode cX4_size 52 = .ok (.ireturn, 1) := by decide +kernel
set_option maxRecDepth 20000 in
theorem ggX4_heat_X4_isBlock : GoodIn wsX4_heat wsX4_isBlock := goodIn_r _ [7, 8, 9, 10, 11, 12, 13, 14, 15, 16, 17, 18, 19, 20, 21, 22, 23, 24, 25, 26] (by decide +kernel) (by decide +kernel)
set_option maxRecDepth 20000 in
theorem gX4_heat_X4_isBlock : GoodIn wsX4_heat (wsV RX4 63 RX4 yX4_isBlock wsX4_isBlock) := goodIn_app (goodIn_of _ (by decide +kernel)) ggX4_heat_X4_isBlock
theorem dX4_heat_0 : decode cX4_heat 0 = .ok (.aload_n 0, 1) := by decide +kernel
theorem dX4_heat_1 : decode cX4_heat 1 = .ok (.iload_n 1, 1) := by decide +kernel
theorem dX4_heat_2 : decode cX4_heat 2 = .ok (.invokevirtual 63, 3) := by decide +kernel
theorem dX4_heat_5 : decode cX4_heat 5 = .ok (.ifCond .ne 5, 3) := by decide +kernel
theorem dX4_heat_8 : decode cX4_heat 8 = .ok (.iconst 0, 1) := by decide +kernel
theorem dX4_heat_9 : decode cX4_heat 9 = .ok (.ireturn, 1) := by decide +kernel
theorem dX4_heat_10 : decode cX4_heat 10 = .ok (.aload_n 0, 1) := by decide +kernel
theorem dX4_heat_11 : decode cX4_heat 11 = .ok (.getfield 13, 3) := by decide +kernel
theorem dX4_heat_14 : decode cX4_heat 14 = .ok (.iload_n 1, 1) := by decide +kernel
theorem dX4_heat_15 : decode cX4_heat 15 = .ok (.iload_n 2, 1) := by decide +kernel
theorem dX4_heat_16 : decode cX4_heat 16 = .ok (.bastore, 1) := by decide +kernel
theorem dX4_heat_17 : decode cX4_heat 17 = .ok (.aload_n 0, 1) := by decide +kernel
theorem dX4_heat_18 : decode cX4_heat 18 = .ok (.iconst 0, 1) := by decide +kernel
theorem dX4_heat_19 : decode cX4_heat 19 = .ok (.putfield 59, 3) := by decide +kernel
theorem dX4_heat_22 : decode cX4_heat 22 = .ok (.iconst 1, 1) := by decide +kernel
theorem dX4_heat_23 : decode cX4_heat 23 = .ok (.ireturn, 1) := by decide +kernel
theorem dX4_find_0 : decode cX4_find 0 = .ok (.iconst 0, 1) := by decide +kernel
theorem dX4_find_1 : decode cX4_find 1 = .ok (.istore_n 3, 1) := by decide +kernel
theorem dX4_find_2 : decode cX4_find 2 = .ok (.iload_n 3, 1) := by decide +kernel
theorem dX4_find_3 : decode cX4_find 3 = .ok (.aload_n 0, 1) := by decide +kernel
theorem dX4_find_4 : decode cX4_find 4 = .ok (.getfield 56, 3) := by decide +kernel
theorem dX4_find_7 : decode cX4_find 7 = .ok (.if_icmp .ge 31, 3) := by decide +kernel
theorem dX4_find_10 : decode cX4_find 10 = .ok (.aload_n 0, 1) := by decide +kernel
theorem dX4_find_11 : decode cX4_find 11 = .ok (.getfield 17, 3) := by decide +kernel
theorem dX4_find_14 : decode cX4_find 14 = .ok (.iload_n 3, 1) := by decide +kernel
theorem dX4_find_15 : decode cX4_find 15 = .ok (.iaload, 1) := by decide +kernel
theorem dX4_find_16 : decode cX4_find 16 = .ok (.iload_n 1, 1) := by decide +kernel
theorem dX4_find_17 : decode cX4_find 17 = .ok (.if_icmp .ne 15, 3) := by decide +kernel
theorem dX4_find_20 : decode cX4_find 20 = .ok (.aload_n 0, 1) := by decide +kernel
theorem dX4_find_21 : decode cX4_find 21 = .ok (.getfield 21, 3) := by decide +kernel
theorem dX4_find_24 : decode cX4_find 24 = .ok (.iload_n 3, 1) := by decide +kernel
theorem dX4_find_25 : decode cX4_find 25 = .ok (.iaload, 1) := by decide +kernel
theorem dX4_find_26 : decode cX4_find 26 = .ok (.iload_n 2, 1) := by decide +kernel
theorem dX4_find_27 : decode cX4_find 27 = .ok (.if_icmp .ne 5, 3) := by decide +kernel
theorem dX4_find_30 : decode cX4_find 30 = .ok (.iload_n 3, 1) := by decide +kernel
theorem dX4_find_31 : decode cX4_find 31 = .ok (.ireturn, 1) := by decide +kernel
theorem dX4_find_32 : decode cX4_find 32 = .ok (.iinc 3 1, 3) := by decide +kernel
theorem dX4_find_35 : decode cX4_find 35 = .ok (.goto (-33), 3) := by decide +kernel
theorem dX4_find_38 : decode cX4_find 38 = .ok (.iconst (-1), 1) := by decide +kernel
theorem dX4_find_39 : decode cX4_find 39 = .ok (.ireturn, 1) := by decide +kernel
set_option maxRecDepth 20000 in
theorem ggX4_way_X4_isBlock : GoodIn wsX4_way wsX4_isBlock := goodIn_r _ [20, 21, 26, 27, 28, 29, 30, 31, 32, 33, 34, 35, 36, 37, 38, 39, 40, 41, 42, 43] (by decide +kernel) (by decide +kernel)
set_option maxRecDepth 20000 in
theorem gX4_way_X4_isBlock : GoodIn wsX4_way (wsV RX4 63 RX4 yX4_isBlock wsX4_isBlock) := goodIn_app (goodIn_of _ (by decide +kernel)) ggX4_way_X4_isBlock
set_option maxRecDepth 20000 in
theorem ggX4_way_X4_find : GoodIn wsX4_way wsX4_find := goodIn_r _ [25, 4, 6, 7, 26, 27, 28, 29, 30, 31, 32, 33, 34, 35, 36, 37, 38, 39, 40, 41, 42, 43] (by decide +kernel) (by decide +kernel)
set_option maxRecDepth 20000 in
theorem gX4_way_X4_find : GoodIn wsX4_way (wsV RX4 72 RX4 yX4_find wsX4_find) := goodIn_app (goodIn_of _ (by decide +kernel)) ggX4_way_X4_find
end
section
theorem dX4_way_0 : decode cX4_way 0 = .ok (.aload_n 0, 1) := by decide +kernel
theorem dX4_way_1 : decode cX4_way 1 = .ok (.iload_n 1, 1) := by decide +kernel
theorem dX4_way_2 : decode cX4_way 2 = .ok (.invokevirtual 63, 3) := by decide +kernel
theorem dX4_way_5 : decode cX4_way 5 = .ok (.ifCond .eq 11, 3) := by decide +kernel
theorem dX4_way_8 : decode cX4_way 8 = .ok (.aload_n 0, 1) := by decide +kernel
theorem dX4_way_9 : decode cX4_way 9 = .ok (.iload_n 2, 1) := by decide +kernel
theorem dX4_way_10 : decode cX4_way 10 = .ok (.invokevirtual 63, 3) := by decide +kernel
theorem dX4_way_13 : decode cX4_way 13 = .ok (.ifCond .ne 7, 3) := by decide +kernel
theorem dX4_way_16 : decode cX4_way 16 = .ok (.ldc2_w 67, 3) := by decide +kernel
theorem dX4_way_19 : decode cX4_way 19 = .ok (.lreturn, 1) := by decide +kernel
theorem dX4_way_20 : decode cX4_way 20 = .ok (.iload_n 3, 1) := by decide +kernel
theorem dX4_way_21 : decode cX4_way 21 = .ok (.ifCond .lt 9, 3) := by decide +kernel
theorem dX4_way_24 : decode cX4_way 24 = .ok (.iload_n 3, 1) := by decide +kernel
theorem dX4_way_25 : decode cX4_way 25 = .ok (.ldc 69, 2) := by decide +kernel
theorem dX4_way_27 : decode cX4_way 27 = .ok (.if_icmp .le 7, 3) := by decide +kernel
theorem dX4_way_30 : decode cX4_way 30 = .ok (.ldc2_w 70, 3) := by decide +kernel
theorem dX4_way_33 : decode cX4_way 33 = .ok (.lreturn, 1) := by decide +kernel
theorem dX4_way_34 : decode cX4_way 34 = .ok (.aload_n 0, 1) := by decide +kernel
theorem dX4_way_35 : decode cX4_way 35 = .ok (.iload_n 1, 1) := by decide +kernel
theorem dX4_way_36 : decode cX4_way 36 = .ok (.iload_n 2, 1) := by decide +kernel
theorem dX4_way_37 : decode cX4_way 37 = .ok (.invokevirtual 72, 3) := by decide +kernel
theorem dX4_way_40 : decode cX4_way 40 = .ok (.istore 5, 2) := by decide +kernel
theorem dX4_way_42 : decode cX4_way 42 = .ok (.iload 5, 2) := by decide +kernel
theorem dX4_way_44 : decode cX4_way 44 = .ok (.ifCond .ge 57, 3) := by decide +kernel
theorem dX4_way_47 : decode cX4_way 47 = .ok (.aload_n 0, 1) := by decide +kernel
theorem dX4_way_48 : decode cX4_way 48 = .ok (.getfield 56, 3) := by decide +kernel
theorem dX4_way_51 : decode cX4_way 51 = .ok (.sipush 1000, 3) := by decide +kernel
theorem dX4_way_54 : decode cX4_way 54 = .ok (.if_icmp .ne 7, 3) := by decide +kernel
theorem dX4_way_57 : decode cX4_way 57 = .ok (.ldc2_w 76, 3) := by decide +kernel
theorem dX4_way_60 : decode cX4_way 60 = .ok (.lreturn, 1) := by decide +kernel
theorem dX4_way_61 : decode cX4_way 61 = .ok (.aload_n 0, 1) := by decide +kernel
theorem dX4_way_62 : decode cX4_way 62 = .ok (.getfield 56, 3) := by decide +kernel
theorem dX4_way_65 : decode cX4_way 65 = .ok (.istore 5, 2) := by decide +kernel
theorem dX4_way_67 : decode cX4_way 67 = .ok (.aload_n 0, 1) := by decide +kernel
theorem dX4_way_68 : decode cX4_way 68 = .ok (.dup, 1) := by decide +kernel
theorem dX4_way_69 : decode cX4_way 69 = .ok (.getfield 56, 3) := by decide +kernel
theorem dX4_way_72 : decode cX4_way 72 = .ok (.iconst 1, 1) := by decide +kernel
theorem dX4_way_73 : decode cX4_way 73 = .ok (.iadd, 1) := by decide +kernel
theorem dX4_way_74 : decode cX4_way 74 = .ok (.putfield 56, 3) := by decide +kernel
theorem dX4_way_77 : decode cX4_way 77 = .ok (.aload_n 0, 1) := by decide +kernel
theorem dX4_way_78 : decode cX4_way 78 = .ok (.getfield 17, 3) := by decide +kernel
theorem dX4_way_81 : decode cX4_way 81 = .ok (.iload 5, 2) := by decide +kernel
theorem dX4_way_83 : decode cX4_way 83 = .ok (.iload_n 1, 1) := by decide +kernel
theorem dX4_way_84 : decode cX4_way 84 = .ok (.iastore, 1) := by decide +kernel
theorem dX4_way_85 : decode cX4_way 85 = .ok (.aload_n 0, 1) := by decide +kernel
theorem dX4_way_86 : decode cX4_way 86 = .ok (.getfield 21, 3) := by decide +kernel
theorem dX4_way_89 : decode cX4_way 89 = .ok (.iload 5, 2) := by decide +kernel
theorem dX4_way_91 : decode cX4_way 91 = .ok (.iload_n 2, 1) := by decide +kernel
theorem dX4_way_92 : decode cX4_way 92 = .ok (.iastore, 1) := by decide +kernel
theorem dX4_way_93 : decode cX4_way 93 = .ok (.aload_n 0, 1) := by decide +kernel
theorem dX4_way_94 : decode cX4_way 94 = .ok (.getfield 24, 3) := by decide +kernel
theorem dX4_way_97 : decode cX4_way 97 = .ok (.iload 5, 2) := by decide +kernel
theorem dX4_way_99 : decode cX4_way 99 = .ok (.lconst 0, 1) := by decide +kernel
theorem dX4_way_100 : decode cX4_way 100 = .ok (.lastore, 1) := by decide +kernel
theorem dX4_way_101 : decode cX4_way 101 = .ok (.aload_n 0, 1) := by decide +kernel
theorem dX4_way_102 : decode cX4_way 102 = .ok (.getfield 24, 3) := by decide +kernel
theorem dX4_way_105 : decode cX4_way 105 = .ok (.iload 5, 2) := by decide +kernel
theorem dX4_way_107 : decode cX4_way 107 = .ok (.aload_n 0, 1) := by decide +kernel
theorem dX4_way_108 : decode cX4_way 108 = .ok (.getfield 24, 3) := by decide +kernel
theorem dX4_way_111 : decode cX4_way 111 = .ok (.iload 5, 2) := by decide +kernel
theorem dX4_way_113 : decode cX4_way 113 = .ok (.laload, 1) := by decide +kernel
theorem dX4_way_114 : decode cX4_way 114 = .ok (.iload_n 3, 1) := by decide +kernel
theorem dX4_way_115 : decode cX4_way 115 = .ok (.i2l, 1) := by decide +kernel
theorem dX4_way_116 : decode cX4_way 116 = .ok (.ladd, 1) := by decide +kernel
theorem dX4_way_117 : decode cX4_way 117 = .ok (.ldc2_w 78, 3) := by decide +kernel
theorem dX4_way_120 : decode cX4_way 120 = .ok (.invokestatic 80, 3) := by decide +kernel
theorem dX4_way_123 : decode cX4_way 123 = .ok (.lastore, 1) := by decide +kernel
theorem dX4_way_124 : decode cX4_way 124 = .ok (.aload_n 0, 1) := by decide +kernel
theorem dX4_way_125 : decode cX4_way 125 = .ok (.getfield 28, 3) := by decide +kernel
theorem dX4_way_128 : decode cX4_way 128 = .ok (.iload 5, 2) := by decide +kernel
theorem dX4_way_130 : decode cX4_way 130 = .ok (.iload 4, 2) := by decide +kernel
theorem dX4_way_132 : decode cX4_way 132 = .ok (.bastore, 1) := by decide +kernel
theorem dX4_way_133 : decode cX4_way 133 = .ok (.aload_n 0, 1) := by decide +kernel
theorem dX4_way_134 : decode cX4_way 134 = .ok (.iconst 0, 1) := by decide +kernel
theorem dX4_way_135 : decode cX4_way 135 = .ok (.putfield 59, 3) := by decide +kernel
theorem dX4_way_138 : decode cX4_way 138 = .ok (.aload_n 0, 1) := by decide +kernel
theorem dX4_way_139 : decode cX4_way 139 = .ok (.getfield 24, 3) := by decide +kernel
theorem dX4_way_142 : decode cX4_way 142 = .ok (.iload 5, 2) := by decide +kernel
theorem dX4_way_144 : decode cX4_way 144 = .ok (.laload, 1) := by decide +kernel
theorem dX4_way_145 : decode cX4_way 145 = .ok (.lreturn, 1) := by decide +kernel
set_option maxRecDepth 20000 in
theorem ggX4_count_X4_find : GoodIn wsX4_count wsX4_find := goodIn_r _ [6, 7, 8, 9, 10, 11, 12, 13, 14, 15, 16, 17, 18, 19, 20, 21, 22, 23, 24, 25, 26, 27] (by decide +kernel) (by decide +kernel)
set_option maxRecDepth 20000 in
theorem gX4_count_X4_find : GoodIn wsX4_count (wsV RX4 72 RX4 yX4_find wsX4_find) := goodIn_app (goodIn_of _ (by decide +kernel)) ggX4_count_X4_find
theorem dX4_count_0 : decode cX4_count 0 = .ok (.aload_n 0, 1) := by decide +kernel
theorem dX4_count_1 : decode cX4_count 1 = .ok (.iload_n 1, 1) := by decide +kernel
theorem dX4_count_2 : decode cX4_count 2 = .ok (.iload_n 2, 1) := by decide +kernel
theorem dX4_count_3 : decode cX4_count 3 = .ok (.invokevirtual 72, 3) := by decide +kernel
theorem dX4_count_6 : decode cX4_count 6 = .ok (.istore_n 3, 1) := by decide +kernel
theorem dX4_count_7 : decode cX4_count 7 = .ok (.iload_n 3, 1) := by decide +kernel
theorem dX4_count_8 : decode cX4_count 8 = .ok (.ifCond .ge 7, 3) := by decide +kernel
theorem dX4_count_11 : decode cX4_count 11 = .ok (.lconst 0, 1) := by decide +kernel
theorem dX4_count_12 : decode cX4_count 12 = .ok (.goto 9, 3) := by decide +kernel
theorem dX4_count_15 : decode cX4_count 15 = .ok (.aload_n 0, 1) := by decide +kernel
theorem dX4_count_16 : decode cX4_count 16 = .ok (.getfield 24, 3) := by decide +kernel
theorem dX4_count_19 : decode cX4_count 19 = .ok (.iload_n 3, 1) := by decide +kernel
theorem dX4_count_20 : decode cX4_count 20 = .ok (.laload, 1) := by decide +kernel
theorem dX4_count_21 : decode cX4_count 21 = .ok (.lreturn, 1) := by decide +kernel
set_option maxRecDepth 20000 in
theorem ggX4_know_X4_chains : GoodIn wsX4_know wsX4_chains := goodIn_r _ [15, 16, 17, 18, 19, 5, 20, 21, 4, 7, 6, 22, 23, 24, 14, 25, 44, 45, 46, 47, 48, 49, 50, 51, 52, 53, 54, 55, 56, 57, 58, 59, 60, 61] (by decide +kernel) (by decide +kernel)
set_option maxRecDepth 20000 in
theorem gX4_know_X4_chains : GoodIn wsX4_know (wsV RX4 89 RX4 yX4_chains wsX4_chains) := goodIn_app (goodIn_of _ (by decide +kernel)) ggX4_know_X4_chains
set_option maxRecDepth 20000 in
theorem ggX4_know_X4_place : GoodIn wsX4_know wsX4_place := goodIn_r _ [29, 3, 30, 2, 31, 5, 4, 6, 9, 7, 32, 33, 34, 14, 35, 16, 20, 21, 19, 44, 45, 46, 47, 48, 49, 50, 51, 52, 53, 54, 55, 56, 57, 58, 59, 60, 61] (by decide +kernel) (by decide +kernel)
set_option maxRecDepth 20000 in
theorem gX4_know_X4_place : GoodIn wsX4_know (wsV RX4 92 RX4 yX4_place wsX4_place) := goodIn_app (goodIn_of _ (by decide +kernel)) ggX4_know_X4_place
set_option maxRecDepth 20000 in
theorem ggX4_know_X4_weightOf : GoodIn wsX4_know wsX4_weightOf := goodIn_r _ [39, 18, 19, 40, 41, 42, 14, 43, 16, 20, 21, 44, 45, 46, 47, 48, 49, 50, 51, 52, 53, 54, 55, 56, 57, 58, 59, 60, 61] (by decide +kernel) (by decide +kernel)
set_option maxRecDepth 20000 in
theorem gX4_know_X4_weightOf : GoodIn wsX4_know (wsV RX4 95 RX4 yX4_weightOf wsX4_weightOf) := goodIn_app (goodIn_of _ (by decide +kernel)) ggX4_know_X4_weightOf
theorem dX4_know_0 : decode cX4_know 0 = .ok (.aload_n 0, 1) := by decide +kernel
theorem dX4_know_1 : decode cX4_know 1 = .ok (.getfield 59, 3) := by decide +kernel
theorem dX4_know_4 : decode cX4_know 4 = .ok (.ifCond .eq 4, 3) := by decide +kernel
theorem dX4_know_7 : decode cX4_know 7 = .ok (.return_, 1) := by decide +kernel
theorem dX4_know_8 : decode cX4_know 8 = .ok (.aload_n 0, 1) := by decide +kernel
theorem dX4_know_9 : decode cX4_know 9 = .ok (.iconst 1, 1) := by decide +kernel
theorem dX4_know_10 : decode cX4_know 10 = .ok (.putfield 59, 3) := by decide +kernel
theorem dX4_know_13 : decode cX4_know 13 = .ok (.aload_n 0, 1) := by decide +kernel
theorem dX4_know_14 : decode cX4_know 14 = .ok (.iconst 0, 1) := by decide +kernel
theorem dX4_know_15 : decode cX4_know 15 = .ok (.putfield 86, 3) := by decide +kernel
theorem dX4_know_18 : decode cX4_know 18 = .ok (.iconst 0, 1) := by decide +kernel
theorem dX4_know_19 : decode cX4_know 19 = .ok (.istore_n 1, 1) := by decide +kernel
theorem dX4_know_20 : decode cX4_know 20 = .ok (.iload_n 1, 1) := by decide +kernel
theorem dX4_know_21 : decode cX4_know 21 = .ok (.aload_n 0, 1) := by decide +kernel
theorem dX4_know_22 : decode cX4_know 22 = .ok (.getfield 7, 3) := by decide +kernel
theorem dX4_know_25 : decode cX4_know 25 = .ok (.if_icmp .ge 92, 3) := by decide +kernel
theorem dX4_know_28 : decode cX4_know 28 = .ok (.aload_n 0, 1) := by decide +kernel
theorem dX4_know_29 : decode cX4_know 29 = .ok (.getfield 38, 3) := by decide +kernel
theorem dX4_know_32 : decode cX4_know 32 = .ok (.iload_n 1, 1) := by decide +kernel
theorem dX4_know_33 : decode cX4_know 33 = .ok (.aload_n 0, 1) := by decide +kernel
theorem dX4_know_34 : decode cX4_know 34 = .ok (.getfield 13, 3) := by decide +kernel
theorem dX4_know_37 : decode cX4_know 37 = .ok (.iload_n 1, 1) := by decide +kernel
theorem dX4_know_38 : decode cX4_know 38 = .ok (.baload, 1) := by decide +kernel
theorem dX4_know_39 : decode cX4_know 39 = .ok (.ifCond .eq 7, 3) := by decide +kernel
theorem dX4_know_42 : decode cX4_know 42 = .ok (.iload_n 1, 1) := by decide +kernel
theorem dX4_know_43 : decode cX4_know 43 = .ok (.goto 4, 3) := by decide +kernel
theorem dX4_know_46 : decode cX4_know 46 = .ok (.iconst (-1), 1) := by decide +kernel
theorem dX4_know_47 : decode cX4_know 47 = .ok (.iastore, 1) := by decide +kernel
theorem dX4_know_48 : decode cX4_know 48 = .ok (.aload_n 0, 1) := by decide +kernel
theorem dX4_know_49 : decode cX4_know 49 = .ok (.getfield 35, 3) := by decide +kernel
theorem dX4_know_52 : decode cX4_know 52 = .ok (.iload_n 1, 1) := by decide +kernel
theorem dX4_know_53 : decode cX4_know 53 = .ok (.aload_n 0, 1) := by decide +kernel
theorem dX4_know_54 : decode cX4_know 54 = .ok (.getfield 13, 3) := by decide +kernel
theorem dX4_know_57 : decode cX4_know 57 = .ok (.iload_n 1, 1) := by decide +kernel
theorem dX4_know_58 : decode cX4_know 58 = .ok (.baload, 1) := by decide +kernel
theorem dX4_know_59 : decode cX4_know 59 = .ok (.ifCond .eq 7, 3) := by decide +kernel
theorem dX4_know_62 : decode cX4_know 62 = .ok (.iconst 1, 1) := by decide +kernel
theorem dX4_know_63 : decode cX4_know 63 = .ok (.goto 4, 3) := by decide +kernel
theorem dX4_know_66 : decode cX4_know 66 = .ok (.iconst 0, 1) := by decide +kernel
theorem dX4_know_67 : decode cX4_know 67 = .ok (.iastore, 1) := by decide +kernel
theorem dX4_know_68 : decode cX4_know 68 = .ok (.aload_n 0, 1) := by decide +kernel
theorem dX4_know_69 : decode cX4_know 69 = .ok (.getfield 32, 3) := by decide +kernel
theorem dX4_know_72 : decode cX4_know 72 = .ok (.sipush 200, 3) := by decide +kernel
theorem dX4_know_75 : decode cX4_know 75 = .ok (.iload_n 1, 1) := by decide +kernel
theorem dX4_know_76 : decode cX4_know 76 = .ok (.imul, 1) := by decide +kernel
theorem dX4_know_77 : decode cX4_know 77 = .ok (.iload_n 1, 1) := by decide +kernel
theorem dX4_know_78 : decode cX4_know 78 = .ok (.iastore, 1) := by decide +kernel
theorem dX4_know_79 : decode cX4_know 79 = .ok (.aload_n 0, 1) := by decide +kernel
theorem dX4_know_80 : decode cX4_know 80 = .ok (.getfield 13, 3) := by decide +kernel
theorem dX4_know_83 : decode cX4_know 83 = .ok (.iload_n 1, 1) := by decide +kernel
theorem dX4_know_84 : decode cX4_know 84 = .ok (.baload, 1) := by decide +kernel
theorem dX4_know_85 : decode cX4_know 85 = .ok (.ifCond .ne 6, 3) := by decide +kernel
theorem dX4_know_88 : decode cX4_know 88 = .ok (.goto 23, 3) := by decide +kernel
theorem dX4_know_91 : decode cX4_know 91 = .ok (.aload_n 0, 1) := by decide +kernel
theorem dX4_know_92 : decode cX4_know 92 = .ok (.getfield 44, 3) := by decide +kernel
theorem dX4_know_95 : decode cX4_know 95 = .ok (.aload_n 0, 1) := by decide +kernel
theorem dX4_know_96 : decode cX4_know 96 = .ok (.getfield 86, 3) := by decide +kernel
theorem dX4_know_99 : decode cX4_know 99 = .ok (.iload_n 1, 1) := by decide +kernel
theorem dX4_know_100 : decode cX4_know 100 = .ok (.iastore, 1) := by decide +kernel
theorem dX4_know_101 : decode cX4_know 101 = .ok (.aload_n 0, 1) := by decide +kernel
theorem dX4_know_102 : decode cX4_know 102 = .ok (.dup, 1) := by decide +kernel
theorem dX4_know_103 : decode cX4_know 103 = .ok (.getfield 86, 3) := by decide +kernel
theorem dX4_know_106 : decode cX4_know 106 = .ok (.iconst 1, 1) := by decide +kernel
theorem dX4_know_107 : decode cX4_know 107 = .ok (.iadd, 1) := by decide +kernel
theorem dX4_know_108 : decode cX4_know 108 = .ok (.putfield 86, 3) := by decide +kernel
theorem dX4_know_111 : decode cX4_know 111 = .ok (.iinc 1 1, 3) := by decide +kernel
theorem dX4_know_114 : decode cX4_know 114 = .ok (.goto (-94), 3) := by decide +kernel
theorem dX4_know_117 : decode cX4_know 117 = .ok (.aload_n 0, 1) := by decide +kernel
theorem dX4_know_118 : decode cX4_know 118 = .ok (.invokevirtual 89, 3) := by decide +kernel
theorem dX4_know_121 : decode cX4_know 121 = .ok (.aload_n 0, 1) := by decide +kernel
theorem dX4_know_122 : decode cX4_know 122 = .ok (.invokevirtual 92, 3) := by decide +kernel
theorem dX4_know_125 : decode cX4_know 125 = .ok (.aload_n 0, 1) := by decide +kernel
theorem dX4_know_126 : decode cX4_know 126 = .ok (.aload_n 0, 1) := by decide +kernel
theorem dX4_know_127 : decode cX4_know 127 = .ok (.aload_n 0, 1) := by decide +kernel
theorem dX4_know_128 : decode cX4_know 128 = .ok (.getfield 41, 3) := by decide +kernel
theorem dX4_know_131 : decode cX4_know 131 = .ok (.aload_n 0, 1) := by decide +kernel
theorem dX4_know_132 : decode cX4_know 132 = .ok (.getfield 86, 3) := by decide +kernel
theorem dX4_know_135 : decode cX4_know 135 = .ok (.invokevirtual 95, 3) := by decide +kernel
theorem dX4_know_138 : decode cX4_know 138 = .ok (.aload_n 0, 1) := by decide +kernel
theorem dX4_know_139 : decode cX4_know 139 = .ok (.aload_n 0, 1) := by decide +kernel
theorem dX4_know_140 : decode cX4_know 140 = .ok (.getfield 44, 3) := by decide +kernel
theorem dX4_know_143 : decode cX4_know 143 = .ok (.aload_n 0, 1) := by decide +kernel
theorem dX4_know_144 : decode cX4_know 144 = .ok (.getfield 86, 3) := by decide +kernel
theorem dX4_know_147 : decode cX4_know 147 = .ok (.invokevirtual 95, 3) := by decide +kernel
theorem dX4_know_150 : decode cX4_know 150 = .ok (.lcmp, 1) := by decide +kernel
theorem dX4_know_151 : decode cX4_know 151 = .ok (.ifCond .le 7, 3) := by decide +kernel
theorem dX4_know_154 : decode cX4_know 154 = .ok (.iconst 1, 1) := by decide +kernel
theorem dX4_know_155 : decode cX4_know 155 = .ok (.goto 4, 3) := by decide +kernel
theorem dX4_know_158 : decode cX4_know 158 = .ok (.iconst 0, 1) := by decide +kernel
theorem dX4_know_159 : decode cX4_know 159 = .ok (.putfield 99, 3) := by decide +kernel
theorem dX4_know_162 : decode cX4_know 162 = .ok (.return_, 1) := by decide +kernel
theorem dX4_comesBefore_0 : decode cX4_comesBefore 0 = .ok (.aload_n 0, 1) := by decide +kernel
theorem dX4_comesBefore_1 : decode cX4_comesBefore 1 = .ok (.getfield 24, 3) := by decide +kernel
theorem dX4_comesBefore_4 : decode cX4_comesBefore 4 = .ok (.iload_n 1, 1) := by decide +kernel
theorem dX4_comesBefore_5 : decode cX4_comesBefore 5 = .ok (.laload, 1) := by decide +kernel
theorem dX4_comesBefore_6 : decode cX4_comesBefore 6 = .ok (.aload_n 0, 1) := by decide +kernel
theorem dX4_comesBefore_7 : decode cX4_comesBefore 7 = .ok (.getfield 24, 3) := by decide +kernel
theorem dX4_comesBefore_10 : decode cX4_comesBefore 10 = .ok (.iload_n 2, 1) := by decide +kernel
theorem dX4_comesBefore_11 : decode cX4_comesBefore 11 = .ok (.laload, 1) := by decide +kernel
theorem dX4_comesBefore_12 : decode cX4_comesBefore 12 = .ok (.lcmp, 1) := by decide +kernel
theorem dX4_comesBefore_13 : decode cX4_comesBefore 13 = .ok (.ifCond .eq 25, 3) := by decide +kernel
theorem dX4_comesBefore_16 : decode cX4_comesBefore 16 = .ok (.aload_n 0, 1) := by decide +kernel
theorem dX4_comesBefore_17 : decode cX4_comesBefore 17 = .ok (.getfield 24, 3) := by decide +kernel
theorem dX4_comesBefore_20 : decode cX4_comesBefore 20 = .ok (.iload_n 1, 1) := by decide +kernel
theorem dX4_comesBefore_21 : decode cX4_comesBefore 21 = .ok (.laload, 1) := by decide +kernel
theorem dX4_comesBefore_22 : decode cX4_comesBefore 22 = .ok (.aload_n 0, 1) := by decide +kernel
theorem dX4_comesBefore_23 : decode cX4_comesBefore 23 = .ok (.getfield 24, 3) := by decide +kernel
theorem dX4_comesBefore_26 : decode cX4_comesBefore 26 = .ok (.iload_n 2, 1) := by decide +kernel
theorem dX4_comesBefore_27 : decode cX4_comesBefore 27 = .ok (.laload, 1) := by decide +kernel
theorem dX4_comesBefore_28 : decode cX4_comesBefore 28 = .ok (.lcmp, 1) := by decide +kernel
theorem dX4_comesBefore_29 : decode cX4_comesBefore 29 = .ok (.ifCond .le 7, 3) := by decide +kernel
theorem dX4_comesBefore_32 : decode cX4_comesBefore 32 = .ok (.iconst 1, 1) := by decide +kernel
theorem dX4_comesBefore_33 : decode cX4_comesBefore 33 = .ok (.goto 4, 3) := by decide +kernel
theorem dX4_comesBefore_36 : decode cX4_comesBefore 36 = .ok (.iconst 0, 1) := by decide +kernel
theorem dX4_comesBefore_37 : decode cX4_comesBefore 37 = .ok (.ireturn, 1) := by decide +kernel
theorem dX4_comesBefore_38 : decode cX4_comesBefore 38 = .ok (.aload_n 0, 1) := by decide +kernel
theorem dX4_comesBefore_39 : decode cX4_comesBefore 39 = .ok (.getfield 17, 3) := by decide +kernel
theorem dX4_comesBefore_42 : decode cX4_comesBefore 42 = .ok (.iload_n 1, 1) := by decide +kernel
theorem dX4_comesBefore_43 : decode cX4_comesBefore 43 = .ok (.iaload, 1) := by decide +kernel
theorem dX4_comesBefore_44 : decode cX4_comesBefore 44 = .ok (.aload_n 0, 1) := by decide +kernel
theorem dX4_comesBefore_45 : decode cX4_comesBefore 45 = .ok (.getfield 17, 3) := by decide +kernel
theorem dX4_comesBefore_48 : decode cX4_comesBefore 48 = .ok (.iload_n 2, 1) := by decide +kernel
theorem dX4_comesBefore_49 : decode cX4_comesBefore 49 = .ok (.iaload, 1) := by decide +kernel
theorem dX4_comesBefore_50 : decode cX4_comesBefore 50 = .ok (.if_icmp .eq 26, 3) := by decide +kernel
theorem dX4_comesBefore_53 : decode cX4_comesBefore 53 = .ok (.aload_n 0, 1) := by decide +kernel
theorem dX4_comesBefore_54 : decode cX4_comesBefore 54 = .ok (.getfield 17, 3) := by decide +kernel
theorem dX4_comesBefore_57 : decode cX4_comesBefore 57 = .ok (.iload_n 1, 1) := by decide +kernel
theorem dX4_comesBefore_58 : decode cX4_comesBefore 58 = .ok (.iaload, 1) := by decide +kernel
theorem dX4_comesBefore_59 : decode cX4_comesBefore 59 = .ok (.aload_n 0, 1) := by decide +kernel
theorem dX4_comesBefore_60 : decode cX4_comesBefore 60 = .ok (.getfield 17, 3) := by decide +kernel
theorem dX4_comesBefore_63 : decode cX4_comesBefore 63 = .ok (.iload_n 2, 1) := by decide +kernel
theorem dX4_comesBefore_64 : decode cX4_comesBefore 64 = .ok (.iaload, 1) := by decide +kernel
theorem dX4_comesBefore_65 : decode cX4_comesBefore 65 = .ok (.if_icmp .ge 7, 3) := by decide +kernel
theorem dX4_comesBefore_68 : decode cX4_comesBefore 68 = .ok (.iconst 1, 1) := by decide +kernel
theorem dX4_comesBefore_69 : decode cX4_comesBefore 69 = .ok (.goto 27, 3) := by decide +kernel
theorem dX4_comesBefore_72 : decode cX4_comesBefore 72 = .ok (.iconst 0, 1) := by decide +kernel
theorem dX4_comesBefore_73 : decode cX4_comesBefore 73 = .ok (.goto 23, 3) := by decide +kernel
theorem dX4_comesBefore_76 : decode cX4_comesBefore 76 = .ok (.aload_n 0, 1) := by decide +kernel
theorem dX4_comesBefore_77 : decode cX4_comesBefore 77 = .ok (.getfield 21, 3) := by decide +kernel
theorem dX4_comesBefore_80 : decode cX4_comesBefore 80 = .ok (.iload_n 1, 1) := by decide +kernel
theorem dX4_comesBefore_81 : decode cX4_comesBefore 81 = .ok (.iaload, 1) := by decide +kernel
theorem dX4_comesBefore_82 : decode cX4_comesBefore 82 = .ok (.aload_n 0, 1) := by decide +kernel
theorem dX4_comesBefore_83 : decode cX4_comesBefore 83 = .ok (.getfield 21, 3) := by decide +kernel
theorem dX4_comesBefore_86 : decode cX4_comesBefore 86 = .ok (.iload_n 2, 1) := by decide +kernel
theorem dX4_comesBefore_87 : decode cX4_comesBefore 87 = .ok (.iaload, 1) := by decide +kernel
theorem dX4_comesBefore_88 : decode cX4_comesBefore 88 = .ok (.if_icmp .ge 7, 3) := by decide +kernel
theorem dX4_comesBefore_91 : decode cX4_comesBefore 91 = .ok (.iconst 1, 1) := by decide +kernel
theorem dX4_comesBefore_92 : decode cX4_comesBefore 92 = .ok (.goto 4, 3) := by decide +kernel
theorem dX4_comesBefore_95 : decode cX4_comesBefore 95 = .ok (.iconst 0, 1) := by decide +kernel
theorem dX4_comesBefore_96 : decode cX4_comesBefore 96 = .ok (.ireturn, 1) := by decide +kernel
set_option maxRecDepth 20000 in
theorem ggX4_chains_X4_comesBefore : GoodIn wsX4_chains wsX4_comesBefore := goodIn_r _ [15, 4, 6, 7, 16, 17, 18, 19, 20, 21, 22, 23, 24, 25, 26, 27, 28, 29, 30, 31, 32, 33] (by decide +kernel) (by decide +kernel)
set_option maxRecDepth 20000 in
theorem gX4_chains_X4_comesBefore : GoodIn wsX4_chains (wsV RX4 102 RX4 yX4_comesBefore wsX4_comesBefore) := goodIn_app (goodIn_of _ (by decide +kernel)) ggX4_chains_X4_comesBefore
theorem dX4_chains_0 : decode cX4_chains 0 = .ok (.iconst 0, 1) := by decide +kernel
theorem dX4_chains_1 : decode cX4_chains 1 = .ok (.istore_n 1, 1) := by decide +kernel
theorem dX4_chains_2 : decode cX4_chains 2 = .ok (.iload_n 1, 1) := by decide +kernel
theorem dX4_chains_3 : decode cX4_chains 3 = .ok (.aload_n 0, 1) := by decide +kernel
theorem dX4_chains_4 : decode cX4_chains 4 = .ok (.getfield 56, 3) := by decide +kernel
theorem dX4_chains_7 : decode cX4_chains 7 = .ok (.if_icmp .ge 68, 3) := by decide +kernel
theorem dX4_chains_10 : decode cX4_chains 10 = .ok (.aload_n 0, 1) := by decide +kernel
theorem dX4_chains_11 : decode cX4_chains 11 = .ok (.getfield 47, 3) := by decide +kernel
theorem dX4_chains_14 : decode cX4_chains 14 = .ok (.iload_n 1, 1) := by decide +kernel
theorem dX4_chains_15 : decode cX4_chains 15 = .ok (.aload_n 0, 1) := by decide +kernel
theorem dX4_chains_16 : decode cX4_chains 16 = .ok (.getfield 28, 3) := by decide +kernel
theorem dX4_chains_19 : decode cX4_chains 19 = .ok (.iload_n 1, 1) := by decide +kernel
theorem dX4_chains_20 : decode cX4_chains 20 = .ok (.baload, 1) := by decide +kernel
theorem dX4_chains_21 : decode cX4_chains 21 = .ok (.ifCond .eq 42, 3) := by decide +kernel
theorem dX4_chains_24 : decode cX4_chains 24 = .ok (.aload_n 0, 1) := by decide +kernel
theorem dX4_chains_25 : decode cX4_chains 25 = .ok (.getfield 24, 3) := by decide +kernel
theorem dX4_chains_28 : decode cX4_chains 28 = .ok (.iload_n 1, 1) := by decide +kernel
theorem dX4_chains_29 : decode cX4_chains 29 = .ok (.laload, 1) := by decide +kernel
theorem dX4_chains_30 : decode cX4_chains 30 = .ok (.lconst 0, 1) := by decide +kernel
theorem dX4_chains_31 : decode cX4_chains 31 = .ok (.lcmp, 1) := by decide +kernel
theorem dX4_chains_32 : decode cX4_chains 32 = .ok (.ifCond .eq 31, 3) := by decide +kernel
theorem dX4_chains_35 : decode cX4_chains 35 = .ok (.aload_n 0, 1) := by decide +kernel
theorem dX4_chains_36 : decode cX4_chains 36 = .ok (.getfield 13, 3) := by decide +kernel
theorem dX4_chains_39 : decode cX4_chains 39 = .ok (.aload_n 0, 1) := by decide +kernel
theorem dX4_chains_40 : decode cX4_chains 40 = .ok (.getfield 17, 3) := by decide +kernel
theorem dX4_chains_43 : decode cX4_chains 43 = .ok (.iload_n 1, 1) := by decide +kernel
theorem dX4_chains_44 : decode cX4_chains 44 = .ok (.iaload, 1) := by decide +kernel
theorem dX4_chains_45 : decode cX4_chains 45 = .ok (.baload, 1) := by decide +kernel
theorem dX4_chains_46 : decode cX4_chains 46 = .ok (.ifCond .eq 17, 3) := by decide +kernel
theorem dX4_chains_49 : decode cX4_chains 49 = .ok (.aload_n 0, 1) := by decide +kernel
theorem dX4_chains_50 : decode cX4_chains 50 = .ok (.getfield 13, 3) := by decide +kernel
theorem dX4_chains_53 : decode cX4_chains 53 = .ok (.aload_n 0, 1) := by decide +kernel
theorem dX4_chains_54 : decode cX4_chains 54 = .ok (.getfield 21, 3) := by decide +kernel
theorem dX4_chains_57 : decode cX4_chains 57 = .ok (.iload_n 1, 1) := by decide +kernel
theorem dX4_chains_58 : decode cX4_chains 58 = .ok (.iaload, 1) := by decide +kernel
theorem dX4_chains_59 : decode cX4_chains 59 = .ok (.baload, 1) := by decide +kernel
theorem dX4_chains_60 : decode cX4_chains 60 = .ok (.ifCond .ne 7, 3) := by decide +kernel
theorem dX4_chains_63 : decode cX4_chains 63 = .ok (.iconst 1, 1) := by decide +kernel
theorem dX4_chains_64 : decode cX4_chains 64 = .ok (.goto 4, 3) := by decide +kernel
theorem dX4_chains_67 : decode cX4_chains 67 = .ok (.iconst 0, 1) := by decide +kernel
theorem dX4_chains_68 : decode cX4_chains 68 = .ok (.bastore, 1) := by decide +kernel
theorem dX4_chains_69 : decode cX4_chains 69 = .ok (.iinc 1 1, 3) := by decide +kernel
theorem dX4_chains_72 : decode cX4_chains 72 = .ok (.goto (-70), 3) := by decide +kernel
theorem dX4_chains_75 : decode cX4_chains 75 = .ok (.iconst 0, 1) := by decide +kernel
theorem dX4_chains_76 : decode cX4_chains 76 = .ok (.istore_n 1, 1) := by decide +kernel
theorem dX4_chains_77 : decode cX4_chains 77 = .ok (.iload_n 1, 1) := by decide +kernel
theorem dX4_chains_78 : decode cX4_chains 78 = .ok (.ifCond .lt 247, 3) := by decide +kernel
theorem dX4_chains_81 : decode cX4_chains 81 = .ok (.iconst (-1), 1) := by decide +kernel
theorem dX4_chains_82 : decode cX4_chains 82 = .ok (.istore_n 1, 1) := by decide +kernel
theorem dX4_chains_83 : decode cX4_chains 83 = .ok (.iconst 0, 1) := by decide +kernel
theorem dX4_chains_84 : decode cX4_chains 84 = .ok (.istore_n 2, 1) := by decide +kernel
theorem dX4_chains_85 : decode cX4_chains 85 = .ok (.iload_n 2, 1) := by decide +kernel
theorem dX4_chains_86 : decode cX4_chains 86 = .ok (.aload_n 0, 1) := by decide +kernel
theorem dX4_chains_87 : decode cX4_chains 87 = .ok (.getfield 56, 3) := by decide +kernel
theorem dX4_chains_90 : decode cX4_chains 90 = .ok (.if_icmp .ge 33, 3) := by decide +kernel
theorem dX4_chains_93 : decode cX4_chains 93 = .ok (.aload_n 0, 1) := by decide +kernel
theorem dX4_chains_94 : decode cX4_chains 94 = .ok (.getfield 47, 3) := by decide +kernel
theorem dX4_chains_97 : decode cX4_chains 97 = .ok (.iload_n 2, 1) := by decide +kernel
theorem dX4_chains_98 : decode cX4_chains 98 = .ok (.baload, 1) := by decide +kernel
theorem dX4_chains_99 : decode cX4_chains 99 = .ok (.ifCond .ne 18, 3) := by decide +kernel
theorem dX4_chains_102 : decode cX4_chains 102 = .ok (.iload_n 1, 1) := by decide +kernel
theorem dX4_chains_103 : decode cX4_chains 103 = .ok (.ifCond .lt 12, 3) := by decide +kernel
theorem dX4_chains_106 : decode cX4_chains 106 = .ok (.aload_n 0, 1) := by decide +kernel
theorem dX4_chains_107 : decode cX4_chains 107 = .ok (.iload_n 2, 1) := by decide +kernel
theorem dX4_chains_108 : decode cX4_chains 108 = .ok (.iload_n 1, 1) := by decide +kernel
theorem dX4_chains_109 : decode cX4_chains 109 = .ok (.invokevirtual 102, 3) := by decide +kernel
theorem dX4_chains_112 : decode cX4_chains 112 = .ok (.ifCond .eq 5, 3) := by decide +kernel
theorem dX4_chains_115 : decode cX4_chains 115 = .ok (.iload_n 2, 1) := by decide +kernel
theorem dX4_chains_116 : decode cX4_chains 116 = .ok (.istore_n 1, 1) := by decide +kernel
theorem dX4_chains_117 : decode cX4_chains 117 = .ok (.iinc 2 1, 3) := by decide +kernel
theorem dX4_chains_120 : decode cX4_chains 120 = .ok (.goto (-35), 3) := by decide +kernel
theorem dX4_chains_123 : decode cX4_chains 123 = .ok (.iload_n 1, 1) := by decide +kernel
theorem dX4_chains_124 : decode cX4_chains 124 = .ok (.ifCond .ge 4, 3) := by decide +kernel
theorem dX4_chains_127 : decode cX4_chains 127 = .ok (.return_, 1) := by decide +kernel
theorem dX4_chains_128 : decode cX4_chains 128 = .ok (.aload_n 0, 1) := by decide +kernel
theorem dX4_chains_129 : decode cX4_chains 129 = .ok (.getfield 47, 3) := by decide +kernel
theorem dX4_chains_132 : decode cX4_chains 132 = .ok (.iload_n 1, 1) := by decide +kernel
theorem dX4_chains_133 : decode cX4_chains 133 = .ok (.iconst 1, 1) := by decide +kernel
theorem dX4_chains_134 : decode cX4_chains 134 = .ok (.bastore, 1) := by decide +kernel
theorem dX4_chains_135 : decode cX4_chains 135 = .ok (.aload_n 0, 1) := by decide +kernel
theorem dX4_chains_136 : decode cX4_chains 136 = .ok (.getfield 38, 3) := by decide +kernel
theorem dX4_chains_139 : decode cX4_chains 139 = .ok (.aload_n 0, 1) := by decide +kernel
theorem dX4_chains_140 : decode cX4_chains 140 = .ok (.getfield 17, 3) := by decide +kernel
theorem dX4_chains_143 : decode cX4_chains 143 = .ok (.iload_n 1, 1) := by decide +kernel
theorem dX4_chains_144 : decode cX4_chains 144 = .ok (.iaload, 1) := by decide +kernel
theorem dX4_chains_145 : decode cX4_chains 145 = .ok (.iaload, 1) := by decide +kernel
theorem dX4_chains_146 : decode cX4_chains 146 = .ok (.istore_n 2, 1) := by decide +kernel
theorem dX4_chains_147 : decode cX4_chains 147 = .ok (.aload_n 0, 1) := by decide +kernel
theorem dX4_chains_148 : decode cX4_chains 148 = .ok (.getfield 38, 3) := by decide +kernel
theorem dX4_chains_151 : decode cX4_chains 151 = .ok (.aload_n 0, 1) := by decide +kernel
theorem dX4_chains_152 : decode cX4_chains 152 = .ok (.getfield 21, 3) := by decide +kernel
theorem dX4_chains_155 : decode cX4_chains 155 = .ok (.iload_n 1, 1) := by decide +kernel
theorem dX4_chains_156 : decode cX4_chains 156 = .ok (.iaload, 1) := by decide +kernel
theorem dX4_chains_157 : decode cX4_chains 157 = .ok (.iaload, 1) := by decide +kernel
theorem dX4_chains_158 : decode cX4_chains 158 = .ok (.istore_n 3, 1) := by decide +kernel
theorem dX4_chains_159 : decode cX4_chains 159 = .ok (.iload_n 2, 1) := by decide +kernel
theorem dX4_chains_160 : decode cX4_chains 160 = .ok (.iload_n 3, 1) := by decide +kernel
theorem dX4_chains_161 : decode cX4_chains 161 = .ok (.if_icmp .eq 63, 3) := by decide +kernel
theorem dX4_chains_164 : decode cX4_chains 164 = .ok (.aload_n 0, 1) := by decide +kernel
theorem dX4_chains_165 : decode cX4_chains 165 = .ok (.getfield 32, 3) := by decide +kernel
theorem dX4_chains_168 : decode cX4_chains 168 = .ok (.sipush 200, 3) := by decide +kernel
theorem dX4_chains_171 : decode cX4_chains 171 = .ok (.iload_n 2, 1) := by decide +kernel
theorem dX4_chains_172 : decode cX4_chains 172 = .ok (.imul, 1) := by decide +kernel
theorem dX4_chains_173 : decode cX4_chains 173 = .ok (.aload_n 0, 1) := by decide +kernel
theorem dX4_chains_174 : decode cX4_chains 174 = .ok (.getfield 35, 3) := by decide +kernel
theorem dX4_chains_177 : decode cX4_chains 177 = .ok (.iload_n 2, 1) := by decide +kernel
theorem dX4_chains_178 : decode cX4_chains 178 = .ok (.iaload, 1) := by decide +kernel
theorem dX4_chains_179 : decode cX4_chains 179 = .ok (.iadd, 1) := by decide +kernel
theorem dX4_chains_180 : decode cX4_chains 180 = .ok (.iconst 1, 1) := by decide +kernel
theorem dX4_chains_181 : decode cX4_chains 181 = .ok (.isub, 1) := by decide +kernel
theorem dX4_chains_182 : decode cX4_chains 182 = .ok (.iaload, 1) := by decide +kernel
theorem dX4_chains_183 : decode cX4_chains 183 = .ok (.aload_n 0, 1) := by decide +kernel
theorem dX4_chains_184 : decode cX4_chains 184 = .ok (.getfield 17, 3) := by decide +kernel
theorem dX4_chains_187 : decode cX4_chains 187 = .ok (.iload_n 1, 1) := by decide +kernel
theorem dX4_chains_188 : decode cX4_chains 188 = .ok (.iaload, 1) := by decide +kernel
theorem dX4_chains_189 : decode cX4_chains 189 = .ok (.if_icmp .ne 35, 3) := by decide +kernel
theorem dX4_chains_192 : decode cX4_chains 192 = .ok (.aload_n 0, 1) := by decide +kernel
theorem dX4_chains_193 : decode cX4_chains 193 = .ok (.getfield 32, 3) := by decide +kernel
theorem dX4_chains_196 : decode cX4_chains 196 = .ok (.sipush 200, 3) := by decide +kernel
theorem dX4_chains_199 : decode cX4_chains 199 = .ok (.iload_n 3, 1) := by decide +kernel
theorem dX4_chains_200 : decode cX4_chains 200 = .ok (.imul, 1) := by decide +kernel
theorem dX4_chains_201 : decode cX4_chains 201 = .ok (.iaload, 1) := by decide +kernel
theorem dX4_chains_202 : decode cX4_chains 202 = .ok (.aload_n 0, 1) := by decide +kernel
theorem dX4_chains_203 : decode cX4_chains 203 = .ok (.getfield 21, 3) := by decide +kernel
theorem dX4_chains_206 : decode cX4_chains 206 = .ok (.iload_n 1, 1) := by decide +kernel
theorem dX4_chains_207 : decode cX4_chains 207 = .ok (.iaload, 1) := by decide +kernel
theorem dX4_chains_208 : decode cX4_chains 208 = .ok (.if_icmp .ne 16, 3) := by decide +kernel
theorem dX4_chains_211 : decode cX4_chains 211 = .ok (.aload_n 0, 1) := by decide +kernel
theorem dX4_chains_212 : decode cX4_chains 212 = .ok (.getfield 21, 3) := by decide +kernel
theorem dX4_chains_215 : decode cX4_chains 215 = .ok (.iload_n 1, 1) := by decide +kernel
theorem dX4_chains_216 : decode cX4_chains 216 = .ok (.iaload, 1) := by decide +kernel
theorem dX4_chains_217 : decode cX4_chains 217 = .ok (.ifCond .eq 7, 3) := by decide +kernel
theorem dX4_chains_220 : decode cX4_chains 220 = .ok (.iconst 1, 1) := by decide +kernel
theorem dX4_chains_221 : decode cX4_chains 221 = .ok (.goto 4, 3) := by decide +kernel
theorem dX4_chains_224 : decode cX4_chains 224 = .ok (.iconst 0, 1) := by decide +kernel
theorem dX4_chains_225 : decode cX4_chains 225 = .ok (.istore 4, 2) := by decide +kernel
theorem dX4_chains_227 : decode cX4_chains 227 = .ok (.iload 4, 2) := by decide +kernel
theorem dX4_chains_229 : decode cX4_chains 229 = .ok (.ifCond .ne 6, 3) := by decide +kernel
theorem dX4_chains_232 : decode cX4_chains 232 = .ok (.goto (-155), 3) := by decide +kernel
theorem dX4_chains_235 : decode cX4_chains 235 = .ok (.iconst 0, 1) := by decide +kernel
theorem dX4_chains_236 : decode cX4_chains 236 = .ok (.istore 5, 2) := by decide +kernel
theorem dX4_chains_238 : decode cX4_chains 238 = .ok (.iload 5, 2) := by decide +kernel
theorem dX4_chains_240 : decode cX4_chains 240 = .ok (.aload_n 0, 1) := by decide +kernel
theorem dX4_chains_241 : decode cX4_chains 241 = .ok (.getfield 35, 3) := by decide +kernel
theorem dX4_chains_244 : decode cX4_chains 244 = .ok (.iload_n 3, 1) := by decide +kernel
theorem dX4_chains_245 : decode cX4_chains 245 = .ok (.iaload, 1) := by decide +kernel
theorem dX4_chains_246 : decode cX4_chains 246 = .ok (.if_icmp .ge 54, 3) := by decide +kernel
theorem dX4_chains_249 : decode cX4_chains 249 = .ok (.aload_n 0, 1) := by decide +kernel
theorem dX4_chains_250 : decode cX4_chains 250 = .ok (.getfield 32, 3) := by decide +kernel
theorem dX4_chains_253 : decode cX4_chains 253 = .ok (.sipush 200, 3) := by decide +kernel
theorem dX4_chains_256 : decode cX4_chains 256 = .ok (.iload_n 3, 1) := by decide +kernel
theorem dX4_chains_257 : decode cX4_chains 257 = .ok (.imul, 1) := by decide +kernel
theorem dX4_chains_258 : decode cX4_chains 258 = .ok (.iload 5, 2) := by decide +kernel
theorem dX4_chains_260 : decode cX4_chains 260 = .ok (.iadd, 1) := by decide +kernel
theorem dX4_chains_261 : decode cX4_chains 261 = .ok (.iaload, 1) := by decide +kernel
theorem dX4_chains_262 : decode cX4_chains 262 = .ok (.istore 6, 2) := by decide +kernel
theorem dX4_chains_264 : decode cX4_chains 264 = .ok (.aload_n 0, 1) := by decide +kernel
theorem dX4_chains_265 : decode cX4_chains 265 = .ok (.getfield 32, 3) := by decide +kernel
theorem dX4_chains_268 : decode cX4_chains 268 = .ok (.sipush 200, 3) := by decide +kernel
theorem dX4_chains_271 : decode cX4_chains 271 = .ok (.iload_n 2, 1) := by decide +kernel
theorem dX4_chains_272 : decode cX4_chains 272 = .ok (.imul, 1) := by decide +kernel
theorem dX4_chains_273 : decode cX4_chains 273 = .ok (.aload_n 0, 1) := by decide +kernel
theorem dX4_chains_274 : decode cX4_chains 274 = .ok (.getfield 35, 3) := by decide +kernel
theorem dX4_chains_277 : decode cX4_chains 277 = .ok (.iload_n 2, 1) := by decide +kernel
theorem dX4_chains_278 : decode cX4_chains 278 = .ok (.iaload, 1) := by decide +kernel
theorem dX4_chains_279 : decode cX4_chains 279 = .ok (.iadd, 1) := by decide +kernel
theorem dX4_chains_280 : decode cX4_chains 280 = .ok (.iload 5, 2) := by decide +kernel
theorem dX4_chains_282 : decode cX4_chains 282 = .ok (.iadd, 1) := by decide +kernel
theorem dX4_chains_283 : decode cX4_chains 283 = .ok (.iload 6, 2) := by decide +kernel
theorem dX4_chains_285 : decode cX4_chains 285 = .ok (.iastore, 1) := by decide +kernel
theorem dX4_chains_286 : decode cX4_chains 286 = .ok (.aload_n 0, 1) := by decide +kernel
theorem dX4_chains_287 : decode cX4_chains 287 = .ok (.getfield 38, 3) := by decide +kernel
theorem dX4_chains_290 : decode cX4_chains 290 = .ok (.iload 6, 2) := by decide +kernel
theorem dX4_chains_292 : decode cX4_chains 292 = .ok (.iload_n 2, 1) := by decide +kernel
theorem dX4_chains_293 : decode cX4_chains 293 = .ok (.iastore, 1) := by decide +kernel
theorem dX4_chains_294 : decode cX4_chains 294 = .ok (.iinc 5 1, 3) := by decide +kernel
theorem dX4_chains_297 : decode cX4_chains 297 = .ok (.goto (-59), 3) := by decide +kernel
theorem dX4_chains_300 : decode cX4_chains 300 = .ok (.aload_n 0, 1) := by decide +kernel
theorem dX4_chains_301 : decode cX4_chains 301 = .ok (.getfield 35, 3) := by decide +kernel
theorem dX4_chains_304 : decode cX4_chains 304 = .ok (.iload_n 2, 1) := by decide +kernel
theorem dX4_chains_305 : decode cX4_chains 305 = .ok (.dup2, 1) := by decide +kernel
theorem dX4_chains_306 : decode cX4_chains 306 = .ok (.iaload, 1) := by decide +kernel
theorem dX4_chains_307 : decode cX4_chains 307 = .ok (.aload_n 0, 1) := by decide +kernel
theorem dX4_chains_308 : decode cX4_chains 308 = .ok (.getfield 35, 3) := by decide +kernel
theorem dX4_chains_311 : decode cX4_chains 311 = .ok (.iload_n 3, 1) := by decide +kernel
theorem dX4_chains_312 : decode cX4_chains 312 = .ok (.iaload, 1) := by decide +kernel
theorem dX4_chains_313 : decode cX4_chains 313 = .ok (.iadd, 1) := by decide +kernel
theorem dX4_chains_314 : decode cX4_chains 314 = .ok (.iastore, 1) := by decide +kernel
theorem dX4_chains_315 : decode cX4_chains 315 = .ok (.aload_n 0, 1) := by decide +kernel
theorem dX4_chains_316 : decode cX4_chains 316 = .ok (.getfield 35, 3) := by decide +kernel
theorem dX4_chains_319 : decode cX4_chains 319 = .ok (.iload_n 3, 1) := by decide +kernel
theorem dX4_chains_320 : decode cX4_chains 320 = .ok (.iconst 0, 1) := by decide +kernel
theorem dX4_chains_321 : decode cX4_chains 321 = .ok (.iastore, 1) := by decide +kernel
theorem dX4_chains_322 : decode cX4_chains 322 = .ok (.goto (-245), 3) := by decide +kernel
theorem dX4_chains_325 : decode cX4_chains 325 = .ok (.return_, 1) := by decide +kernel
set_option maxRecDepth 20000 in
theorem ggX4_place_X4_sum : GoodIn wsX4_place wsX4_sum := goodIn_r _ [14, 15, 16, 17, 6, 2, 18, 19, 20, 21, 22, 23, 24, 25, 26, 27, 28, 29, 30, 31, 32, 33, 34, 35, 36] (by decide +kernel) (by decide +kernel)
set_option maxRecDepth 20000 in
theorem gX4_place_X4_sum : GoodIn wsX4_place (wsV RX4 106 RX4 yX4_sum wsX4_sum) := goodIn_app (goodIn_of _ (by decide +kernel)) ggX4_place_X4_sum
theorem dX4_place_0 : decode cX4_place 0 = .ok (.iconst 0, 1) := by decide +kernel
theorem dX4_place_1 : decode cX4_place 1 = .ok (.istore_n 1, 1) := by decide +kernel
theorem dX4_place_2 : decode cX4_place 2 = .ok (.iload_n 1, 1) := by decide +kernel
theorem dX4_place_3 : decode cX4_place 3 = .ok (.aload_n 0, 1) := by decide +kernel
theorem dX4_place_4 : decode cX4_place 4 = .ok (.getfield 7, 3) := by decide +kernel
theorem dX4_place_7 : decode cX4_place 7 = .ok (.if_icmp .ge 16, 3) := by decide +kernel
theorem dX4_place_10 : decode cX4_place 10 = .ok (.aload_n 0, 1) := by decide +kernel
theorem dX4_place_11 : decode cX4_place 11 = .ok (.getfield 50, 3) := by decide +kernel
theorem dX4_place_14 : decode cX4_place 14 = .ok (.iload_n 1, 1) := by decide +kernel
theorem dX4_place_15 : decode cX4_place 15 = .ok (.iconst 0, 1) := by decide +kernel
theorem dX4_place_16 : decode cX4_place 16 = .ok (.bastore, 1) := by decide +kernel
theorem dX4_place_17 : decode cX4_place 17 = .ok (.iinc 1 1, 3) := by decide +kernel
theorem dX4_place_20 : decode cX4_place 20 = .ok (.goto (-18), 3) := by decide +kernel
theorem dX4_place_23 : decode cX4_place 23 = .ok (.iconst 0, 1) := by decide +kernel
theorem dX4_place_24 : decode cX4_place 24 = .ok (.istore_n 1, 1) := by decide +kernel
theorem dX4_place_25 : decode cX4_place 25 = .ok (.iload_n 1, 1) := by decide +kernel
theorem dX4_place_26 : decode cX4_place 26 = .ok (.aload_n 0, 1) := by decide +kernel
theorem dX4_place_27 : decode cX4_place 27 = .ok (.getfield 86, 3) := by decide +kernel
theorem dX4_place_30 : decode cX4_place 30 = .ok (.if_icmp .ge 160, 3) := by decide +kernel
theorem dX4_place_33 : decode cX4_place 33 = .ok (.iconst (-1), 1) := by decide +kernel
theorem dX4_place_34 : decode cX4_place 34 = .ok (.istore_n 2, 1) := by decide +kernel
theorem dX4_place_35 : decode cX4_place 35 = .ok (.ldc2_w 67, 3) := by decide +kernel
theorem dX4_place_38 : decode cX4_place 38 = .ok (.lstore_n 3, 1) := by decide +kernel
theorem dX4_place_39 : decode cX4_place 39 = .ok (.iconst 0, 1) := by decide +kernel
theorem dX4_place_40 : decode cX4_place 40 = .ok (.istore 5, 2) := by decide +kernel
theorem dX4_place_42 : decode cX4_place 42 = .ok (.iload 5, 2) := by decide +kernel
theorem dX4_place_44 : decode cX4_place 44 = .ok (.aload_n 0, 1) := by decide +kernel
theorem dX4_place_45 : decode cX4_place 45 = .ok (.getfield 7, 3) := by decide +kernel
theorem dX4_place_48 : decode cX4_place 48 = .ok (.if_icmp .ge 85, 3) := by decide +kernel
theorem dX4_place_51 : decode cX4_place 51 = .ok (.aload_n 0, 1) := by decide +kernel
theorem dX4_place_52 : decode cX4_place 52 = .ok (.getfield 13, 3) := by decide +kernel
theorem dX4_place_55 : decode cX4_place 55 = .ok (.iload 5, 2) := by decide +kernel
theorem dX4_place_57 : decode cX4_place 57 = .ok (.baload, 1) := by decide +kernel
theorem dX4_place_58 : decode cX4_place 58 = .ok (.ifCond .eq 69, 3) := by decide +kernel
theorem dX4_place_61 : decode cX4_place 61 = .ok (.aload_n 0, 1) := by decide +kernel
theorem dX4_place_62 : decode cX4_place 62 = .ok (.getfield 50, 3) := by decide +kernel
theorem dX4_place_65 : decode cX4_place 65 = .ok (.iload 5, 2) := by decide +kernel
theorem dX4_place_67 : decode cX4_place 67 = .ok (.baload, 1) := by decide +kernel
theorem dX4_place_68 : decode cX4_place 68 = .ok (.ifCond .ne 59, 3) := by decide +kernel
theorem dX4_place_71 : decode cX4_place 71 = .ok (.iload_n 2, 1) := by decide +kernel
theorem dX4_place_72 : decode cX4_place 72 = .ok (.aload_n 0, 1) := by decide +kernel
theorem dX4_place_73 : decode cX4_place 73 = .ok (.getfield 38, 3) := by decide +kernel
theorem dX4_place_76 : decode cX4_place 76 = .ok (.iload 5, 2) := by decide +kernel
theorem dX4_place_78 : decode cX4_place 78 = .ok (.iaload, 1) := by decide +kernel
theorem dX4_place_79 : decode cX4_place 79 = .ok (.if_icmp .ne 6, 3) := by decide +kernel
theorem dX4_place_82 : decode cX4_place 82 = .ok (.goto 45, 3) := by decide +kernel
theorem dX4_place_85 : decode cX4_place 85 = .ok (.iload_n 1, 1) := by decide +kernel
theorem dX4_place_86 : decode cX4_place 86 = .ok (.ifCond .ne 7, 3) := by decide +kernel
theorem dX4_place_89 : decode cX4_place 89 = .ok (.lconst 0, 1) := by decide +kernel
theorem dX4_place_90 : decode cX4_place 90 = .ok (.goto 14, 3) := by decide +kernel
theorem dX4_place_93 : decode cX4_place 93 = .ok (.aload_n 0, 1) := by decide +kernel
theorem dX4_place_94 : decode cX4_place 94 = .ok (.aload_n 0, 1) := by decide +kernel
theorem dX4_place_95 : decode cX4_place 95 = .ok (.getfield 38, 3) := by decide +kernel
theorem dX4_place_98 : decode cX4_place 98 = .ok (.iload 5, 2) := by decide +kernel
theorem dX4_place_100 : decode cX4_place 100 = .ok (.iaload, 1) := by decide +kernel
theorem dX4_place_101 : decode cX4_place 101 = .ok (.invokevirtual 106, 3) := by decide +kernel
theorem dX4_place_104 : decode cX4_place 104 = .ok (.lstore 6, 2) := by decide +kernel
theorem dX4_place_106 : decode cX4_place 106 = .ok (.lload 6, 2) := by decide +kernel
theorem dX4_place_108 : decode cX4_place 108 = .ok (.lload_n 3, 1) := by decide +kernel
theorem dX4_place_109 : decode cX4_place 109 = .ok (.lcmp, 1) := by decide +kernel
theorem dX4_place_110 : decode cX4_place 110 = .ok (.ifCond .gt 6, 3) := by decide +kernel
theorem dX4_place_113 : decode cX4_place 113 = .ok (.goto 14, 3) := by decide +kernel
theorem dX4_place_116 : decode cX4_place 116 = .ok (.aload_n 0, 1) := by decide +kernel
theorem dX4_place_117 : decode cX4_place 117 = .ok (.getfield 38, 3) := by decide +kernel
theorem dX4_place_120 : decode cX4_place 120 = .ok (.iload 5, 2) := by decide +kernel
theorem dX4_place_122 : decode cX4_place 122 = .ok (.iaload, 1) := by decide +kernel
theorem dX4_place_123 : decode cX4_place 123 = .ok (.istore_n 2, 1) := by decide +kernel
theorem dX4_place_124 : decode cX4_place 124 = .ok (.lload 6, 2) := by decide +kernel
theorem dX4_place_126 : decode cX4_place 126 = .ok (.lstore_n 3, 1) := by decide +kernel
theorem dX4_place_127 : decode cX4_place 127 = .ok (.iinc 5 1, 3) := by decide +kernel
theorem dX4_place_130 : decode cX4_place 130 = .ok (.goto (-88), 3) := by decide +kernel
theorem dX4_place_133 : decode cX4_place 133 = .ok (.iconst 0, 1) := by decide +kernel
theorem dX4_place_134 : decode cX4_place 134 = .ok (.istore 5, 2) := by decide +kernel
theorem dX4_place_136 : decode cX4_place 136 = .ok (.iload 5, 2) := by decide +kernel
theorem dX4_place_138 : decode cX4_place 138 = .ok (.aload_n 0, 1) := by decide +kernel
theorem dX4_place_139 : decode cX4_place 139 = .ok (.getfield 35, 3) := by decide +kernel
theorem dX4_place_142 : decode cX4_place 142 = .ok (.iload_n 2, 1) := by decide +kernel
theorem dX4_place_143 : decode cX4_place 143 = .ok (.iaload, 1) := by decide +kernel
theorem dX4_place_144 : decode cX4_place 144 = .ok (.if_icmp .ge 43, 3) := by decide +kernel
theorem dX4_place_147 : decode cX4_place 147 = .ok (.aload_n 0, 1) := by decide +kernel
theorem dX4_place_148 : decode cX4_place 148 = .ok (.getfield 41, 3) := by decide +kernel
theorem dX4_place_151 : decode cX4_place 151 = .ok (.iload_n 1, 1) := by decide +kernel
theorem dX4_place_152 : decode cX4_place 152 = .ok (.aload_n 0, 1) := by decide +kernel
theorem dX4_place_153 : decode cX4_place 153 = .ok (.getfield 32, 3) := by decide +kernel
theorem dX4_place_156 : decode cX4_place 156 = .ok (.sipush 200, 3) := by decide +kernel
theorem dX4_place_159 : decode cX4_place 159 = .ok (.iload_n 2, 1) := by decide +kernel
theorem dX4_place_160 : decode cX4_place 160 = .ok (.imul, 1) := by decide +kernel
theorem dX4_place_161 : decode cX4_place 161 = .ok (.iload 5, 2) := by decide +kernel
theorem dX4_place_163 : decode cX4_place 163 = .ok (.iadd, 1) := by decide +kernel
theorem dX4_place_164 : decode cX4_place 164 = .ok (.iaload, 1) := by decide +kernel
theorem dX4_place_165 : decode cX4_place 165 = .ok (.iastore, 1) := by decide +kernel
theorem dX4_place_166 : decode cX4_place 166 = .ok (.aload_n 0, 1) := by decide +kernel
theorem dX4_place_167 : decode cX4_place 167 = .ok (.getfield 50, 3) := by decide +kernel
theorem dX4_place_170 : decode cX4_place 170 = .ok (.aload_n 0, 1) := by decide +kernel
theorem dX4_place_171 : decode cX4_place 171 = .ok (.getfield 41, 3) := by decide +kernel
theorem dX4_place_174 : decode cX4_place 174 = .ok (.iload_n 1, 1) := by decide +kernel
theorem dX4_place_175 : decode cX4_place 175 = .ok (.iaload, 1) := by decide +kernel
theorem dX4_place_176 : decode cX4_place 176 = .ok (.iconst 1, 1) := by decide +kernel
theorem dX4_place_177 : decode cX4_place 177 = .ok (.bastore, 1) := by decide +kernel
theorem dX4_place_178 : decode cX4_place 178 = .ok (.iinc 1 1, 3) := by decide +kernel
theorem dX4_place_181 : decode cX4_place 181 = .ok (.iinc 5 1, 3) := by decide +kernel
theorem dX4_place_184 : decode cX4_place 184 = .ok (.goto (-48), 3) := by decide +kernel
theorem dX4_place_187 : decode cX4_place 187 = .ok (.goto (-162), 3) := by decide +kernel
theorem dX4_place_190 : decode cX4_place 190 = .ok (.return_, 1) := by decide +kernel
theorem dX4_sum_0 : decode cX4_sum 0 = .ok (.lconst 0, 1) := by decide +kernel
theorem dX4_sum_1 : decode cX4_sum 1 = .ok (.lstore_n 2, 1) := by decide +kernel
theorem dX4_sum_2 : decode cX4_sum 2 = .ok (.iconst 0, 1) := by decide +kernel
theorem dX4_sum_3 : decode cX4_sum 3 = .ok (.istore 4, 2) := by decide +kernel
theorem dX4_sum_5 : decode cX4_sum 5 = .ok (.iload 4, 2) := by decide +kernel
theorem dX4_sum_7 : decode cX4_sum 7 = .ok (.aload_n 0, 1) := by decide +kernel
theorem dX4_sum_8 : decode cX4_sum 8 = .ok (.getfield 56, 3) := by decide +kernel
theorem dX4_sum_11 : decode cX4_sum 11 = .ok (.if_icmp .ge 79, 3) := by decide +kernel
theorem dX4_sum_14 : decode cX4_sum 14 = .ok (.aload_n 0, 1) := by decide +kernel
theorem dX4_sum_15 : decode cX4_sum 15 = .ok (.getfield 17, 3) := by decide +kernel
theorem dX4_sum_18 : decode cX4_sum 18 = .ok (.iload 4, 2) := by decide +kernel
theorem dX4_sum_20 : decode cX4_sum 20 = .ok (.iaload, 1) := by decide +kernel
theorem dX4_sum_21 : decode cX4_sum 21 = .ok (.istore 5, 2) := by decide +kernel
theorem dX4_sum_23 : decode cX4_sum 23 = .ok (.aload_n 0, 1) := by decide +kernel
theorem dX4_sum_24 : decode cX4_sum 24 = .ok (.getfield 21, 3) := by decide +kernel
theorem dX4_sum_27 : decode cX4_sum 27 = .ok (.iload 4, 2) := by decide +kernel
theorem dX4_sum_29 : decode cX4_sum 29 = .ok (.iaload, 1) := by decide +kernel
theorem dX4_sum_30 : decode cX4_sum 30 = .ok (.istore 6, 2) := by decide +kernel
theorem dX4_sum_32 : decode cX4_sum 32 = .ok (.aload_n 0, 1) := by decide +kernel
theorem dX4_sum_33 : decode cX4_sum 33 = .ok (.getfield 38, 3) := by decide +kernel
theorem dX4_sum_36 : decode cX4_sum 36 = .ok (.iload 5, 2) := by decide +kernel
theorem dX4_sum_38 : decode cX4_sum 38 = .ok (.iaload, 1) := by decide +kernel
theorem dX4_sum_39 : decode cX4_sum 39 = .ok (.iload_n 1, 1) := by decide +kernel
theorem dX4_sum_40 : decode cX4_sum 40 = .ok (.if_icmp .ne 13, 3) := by decide +kernel
theorem dX4_sum_43 : decode cX4_sum 43 = .ok (.aload_n 0, 1) := by decide +kernel
theorem dX4_sum_44 : decode cX4_sum 44 = .ok (.getfield 50, 3) := by decide +kernel
theorem dX4_sum_47 : decode cX4_sum 47 = .ok (.iload 6, 2) := by decide +kernel
theorem dX4_sum_49 : decode cX4_sum 49 = .ok (.baload, 1) := by decide +kernel
theorem dX4_sum_50 : decode cX4_sum 50 = .ok (.ifCond .ne 24, 3) := by decide +kernel
theorem dX4_sum_53 : decode cX4_sum 53 = .ok (.aload_n 0, 1) := by decide +kernel
theorem dX4_sum_54 : decode cX4_sum 54 = .ok (.getfield 38, 3) := by decide +kernel
theorem dX4_sum_57 : decode cX4_sum 57 = .ok (.iload 6, 2) := by decide +kernel
theorem dX4_sum_59 : decode cX4_sum 59 = .ok (.iaload, 1) := by decide +kernel
theorem dX4_sum_60 : decode cX4_sum 60 = .ok (.iload_n 1, 1) := by decide +kernel
theorem dX4_sum_61 : decode cX4_sum 61 = .ok (.if_icmp .ne 23, 3) := by decide +kernel
theorem dX4_sum_64 : decode cX4_sum 64 = .ok (.aload_n 0, 1) := by decide +kernel
theorem dX4_sum_65 : decode cX4_sum 65 = .ok (.getfield 50, 3) := by decide +kernel
theorem dX4_sum_68 : decode cX4_sum 68 = .ok (.iload 5, 2) := by decide +kernel
theorem dX4_sum_70 : decode cX4_sum 70 = .ok (.baload, 1) := by decide +kernel
theorem dX4_sum_71 : decode cX4_sum 71 = .ok (.ifCond .eq 13, 3) := by decide +kernel
theorem dX4_sum_74 : decode cX4_sum 74 = .ok (.lload_n 2, 1) := by decide +kernel
theorem dX4_sum_75 : decode cX4_sum 75 = .ok (.aload_n 0, 1) := by decide +kernel
theorem dX4_sum_76 : decode cX4_sum 76 = .ok (.getfield 24, 3) := by decide +kernel
theorem dX4_sum_79 : decode cX4_sum 79 = .ok (.iload 4, 2) := by decide +kernel
theorem dX4_sum_81 : decode cX4_sum 81 = .ok (.laload, 1) := by decide +kernel
theorem dX4_sum_82 : decode cX4_sum 82 = .ok (.ladd, 1) := by decide +kernel
theorem dX4_sum_83 : decode cX4_sum 83 = .ok (.lstore_n 2, 1) := by decide +kernel
theorem dX4_sum_84 : decode cX4_sum 84 = .ok (.iinc 4 1, 3) := by decide +kernel
theorem dX4_sum_87 : decode cX4_sum 87 = .ok (.goto (-82), 3) := by decide +kernel
theorem dX4_sum_90 : decode cX4_sum 90 = .ok (.lload_n 2, 1) := by decide +kernel
theorem dX4_sum_91 : decode cX4_sum 91 = .ok (.lreturn, 1) := by decide +kernel
set_option maxRecDepth 20000 in
theorem ggX4_weightOf_X4_find : GoodIn wsX4_weightOf wsX4_find := goodIn_r _ [7, 8, 9, 10, 11, 12, 13, 14, 15, 16, 17, 18, 19, 20, 21, 22, 23, 24, 25, 26, 27, 28] (by decide +kernel) (by decide +kernel)
set_option maxRecDepth 20000 in
theorem gX4_weightOf_X4_find : GoodIn wsX4_weightOf (wsV RX4 72 RX4 yX4_find wsX4_find) := goodIn_app (goodIn_of _ (by decide +kernel)) ggX4_weightOf_X4_find
theorem dX4_weightOf_0 : decode cX4_weightOf 0 = .ok (.lconst 0, 1) := by decide +kernel
theorem dX4_weightOf_1 : decode cX4_weightOf 1 = .ok (.lstore_n 3, 1) := by decide +kernel
theorem dX4_weightOf_2 : decode cX4_weightOf 2 = .ok (.iconst 0, 1) := by decide +kernel
theorem dX4_weightOf_3 : decode cX4_weightOf 3 = .ok (.istore 5, 2) := by decide +kernel
theorem dX4_weightOf_5 : decode cX4_weightOf 5 = .ok (.iload 5, 2) := by decide +kernel
theorem dX4_weightOf_7 : decode cX4_weightOf 7 = .ok (.iconst 1, 1) := by decide +kernel
theorem dX4_weightOf_8 : decode cX4_weightOf 8 = .ok (.iadd, 1) := by decide +kernel
theorem dX4_weightOf_9 : decode cX4_weightOf 9 = .ok (.iload_n 2, 1) := by decide +kernel
theorem dX4_weightOf_10 : decode cX4_weightOf 10 = .ok (.if_icmp .ge 50, 3) := by decide +kernel
theorem dX4_weightOf_13 : decode cX4_weightOf 13 = .ok (.aload_n 0, 1) := by decide +kernel
theorem dX4_weightOf_14 : decode cX4_weightOf 14 = .ok (.aload_n 1, 1) := by decide +kernel
theorem dX4_weightOf_15 : decode cX4_weightOf 15 = .ok (.iload 5, 2) := by decide +kernel
theorem dX4_weightOf_17 : decode cX4_weightOf 17 = .ok (.iaload, 1) := by decide +kernel
theorem dX4_weightOf_18 : decode cX4_weightOf 18 = .ok (.aload_n 1, 1) := by decide +kernel
theorem dX4_weightOf_19 : decode cX4_weightOf 19 = .ok (.iload 5, 2) := by decide +kernel
theorem dX4_weightOf_21 : decode cX4_weightOf 21 = .ok (.iconst 1, 1) := by decide +kernel
theorem dX4_weightOf_22 : decode cX4_weightOf 22 = .ok (.iadd, 1) := by decide +kernel
theorem dX4_weightOf_23 : decode cX4_weightOf 23 = .ok (.iaload, 1) := by decide +kernel
theorem dX4_weightOf_24 : decode cX4_weightOf 24 = .ok (.invokevirtual 72, 3) := by decide +kernel
theorem dX4_weightOf_27 : decode cX4_weightOf 27 = .ok (.istore 6, 2) := by decide +kernel
theorem dX4_weightOf_29 : decode cX4_weightOf 29 = .ok (.iload 6, 2) := by decide +kernel
theorem dX4_weightOf_31 : decode cX4_weightOf 31 = .ok (.ifCond .lt 23, 3) := by decide +kernel
theorem dX4_weightOf_34 : decode cX4_weightOf 34 = .ok (.aload_n 0, 1) := by decide +kernel
theorem dX4_weightOf_35 : decode cX4_weightOf 35 = .ok (.getfield 28, 3) := by decide +kernel
theorem dX4_weightOf_38 : decode cX4_weightOf 38 = .ok (.iload 6, 2) := by decide +kernel
theorem dX4_weightOf_40 : decode cX4_weightOf 40 = .ok (.baload, 1) := by decide +kernel
theorem dX4_weightOf_41 : decode cX4_weightOf 41 = .ok (.ifCond .eq 13, 3) := by decide +kernel
theorem dX4_weightOf_44 : decode cX4_weightOf 44 = .ok (.lload_n 3, 1) := by decide +kernel
theorem dX4_weightOf_45 : decode cX4_weightOf 45 = .ok (.aload_n 0, 1) := by decide +kernel
theorem dX4_weightOf_46 : decode cX4_weightOf 46 = .ok (.getfield 24, 3) := by decide +kernel
theorem dX4_weightOf_49 : decode cX4_weightOf 49 = .ok (.iload 6, 2) := by decide +kernel
theorem dX4_weightOf_51 : decode cX4_weightOf 51 = .ok (.laload, 1) := by decide +kernel
theorem dX4_weightOf_52 : decode cX4_weightOf 52 = .ok (.ladd, 1) := by decide +kernel
theorem dX4_weightOf_53 : decode cX4_weightOf 53 = .ok (.lstore_n 3, 1) := by decide +kernel
theorem dX4_weightOf_54 : decode cX4_weightOf 54 = .ok (.iinc 5 1, 3) := by decide +kernel
theorem dX4_weightOf_57 : decode cX4_weightOf 57 = .ok (.goto (-52), 3) := by decide +kernel
theorem dX4_weightOf_60 : decode cX4_weightOf 60 = .ok (.lload_n 3, 1) := by decide +kernel
theorem dX4_weightOf_61 : decode cX4_weightOf 61 = .ok (.lreturn, 1) := by decide +kernel
set_option maxRecDepth 20000 in
theorem ggX4_length_X4_know : GoodIn wsX4_length wsX4_know := goodIn_r _ [6, 7, 1, 8, 9, 10, 11, 12, 13, 14, 15, 16, 17, 18, 5, 19, 20, 21, 22, 23, 24, 25, 26, 27, 28, 29, 30, 31, 32, 33, 34, 35, 36, 37, 38, 39, 40, 41, 42, 43, 44, 45, 46, 47, 48, 49, 50, 51, 52, 53, 54, 55, 56, 57, 58, 59, 60, 61, 62, 63, 64, 65] (by decide +kernel) (by decide +kernel)
set_option maxRecDepth 20000 in
theorem gX4_length_X4_know : GoodIn wsX4_length (wsV RX4 110 RX4 yX4_know wsX4_know) := goodIn_app (goodIn_of _ (by decide +kernel)) ggX4_length_X4_know
theorem dX4_length_0 : decode cX4_length 0 = .ok (.aload_n 0, 1) := by decide +kernel
theorem dX4_length_1 : decode cX4_length 1 = .ok (.invokevirtual 110, 3) := by decide +kernel
theorem dX4_length_4 : decode cX4_length 4 = .ok (.aload_n 0, 1) := by decide +kernel
theorem dX4_length_5 : decode cX4_length 5 = .ok (.getfield 86, 3) := by decide +kernel
theorem dX4_length_8 : decode cX4_length 8 = .ok (.ireturn, 1) := by decide +kernel
set_option maxRecDepth 20000 in
theorem ggX4_row_X4_know : GoodIn wsX4_row wsX4_know := goodIn_r _ [9, 10, 1, 11, 12, 13, 14, 15, 4, 3, 2, 16, 17, 18, 8, 19, 20, 21, 22, 23, 24, 25, 26, 27, 28, 29, 30, 31, 32, 33, 34, 35, 36, 37, 38, 39, 40, 41, 42, 43, 44, 45, 46, 47, 48, 49, 50, 51, 52, 53, 54, 55, 56, 57, 58, 59, 60, 61, 62, 63, 64, 65] (by decide +kernel) (by decide +kernel)
set_option maxRecDepth 20000 in
theorem gX4_row_X4_know : GoodIn wsX4_row (wsV RX4 110 RX4 yX4_know wsX4_know) := goodIn_app (goodIn_of _ (by decide +kernel)) ggX4_row_X4_know
theorem dX4_row_0 : decode cX4_row 0 = .ok (.aload_n 0, 1) := by decide +kernel
theorem dX4_row_1 : decode cX4_row 1 = .ok (.invokevirtual 110, 3) := by decide +kernel
theorem dX4_row_4 : decode cX4_row 4 = .ok (.iload_n 1, 1) := by decide +kernel
theorem dX4_row_5 : decode cX4_row 5 = .ok (.ifCond .lt 11, 3) := by decide +kernel
theorem dX4_row_8 : decode cX4_row 8 = .ok (.iload_n 1, 1) := by decide +kernel
theorem dX4_row_9 : decode cX4_row 9 = .ok (.aload_n 0, 1) := by decide +kernel
theorem dX4_row_10 : decode cX4_row 10 = .ok (.getfield 86, 3) := by decide +kernel
theorem dX4_row_13 : decode cX4_row 13 = .ok (.if_icmp .lt 7, 3) := by decide +kernel
theorem dX4_row_16 : decode cX4_row 16 = .ok (.iconst (-1), 1) := by decide +kernel
theorem dX4_row_17 : decode cX4_row 17 = .ok (.goto 25, 3) := by decide +kernel
theorem dX4_row_20 : decode cX4_row 20 = .ok (.aload_n 0, 1) := by decide +kernel
theorem dX4_row_21 : decode cX4_row 21 = .ok (.getfield 99, 3) := by decide +kernel
theorem dX4_row_24 : decode cX4_row 24 = .ok (.ifCond .eq 12, 3) := by decide +kernel
theorem dX4_row_27 : decode cX4_row 27 = .ok (.aload_n 0, 1) := by decide +kernel
theorem dX4_row_28 : decode cX4_row 28 = .ok (.getfield 41, 3) := by decide +kernel
theorem dX4_row_31 : decode cX4_row 31 = .ok (.iload_n 1, 1) := by decide +kernel
theorem dX4_row_32 : decode cX4_row 32 = .ok (.iaload, 1) := by decide +kernel
theorem dX4_row_33 : decode cX4_row 33 = .ok (.goto 9, 3) := by decide +kernel
theorem dX4_row_36 : decode cX4_row 36 = .ok (.aload_n 0, 1) := by decide +kernel
theorem dX4_row_37 : decode cX4_row 37 = .ok (.getfield 44, 3) := by decide +kernel
theorem dX4_row_40 : decode cX4_row 40 = .ok (.iload_n 1, 1) := by decide +kernel
theorem dX4_row_41 : decode cX4_row 41 = .ok (.iaload, 1) := by decide +kernel
theorem dX4_row_42 : decode cX4_row 42 = .ok (.ireturn, 1) := by decide +kernel
set_option maxRecDepth 20000 in
theorem ggX4_weight_X4_know : GoodIn wsX4_weight wsX4_know := goodIn_r _ [12, 13, 7, 2, 14, 15, 16, 17, 6, 5, 4, 18, 19, 20, 11, 21, 22, 23, 24, 25, 26, 27, 28, 29, 30, 31, 32, 33, 34, 35, 36, 1, 37, 38, 39, 40, 41, 42, 43, 44, 45, 46, 47, 48, 49, 50, 51, 52, 53, 54, 55, 56, 57, 58, 59, 60, 61, 62, 63, 64, 65, 66] (by decide +kernel) (by decide +kernel)
set_option maxRecDepth 20000 in
theorem gX4_weight_X4_know : GoodIn wsX4_weight (wsV RX4 110 RX4 yX4_know wsX4_know) := goodIn_app (goodIn_of _ (by decide +kernel)) ggX4_weight_X4_know
set_option maxRecDepth 20000 in
theorem ggX4_weight_X4_weightOf : GoodIn wsX4_weight wsX4_weightOf := goodIn_r _ [44, 24, 25, 45, 46, 47, 11, 48, 22, 26, 27, 49, 50, 51, 52, 53, 54, 55, 56, 57, 58, 59, 60, 61, 62, 63, 64, 65, 66] (by decide +kernel) (by decide +kernel)
set_option maxRecDepth 20000 in
theorem gX4_weight_X4_weightOf : GoodIn wsX4_weight (wsV RX4 95 RX4 yX4_weightOf wsX4_weightOf) := goodIn_app (goodIn_of _ (by decide +kernel)) ggX4_weight_X4_weightOf
end
section
theorem dX4_weight_0 : decode cX4_weight 0 = .ok (.aload_n 0, 1) := by decide +kernel
theorem dX4_weight_1 : decode cX4_weight 1 = .ok (.invokevirtual 110, 3) := by decide +kernel
theorem dX4_weight_4 : decode cX4_weight 4 = .ok (.iload_n 1, 1) := by decide +kernel
theorem dX4_weight_5 : decode cX4_weight 5 = .ok (.ifCond .lt 8, 3) := by decide +kernel
theorem dX4_weight_8 : decode cX4_weight 8 = .ok (.iload_n 1, 1) := by decide +kernel
theorem dX4_weight_9 : decode cX4_weight 9 = .ok (.iconst 3, 1) := by decide +kernel
theorem dX4_weight_10 : decode cX4_weight 10 = .ok (.if_icmp .le 7, 3) := by decide +kernel
theorem dX4_weight_13 : decode cX4_weight 13 = .ok (.ldc2_w 67, 3) := by decide +kernel
theorem dX4_weight_16 : decode cX4_weight 16 = .ok (.lreturn, 1) := by decide +kernel
theorem dX4_weight_17 : decode cX4_weight 17 = .ok (.iconst 0, 1) := by decide +kernel
theorem dX4_weight_18 : decode cX4_weight 18 = .ok (.istore_n 2, 1) := by decide +kernel
theorem dX4_weight_19 : decode cX4_weight 19 = .ok (.iload_n 2, 1) := by decide +kernel
theorem dX4_weight_20 : decode cX4_weight 20 = .ok (.aload_n 0, 1) := by decide +kernel
theorem dX4_weight_21 : decode cX4_weight 21 = .ok (.getfield 7, 3) := by decide +kernel
theorem dX4_weight_24 : decode cX4_weight 24 = .ok (.if_icmp .ge 16, 3) := by decide +kernel
theorem dX4_weight_27 : decode cX4_weight 27 = .ok (.aload_n 0, 1) := by decide +kernel
theorem dX4_weight_28 : decode cX4_weight 28 = .ok (.getfield 53, 3) := by decide +kernel
theorem dX4_weight_31 : decode cX4_weight 31 = .ok (.iload_n 2, 1) := by decide +kernel
theorem dX4_weight_32 : decode cX4_weight 32 = .ok (.iload_n 2, 1) := by decide +kernel
theorem dX4_weight_33 : decode cX4_weight 33 = .ok (.iastore, 1) := by decide +kernel
theorem dX4_weight_34 : decode cX4_weight 34 = .ok (.iinc 2 1, 3) := by decide +kernel
theorem dX4_weight_37 : decode cX4_weight 37 = .ok (.goto (-18), 3) := by decide +kernel
theorem dX4_weight_40 : decode cX4_weight 40 = .ok (.iload_n 1, 1) := by decide +kernel
theorem dX4_weight_41 : decode cX4_weight 41 = .ok (.ifCond .ne 32, 3) := by decide +kernel
theorem dX4_weight_44 : decode cX4_weight 44 = .ok (.aload_n 0, 1) := by decide +kernel
theorem dX4_weight_45 : decode cX4_weight 45 = .ok (.aload_n 0, 1) := by decide +kernel
theorem dX4_weight_46 : decode cX4_weight 46 = .ok (.getfield 99, 3) := by decide +kernel
theorem dX4_weight_49 : decode cX4_weight 49 = .ok (.ifCond .eq 10, 3) := by decide +kernel
theorem dX4_weight_52 : decode cX4_weight 52 = .ok (.aload_n 0, 1) := by decide +kernel
theorem dX4_weight_53 : decode cX4_weight 53 = .ok (.getfield 41, 3) := by decide +kernel
theorem dX4_weight_56 : decode cX4_weight 56 = .ok (.goto 7, 3) := by decide +kernel
theorem dX4_weight_59 : decode cX4_weight 59 = .ok (.aload_n 0, 1) := by decide +kernel
theorem dX4_weight_60 : decode cX4_weight 60 = .ok (.getfield 44, 3) := by decide +kernel
theorem dX4_weight_63 : decode cX4_weight 63 = .ok (.aload_n 0, 1) := by decide +kernel
theorem dX4_weight_64 : decode cX4_weight 64 = .ok (.getfield 86, 3) := by decide +kernel
theorem dX4_weight_67 : decode cX4_weight 67 = .ok (.invokevirtual 95, 3) := by decide +kernel
theorem dX4_weight_70 : decode cX4_weight 70 = .ok (.goto 55, 3) := by decide +kernel
theorem dX4_weight_73 : decode cX4_weight 73 = .ok (.iload_n 1, 1) := by decide +kernel
theorem dX4_weight_74 : decode cX4_weight 74 = .ok (.iconst 1, 1) := by decide +kernel
theorem dX4_weight_75 : decode cX4_weight 75 = .ok (.if_icmp .ne 18, 3) := by decide +kernel
theorem dX4_weight_78 : decode cX4_weight 78 = .ok (.aload_n 0, 1) := by decide +kernel
theorem dX4_weight_79 : decode cX4_weight 79 = .ok (.aload_n 0, 1) := by decide +kernel
theorem dX4_weight_80 : decode cX4_weight 80 = .ok (.getfield 44, 3) := by decide +kernel
theorem dX4_weight_83 : decode cX4_weight 83 = .ok (.aload_n 0, 1) := by decide +kernel
theorem dX4_weight_84 : decode cX4_weight 84 = .ok (.getfield 86, 3) := by decide +kernel
theorem dX4_weight_87 : decode cX4_weight 87 = .ok (.invokevirtual 95, 3) := by decide +kernel
theorem dX4_weight_90 : decode cX4_weight 90 = .ok (.goto 35, 3) := by decide +kernel
theorem dX4_weight_93 : decode cX4_weight 93 = .ok (.iload_n 1, 1) := by decide +kernel
theorem dX4_weight_94 : decode cX4_weight 94 = .ok (.iconst 2, 1) := by decide +kernel
theorem dX4_weight_95 : decode cX4_weight 95 = .ok (.if_icmp .ne 18, 3) := by decide +kernel
theorem dX4_weight_98 : decode cX4_weight 98 = .ok (.aload_n 0, 1) := by decide +kernel
theorem dX4_weight_99 : decode cX4_weight 99 = .ok (.aload_n 0, 1) := by decide +kernel
theorem dX4_weight_100 : decode cX4_weight 100 = .ok (.getfield 53, 3) := by decide +kernel
theorem dX4_weight_103 : decode cX4_weight 103 = .ok (.aload_n 0, 1) := by decide +kernel
theorem dX4_weight_104 : decode cX4_weight 104 = .ok (.getfield 7, 3) := by decide +kernel
theorem dX4_weight_107 : decode cX4_weight 107 = .ok (.invokevirtual 95, 3) := by decide +kernel
theorem dX4_weight_110 : decode cX4_weight 110 = .ok (.goto 15, 3) := by decide +kernel
theorem dX4_weight_113 : decode cX4_weight 113 = .ok (.aload_n 0, 1) := by decide +kernel
theorem dX4_weight_114 : decode cX4_weight 114 = .ok (.aload_n 0, 1) := by decide +kernel
theorem dX4_weight_115 : decode cX4_weight 115 = .ok (.getfield 41, 3) := by decide +kernel
theorem dX4_weight_118 : decode cX4_weight 118 = .ok (.aload_n 0, 1) := by decide +kernel
theorem dX4_weight_119 : decode cX4_weight 119 = .ok (.getfield 86, 3) := by decide +kernel
theorem dX4_weight_122 : decode cX4_weight 122 = .ok (.invokevirtual 95, 3) := by decide +kernel
theorem dX4_weight_125 : decode cX4_weight 125 = .ok (.lreturn, 1) := by decide +kernel
set_option maxRecDepth 20000 in
theorem ggX4_chain_X4_know : GoodIn wsX4_chain wsX4_know := goodIn_r _ [8, 9, 10, 11, 3, 1, 12, 2, 13, 14, 15, 16, 17, 18, 7, 19, 20, 21, 22, 23, 24, 25, 26, 27, 28, 29, 30, 31, 32, 33, 34, 35, 36, 37, 38, 39, 40, 41, 42, 43, 44, 45, 46, 47, 52, 53, 54, 55, 56, 57, 58, 59, 60, 61, 62, 63, 64, 65, 66, 67, 68, 69] (by decide +kernel) (by decide +kernel)
set_option maxRecDepth 20000 in
theorem gX4_chain_X4_know : GoodIn wsX4_chain (wsV RX4 110 RX4 yX4_know wsX4_know) := goodIn_app (goodIn_of _ (by decide +kernel)) ggX4_chain_X4_know
set_option maxRecDepth 20000 in
theorem ggX4_chain_X4_isBlock : GoodIn wsX4_chain wsX4_isBlock := goodIn_r _ [51, 11, 52, 53, 54, 55, 56, 57, 58, 59, 60, 61, 62, 63, 64, 65, 66, 67, 68, 69] (by decide +kernel) (by decide +kernel)
set_option maxRecDepth 20000 in
theorem gX4_chain_X4_isBlock : GoodIn wsX4_chain (wsV RX4 63 RX4 yX4_isBlock wsX4_isBlock) := goodIn_app (goodIn_of _ (by decide +kernel)) ggX4_chain_X4_isBlock
theorem dX4_chain_0 : decode cX4_chain 0 = .ok (.aload_n 0, 1) := by decide +kernel
theorem dX4_chain_1 : decode cX4_chain 1 = .ok (.invokevirtual 110, 3) := by decide +kernel
theorem dX4_chain_4 : decode cX4_chain 4 = .ok (.aload_n 0, 1) := by decide +kernel
theorem dX4_chain_5 : decode cX4_chain 5 = .ok (.iload_n 1, 1) := by decide +kernel
theorem dX4_chain_6 : decode cX4_chain 6 = .ok (.invokevirtual 63, 3) := by decide +kernel
theorem dX4_chain_9 : decode cX4_chain 9 = .ok (.ifCond .eq 12, 3) := by decide +kernel
theorem dX4_chain_12 : decode cX4_chain 12 = .ok (.aload_n 0, 1) := by decide +kernel
theorem dX4_chain_13 : decode cX4_chain 13 = .ok (.getfield 13, 3) := by decide +kernel
theorem dX4_chain_16 : decode cX4_chain 16 = .ok (.iload_n 1, 1) := by decide +kernel
theorem dX4_chain_17 : decode cX4_chain 17 = .ok (.baload, 1) := by decide +kernel
theorem dX4_chain_18 : decode cX4_chain 18 = .ok (.ifCond .ne 7, 3) := by decide +kernel
theorem dX4_chain_21 : decode cX4_chain 21 = .ok (.iconst (-1), 1) := by decide +kernel
theorem dX4_chain_22 : decode cX4_chain 22 = .ok (.goto 18, 3) := by decide +kernel
theorem dX4_chain_25 : decode cX4_chain 25 = .ok (.aload_n 0, 1) := by decide +kernel
theorem dX4_chain_26 : decode cX4_chain 26 = .ok (.getfield 32, 3) := by decide +kernel
theorem dX4_chain_29 : decode cX4_chain 29 = .ok (.sipush 200, 3) := by decide +kernel
theorem dX4_chain_32 : decode cX4_chain 32 = .ok (.aload_n 0, 1) := by decide +kernel
theorem dX4_chain_33 : decode cX4_chain 33 = .ok (.getfield 38, 3) := by decide +kernel
theorem dX4_chain_36 : decode cX4_chain 36 = .ok (.iload_n 1, 1) := by decide +kernel
theorem dX4_chain_37 : decode cX4_chain 37 = .ok (.iaload, 1) := by decide +kernel
theorem dX4_chain_38 : decode cX4_chain 38 = .ok (.imul, 1) := by decide +kernel
theorem dX4_chain_39 : decode cX4_chain 39 = .ok (.iaload, 1) := by decide +kernel
theorem dX4_chain_40 : decode cX4_chain 40 = .ok (.ireturn, 1) := by decide +kernel
theorem dJ9_min_f86c9_0 : decode cJ9_min_f86c9 0 = .ok (.lload_n 0, 1) := by decide +kernel
theorem dJ9_min_f86c9_1 : decode cJ9_min_f86c9 1 = .ok (.lload_n 2, 1) := by decide +kernel
theorem dJ9_min_f86c9_2 : decode cJ9_min_f86c9 2 = .ok (.lcmp, 1) := by decide +kernel
theorem dJ9_min_f86c9_3 : decode cJ9_min_f86c9 3 = .ok (.ifCond .gt 7, 3) := by decide +kernel
theorem dJ9_min_f86c9_6 : decode cJ9_min_f86c9 6 = .ok (.lload_n 0, 1) := by decide +kernel
theorem dJ9_min_f86c9_7 : decode cJ9_min_f86c9 7 = .ok (.goto 4, 3) := by decide +kernel
theorem dJ9_min_f86c9_10 : decode cJ9_min_f86c9 10 = .ok (.lload_n 2, 1) := by decide +kernel
theorem dJ9_min_f86c9_11 : decode cJ9_min_f86c9 11 = .ok (.lreturn, 1) := by decide +kernel
theorem dJ7_fill_d0a16_0 : decode cJ7_fill_d0a16 0 = .ok (.iconst 0, 1) := by decide +kernel
theorem dJ7_fill_d0a16_1 : decode cJ7_fill_d0a16 1 = .ok (.istore_n 3, 1) := by decide +kernel
theorem dJ7_fill_d0a16_2 : decode cJ7_fill_d0a16 2 = .ok (.aload_n 0, 1) := by decide +kernel
theorem dJ7_fill_d0a16_3 : decode cJ7_fill_d0a16 3 = .ok (.arraylength, 1) := by decide +kernel
theorem dJ7_fill_d0a16_4 : decode cJ7_fill_d0a16 4 = .ok (.istore 4, 2) := by decide +kernel
theorem dJ7_fill_d0a16_6 : decode cJ7_fill_d0a16 6 = .ok (.iload_n 3, 1) := by decide +kernel
theorem dJ7_fill_d0a16_7 : decode cJ7_fill_d0a16 7 = .ok (.iload 4, 2) := by decide +kernel
theorem dJ7_fill_d0a16_9 : decode cJ7_fill_d0a16 9 = .ok (.if_icmp .ge 13, 3) := by decide +kernel
theorem dJ7_fill_d0a16_12 : decode cJ7_fill_d0a16 12 = .ok (.aload_n 0, 1) := by decide +kernel
theorem dJ7_fill_d0a16_13 : decode cJ7_fill_d0a16 13 = .ok (.iload_n 3, 1) := by decide +kernel
theorem dJ7_fill_d0a16_14 : decode cJ7_fill_d0a16 14 = .ok (.lload_n 1, 1) := by decide +kernel
theorem dJ7_fill_d0a16_15 : decode cJ7_fill_d0a16 15 = .ok (.lastore, 1) := by decide +kernel
theorem dJ7_fill_d0a16_16 : decode cJ7_fill_d0a16 16 = .ok (.iinc 3 1, 3) := by decide +kernel
theorem dJ7_fill_d0a16_19 : decode cJ7_fill_d0a16 19 = .ok (.goto (-13), 3) := by decide +kernel
theorem dJ7_fill_d0a16_22 : decode cJ7_fill_d0a16 22 = .ok (.return_, 1) := by decide +kernel
theorem dJ7_fill_53178_0 : decode cJ7_fill_53178 0 = .ok (.iconst 0, 1) := by decide +kernel
theorem dJ7_fill_53178_1 : decode cJ7_fill_53178 1 = .ok (.istore_n 2, 1) := by decide +kernel
theorem dJ7_fill_53178_2 : decode cJ7_fill_53178 2 = .ok (.aload_n 0, 1) := by decide +kernel
theorem dJ7_fill_53178_3 : decode cJ7_fill_53178 3 = .ok (.arraylength, 1) := by decide +kernel
theorem dJ7_fill_53178_4 : decode cJ7_fill_53178 4 = .ok (.istore_n 3, 1) := by decide +kernel
theorem dJ7_fill_53178_5 : decode cJ7_fill_53178 5 = .ok (.iload_n 2, 1) := by decide +kernel
theorem dJ7_fill_53178_6 : decode cJ7_fill_53178 6 = .ok (.iload_n 3, 1) := by decide +kernel
theorem dJ7_fill_53178_7 : decode cJ7_fill_53178 7 = .ok (.if_icmp .ge 13, 3) := by decide +kernel
theorem dJ7_fill_53178_10 : decode cJ7_fill_53178 10 = .ok (.aload_n 0, 1) := by decide +kernel
theorem dJ7_fill_53178_11 : decode cJ7_fill_53178 11 = .ok (.iload_n 2, 1) := by decide +kernel
theorem dJ7_fill_53178_12 : decode cJ7_fill_53178 12 = .ok (.iload_n 1, 1) := by decide +kernel
theorem dJ7_fill_53178_13 : decode cJ7_fill_53178 13 = .ok (.iastore, 1) := by decide +kernel
theorem dJ7_fill_53178_14 : decode cJ7_fill_53178 14 = .ok (.iinc 2 1, 3) := by decide +kernel
theorem dJ7_fill_53178_17 : decode cJ7_fill_53178 17 = .ok (.goto (-12), 3) := by decide +kernel
theorem dJ7_fill_53178_20 : decode cJ7_fill_53178 20 = .ok (.return_, 1) := by decide +kernel
set_option maxRecDepth 20000 in
theorem ggL_law_X3_init : GoodIn wsL_law wsX3_init := goodIn_r _ [8, 9, 10, 11, 12, 13, 14, 15, 16, 17, 18, 19, 20, 21, 22, 23, 24, 25, 26, 27, 28, 29, 30, 31, 32, 33, 34, 35, 36, 37, 38, 39, 40, 41, 42, 43, 44, 45, 46, 47, 48, 49, 316, 317, 318, 319, 320, 321, 322, 323, 324, 325, 326, 345, 346, 347, 348, 349, 350, 351, 352, 353, 354, 355] (by decide +kernel) (by decide +kernel)
set_option maxRecDepth 20000 in
theorem gL_law_X3_init : GoodIn wsL_law (wsX3_init) := ggL_law_X3_init
set_option maxRecDepth 20000 in
theorem ggL_law_X4_init : GoodIn wsL_law wsX4_init := goodIn_r _ [52, 53, 10, 11, 54, 12, 55, 33, 56, 57, 36, 58, 59, 60, 61, 62, 63, 64, 65, 66, 67, 68, 327, 328, 329, 330, 331, 332, 333, 334, 335, 336, 337, 338, 339, 340, 341, 342, 343, 344] (by decide +kernel) (by decide +kernel)
set_option maxRecDepth 20000 in
theorem gL_law_X4_init : GoodIn wsL_law (wsX4_init) := ggL_law_X4_init
set_option maxRecDepth 20000 in
theorem ggL_law_X3_size : GoodIn wsL_law wsX3_size := goodIn_r _ [72, 28, 13, 17, 29, 73, 74, 75, 16, 76, 77, 316, 317, 318, 319, 320, 321, 322, 323, 324, 325, 326, 345, 346, 347, 348, 349] (by decide +kernel) (by decide +kernel)
set_option maxRecDepth 20000 in
theorem gL_law_X3_size : GoodIn wsL_law (wsV RL 13 RX3 yX3_size wsX3_size) := goodIn_app (goodIn_of _ (by decide +kernel)) ggL_law_X3_size
set_option maxRecDepth 20000 in
theorem ggL_law_X4_size : GoodIn wsL_law wsX4_size := goodIn_r _ [81, 54, 82, 55, 83, 327, 328, 329, 330, 331, 332, 333, 334, 335, 336, 337, 338, 339, 340, 341, 342, 343, 344] (by decide +kernel) (by decide +kernel)
set_option maxRecDepth 20000 in
theorem gL_law_X4_size : GoodIn wsL_law (wsV RL 17 RX4 yX4_size wsX4_size) := goodIn_app (goodIn_of _ (by decide +kernel)) ggL_law_X4_size
set_option maxRecDepth 20000 in
theorem ggL_law_X3_heat : GoodIn wsL_law wsX3_heat := goodIn_r _ [87, 13, 29, 88, 89, 90, 2, 91, 28, 316, 317, 318, 319, 320, 321, 322, 323, 324, 325, 326] (by decide +kernel) (by decide +kernel)
set_option maxRecDepth 20000 in
theorem gL_law_X3_heat : GoodIn wsL_law (wsV RL 18 RX3 yX3_heat wsX3_heat) := goodIn_app (goodIn_of _ (by decide +kernel)) ggL_law_X3_heat
set_option maxRecDepth 20000 in
theorem ggL_law_X4_heat : GoodIn wsL_law wsX4_heat := goodIn_r _ [95, 55, 83, 96, 97, 98, 5, 99, 54, 327, 328, 329, 330, 331, 332, 333, 334, 335, 336, 337, 338, 339, 340, 341, 342, 343, 344] (by decide +kernel) (by decide +kernel)
set_option maxRecDepth 20000 in
theorem gL_law_X4_heat : GoodIn wsL_law (wsV RL 22 RX4 yX4_heat wsX4_heat) := goodIn_app (goodIn_of _ (by decide +kernel)) ggL_law_X4_heat
set_option maxRecDepth 20000 in
theorem ggL_law_X3_way : GoodIn wsL_law wsX3_way := goodIn_r _ [103, 104, 105, 106, 29, 17, 88, 89, 90, 2, 91, 28, 107, 108, 109, 16, 110, 111, 112, 37, 113, 114, 115, 116, 38, 117, 118, 119, 120, 77, 34, 35, 121, 122, 123, 124, 125, 126, 127, 128, 129, 130, 131, 132, 133, 134, 135, 136, 316, 317, 318, 319, 320, 321, 322, 323, 324, 325, 326, 345, 346, 347, 348, 349] (by decide +kernel) (by decide +kernel)
set_option maxRecDepth 20000 in
theorem gL_law_X3_way : GoodIn wsL_law (wsV RL 23 RX3 yX3_way wsX3_way) := goodIn_app (goodIn_of _ (by decide +kernel)) ggL_law_X3_way
set_option maxRecDepth 20000 in
theorem ggL_law_X4_way : GoodIn wsL_law wsX4_way := goodIn_r _ [140, 141, 142, 143, 82, 144, 56, 57, 58, 145, 146, 114, 115, 116, 59, 83, 96, 97, 98, 5, 99, 54, 147, 148, 149, 150, 327, 328, 329, 330, 331, 332, 333, 334, 335, 336, 337, 338, 339, 340, 341, 342, 343, 344] (by decide +kernel) (by decide +kernel)
set_option maxRecDepth 20000 in
theorem gL_law_X4_way : GoodIn wsL_law (wsV RL 27 RX4 yX4_way wsX4_way) := goodIn_app (goodIn_of _ (by decide +kernel)) ggL_law_X4_way
set_option maxRecDepth 20000 in
theorem ggL_law_X3_count : GoodIn wsL_law wsX3_count := goodIn_r _ [154, 17, 155, 156, 157, 16, 158, 37, 117, 118, 119, 120, 77, 34, 35, 316, 317, 318, 319, 320, 321, 322, 323, 324, 325, 326, 345, 346, 347, 348, 349] (by decide +kernel) (by decide +kernel)
set_option maxRecDepth 20000 in
theorem gL_law_X3_count : GoodIn wsL_law (wsV RL 28 RX3 yX3_count wsX3_count) := goodIn_app (goodIn_of _ (by decide +kernel)) ggL_law_X3_count
set_option maxRecDepth 20000 in
theorem ggL_law_X4_count : GoodIn wsL_law wsX4_count := goodIn_r _ [162, 58, 147, 148, 149, 5, 150, 82, 56, 57, 327, 328, 329, 330, 331, 332, 333, 334, 335, 336, 337, 338, 339, 340, 341, 342, 343, 344] (by decide +kernel) (by decide +kernel)
set_option maxRecDepth 20000 in
theorem gL_law_X4_count : GoodIn wsL_law (wsV RL 32 RX4 yX4_count wsX4_count) := goodIn_app (goodIn_of _ (by decide +kernel)) ggL_law_X4_count
set_option maxRecDepth 20000 in
theorem ggL_law_X3_length : GoodIn wsL_law wsX3_length := goodIn_r _ [166, 26, 167, 168, 169, 2, 170, 29, 21, 17, 27, 25, 171, 172, 173, 174, 175, 176, 177, 28, 13, 178, 179, 180, 24, 181, 182, 49, 183, 184, 185, 186, 187, 188, 189, 190, 48, 191, 192, 193, 194, 195, 20, 196, 43, 42, 197, 198, 199, 200, 201, 202, 203, 204, 205, 206, 207, 208, 209, 210, 211, 212, 213, 214, 215, 216, 217, 218, 219, 220, 221, 44, 222, 223, 224, 225, 226, 227, 228, 229, 230, 231, 232, 233, 234, 235, 236, 237, 238, 239, 240, 241, 242, 243, 244, 245, 246, 247, 248, 249, 16, 250, 77, 38, 34, 35, 37, 251, 252, 253, 254, 255, 316, 317, 318, 319, 320, 321, 322, 323, 324, 325, 326, 353, 354, 355, 350, 351, 352, 345, 346, 347, 348, 349] (by decide +kernel) (by decide +kernel)
set_option maxRecDepth 20000 in
theorem gL_law_X3_length : GoodIn wsL_law (wsV RL 33 RX3 yX3_length wsX3_length) := goodIn_app (goodIn_of _ (by decide +kernel)) ggL_law_X3_length
set_option maxRecDepth 20000 in
theorem ggL_law_X4_length : GoodIn wsL_law wsX4_length := goodIn_r _ [259, 260, 261, 262, 263, 5, 264, 83, 54, 63, 55, 62, 61, 65, 64, 265, 266, 267, 268, 269, 82, 66, 59, 58, 56, 57, 270, 271, 272, 273, 274, 275, 276, 277, 67, 141, 278, 279, 280, 281, 282, 283, 284, 285, 147, 148, 149, 150, 327, 328, 329, 330, 331, 332, 333, 334, 335, 336, 337, 338, 339, 340, 341, 342, 343, 344] (by decide +kernel) (by decide +kernel)
set_option maxRecDepth 20000 in
theorem gL_law_X4_length : GoodIn wsL_law (wsV RL 37 RX4 yX4_length wsX4_length) := goodIn_app (goodIn_of _ (by decide +kernel)) ggL_law_X4_length
set_option maxRecDepth 20000 in
theorem ggL_law_X3_row : GoodIn wsL_law wsX3_row := goodIn_r _ [289, 27, 26, 167, 168, 169, 2, 170, 29, 21, 17, 25, 171, 172, 173, 174, 175, 176, 177, 28, 13, 178, 179, 180, 24, 181, 182, 49, 183, 184, 185, 186, 187, 188, 189, 190, 48, 191, 192, 193, 194, 195, 20, 196, 43, 42, 197, 198, 199, 200, 201, 202, 203, 204, 205, 206, 207, 208, 209, 210, 211, 212, 213, 214, 215, 216, 217, 218, 219, 220, 221, 44, 222, 223, 224, 225, 226, 227, 228, 229, 230, 231, 232, 233, 234, 235, 236, 237, 238, 239, 240, 241, 242, 243, 244, 245, 246, 247, 248, 249, 16, 250, 77, 38, 34, 35, 37, 251, 252, 253, 254, 255, 290, 291, 292, 293, 294, 316, 317, 318, 319, 320, 321, 322, 323, 324, 325, 326, 353, 354, 355, 350, 351, 352, 345, 346, 347, 348, 349] (by decide +kernel) (by decide +kernel)
set_option maxRecDepth 20000 in
theorem gL_law_X3_row : GoodIn wsL_law (wsV RL 38 RX3 yX3_row wsX3_row) := goodIn_app (goodIn_of _ (by decide +kernel)) ggL_law_X3_row
set_option maxRecDepth 20000 in
theorem ggL_law_X4_row : GoodIn wsL_law wsX4_row := goodIn_r _ [298, 260, 265, 64, 65, 261, 262, 263, 5, 264, 83, 54, 63, 55, 62, 61, 266, 267, 268, 269, 82, 66, 59, 58, 56, 57, 270, 271, 272, 273, 274, 275, 276, 277, 67, 141, 278, 279, 280, 281, 282, 283, 284, 285, 147, 148, 149, 150, 327, 328, 329, 330, 331, 332, 333, 334, 335, 336, 337, 338, 339, 340, 341, 342, 343, 344] (by decide +kernel) (by decide +kernel)
set_option maxRecDepth 20000 in
theorem gL_law_X4_row : GoodIn wsL_law (wsV RL 42 RX4 yX4_row wsX4_row) := goodIn_app (goodIn_of _ (by decide +kernel)) ggL_law_X4_row
set_option maxRecDepth 20000 in
theorem ggL_law_X3_weight : GoodIn wsL_law wsX3_weight := goodIn_r _ [302, 173, 172, 171, 104, 167, 168, 169, 2, 170, 29, 21, 26, 17, 27, 25, 174, 175, 176, 177, 28, 13, 178, 179, 180, 24, 181, 182, 49, 183, 184, 185, 186, 187, 188, 189, 190, 48, 191, 192, 193, 194, 195, 20, 196, 43, 42, 197, 198, 199, 200, 201, 202, 203, 204, 205, 206, 207, 208, 209, 210, 211, 212, 213, 214, 215, 216, 217, 218, 219, 220, 221, 44, 222, 223, 224, 225, 226, 227, 228, 229, 230, 231, 232, 233, 234, 235, 236, 237, 238, 239, 240, 241, 242, 243, 244, 245, 246, 247, 248, 249, 16, 250, 77, 38, 34, 35, 37, 251, 252, 253, 254, 255, 290, 291, 292, 293, 316, 317, 318, 319, 320, 321, 322, 323, 324, 325, 326, 353, 354, 355, 350, 351, 352, 345, 346, 347, 348, 349] (by decide +kernel) (by decide +kernel)
set_option maxRecDepth 20000 in
theorem gL_law_X3_weight : GoodIn wsL_law (wsV RL 43 RX3 yX3_weight wsX3_weight) := goodIn_app (goodIn_of _ (by decide +kernel)) ggL_law_X3_weight
set_option maxRecDepth 20000 in
theorem ggL_law_X4_weight : GoodIn wsL_law wsX4_weight := goodIn_r _ [306, 141, 54, 68, 265, 64, 65, 260, 261, 262, 263, 5, 264, 83, 63, 55, 62, 61, 266, 267, 268, 269, 82, 66, 59, 58, 56, 57, 270, 271, 272, 273, 274, 275, 276, 277, 67, 278, 279, 280, 281, 282, 283, 284, 285, 147, 148, 149, 150, 327, 328, 329, 330, 331, 332, 333, 334, 335, 336, 337, 338, 339, 340, 341, 342, 343, 344] (by decide +kernel) (by decide +kernel)
set_option maxRecDepth 20000 in
theorem gL_law_X4_weight : GoodIn wsL_law (wsV RL 47 RX4 yX4_weight wsX4_weight) := goodIn_app (goodIn_of _ (by decide +kernel)) ggL_law_X4_weight
set_option maxRecDepth 20000 in
theorem ggL_law_X3_chain : GoodIn wsL_law wsX3_chain := goodIn_r _ [310, 21, 167, 168, 169, 2, 170, 29, 26, 17, 27, 25, 171, 172, 173, 174, 175, 176, 177, 28, 13, 178, 179, 180, 24, 181, 182, 49, 183, 184, 185, 186, 187, 188, 189, 190, 48, 191, 192, 193, 194, 195, 20, 196, 43, 42, 197, 198, 199, 200, 201, 202, 203, 204, 205, 206, 207, 208, 209, 210, 211, 212, 213, 214, 215, 216, 217, 218, 219, 220, 221, 44, 222, 223, 224, 225, 226, 227, 228, 229, 230, 231, 232, 233, 234, 235, 236, 237, 238, 239, 240, 241, 242, 243, 244, 245, 246, 247, 248, 249, 16, 250, 77, 38, 34, 35, 37, 251, 252, 253, 254, 255, 88, 89, 90, 91, 311, 316, 317, 318, 319, 320, 321, 322, 323, 324, 325, 326, 353, 354, 355, 350, 351, 352, 345, 346, 347, 348, 349] (by decide +kernel) (by decide +kernel)
set_option maxRecDepth 20000 in
theorem gL_law_X3_chain : GoodIn wsL_law (wsV RL 48 RX3 yX3_chain wsX3_chain) := goodIn_app (goodIn_of _ (by decide +kernel)) ggL_law_X3_chain
set_option maxRecDepth 20000 in
theorem ggL_law_X4_chain : GoodIn wsL_law wsX4_chain := goodIn_r _ [315, 55, 61, 63, 261, 262, 263, 5, 264, 83, 260, 54, 62, 65, 64, 265, 266, 267, 268, 269, 82, 66, 59, 58, 56, 57, 270, 271, 272, 273, 274, 275, 276, 277, 67, 141, 278, 279, 280, 281, 282, 283, 284, 285, 147, 148, 149, 150, 96, 97, 98, 99, 327, 328, 329, 330, 331, 332, 333, 334, 335, 336, 337, 338, 339, 340, 341, 342, 343, 344] (by decide +kernel) (by decide +kernel)
set_option maxRecDepth 20000 in
theorem gL_law_X4_chain : GoodIn wsL_law (wsV RL 51 RX4 yX4_chain wsX4_chain) := goodIn_app (goodIn_of _ (by decide +kernel)) ggL_law_X4_chain
theorem dL_law_0 : decode cL_law 0 = .ok (.new 7, 3) := by decide +kernel
theorem dL_law_3 : decode cL_law 3 = .ok (.dup, 1) := by decide +kernel
theorem dL_law_4 : decode cL_law 4 = .ok (.invokespecial 9, 3) := by decide +kernel
theorem dL_law_7 : decode cL_law 7 = .ok (.astore_n 1, 1) := by decide +kernel
theorem dL_law_8 : decode cL_law 8 = .ok (.new 10, 3) := by decide +kernel
theorem dL_law_11 : decode cL_law 11 = .ok (.dup, 1) := by decide +kernel
theorem dL_law_12 : decode cL_law 12 = .ok (.invokespecial 12, 3) := by decide +kernel
theorem dL_law_15 : decode cL_law 15 = .ok (.astore_n 2, 1) := by decide +kernel
theorem dL_law_16 : decode cL_law 16 = .ok (.iconst 0, 1) := by decide +kernel
theorem dL_law_17 : decode cL_law 17 = .ok (.istore_n 3, 1) := by decide +kernel
theorem dL_law_18 : decode cL_law 18 = .ok (.iload_n 3, 1) := by decide +kernel
theorem dL_law_19 : decode cL_law 19 = .ok (.aload_n 0, 1) := by decide +kernel
theorem dL_law_20 : decode cL_law 20 = .ok (.arraylength, 1) := by decide +kernel
theorem dL_law_21 : decode cL_law 21 = .ok (.iconst 5, 1) := by decide +kernel
theorem dL_law_22 : decode cL_law 22 = .ok (.isub, 1) := by decide +kernel
theorem dL_law_23 : decode cL_law 23 = .ok (.if_icmp .gt 322, 3) := by decide +kernel
theorem dL_law_26 : decode cL_law 26 = .ok (.aload_n 0, 1) := by decide +kernel
theorem dL_law_27 : decode cL_law 27 = .ok (.iload_n 3, 1) := by decide +kernel
theorem dL_law_28 : decode cL_law 28 = .ok (.iaload, 1) := by decide +kernel
theorem dL_law_29 : decode cL_law 29 = .ok (.bipush 7, 2) := by decide +kernel
theorem dL_law_31 : decode cL_law 31 = .ok (.iand, 1) := by decide +kernel
theorem dL_law_32 : decode cL_law 32 = .ok (.tableswitch 307 0 7 #[48, 71, 120, 190, 224, 237, 260, 284], 48) := by decide +kernel
theorem dL_law_80 : decode cL_law 80 = .ok (.aload_n 1, 1) := by decide +kernel
theorem dL_law_81 : decode cL_law 81 = .ok (.aload_n 0, 1) := by decide +kernel
theorem dL_law_82 : decode cL_law 82 = .ok (.iload_n 3, 1) := by decide +kernel
theorem dL_law_83 : decode cL_law 83 = .ok (.iconst 1, 1) := by decide +kernel
theorem dL_law_84 : decode cL_law 84 = .ok (.iadd, 1) := by decide +kernel
theorem dL_law_85 : decode cL_law 85 = .ok (.iaload, 1) := by decide +kernel
theorem dL_law_86 : decode cL_law 86 = .ok (.invokevirtual 13, 3) := by decide +kernel
theorem dL_law_89 : decode cL_law 89 = .ok (.aload_n 2, 1) := by decide +kernel
theorem dL_law_90 : decode cL_law 90 = .ok (.aload_n 0, 1) := by decide +kernel
theorem dL_law_91 : decode cL_law 91 = .ok (.iload_n 3, 1) := by decide +kernel
theorem dL_law_92 : decode cL_law 92 = .ok (.iconst 1, 1) := by decide +kernel
theorem dL_law_93 : decode cL_law 93 = .ok (.iadd, 1) := by decide +kernel
theorem dL_law_94 : decode cL_law 94 = .ok (.iaload, 1) := by decide +kernel
theorem dL_law_95 : decode cL_law 95 = .ok (.invokevirtual 17, 3) := by decide +kernel
theorem dL_law_98 : decode cL_law 98 = .ok (.if_icmp .eq 241, 3) := by decide +kernel
theorem dL_law_101 : decode cL_law 101 = .ok (.iconst 0, 1) := by decide +kernel
theorem dL_law_102 : decode cL_law 102 = .ok (.ireturn, 1) := by decide +kernel
theorem dL_law_103 : decode cL_law 103 = .ok (.aload_n 1, 1) := by decide +kernel
theorem dL_law_104 : decode cL_law 104 = .ok (.aload_n 0, 1) := by decide +kernel
theorem dL_law_105 : decode cL_law 105 = .ok (.iload_n 3, 1) := by decide +kernel
theorem dL_law_106 : decode cL_law 106 = .ok (.iconst 1, 1) := by decide +kernel
theorem dL_law_107 : decode cL_law 107 = .ok (.iadd, 1) := by decide +kernel
theorem dL_law_108 : decode cL_law 108 = .ok (.iaload, 1) := by decide +kernel
theorem dL_law_109 : decode cL_law 109 = .ok (.aload_n 0, 1) := by decide +kernel
theorem dL_law_110 : decode cL_law 110 = .ok (.iload_n 3, 1) := by decide +kernel
theorem dL_law_111 : decode cL_law 111 = .ok (.iconst 2, 1) := by decide +kernel
theorem dL_law_112 : decode cL_law 112 = .ok (.iadd, 1) := by decide +kernel
theorem dL_law_113 : decode cL_law 113 = .ok (.iaload, 1) := by decide +kernel
theorem dL_law_114 : decode cL_law 114 = .ok (.ifCond .eq 7, 3) := by decide +kernel
theorem dL_law_117 : decode cL_law 117 = .ok (.iconst 1, 1) := by decide +kernel
theorem dL_law_118 : decode cL_law 118 = .ok (.goto 4, 3) := by decide +kernel
theorem dL_law_121 : decode cL_law 121 = .ok (.iconst 0, 1) := by decide +kernel
theorem dL_law_122 : decode cL_law 122 = .ok (.invokevirtual 18, 3) := by decide +kernel
theorem dL_law_125 : decode cL_law 125 = .ok (.aload_n 2, 1) := by decide +kernel
theorem dL_law_126 : decode cL_law 126 = .ok (.aload_n 0, 1) := by decide +kernel
theorem dL_law_127 : decode cL_law 127 = .ok (.iload_n 3, 1) := by decide +kernel
theorem dL_law_128 : decode cL_law 128 = .ok (.iconst 1, 1) := by decide +kernel
theorem dL_law_129 : decode cL_law 129 = .ok (.iadd, 1) := by decide +kernel
theorem dL_law_130 : decode cL_law 130 = .ok (.iaload, 1) := by decide +kernel
theorem dL_law_131 : decode cL_law 131 = .ok (.aload_n 0, 1) := by decide +kernel
theorem dL_law_132 : decode cL_law 132 = .ok (.iload_n 3, 1) := by decide +kernel
theorem dL_law_133 : decode cL_law 133 = .ok (.iconst 2, 1) := by decide +kernel
theorem dL_law_134 : decode cL_law 134 = .ok (.iadd, 1) := by decide +kernel
theorem dL_law_135 : decode cL_law 135 = .ok (.iaload, 1) := by decide +kernel
theorem dL_law_136 : decode cL_law 136 = .ok (.ifCond .eq 7, 3) := by decide +kernel
theorem dL_law_139 : decode cL_law 139 = .ok (.iconst 1, 1) := by decide +kernel
theorem dL_law_140 : decode cL_law 140 = .ok (.goto 4, 3) := by decide +kernel
theorem dL_law_143 : decode cL_law 143 = .ok (.iconst 0, 1) := by decide +kernel
theorem dL_law_144 : decode cL_law 144 = .ok (.invokevirtual 22, 3) := by decide +kernel
theorem dL_law_147 : decode cL_law 147 = .ok (.if_icmp .eq 192, 3) := by decide +kernel
theorem dL_law_150 : decode cL_law 150 = .ok (.iconst 0, 1) := by decide +kernel
theorem dL_law_151 : decode cL_law 151 = .ok (.ireturn, 1) := by decide +kernel
theorem dL_law_152 : decode cL_law 152 = .ok (.aload_n 1, 1) := by decide +kernel
theorem dL_law_153 : decode cL_law 153 = .ok (.aload_n 0, 1) := by decide +kernel
theorem dL_law_154 : decode cL_law 154 = .ok (.iload_n 3, 1) := by decide +kernel
theorem dL_law_155 : decode cL_law 155 = .ok (.iconst 1, 1) := by decide +kernel
theorem dL_law_156 : decode cL_law 156 = .ok (.iadd, 1) := by decide +kernel
theorem dL_law_157 : decode cL_law 157 = .ok (.iaload, 1) := by decide +kernel
theorem dL_law_158 : decode cL_law 158 = .ok (.aload_n 0, 1) := by decide +kernel
theorem dL_law_159 : decode cL_law 159 = .ok (.iload_n 3, 1) := by decide +kernel
theorem dL_law_160 : decode cL_law 160 = .ok (.iconst 2, 1) := by decide +kernel
theorem dL_law_161 : decode cL_law 161 = .ok (.iadd, 1) := by decide +kernel
theorem dL_law_162 : decode cL_law 162 = .ok (.iaload, 1) := by decide +kernel
theorem dL_law_163 : decode cL_law 163 = .ok (.aload_n 0, 1) := by decide +kernel
theorem dL_law_164 : decode cL_law 164 = .ok (.iload_n 3, 1) := by decide +kernel
theorem dL_law_165 : decode cL_law 165 = .ok (.iconst 3, 1) := by decide +kernel
theorem dL_law_166 : decode cL_law 166 = .ok (.iadd, 1) := by decide +kernel
theorem dL_law_167 : decode cL_law 167 = .ok (.iaload, 1) := by decide +kernel
theorem dL_law_168 : decode cL_law 168 = .ok (.aload_n 0, 1) := by decide +kernel
theorem dL_law_169 : decode cL_law 169 = .ok (.iload_n 3, 1) := by decide +kernel
theorem dL_law_170 : decode cL_law 170 = .ok (.iconst 4, 1) := by decide +kernel
theorem dL_law_171 : decode cL_law 171 = .ok (.iadd, 1) := by decide +kernel
theorem dL_law_172 : decode cL_law 172 = .ok (.iaload, 1) := by decide +kernel
theorem dL_law_173 : decode cL_law 173 = .ok (.ifCond .eq 7, 3) := by decide +kernel
theorem dL_law_176 : decode cL_law 176 = .ok (.iconst 1, 1) := by decide +kernel
theorem dL_law_177 : decode cL_law 177 = .ok (.goto 4, 3) := by decide +kernel
theorem dL_law_180 : decode cL_law 180 = .ok (.iconst 0, 1) := by decide +kernel
theorem dL_law_181 : decode cL_law 181 = .ok (.invokevirtual 23, 3) := by decide +kernel
theorem dL_law_184 : decode cL_law 184 = .ok (.aload_n 2, 1) := by decide +kernel
theorem dL_law_185 : decode cL_law 185 = .ok (.aload_n 0, 1) := by decide +kernel
theorem dL_law_186 : decode cL_law 186 = .ok (.iload_n 3, 1) := by decide +kernel
theorem dL_law_187 : decode cL_law 187 = .ok (.iconst 1, 1) := by decide +kernel
theorem dL_law_188 : decode cL_law 188 = .ok (.iadd, 1) := by decide +kernel
theorem dL_law_189 : decode cL_law 189 = .ok (.iaload, 1) := by decide +kernel
theorem dL_law_190 : decode cL_law 190 = .ok (.aload_n 0, 1) := by decide +kernel
theorem dL_law_191 : decode cL_law 191 = .ok (.iload_n 3, 1) := by decide +kernel
theorem dL_law_192 : decode cL_law 192 = .ok (.iconst 2, 1) := by decide +kernel
theorem dL_law_193 : decode cL_law 193 = .ok (.iadd, 1) := by decide +kernel
theorem dL_law_194 : decode cL_law 194 = .ok (.iaload, 1) := by decide +kernel
theorem dL_law_195 : decode cL_law 195 = .ok (.aload_n 0, 1) := by decide +kernel
theorem dL_law_196 : decode cL_law 196 = .ok (.iload_n 3, 1) := by decide +kernel
theorem dL_law_197 : decode cL_law 197 = .ok (.iconst 3, 1) := by decide +kernel
theorem dL_law_198 : decode cL_law 198 = .ok (.iadd, 1) := by decide +kernel
theorem dL_law_199 : decode cL_law 199 = .ok (.iaload, 1) := by decide +kernel
theorem dL_law_200 : decode cL_law 200 = .ok (.aload_n 0, 1) := by decide +kernel
theorem dL_law_201 : decode cL_law 201 = .ok (.iload_n 3, 1) := by decide +kernel
theorem dL_law_202 : decode cL_law 202 = .ok (.iconst 4, 1) := by decide +kernel
theorem dL_law_203 : decode cL_law 203 = .ok (.iadd, 1) := by decide +kernel
theorem dL_law_204 : decode cL_law 204 = .ok (.iaload, 1) := by decide +kernel
theorem dL_law_205 : decode cL_law 205 = .ok (.ifCond .eq 7, 3) := by decide +kernel
theorem dL_law_208 : decode cL_law 208 = .ok (.iconst 1, 1) := by decide +kernel
theorem dL_law_209 : decode cL_law 209 = .ok (.goto 4, 3) := by decide +kernel
theorem dL_law_212 : decode cL_law 212 = .ok (.iconst 0, 1) := by decide +kernel
theorem dL_law_213 : decode cL_law 213 = .ok (.invokevirtual 27, 3) := by decide +kernel
theorem dL_law_216 : decode cL_law 216 = .ok (.lcmp, 1) := by decide +kernel
theorem dL_law_217 : decode cL_law 217 = .ok (.ifCond .eq 122, 3) := by decide +kernel
theorem dL_law_220 : decode cL_law 220 = .ok (.iconst 0, 1) := by decide +kernel
theorem dL_law_221 : decode cL_law 221 = .ok (.ireturn, 1) := by decide +kernel
theorem dL_law_222 : decode cL_law 222 = .ok (.aload_n 1, 1) := by decide +kernel
theorem dL_law_223 : decode cL_law 223 = .ok (.aload_n 0, 1) := by decide +kernel
theorem dL_law_224 : decode cL_law 224 = .ok (.iload_n 3, 1) := by decide +kernel
theorem dL_law_225 : decode cL_law 225 = .ok (.iconst 1, 1) := by decide +kernel
theorem dL_law_226 : decode cL_law 226 = .ok (.iadd, 1) := by decide +kernel
theorem dL_law_227 : decode cL_law 227 = .ok (.iaload, 1) := by decide +kernel
theorem dL_law_228 : decode cL_law 228 = .ok (.aload_n 0, 1) := by decide +kernel
theorem dL_law_229 : decode cL_law 229 = .ok (.iload_n 3, 1) := by decide +kernel
theorem dL_law_230 : decode cL_law 230 = .ok (.iconst 2, 1) := by decide +kernel
theorem dL_law_231 : decode cL_law 231 = .ok (.iadd, 1) := by decide +kernel
theorem dL_law_232 : decode cL_law 232 = .ok (.iaload, 1) := by decide +kernel
theorem dL_law_233 : decode cL_law 233 = .ok (.invokevirtual 28, 3) := by decide +kernel
theorem dL_law_236 : decode cL_law 236 = .ok (.aload_n 2, 1) := by decide +kernel
theorem dL_law_237 : decode cL_law 237 = .ok (.aload_n 0, 1) := by decide +kernel
theorem dL_law_238 : decode cL_law 238 = .ok (.iload_n 3, 1) := by decide +kernel
theorem dL_law_239 : decode cL_law 239 = .ok (.iconst 1, 1) := by decide +kernel
theorem dL_law_240 : decode cL_law 240 = .ok (.iadd, 1) := by decide +kernel
theorem dL_law_241 : decode cL_law 241 = .ok (.iaload, 1) := by decide +kernel
theorem dL_law_242 : decode cL_law 242 = .ok (.aload_n 0, 1) := by decide +kernel
theorem dL_law_243 : decode cL_law 243 = .ok (.iload_n 3, 1) := by decide +kernel
theorem dL_law_244 : decode cL_law 244 = .ok (.iconst 2, 1) := by decide +kernel
theorem dL_law_245 : decode cL_law 245 = .ok (.iadd, 1) := by decide +kernel
theorem dL_law_246 : decode cL_law 246 = .ok (.iaload, 1) := by decide +kernel
theorem dL_law_247 : decode cL_law 247 = .ok (.invokevirtual 32, 3) := by decide +kernel
theorem dL_law_250 : decode cL_law 250 = .ok (.lcmp, 1) := by decide +kernel
theorem dL_law_251 : decode cL_law 251 = .ok (.ifCond .eq 88, 3) := by decide +kernel
theorem dL_law_254 : decode cL_law 254 = .ok (.iconst 0, 1) := by decide +kernel
theorem dL_law_255 : decode cL_law 255 = .ok (.ireturn, 1) := by decide +kernel
theorem dL_law_256 : decode cL_law 256 = .ok (.aload_n 1, 1) := by decide +kernel
theorem dL_law_257 : decode cL_law 257 = .ok (.invokevirtual 33, 3) := by decide +kernel
theorem dL_law_260 : decode cL_law 260 = .ok (.aload_n 2, 1) := by decide +kernel
theorem dL_law_261 : decode cL_law 261 = .ok (.invokevirtual 37, 3) := by decide +kernel
theorem dL_law_264 : decode cL_law 264 = .ok (.if_icmp .eq 75, 3) := by decide +kernel
theorem dL_law_267 : decode cL_law 267 = .ok (.iconst 0, 1) := by decide +kernel
theorem dL_law_268 : decode cL_law 268 = .ok (.ireturn, 1) := by decide +kernel
theorem dL_law_269 : decode cL_law 269 = .ok (.aload_n 1, 1) := by decide +kernel
theorem dL_law_270 : decode cL_law 270 = .ok (.aload_n 0, 1) := by decide +kernel
theorem dL_law_271 : decode cL_law 271 = .ok (.iload_n 3, 1) := by decide +kernel
theorem dL_law_272 : decode cL_law 272 = .ok (.iconst 1, 1) := by decide +kernel
theorem dL_law_273 : decode cL_law 273 = .ok (.iadd, 1) := by decide +kernel
theorem dL_law_274 : decode cL_law 274 = .ok (.iaload, 1) := by decide +kernel
theorem dL_law_275 : decode cL_law 275 = .ok (.invokevirtual 38, 3) := by decide +kernel
theorem dL_law_278 : decode cL_law 278 = .ok (.aload_n 2, 1) := by decide +kernel
theorem dL_law_279 : decode cL_law 279 = .ok (.aload_n 0, 1) := by decide +kernel
theorem dL_law_280 : decode cL_law 280 = .ok (.iload_n 3, 1) := by decide +kernel
theorem dL_law_281 : decode cL_law 281 = .ok (.iconst 1, 1) := by decide +kernel
theorem dL_law_282 : decode cL_law 282 = .ok (.iadd, 1) := by decide +kernel
theorem dL_law_283 : decode cL_law 283 = .ok (.iaload, 1) := by decide +kernel
theorem dL_law_284 : decode cL_law 284 = .ok (.invokevirtual 42, 3) := by decide +kernel
theorem dL_law_287 : decode cL_law 287 = .ok (.if_icmp .eq 52, 3) := by decide +kernel
theorem dL_law_290 : decode cL_law 290 = .ok (.iconst 0, 1) := by decide +kernel
theorem dL_law_291 : decode cL_law 291 = .ok (.ireturn, 1) := by decide +kernel
theorem dL_law_292 : decode cL_law 292 = .ok (.aload_n 1, 1) := by decide +kernel
theorem dL_law_293 : decode cL_law 293 = .ok (.aload_n 0, 1) := by decide +kernel
theorem dL_law_294 : decode cL_law 294 = .ok (.iload_n 3, 1) := by decide +kernel
theorem dL_law_295 : decode cL_law 295 = .ok (.iconst 1, 1) := by decide +kernel
theorem dL_law_296 : decode cL_law 296 = .ok (.iadd, 1) := by decide +kernel
theorem dL_law_297 : decode cL_law 297 = .ok (.iaload, 1) := by decide +kernel
theorem dL_law_298 : decode cL_law 298 = .ok (.invokevirtual 43, 3) := by decide +kernel
theorem dL_law_301 : decode cL_law 301 = .ok (.aload_n 2, 1) := by decide +kernel
theorem dL_law_302 : decode cL_law 302 = .ok (.aload_n 0, 1) := by decide +kernel
theorem dL_law_303 : decode cL_law 303 = .ok (.iload_n 3, 1) := by decide +kernel
theorem dL_law_304 : decode cL_law 304 = .ok (.iconst 1, 1) := by decide +kernel
theorem dL_law_305 : decode cL_law 305 = .ok (.iadd, 1) := by decide +kernel
theorem dL_law_306 : decode cL_law 306 = .ok (.iaload, 1) := by decide +kernel
theorem dL_law_307 : decode cL_law 307 = .ok (.invokevirtual 47, 3) := by decide +kernel
theorem dL_law_310 : decode cL_law 310 = .ok (.lcmp, 1) := by decide +kernel
theorem dL_law_311 : decode cL_law 311 = .ok (.ifCond .eq 28, 3) := by decide +kernel
theorem dL_law_314 : decode cL_law 314 = .ok (.iconst 0, 1) := by decide +kernel
theorem dL_law_315 : decode cL_law 315 = .ok (.ireturn, 1) := by decide +kernel
theorem dL_law_316 : decode cL_law 316 = .ok (.aload_n 1, 1) := by decide +kernel
theorem dL_law_317 : decode cL_law 317 = .ok (.aload_n 0, 1) := by decide +kernel
theorem dL_law_318 : decode cL_law 318 = .ok (.iload_n 3, 1) := by decide +kernel
theorem dL_law_319 : decode cL_law 319 = .ok (.iconst 1, 1) := by decide +kernel
theorem dL_law_320 : decode cL_law 320 = .ok (.iadd, 1) := by decide +kernel
theorem dL_law_321 : decode cL_law 321 = .ok (.iaload, 1) := by decide +kernel
theorem dL_law_322 : decode cL_law 322 = .ok (.invokevirtual 48, 3) := by decide +kernel
theorem dL_law_325 : decode cL_law 325 = .ok (.aload_n 2, 1) := by decide +kernel
theorem dL_law_326 : decode cL_law 326 = .ok (.aload_n 0, 1) := by decide +kernel
theorem dL_law_327 : decode cL_law 327 = .ok (.iload_n 3, 1) := by decide +kernel
theorem dL_law_328 : decode cL_law 328 = .ok (.iconst 1, 1) := by decide +kernel
theorem dL_law_329 : decode cL_law 329 = .ok (.iadd, 1) := by decide +kernel
theorem dL_law_330 : decode cL_law 330 = .ok (.iaload, 1) := by decide +kernel
theorem dL_law_331 : decode cL_law 331 = .ok (.invokevirtual 51, 3) := by decide +kernel
theorem dL_law_334 : decode cL_law 334 = .ok (.if_icmp .eq 5, 3) := by decide +kernel
theorem dL_law_337 : decode cL_law 337 = .ok (.iconst 0, 1) := by decide +kernel
theorem dL_law_338 : decode cL_law 338 = .ok (.ireturn, 1) := by decide +kernel
theorem dL_law_339 : decode cL_law 339 = .ok (.iinc 3 5, 3) := by decide +kernel
theorem dL_law_342 : decode cL_law 342 = .ok (.goto (-324), 3) := by decide +kernel
theorem dL_law_345 : decode cL_law 345 = .ok (.iconst 1, 1) := by decide +kernel
theorem dL_law_346 : decode cL_law 346 = .ok (.ireturn, 1) := by decide +kernel
end
section
/-! THE CLAIM OUT OF ONE WALK OF THE LAW'S BODY. Your part is whole_start (and what it stands on); all else here is the same for every law, but numbers. -/
def R_law : String := "BlockRowsLaw"
def lw_P (b : Addr) (xs : List Int32) (args : Array Value) (s : State) : Prop := args = #[.ref b] ∧ s.IntsAt b xs ∧ xs.length ≤ 2560 ∧ (Jvm.Cond.and given_1 narrow_1).before args s = true
def lw_Q (_ : Array Value) (s : State) (o : Outcome) (t : State) : Prop := o = .returned (some (.int 1)) ∧ Framed s o t [] 600000 7302250
def lw_Z (below : List Frame) (a : Array Value) (s : State) : State → Prop := fun t => ∃ o, t.status = .running ∧ Ended t below o ∧ lw_Q a s o t
/-- the law's own end, with 1 on the stack, nothing written that was there before, its room as the claim has it -/
theorem lw_ret {p : Program} {l : Launch} {e : Env} {s : State} {m : MethodId} {below : List Frame} {meth : Method} {c : Code} {b : Nat} (hx : p.tables.exec = Jvm.exec) (hb : c.code = code) (hr : meth.sig.returnType = ret) (hlocks : meth.locks = false) {pc : Nat} {H : Heap} {ls : Array Slot} (hdg : decode code pc = .ok (.ireturn, 1)) : W p l e room_1 s m #[Value.ref b] below meth c H [] 600000 7302250 (lw_Z below #[Value.ref b] s) (F0 m pc ls [.int 1]) := by
  intro T hT X
  obtain ⟨fs, hret, hrun, hended, hW, hframe⟩ := X.leave (v := some (.int 1)) (hlocks := hlocks) (fun h => by rw [hr] at h; cases h)
  have hmeth' : T.vm.method? m = some meth := X.method'
  refine ⟨T.setFrames fs, ?_, .returned (some (.int 1)), hrun, hended, rfl, ⟨_, rfl⟩, hW, hframe⟩
  jvm_step X.here [X.here.top, hx, hb, hdg, hmeth', hr, ret, narrow_b1]
  (try refine ⟨rfl, ?_⟩); (try refine ⟨rfl, ?_⟩)
  first | (intro acts; rw [hret _ acts rfl rfl rfl]) | rw [hret _ _ rfl rfl rfl]
  exact Steps.refl _
/-- what holds at the law's entry: the machine, the code, the tables' words (any of lw_tbl by 'hts w (by decide +kernel)'), the script of L ints xs at the cell b, what the Statement gives of the start (any of its parts by flat_of_before) -/
def lw_At (p : Program) (s : State) (m : MethodId) (meth : Method) (c : Code) (b L : Nat) (xs : Nat → Int32) : Prop :=
  p.tables.exec = Jvm.exec ∧ c.code = code ∧ meth.sig.returnType = ret ∧ c.maxLocals = 4 ∧ s.vm.findClass R_law = some m.cls ∧ (∀ w ∈ lw_tbl, w.before #[Value.ref b] s = true) ∧ va_X b L xs s s.heap ∧ b < s.heap.size ∧ meth.locks = false ∧ (Jvm.Cond.and given_1 narrow_1).before #[Value.ref b] s = true
-- ===== YOUR PART BEGINS =====
end
section
-- ===== YOUR PART ENDS =====
set_option maxHeartbeats 4000000 in
theorem lw_walk (l : Launch) (b : Addr) (xs : List Int32) : MetFree l x (headSpec (Jvm.Cond.code x code maxLocals ret :: tables_1) room_1) (lw_P b xs) (fun _ _ _ _ _ => True) lw_Q := by
  refine MetFree.of_bodyS (code := code) (maxLocals := maxLocals) (ret := ret) (by decide) ?_ ?_
  · intro args s m h hn
    obtain ⟨meth, c, h1, h2, h3, h4, h5, h6, -, -⟩ := Cond.code_spec hn (atoms_spec (ws := Jvm.Cond.code x code maxLocals ret :: tables_1) h _ List.mem_cons_self)
    exact ⟨meth, c, h1, h2, h3, h4, h5, h6⟩
  · intro p e s m args below meth c s₁ B hml0 hP _
    obtain ⟨rfl, hx, hbd, hgv⟩ := hP
    obtain ⟨scr, harrAt, hlist, hof, hsmall⟩ := hx
    obtain ⟨hcb, hkn, -, -⟩ := State.arrayAt?_spec harrAt
    have hown : s.vm.findClass R_law = some m.cls := findClass_of_methodNamed B.named
    have hts0 : ∀ c ∈ (Jvm.Cond.code x code maxLocals ret :: tables_1), c.before #[Value.ref b] s = true := atoms_spec (ws := Jvm.Cond.code x code maxLocals ret :: tables_1) B.pre
    have hts : ∀ w ∈ lw_tbl, w.before #[Value.ref b] s = true := k2_hts_sels lw_privs (fun w hw => hts0 w (List.mem_cons_of_mem _ hw)) lw_privs_ok
    have hml : c.maxLocals = 4 := B.maxLocals_eq (hts0 _ List.mem_cons_self)
    have X₀ : Stand p l e room_1 s m #[Value.ref b] below meth c s₁ [] 0 0 := Stand.of_body B
    have hh0 : s₁.heap = s.heap := by rw [B.state]; rfl
    have hsz : scr.slots.size = xs.length := by rw [← Array.length_toList, hlist, List.length_map]
    have hval : ∀ j : Nat, j < xs.length → scr.slots[j]? = some (.int (xs.getD j 0)) := fun j hj => by
      rw [← Array.getElem?_toList, hlist]
      simp [hj]
    have hbl : b < s.heap.size := (Array.getElem?_eq_some_iff.mp hcb).1
    have hX : va_X b xs.length (fun j => xs.getD j 0) s s.heap := ⟨scr, hcb, hof, hkn, hsz, hval⟩
    have K : W p l e room_1 s m #[Value.ref b] below meth c s₁.heap [] 0 0 (lw_Z below #[Value.ref b] s) (entryFrame m ([Value.ref b] : List Value).toArray 4) := by
      rw [hh0]
      exact whole_start l hbd ⟨B.exec, B.bytes, B.returns, hml, hown, hts, hX, hbl, B.notSynchronized, hgv⟩
    obtain ⟨t, a1, o, b1, b2, b3⟩ := K s₁ rfl X₀
    exact ⟨t, o, a1, b1, b2, b3⟩
theorem lw_pre_spec {args : Array Value} {s : State} (h : (Jvm.Cond.and given_1 narrow_1).before args s = true) (hr : rest_1_c.before args s = true) : ∃ (b : Addr) (xs : List Int32), lw_P b xs args s := by
  have hs := flat_of_before _ h
  have hq := flat_of_before _ hr
  have hc : (Cond.count 1).before args s = true := hs _ (by decide +kernel)
  have harr : (Cond.arrayOf (.arg 0) .int).before args s = true := hs _ (by decide +kernel)
  have hle : (Cond.le (.length (.arg 0)) (.int 2560)).before args s = true := hs _ (by decide +kernel)
  have hlen : (Cond.isInt (.length (.arg 0))).before args s = true := hq _ (by decide +kernel)
  have hall : (Cond.all (.arg 0) (.isInt (.elem (.arg 0) (.index 0)))).before args s = true := hq _ (by decide +kernel)
  obtain ⟨b, xs, hb, hx⟩ := State.ints_of_pre rfl harr hlen hall
  have hsm : xs.length < 2 ^ 31 := hx.choose_spec.2.2.2
  have hev : (Term.length (.arg 0)).eval args s none [] s = some (.int xs.length.toInt32) := hx.length_eval hb
  have hv := Cond.le_ints hev (show (Term.int 2560).eval args s none [] s = some (.int 2560) from rfl)
  have hd : xs.length.toInt32 ≤ 2560 := by
    simpa [Cond.before, Cond.holds, hv] using hle
  have hN : xs.length ≤ 2560 := (Int32.ofNat_le_ofNat hsm (by decide)).mp (show Int32.ofNat xs.length ≤ Int32.ofNat 2560 from hd)
  exact ⟨b, xs, Cond.one_arg hc (show args[0]? = some (.ref b) from hb), hx, hN, h⟩
theorem lw_comes (l : Launch) : Comes l x (Jvm.Cond.code x code maxLocals ret :: tables_1) room_1 (fun tb e args s => Calls_1 tb e args s ∧ rest_1 tb e args s ∧ Pre_1 tb e args s)
    (fun _ _ args s o t => lw_Q args s o t) := by
  intro p e ha hc hk s m args below hf hfit hheap happ hpre
  obtain ⟨b, xs, hP⟩ := lw_pre_spec hpre.2.2 hpre.2.1
  obtain ⟨k, o, h1, h2, h3, hQ⟩ := lw_walk l b xs p e ha hc hk s m args below hf ((Spec.applies_iff_loose hf).mp happ).1 hP trivial
  exact ⟨k, o, h1, h2, h3, hQ⟩
theorem lw_frame {s t : State} {o : Outcome} {args : Array Value} (h : Framed s o t [] 600000 7302250) :
    Framed s o t (fieldLocs frame_1_writes args s ++ arrayLocs frame_1_arrays args s ++ staticLocs frame_1_statics s) 600000 7302250 := h
theorem lw_limb (L : Cond) (hL : ∀ (args : Array Value) (s t : State), L.after args s (.returned (some (.int 1))) t = true) :
    ArmFor flags0 classFile x code maxLocals ret World_1 tables_1 room_1 Calls_1 rest_1 Pre_1
      (fun tb e a s o t => postC L tb e a s o t ∧ Framed s o t (fieldLocs frame_1_writes a s ++ arrayLocs frame_1_arrays a s ++ staticLocs frame_1_statics s) 600000 7302250) := by
  intro l _ _ _ p e ha hc hk s m args below hf hfit hheap happ hpre
  obtain ⟨k, o, h1, h2, h3, rfl, hF⟩ := lw_comes l p e ha hc hk s m args below hf hfit hheap happ hpre
  exact ⟨k, _, h1, h2, h3, hL args s _, lw_frame hF⟩
theorem i_vc : Claimed_1_1 ∧ Claimed_1_2 := ⟨lw_limb limb_1_1 (fun args s t => by simp [limb_1_1, Cond.after, Cond.holds, Cond.value]), lw_limb limb_1_2 (fun args s t => Cond.after_iff.mpr (by
  first | (rw [show limb_1_2 = Cond.eq .result (.int 1) from rfl, Cond.eq_ints (x := 1) (y := 1) rfl rfl]; simp; done) | (simp [limb_1_2, Cond.value, Term.eval]; done)))⟩
end
