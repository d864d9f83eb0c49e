section
-- ===== PART A: goes FIRST, ahead of the names: the tables' words, and 'selects' of the private methods out of them =====
/-- a private method of a class that the tables say can be made, by its rows of tables_1 -/
def lw_okq (q : MethodName × Nat) : Prop := (q.1.cls ≠ "java/lang/invoke/MethodHandle" ∧ q.1.cls ≠ "java/lang/invoke/VarHandle") ∧ Cond.instantiable q.1.cls q.2 ∈ tables_1 ∧ Cond.privateMethod q.1 ∈ tables_1 ∧ Cond.instanceMethod q.1 ∈ tables_1
theorem lw_p0 : lw_okq (⟨"NewsFlood", "fail", "(I)I"⟩, 5) := ⟨⟨by decide +kernel, by decide +kernel⟩, List.mem_of_getElem? (i := 12) (by decide +kernel), List.mem_of_getElem? (i := 189) (by decide +kernel), List.mem_of_getElem? (i := 190) (by decide +kernel)⟩
theorem lw_p1 : lw_okq (⟨"NewsFlood", "save", "()V"⟩, 5) := ⟨⟨by decide +kernel, by decide +kernel⟩, List.mem_of_getElem? (i := 12) (by decide +kernel), List.mem_of_getElem? (i := 200) (by decide +kernel), List.mem_of_getElem? (i := 201) (by decide +kernel)⟩
theorem lw_p2 : lw_okq (⟨"NewsFlood", "publish", "(IIIII)I"⟩, 5) := ⟨⟨by decide +kernel, by decide +kernel⟩, List.mem_of_getElem? (i := 12) (by decide +kernel), List.mem_of_getElem? (i := 267) (by decide +kernel), List.mem_of_getElem? (i := 268) (by decide +kernel)⟩
theorem lw_p3 : lw_okq (⟨"NewsFlood", "isArticle", "(I)Z"⟩, 5) := ⟨⟨by decide +kernel, by decide +kernel⟩, List.mem_of_getElem? (i := 12) (by decide +kernel), List.mem_of_getElem? (i := 330) (by decide +kernel), List.mem_of_getElem? (i := 331) (by decide +kernel)⟩
theorem lw_p4 : lw_okq (⟨"NewsFloodModel", "error", "(I)I"⟩, 5) := ⟨⟨by decide +kernel, by decide +kernel⟩, List.mem_of_getElem? (i := 458) (by decide +kernel), List.mem_of_getElem? (i := 491) (by decide +kernel), List.mem_of_getElem? (i := 492) (by decide +kernel)⟩
theorem lw_p5 : lw_okq (⟨"NewsFloodModel", "linkOf", "(II)I"⟩, 5) := ⟨⟨by decide +kernel, by decide +kernel⟩, List.mem_of_getElem? (i := 458) (by decide +kernel), List.mem_of_getElem? (i := 495) (by decide +kernel), List.mem_of_getElem? (i := 496) (by decide +kernel)⟩
theorem lw_p6 : lw_okq (⟨"NewsFloodModel", "link", "(II)I"⟩, 5) := ⟨⟨by decide +kernel, by decide +kernel⟩, List.mem_of_getElem? (i := 458) (by decide +kernel), List.mem_of_getElem? (i := 499) (by decide +kernel), List.mem_of_getElem? (i := 500) (by decide +kernel)⟩
theorem lw_p7 : lw_okq (⟨"NewsFloodModel", "save", "()V"⟩, 5) := ⟨⟨by decide +kernel, by decide +kernel⟩, List.mem_of_getElem? (i := 458) (by decide +kernel), List.mem_of_getElem? (i := 503) (by decide +kernel), List.mem_of_getElem? (i := 504) (by decide +kernel)⟩
theorem lw_p8 : lw_okq (⟨"NewsFloodModel", "isLink", "(I)Z"⟩, 5) := ⟨⟨by decide +kernel, by decide +kernel⟩, List.mem_of_getElem? (i := 458) (by decide +kernel), List.mem_of_getElem? (i := 511) (by decide +kernel), List.mem_of_getElem? (i := 512) (by decide +kernel)⟩
theorem lw_p9 : lw_okq (⟨"NewsFloodModel", "posts", "(IIIII)I"⟩, 5) := ⟨⟨by decide +kernel, by decide +kernel⟩, List.mem_of_getElem? (i := 458) (by decide +kernel), List.mem_of_getElem? (i := 542) (by decide +kernel), List.mem_of_getElem? (i := 543) (by decide +kernel)⟩
theorem lw_p10 : lw_okq (⟨"NewsFloodModel", "arrives", "(III)I"⟩, 5) := ⟨⟨by decide +kernel, by decide +kernel⟩, List.mem_of_getElem? (i := 458) (by decide +kernel), List.mem_of_getElem? (i := 546) (by decide +kernel), List.mem_of_getElem? (i := 547) (by decide +kernel)⟩
theorem lw_p11 : lw_okq (⟨"NewsFloodModel", "known", "(II)I"⟩, 5) := ⟨⟨by decide +kernel, by decide +kernel⟩, List.mem_of_getElem? (i := 458) (by decide +kernel), List.mem_of_getElem? (i := 550) (by decide +kernel), List.mem_of_getElem? (i := 551) (by decide +kernel)⟩
theorem lw_p12 : lw_okq (⟨"NewsFloodModel", "of", "(II)I"⟩, 5) := ⟨⟨by decide +kernel, by decide +kernel⟩, List.mem_of_getElem? (i := 458) (by decide +kernel), List.mem_of_getElem? (i := 554) (by decide +kernel), List.mem_of_getElem? (i := 555) (by decide +kernel)⟩
theorem lw_p13 : lw_okq (⟨"NewsFloodModel", "acts", "(II)V"⟩, 5) := ⟨⟨by decide +kernel, by decide +kernel⟩, List.mem_of_getElem? (i := 458) (by decide +kernel), List.mem_of_getElem? (i := 558) (by decide +kernel), List.mem_of_getElem? (i := 559) (by decide +kernel)⟩
theorem lw_p14 : lw_okq (⟨"NewsFloodModel", "isIn", "(II)Z"⟩, 5) := ⟨⟨by decide +kernel, by decide +kernel⟩, List.mem_of_getElem? (i := 458) (by decide +kernel), List.mem_of_getElem? (i := 562) (by decide +kernel), List.mem_of_getElem? (i := 563) (by decide +kernel)⟩
theorem lw_p15 : lw_okq (⟨"NewsFloodModel", "isArticle", "(I)Z"⟩, 5) := ⟨⟨by decide +kernel, by decide +kernel⟩, List.mem_of_getElem? (i := 458) (by decide +kernel), List.mem_of_getElem? (i := 571) (by decide +kernel), List.mem_of_getElem? (i := 572) (by decide +kernel)⟩
def lw_privs_1 : List (MethodName × Nat) := [(⟨"NewsFlood", "fail", "(I)I"⟩, 5), (⟨"NewsFlood", "save", "()V"⟩, 5), (⟨"NewsFlood", "publish", "(IIIII)I"⟩, 5), (⟨"NewsFlood", "isArticle", "(I)Z"⟩, 5), (⟨"NewsFloodModel", "error", "(I)I"⟩, 5), (⟨"NewsFloodModel", "linkOf", "(II)I"⟩, 5), (⟨"NewsFloodModel", "link", "(II)I"⟩, 5), (⟨"NewsFloodModel", "save", "()V"⟩, 5), (⟨"NewsFloodModel", "isLink", "(I)Z"⟩, 5), (⟨"NewsFloodModel", "posts", "(IIIII)I"⟩, 5), (⟨"NewsFloodModel", "arrives", "(III)I"⟩, 5), (⟨"NewsFloodModel", "known", "(II)I"⟩, 5), (⟨"NewsFloodModel", "of", "(II)I"⟩, 5), (⟨"NewsFloodModel", "acts", "(II)V"⟩, 5), (⟨"NewsFloodModel", "isIn", "(II)Z"⟩, 5), (⟨"NewsFloodModel", "isArticle", "(I)Z"⟩, 5)]
theorem lw_r1 : ∀ q ∈ lw_privs_1, lw_okq q := List.forall_mem_cons.mpr ⟨lw_p0, List.forall_mem_cons.mpr ⟨lw_p1, List.forall_mem_cons.mpr ⟨lw_p2, List.forall_mem_cons.mpr ⟨lw_p3, List.forall_mem_cons.mpr ⟨lw_p4, List.forall_mem_cons.mpr ⟨lw_p5, List.forall_mem_cons.mpr ⟨lw_p6, List.forall_mem_cons.mpr ⟨lw_p7, List.forall_mem_cons.mpr ⟨lw_p8, List.forall_mem_cons.mpr ⟨lw_p9, List.forall_mem_cons.mpr ⟨lw_p10, List.forall_mem_cons.mpr ⟨lw_p11, List.forall_mem_cons.mpr ⟨lw_p12, List.forall_mem_cons.mpr ⟨lw_p13, List.forall_mem_cons.mpr ⟨lw_p14, List.forall_mem_cons.mpr ⟨lw_p15, fun _ h => absurd h List.not_mem_nil⟩⟩⟩⟩⟩⟩⟩⟩⟩⟩⟩⟩⟩⟩⟩⟩
theorem lw_p16 : lw_okq (⟨"NewsFloodModel", "goesRound", "()I"⟩, 5) := ⟨⟨by decide +kernel, by decide +kernel⟩, List.mem_of_getElem? (i := 458) (by decide +kernel), List.mem_of_getElem? (i := 579) (by decide +kernel), List.mem_of_getElem? (i := 580) (by decide +kernel)⟩
theorem lw_p17 : lw_okq (⟨"NewsFloodModel", "takes", "()I"⟩, 5) := ⟨⟨by decide +kernel, by decide +kernel⟩, List.mem_of_getElem? (i := 458) (by decide +kernel), List.mem_of_getElem? (i := 583) (by decide +kernel), List.mem_of_getElem? (i := 584) (by decide +kernel)⟩
theorem lw_p18 : lw_okq (⟨"NewsFloodModel", "pendingOf", "(I)I"⟩, 5) := ⟨⟨by decide +kernel, by decide +kernel⟩, List.mem_of_getElem? (i := 458) (by decide +kernel), List.mem_of_getElem? (i := 607) (by decide +kernel), List.mem_of_getElem? (i := 608) (by decide +kernel)⟩
def lw_privs_2 : List (MethodName × Nat) := [(⟨"NewsFloodModel", "goesRound", "()I"⟩, 5), (⟨"NewsFloodModel", "takes", "()I"⟩, 5), (⟨"NewsFloodModel", "pendingOf", "(I)I"⟩, 5)]
theorem lw_r2 : ∀ q ∈ lw_privs_2, lw_okq q := List.forall_mem_cons.mpr ⟨lw_p16, List.forall_mem_cons.mpr ⟨lw_p17, List.forall_mem_cons.mpr ⟨lw_p18, fun _ h => absurd h List.not_mem_nil⟩⟩⟩
def lw_privs : List (MethodName × Nat) := lw_privs_1 ++ (lw_privs_2)
def lw_tbl : List Cond := k2_sels lw_privs ++ tables_1
theorem lw_privs_ok : ∀ q ∈ lw_privs, lw_okq q := by
  show ∀ q ∈ lw_privs_1 ++ (lw_privs_2), lw_okq q
  exact List.forall_mem_append.mpr ⟨lw_r1, lw_r2⟩
end
section
def RX0 : String := "NewsFlood$Articles"
def TX0 : u_T := fun k => match k with
  | 0 => ("NewsFlood$Articles", "count", "I", false)
  | 1 => ("NewsFlood$Articles", "group", "[I", true)
  | 2 => ("NewsFlood$Articles", "author", "[I", true)
  | 3 => ("NewsFlood$Articles", "postedOn", "[I", true)
  | 4 => ("NewsFlood$Articles", "action", "[I", true)
  | _ => ("NewsFlood$Articles", "target", "[I", true)
def tyX0 : Nat → FieldType := fun k => match k with
  | 0 => .int
  | 1 => .array .int
  | 2 => .array .int
  | 3 => .array .int
  | 4 => .array .int
  | _ => .array .int
abbrev wsX00 : List Cond := u_ws RX0 TX0 6
theorem nmX0 : ∀ a, a < 6 → ∀ b, b < 6 → a ≠ b → (TX0 a).2.1 ≠ (TX0 b).2.1 := by decide +kernel
theorem tyX0_ok : ∀ k, k < 6 → parseFieldDescriptor (TX0 k).2.2.1 = some (tyX0 k) := by decide +kernel
abbrev cX0_init : ByteArray := prog_2_method_1_code
def yX0_init : MethodName := ⟨RX0, "<init>", "()V"⟩
abbrev cX0_append : ByteArray := prog_2_method_2_code
def yX0_append : MethodName := ⟨RX0, "append", "(IIIII)I"⟩
abbrev cX0_copyFrom : ByteArray := prog_2_method_3_code
def yX0_copyFrom : MethodName := ⟨RX0, "copyFrom", "(LNewsFlood$Articles;)V"⟩
def RX1 : String := "NewsFlood$Host"
def TX1 : u_T := fun k => match k with
  | 0 => ("NewsFlood$Host", "groups", "I", false)
  | 1 => ("NewsFlood$Host", "store", "I", false)
  | 2 => ("NewsFlood$Host", "historyDay", "[I", true)
  | _ => ("NewsFlood$Host", "cancelAuthors", "[I", true)
def tyX1 : Nat → FieldType := fun k => match k with
  | 0 => .int
  | 1 => .int
  | 2 => .array .int
  | _ => .array .int
abbrev wsX10 : List Cond := u_ws RX1 TX1 4
theorem nmX1 : ∀ a, a < 4 → ∀ b, b < 4 → a ≠ b → (TX1 a).2.1 ≠ (TX1 b).2.1 := by decide +kernel
theorem tyX1_ok : ∀ k, k < 4 → parseFieldDescriptor (TX1 k).2.2.1 = some (tyX1 k) := by decide +kernel
abbrev cX1_init : ByteArray := prog_3_method_1_code
def yX1_init : MethodName := ⟨RX1, "<init>", "()V"⟩
abbrev cX1_carries : ByteArray := prog_3_method_2_code
def yX1_carries : MethodName := ⟨RX1, "carries", "(I)Z"⟩
abbrev cX1_stores : ByteArray := prog_3_method_3_code
def yX1_stores : MethodName := ⟨RX1, "stores", "(I)Z"⟩
abbrev cX1_knows : ByteArray := prog_3_method_4_code
def yX1_knows : MethodName := ⟨RX1, "knows", "(I)Z"⟩
abbrev cX1_keep : ByteArray := prog_3_method_5_code
def yX1_keep : MethodName := ⟨RX1, "keep", "(I)V"⟩
abbrev cX1_drop : ByteArray := prog_3_method_6_code
def yX1_drop : MethodName := ⟨RX1, "drop", "(I)V"⟩
abbrev cX1_addCancel : ByteArray := prog_3_method_7_code
def yX1_addCancel : MethodName := ⟨RX1, "addCancel", "(II)V"⟩
abbrev cX1_takeCancel : ByteArray := prog_3_method_8_code
def yX1_takeCancel : MethodName := ⟨RX1, "takeCancel", "(II)Z"⟩
abbrev cX1_countCancels : ByteArray := prog_3_method_9_code
def yX1_countCancels : MethodName := ⟨RX1, "countCancels", "()I"⟩
abbrev cX1_copyFrom : ByteArray := prog_3_method_10_code
def yX1_copyFrom : MethodName := ⟨RX1, "copyFrom", "(LNewsFlood$Host;)V"⟩
def RX2 : String := "NewsFlood$Links"
def TX2 : u_T := fun k => match k with
  | 0 => ("NewsFlood$Links", "count", "I", false)
  | 1 => ("NewsFlood$Links", "first", "[I", true)
  | 2 => ("NewsFlood$Links", "second", "[I", true)
  | _ => ("NewsFlood$Links", "kind", "[I", true)
def tyX2 : Nat → FieldType := fun k => match k with
  | 0 => .int
  | 1 => .array .int
  | 2 => .array .int
  | _ => .array .int
abbrev wsX20 : List Cond := u_ws RX2 TX2 4
theorem nmX2 : ∀ a, a < 4 → ∀ b, b < 4 → a ≠ b → (TX2 a).2.1 ≠ (TX2 b).2.1 := by decide +kernel
theorem tyX2_ok : ∀ k, k < 4 → parseFieldDescriptor (TX2 k).2.2.1 = some (tyX2 k) := by decide +kernel
abbrev cX2_init : ByteArray := prog_4_method_1_code
def yX2_init : MethodName := ⟨RX2, "<init>", "()V"⟩
abbrev cX2_between : ByteArray := prog_4_method_2_code
def yX2_between : MethodName := ⟨RX2, "between", "(II)I"⟩
abbrev cX2_neighboursOf : ByteArray := prog_4_method_3_code
def yX2_neighboursOf : MethodName := ⟨RX2, "neighboursOf", "(I)I"⟩
abbrev cX2_append : ByteArray := prog_4_method_4_code
def yX2_append : MethodName := ⟨RX2, "append", "(III)I"⟩
abbrev cX2_delete : ByteArray := prog_4_method_5_code
def yX2_delete : MethodName := ⟨RX2, "delete", "(I)V"⟩
abbrev cX2_copyFrom : ByteArray := prog_4_method_6_code
def yX2_copyFrom : MethodName := ⟨RX2, "copyFrom", "(LNewsFlood$Links;)V"⟩
def RX3 : String := "NewsFlood$Network"
def TX3 : u_T := fun k => match k with
  | 0 => ("NewsFlood$Network", "today", "I", false)
  | 1 => ("NewsFlood$Network", "historyLimit", "I", false)
  | 2 => ("NewsFlood$Network", "expiry", "[I", true)
  | 3 => ("NewsFlood$Network", "links", "LNewsFlood$Links;", true)
  | 4 => ("NewsFlood$Network", "articles", "LNewsFlood$Articles;", true)
  | 5 => ("NewsFlood$Network", "hosts", "[LNewsFlood$Host;", true)
  | 6 => ("NewsFlood$Network", "queue", "LNewsFlood$Queue;", true)
  | _ => ("NewsFlood$Network", "counts", "[I", true)
def tyX3 : Nat → FieldType := fun k => match k with
  | 0 => .int
  | 1 => .int
  | 2 => .array .int
  | 3 => .object "NewsFlood$Links"
  | 4 => .object "NewsFlood$Articles"
  | 5 => .array (.object "NewsFlood$Host")
  | 6 => .object "NewsFlood$Queue"
  | _ => .array .int
abbrev wsX30 : List Cond := u_ws RX3 TX3 8
theorem nmX3 : ∀ a, a < 8 → ∀ b, b < 8 → a ≠ b → (TX3 a).2.1 ≠ (TX3 b).2.1 := by decide +kernel
theorem tyX3_ok : ∀ k, k < 8 → parseFieldDescriptor (TX3 k).2.2.1 = some (tyX3 k) := by decide +kernel
abbrev cX3_init : ByteArray := prog_5_method_1_code
def yX3_init : MethodName := ⟨RX3, "<init>", "()V"⟩
abbrev cX3_arrive : ByteArray := prog_5_method_2_code
def yX3_arrive : MethodName := ⟨RX3, "arrive", "(III)Z"⟩
abbrev cX3_actOnTarget : ByteArray := prog_5_method_3_code
def yX3_actOnTarget : MethodName := ⟨RX3, "actOnTarget", "(ILNewsFlood$Host;)V"⟩
abbrev cX3_performRound : ByteArray := prog_5_method_4_code
def yX3_performRound : MethodName := ⟨RX3, "performRound", "(LNewsFlood$Queue;)I"⟩
abbrev cX3_sendTo : ByteArray := prog_5_method_5_code
def yX3_sendTo : MethodName := ⟨RX3, "sendTo", "(IIII)Z"⟩
abbrev cX3_beginDay : ByteArray := prog_5_method_6_code
def yX3_beginDay : MethodName := ⟨RX3, "beginDay", "()I"⟩
abbrev cX3_expireStore : ByteArray := prog_5_method_7_code
def yX3_expireStore : MethodName := ⟨RX3, "expireStore", "(LNewsFlood$Host;)I"⟩
abbrev cX3_forgetOld : ByteArray := prog_5_method_8_code
def yX3_forgetOld : MethodName := ⟨RX3, "forgetOld", "(LNewsFlood$Host;)V"⟩
abbrev cX3_copyFrom : ByteArray := prog_5_method_9_code
def yX3_copyFrom : MethodName := ⟨RX3, "copyFrom", "(LNewsFlood$Network;)V"⟩
def RX4 : String := "NewsFlood$Queue"
def TX4 : u_T := fun k => match k with
  | 0 => ("NewsFlood$Queue", "receivers", "[I", true)
  | _ => ("NewsFlood$Queue", "path", "[I", true)
def tyX4 : Nat → FieldType := fun k => match k with
  | 0 => .array .int
  | _ => .array .int
abbrev wsX40 : List Cond := u_ws RX4 TX4 2
theorem nmX4 : ∀ a, a < 2 → ∀ b, b < 2 → a ≠ b → (TX4 a).2.1 ≠ (TX4 b).2.1 := by decide +kernel
theorem tyX4_ok : ∀ k, k < 2 → parseFieldDescriptor (TX4 k).2.2.1 = some (tyX4 k) := by decide +kernel
abbrev cX4_init : ByteArray := prog_6_method_1_code
def yX4_init : MethodName := ⟨RX4, "<init>", "()V"⟩
abbrev cX4_slot : ByteArray := prog_6_method_2_code
def yX4_slot : MethodName := ⟨RX4, "slot", "(II)I"⟩
abbrev cX4_put : ByteArray := prog_6_method_3_code
def yX4_put : MethodName := ⟨RX4, "put", "(IIII)V"⟩
abbrev cX4_size : ByteArray := prog_6_method_4_code
def yX4_size : MethodName := ⟨RX4, "size", "()I"⟩
abbrev cX4_makeEmpty : ByteArray := prog_6_method_5_code
def yX4_makeEmpty : MethodName := ⟨RX4, "makeEmpty", "()V"⟩
abbrev cX4_copyFrom : ByteArray := prog_6_method_6_code
def yX4_copyFrom : MethodName := ⟨RX4, "copyFrom", "(LNewsFlood$Queue;)V"⟩
def RX5 : String := "NewsFlood"
def TX5 : u_T := fun k => match k with
  | 0 => ("NewsFlood", "network", "LNewsFlood$Network;", true)
  | 1 => ("NewsFlood", "taken", "LNewsFlood$Queue;", true)
  | 2 => ("NewsFlood", "saved", "[LNewsFlood$Network;", true)
  | 3 => ("NewsFlood", "savedCount", "I", false)
  | _ => ("NewsFlood", "errors", "[I", true)
def tyX5 : Nat → FieldType := fun k => match k with
  | 0 => .object "NewsFlood$Network"
  | 1 => .object "NewsFlood$Queue"
  | 2 => .array (.object "NewsFlood$Network")
  | 3 => .int
  | _ => .array .int
abbrev wsX50 : List Cond := u_ws RX5 TX5 5
theorem nmX5 : ∀ a, a < 5 → ∀ b, b < 5 → a ≠ b → (TX5 a).2.1 ≠ (TX5 b).2.1 := by decide +kernel
theorem tyX5_ok : ∀ k, k < 5 → parseFieldDescriptor (TX5 k).2.2.1 = some (tyX5 k) := by decide +kernel
abbrev cX5_init : ByteArray := prog_1_method_1_code
def yX5_init : MethodName := ⟨RX5, "<init>", "()V"⟩
abbrev cX5_addLink : ByteArray := prog_1_method_2_code
def yX5_addLink : MethodName := ⟨RX5, "addLink", "(III)I"⟩
abbrev cX5_removeLink : ByteArray := prog_1_method_3_code
def yX5_removeLink : MethodName := ⟨RX5, "removeLink", "(I)I"⟩
abbrev cX5_setKind : ByteArray := prog_1_method_4_code
def yX5_setKind : MethodName := ⟨RX5, "setKind", "(II)I"⟩
abbrev cX5_setGroups : ByteArray := prog_1_method_5_code
def yX5_setGroups : MethodName := ⟨RX5, "setGroups", "(II)I"⟩
abbrev cX5_setExpiry : ByteArray := prog_1_method_6_code
def yX5_setExpiry : MethodName := ⟨RX5, "setExpiry", "(II)I"⟩
abbrev cX5_setHistoryLimit : ByteArray := prog_1_method_7_code
def yX5_setHistoryLimit : MethodName := ⟨RX5, "setHistoryLimit", "(I)I"⟩
abbrev cX5_post : ByteArray := prog_1_method_8_code
def yX5_post : MethodName := ⟨RX5, "post", "(III)I"⟩
abbrev cX5_postAction : ByteArray := prog_1_method_9_code
def yX5_postAction : MethodName := ⟨RX5, "postAction", "(IIII)I"⟩
abbrev cX5_round : ByteArray := prog_1_method_10_code
def yX5_round : MethodName := ⟨RX5, "round", "()I"⟩
abbrev cX5_settle : ByteArray := prog_1_method_11_code
def yX5_settle : MethodName := ⟨RX5, "settle", "()I"⟩
abbrev cX5_nextDay : ByteArray := prog_1_method_12_code
def yX5_nextDay : MethodName := ⟨RX5, "nextDay", "()I"⟩
abbrev cX5_isStored : ByteArray := prog_1_method_13_code
def yX5_isStored : MethodName := ⟨RX5, "isStored", "(II)I"⟩
abbrev cX5_knownSince : ByteArray := prog_1_method_14_code
def yX5_knownSince : MethodName := ⟨RX5, "knownSince", "(II)I"⟩
abbrev cX5_pendingCancels : ByteArray := prog_1_method_15_code
def yX5_pendingCancels : MethodName := ⟨RX5, "pendingCancels", "(I)I"⟩
abbrev cX5_holders : ByteArray := prog_1_method_16_code
def yX5_holders : MethodName := ⟨RX5, "holders", "(I)I"⟩
abbrev cX5_storedInGroup : ByteArray := prog_1_method_17_code
def yX5_storedInGroup : MethodName := ⟨RX5, "storedInGroup", "(II)I"⟩
abbrev cX5_distance : ByteArray := prog_1_method_18_code
def yX5_distance : MethodName := ⟨RX5, "distance", "(II)I"⟩
abbrev cX5_waiting : ByteArray := prog_1_method_19_code
def yX5_waiting : MethodName := ⟨RX5, "waiting", "()I"⟩
abbrev cX5_total : ByteArray := prog_1_method_20_code
def yX5_total : MethodName := ⟨RX5, "total", "(I)I"⟩
abbrev cX5_day : ByteArray := prog_1_method_21_code
def yX5_day : MethodName := ⟨RX5, "day", "()I"⟩
abbrev cX5_undo : ByteArray := prog_1_method_22_code
def yX5_undo : MethodName := ⟨RX5, "undo", "()I"⟩
abbrev cX5_errorCount : ByteArray := prog_1_method_23_code
def yX5_errorCount : MethodName := ⟨RX5, "errorCount", "(I)I"⟩
abbrev cX5_digest : ByteArray := prog_1_method_24_code
def yX5_digest : MethodName := ⟨RX5, "digest", "()J"⟩
abbrev cX5_publish : ByteArray := prog_1_method_25_code
def yX5_publish : MethodName := ⟨RX5, "publish", "(IIIII)I"⟩
abbrev cX5_save : ByteArray := prog_1_method_26_code
def yX5_save : MethodName := ⟨RX5, "save", "()V"⟩
abbrev cX5_fail : ByteArray := prog_1_method_27_code
def yX5_fail : MethodName := ⟨RX5, "fail", "(I)I"⟩
abbrev cX5_errorSlot : ByteArray := prog_1_method_28_code
def yX5_errorSlot : MethodName := ⟨RX5, "errorSlot", "(I)I"⟩
abbrev cX5_isArticle : ByteArray := prog_1_method_29_code
def yX5_isArticle : MethodName := ⟨RX5, "isArticle", "(I)Z"⟩
abbrev cX5_isLimit : ByteArray := prog_1_method_30_code
def yX5_isLimit : MethodName := ⟨RX5, "isLimit", "(I)Z"⟩
abbrev cX5_isBelow : ByteArray := prog_1_method_31_code
def yX5_isBelow : MethodName := ⟨RX5, "isBelow", "(II)Z"⟩
abbrev cX5_has : ByteArray := prog_1_method_32_code
def yX5_has : MethodName := ⟨RX5, "has", "(II)Z"⟩
abbrev cX5_mix : ByteArray := prog_1_method_33_code
def yX5_mix : MethodName := ⟨RX5, "mix", "(JI)J"⟩
abbrev cX5_mixAll : ByteArray := prog_1_method_34_code
def yX5_mixAll : MethodName := ⟨RX5, "mixAll", "(J[I)J"⟩
abbrev cX5_mixLinks : ByteArray := prog_1_method_35_code
def yX5_mixLinks : MethodName := ⟨RX5, "mixLinks", "(JLNewsFlood$Links;)J"⟩
abbrev cX5_mixArticles : ByteArray := prog_1_method_36_code
def yX5_mixArticles : MethodName := ⟨RX5, "mixArticles", "(JLNewsFlood$Articles;)J"⟩
abbrev cX5_mixHost : ByteArray := prog_1_method_37_code
def yX5_mixHost : MethodName := ⟨RX5, "mixHost", "(JLNewsFlood$Host;I)J"⟩
def RX6 : String := "NewsFloodModel"
def TX6 : u_T := fun k => match k with
  | 0 => ("NewsFloodModel", "all", "[I", true)
  | 1 => ("NewsFloodModel", "saved", "[I", true)
  | 2 => ("NewsFloodModel", "savedMany", "I", false)
  | 3 => ("NewsFloodModel", "errors", "[I", true)
  | _ => ("NewsFloodModel", "work", "[I", true)
def tyX6 : Nat → FieldType := fun k => match k with
  | 0 => .array .int
  | 1 => .array .int
  | 2 => .int
  | 3 => .array .int
  | _ => .array .int
abbrev wsX60 : List Cond := u_ws RX6 TX6 5
theorem nmX6 : ∀ a, a < 5 → ∀ b, b < 5 → a ≠ b → (TX6 a).2.1 ≠ (TX6 b).2.1 := by decide +kernel
theorem tyX6_ok : ∀ k, k < 5 → parseFieldDescriptor (TX6 k).2.2.1 = some (tyX6 k) := by decide +kernel
abbrev cX6_init : ByteArray := prog_8_method_1_code
def yX6_init : MethodName := ⟨RX6, "<init>", "()V"⟩
abbrev cX6_in : ByteArray := prog_8_method_3_code
def yX6_in : MethodName := ⟨RX6, "in", "(JJJ)Z"⟩
abbrev cX6_error : ByteArray := prog_8_method_4_code
def yX6_error : MethodName := ⟨RX6, "error", "(I)I"⟩
abbrev cX6_save : ByteArray := prog_8_method_5_code
def yX6_save : MethodName := ⟨RX6, "save", "()V"⟩
abbrev cX6_isHost : ByteArray := prog_8_method_6_code
def yX6_isHost : MethodName := ⟨RX6, "isHost", "(I)Z"⟩
abbrev cX6_isGroup : ByteArray := prog_8_method_7_code
def yX6_isGroup : MethodName := ⟨RX6, "isGroup", "(I)Z"⟩
abbrev cX6_isArticle : ByteArray := prog_8_method_8_code
def yX6_isArticle : MethodName := ⟨RX6, "isArticle", "(I)Z"⟩
abbrev cX6_isLink : ByteArray := prog_8_method_9_code
def yX6_isLink : MethodName := ⟨RX6, "isLink", "(I)Z"⟩
abbrev cX6_link : ByteArray := prog_8_method_10_code
def yX6_link : MethodName := ⟨RX6, "link", "(II)I"⟩
abbrev cX6_linkOf : ByteArray := prog_8_method_11_code
def yX6_linkOf : MethodName := ⟨RX6, "linkOf", "(II)I"⟩
abbrev cX6_addLink : ByteArray := prog_8_method_12_code
def yX6_addLink : MethodName := ⟨RX6, "addLink", "(III)I"⟩
abbrev cX6_removeLink : ByteArray := prog_8_method_13_code
def yX6_removeLink : MethodName := ⟨RX6, "removeLink", "(I)I"⟩
abbrev cX6_setKind : ByteArray := prog_8_method_14_code
def yX6_setKind : MethodName := ⟨RX6, "setKind", "(II)I"⟩
abbrev cX6_setGroups : ByteArray := prog_8_method_15_code
def yX6_setGroups : MethodName := ⟨RX6, "setGroups", "(II)I"⟩
abbrev cX6_setExpiry : ByteArray := prog_8_method_16_code
def yX6_setExpiry : MethodName := ⟨RX6, "setExpiry", "(II)I"⟩
abbrev cX6_setHistoryLimit : ByteArray := prog_8_method_17_code
def yX6_setHistoryLimit : MethodName := ⟨RX6, "setHistoryLimit", "(I)I"⟩
abbrev cX6_of : ByteArray := prog_8_method_18_code
def yX6_of : MethodName := ⟨RX6, "of", "(II)I"⟩
abbrev cX6_isIn : ByteArray := prog_8_method_19_code
def yX6_isIn : MethodName := ⟨RX6, "isIn", "(II)Z"⟩
abbrev cX6_known : ByteArray := prog_8_method_20_code
def yX6_known : MethodName := ⟨RX6, "known", "(II)I"⟩
abbrev cX6_acts : ByteArray := prog_8_method_21_code
def yX6_acts : MethodName := ⟨RX6, "acts", "(II)V"⟩
abbrev cX6_arrives : ByteArray := prog_8_method_22_code
def yX6_arrives : MethodName := ⟨RX6, "arrives", "(III)I"⟩
abbrev cX6_posts : ByteArray := prog_8_method_23_code
def yX6_posts : MethodName := ⟨RX6, "posts", "(IIIII)I"⟩
abbrev cX6_post : ByteArray := prog_8_method_24_code
def yX6_post : MethodName := ⟨RX6, "post", "(III)I"⟩
abbrev cX6_postAction : ByteArray := prog_8_method_25_code
def yX6_postAction : MethodName := ⟨RX6, "postAction", "(IIII)I"⟩
abbrev cX6_takes : ByteArray := prog_8_method_26_code
def yX6_takes : MethodName := ⟨RX6, "takes", "()I"⟩
abbrev cX6_goesRound : ByteArray := prog_8_method_27_code
def yX6_goesRound : MethodName := ⟨RX6, "goesRound", "()I"⟩
abbrev cX6_round : ByteArray := prog_8_method_28_code
def yX6_round : MethodName := ⟨RX6, "round", "()I"⟩
abbrev cX6_settle : ByteArray := prog_8_method_29_code
def yX6_settle : MethodName := ⟨RX6, "settle", "()I"⟩
abbrev cX6_nextDay : ByteArray := prog_8_method_30_code
def yX6_nextDay : MethodName := ⟨RX6, "nextDay", "()I"⟩
abbrev cX6_isStored : ByteArray := prog_8_method_31_code
def yX6_isStored : MethodName := ⟨RX6, "isStored", "(II)I"⟩
abbrev cX6_knownSince : ByteArray := prog_8_method_32_code
def yX6_knownSince : MethodName := ⟨RX6, "knownSince", "(II)I"⟩
abbrev cX6_pendingOf : ByteArray := prog_8_method_33_code
def yX6_pendingOf : MethodName := ⟨RX6, "pendingOf", "(I)I"⟩
abbrev cX6_pendingCancels : ByteArray := prog_8_method_34_code
def yX6_pendingCancels : MethodName := ⟨RX6, "pendingCancels", "(I)I"⟩
abbrev cX6_holders : ByteArray := prog_8_method_35_code
def yX6_holders : MethodName := ⟨RX6, "holders", "(I)I"⟩
abbrev cX6_storedInGroup : ByteArray := prog_8_method_36_code
def yX6_storedInGroup : MethodName := ⟨RX6, "storedInGroup", "(II)I"⟩
abbrev cX6_distance : ByteArray := prog_8_method_37_code
def yX6_distance : MethodName := ⟨RX6, "distance", "(II)I"⟩
abbrev cX6_waiting : ByteArray := prog_8_method_38_code
def yX6_waiting : MethodName := ⟨RX6, "waiting", "()I"⟩
abbrev cX6_total : ByteArray := prog_8_method_39_code
def yX6_total : MethodName := ⟨RX6, "total", "(I)I"⟩
abbrev cX6_day : ByteArray := prog_8_method_40_code
def yX6_day : MethodName := ⟨RX6, "day", "()I"⟩
abbrev cX6_undo : ByteArray := prog_8_method_41_code
def yX6_undo : MethodName := ⟨RX6, "undo", "()I"⟩
abbrev cX6_errorCount : ByteArray := prog_8_method_42_code
def yX6_errorCount : MethodName := ⟨RX6, "errorCount", "(I)I"⟩
abbrev cX6_digest : ByteArray := prog_8_method_43_code
def yX6_digest : MethodName := ⟨RX6, "digest", "()J"⟩
def RJ6 : String := "java/lang/Integer"
def TJ6 : u_T := fun k => match k with
  | _ => ("", "", "", false)
def tyJ6 : Nat → FieldType := fun k => match k with
  | _ => .int
abbrev wsJ60 : List Cond := u_ws RJ6 TJ6 0
theorem nmJ6 : ∀ a, a < 0 → ∀ b, b < 0 → a ≠ b → (TJ6 a).2.1 ≠ (TJ6 b).2.1 := by decide +kernel
theorem tyJ6_ok : ∀ k, k < 0 → parseFieldDescriptor (TJ6 k).2.2.1 = some (tyJ6 k) := by decide +kernel
abbrev cJ6_bitCount_0f7a4 : ByteArray := prog_9_method_49_code
def yJ6_bitCount_0f7a4 : MethodName := ⟨RJ6, "bitCount", "(I)I"⟩
def RJ10 : String := "java/lang/System"
def TJ10 : u_T := fun k => match k with
  | _ => ("", "", "", false)
def tyJ10 : Nat → FieldType := fun k => match k with
  | _ => .int
abbrev wsJ100 : List Cond := u_ws RJ10 TJ10 0
theorem nmJ10 : ∀ a, a < 0 → ∀ b, b < 0 → a ≠ b → (TJ10 a).2.1 ≠ (TJ10 b).2.1 := by decide +kernel
theorem tyJ10_ok : ∀ k, k < 0 → parseFieldDescriptor (TJ10 k).2.2.1 = some (tyJ10 k) := by decide +kernel
def RJ7 : String := "java/util/Arrays"
def TJ7 : u_T := fun k => match k with
  | _ => ("", "", "", false)
def tyJ7 : Nat → FieldType := fun k => match k with
  | _ => .int
abbrev wsJ70 : List Cond := u_ws RJ7 TJ7 0
theorem nmJ7 : ∀ a, a < 0 → ∀ b, b < 0 → a ≠ b → (TJ7 a).2.1 ≠ (TJ7 b).2.1 := by decide +kernel
theorem tyJ7_ok : ∀ k, k < 0 → parseFieldDescriptor (TJ7 k).2.2.1 = some (tyJ7 k) := by decide +kernel
abbrev cJ7_fill_53178 : ByteArray := prog_11_method_103_code
def yJ7_fill_53178 : MethodName := ⟨RJ7, "fill", "([II)V"⟩
def RL : String := "NewsFloodLaw"
abbrev cL_law : ByteArray := code
def yL_law : MethodName := ⟨RL, "law", "([I)Z"⟩
abbrev vwCl : List vw_C := [(RX0, TX0, 6), (RX1, TX1, 4), (RX2, TX2, 4), (RX3, TX3, 8), (RX4, TX4, 2), (RX5, TX5, 5), (RX6, TX6, 5)]
end
section
theorem dX0_init_0 : decode cX0_init 0 = .ok (.aload_n 0, 1) := by decide +kernel
theorem dX0_init_1 : decode cX0_init 1 = .ok (.invokespecial 3, 3) := by decide +kernel
theorem dX0_init_4 : decode cX0_init 4 = .ok (.aload_n 0, 1) := by decide +kernel
theorem dX0_init_5 : decode cX0_init 5 = .ok (.iconst 0, 1) := by decide +kernel
theorem dX0_init_6 : decode cX0_init 6 = .ok (.putfield 9, 3) := by decide +kernel
theorem dX0_init_9 : decode cX0_init 9 = .ok (.aload_n 0, 1) := by decide +kernel
theorem dX0_init_10 : decode cX0_init 10 = .ok (.bipush 30, 2) := by decide +kernel
theorem dX0_init_12 : decode cX0_init 12 = .ok (.newarray .int, 2) := by decide +kernel
theorem dX0_init_14 : decode cX0_init 14 = .ok (.putfield 15, 3) := by decide +kernel
theorem dX0_init_17 : decode cX0_init 17 = .ok (.aload_n 0, 1) := by decide +kernel
theorem dX0_init_18 : decode cX0_init 18 = .ok (.bipush 30, 2) := by decide +kernel
theorem dX0_init_20 : decode cX0_init 20 = .ok (.newarray .int, 2) := by decide +kernel
theorem dX0_init_22 : decode cX0_init 22 = .ok (.putfield 19, 3) := by decide +kernel
theorem dX0_init_25 : decode cX0_init 25 = .ok (.aload_n 0, 1) := by decide +kernel
theorem dX0_init_26 : decode cX0_init 26 = .ok (.bipush 30, 2) := by decide +kernel
theorem dX0_init_28 : decode cX0_init 28 = .ok (.newarray .int, 2) := by decide +kernel
theorem dX0_init_30 : decode cX0_init 30 = .ok (.putfield 22, 3) := by decide +kernel
theorem dX0_init_33 : decode cX0_init 33 = .ok (.aload_n 0, 1) := by decide +kernel
theorem dX0_init_34 : decode cX0_init 34 = .ok (.bipush 30, 2) := by decide +kernel
theorem dX0_init_36 : decode cX0_init 36 = .ok (.newarray .int, 2) := by decide +kernel
theorem dX0_init_38 : decode cX0_init 38 = .ok (.putfield 25, 3) := by decide +kernel
theorem dX0_init_41 : decode cX0_init 41 = .ok (.aload_n 0, 1) := by decide +kernel
theorem dX0_init_42 : decode cX0_init 42 = .ok (.bipush 30, 2) := by decide +kernel
theorem dX0_init_44 : decode cX0_init 44 = .ok (.newarray .int, 2) := by decide +kernel
theorem dX0_init_46 : decode cX0_init 46 = .ok (.putfield 28, 3) := by decide +kernel
theorem dX0_init_49 : decode cX0_init 49 = .ok (.return_, 1) := by decide +kernel
theorem dX0_append_0 : decode cX0_append 0 = .ok (.aload_n 0, 1) := by decide +kernel
theorem dX0_append_1 : decode cX0_append 1 = .ok (.getfield 9, 3) := by decide +kernel
theorem dX0_append_4 : decode cX0_append 4 = .ok (.bipush 30, 2) := by decide +kernel
theorem dX0_append_6 : decode cX0_append 6 = .ok (.if_icmp .lt 5, 3) := by decide +kernel
theorem dX0_append_9 : decode cX0_append 9 = .ok (.iconst (-1), 1) := by decide +kernel
theorem dX0_append_10 : decode cX0_append 10 = .ok (.ireturn, 1) := by decide +kernel
theorem dX0_append_11 : decode cX0_append 11 = .ok (.aload_n 0, 1) := by decide +kernel
theorem dX0_append_12 : decode cX0_append 12 = .ok (.getfield 15, 3) := by decide +kernel
theorem dX0_append_15 : decode cX0_append 15 = .ok (.aload_n 0, 1) := by decide +kernel
theorem dX0_append_16 : decode cX0_append 16 = .ok (.getfield 9, 3) := by decide +kernel
theorem dX0_append_19 : decode cX0_append 19 = .ok (.iload_n 1, 1) := by decide +kernel
theorem dX0_append_20 : decode cX0_append 20 = .ok (.iastore, 1) := by decide +kernel
theorem dX0_append_21 : decode cX0_append 21 = .ok (.aload_n 0, 1) := by decide +kernel
theorem dX0_append_22 : decode cX0_append 22 = .ok (.getfield 19, 3) := by decide +kernel
theorem dX0_append_25 : decode cX0_append 25 = .ok (.aload_n 0, 1) := by decide +kernel
theorem dX0_append_26 : decode cX0_append 26 = .ok (.getfield 9, 3) := by decide +kernel
theorem dX0_append_29 : decode cX0_append 29 = .ok (.iload_n 2, 1) := by decide +kernel
theorem dX0_append_30 : decode cX0_append 30 = .ok (.iastore, 1) := by decide +kernel
theorem dX0_append_31 : decode cX0_append 31 = .ok (.aload_n 0, 1) := by decide +kernel
theorem dX0_append_32 : decode cX0_append 32 = .ok (.getfield 22, 3) := by decide +kernel
theorem dX0_append_35 : decode cX0_append 35 = .ok (.aload_n 0, 1) := by decide +kernel
theorem dX0_append_36 : decode cX0_append 36 = .ok (.getfield 9, 3) := by decide +kernel
theorem dX0_append_39 : decode cX0_append 39 = .ok (.iload_n 3, 1) := by decide +kernel
theorem dX0_append_40 : decode cX0_append 40 = .ok (.iastore, 1) := by decide +kernel
theorem dX0_append_41 : decode cX0_append 41 = .ok (.aload_n 0, 1) := by decide +kernel
theorem dX0_append_42 : decode cX0_append 42 = .ok (.getfield 25, 3) := by decide +kernel
theorem dX0_append_45 : decode cX0_append 45 = .ok (.aload_n 0, 1) := by decide +kernel
theorem dX0_append_46 : decode cX0_append 46 = .ok (.getfield 9, 3) := by decide +kernel
theorem dX0_append_49 : decode cX0_append 49 = .ok (.iload 4, 2) := by decide +kernel
theorem dX0_append_51 : decode cX0_append 51 = .ok (.iastore, 1) := by decide +kernel
theorem dX0_append_52 : decode cX0_append 52 = .ok (.aload_n 0, 1) := by decide +kernel
theorem dX0_append_53 : decode cX0_append 53 = .ok (.getfield 28, 3) := by decide +kernel
theorem dX0_append_56 : decode cX0_append 56 = .ok (.aload_n 0, 1) := by decide +kernel
theorem dX0_append_57 : decode cX0_append 57 = .ok (.getfield 9, 3) := by decide +kernel
theorem dX0_append_60 : decode cX0_append 60 = .ok (.iload 5, 2) := by decide +kernel
theorem dX0_append_62 : decode cX0_append 62 = .ok (.iastore, 1) := by decide +kernel
theorem dX0_append_63 : decode cX0_append 63 = .ok (.aload_n 0, 1) := by decide +kernel
theorem dX0_append_64 : decode cX0_append 64 = .ok (.dup, 1) := by decide +kernel
theorem dX0_append_65 : decode cX0_append 65 = .ok (.getfield 9, 3) := by decide +kernel
theorem dX0_append_68 : decode cX0_append 68 = .ok (.iconst 1, 1) := by decide +kernel
theorem dX0_append_69 : decode cX0_append 69 = .ok (.iadd, 1) := by decide +kernel
theorem dX0_append_70 : decode cX0_append 70 = .ok (.putfield 9, 3) := by decide +kernel
theorem dX0_append_73 : decode cX0_append 73 = .ok (.aload_n 0, 1) := by decide +kernel
theorem dX0_append_74 : decode cX0_append 74 = .ok (.getfield 9, 3) := by decide +kernel
theorem dX0_append_77 : decode cX0_append 77 = .ok (.iconst 1, 1) := by decide +kernel
theorem dX0_append_78 : decode cX0_append 78 = .ok (.isub, 1) := by decide +kernel
theorem dX0_append_79 : decode cX0_append 79 = .ok (.ireturn, 1) := by decide +kernel
theorem dX0_copyFrom_0 : decode cX0_copyFrom 0 = .ok (.aload_n 0, 1) := by decide +kernel
theorem dX0_copyFrom_1 : decode cX0_copyFrom 1 = .ok (.aload_n 1, 1) := by decide +kernel
theorem dX0_copyFrom_2 : decode cX0_copyFrom 2 = .ok (.getfield 9, 3) := by decide +kernel
theorem dX0_copyFrom_5 : decode cX0_copyFrom 5 = .ok (.putfield 9, 3) := by decide +kernel
theorem dX0_copyFrom_8 : decode cX0_copyFrom 8 = .ok (.aload_n 1, 1) := by decide +kernel
theorem dX0_copyFrom_9 : decode cX0_copyFrom 9 = .ok (.getfield 15, 3) := by decide +kernel
theorem dX0_copyFrom_12 : decode cX0_copyFrom 12 = .ok (.iconst 0, 1) := by decide +kernel
theorem dX0_copyFrom_13 : decode cX0_copyFrom 13 = .ok (.aload_n 0, 1) := by decide +kernel
theorem dX0_copyFrom_14 : decode cX0_copyFrom 14 = .ok (.getfield 15, 3) := by decide +kernel
theorem dX0_copyFrom_17 : decode cX0_copyFrom 17 = .ok (.iconst 0, 1) := by decide +kernel
theorem dX0_copyFrom_18 : decode cX0_copyFrom 18 = .ok (.bipush 30, 2) := by decide +kernel
theorem dX0_copyFrom_20 : decode cX0_copyFrom 20 = .ok (.invokestatic 31, 3) := by decide +kernel
theorem dX0_copyFrom_23 : decode cX0_copyFrom 23 = .ok (.aload_n 1, 1) := by decide +kernel
theorem dX0_copyFrom_24 : decode cX0_copyFrom 24 = .ok (.getfield 19, 3) := by decide +kernel
theorem dX0_copyFrom_27 : decode cX0_copyFrom 27 = .ok (.iconst 0, 1) := by decide +kernel
theorem dX0_copyFrom_28 : decode cX0_copyFrom 28 = .ok (.aload_n 0, 1) := by decide +kernel
theorem dX0_copyFrom_29 : decode cX0_copyFrom 29 = .ok (.getfield 19, 3) := by decide +kernel
theorem dX0_copyFrom_32 : decode cX0_copyFrom 32 = .ok (.iconst 0, 1) := by decide +kernel
theorem dX0_copyFrom_33 : decode cX0_copyFrom 33 = .ok (.bipush 30, 2) := by decide +kernel
theorem dX0_copyFrom_35 : decode cX0_copyFrom 35 = .ok (.invokestatic 31, 3) := by decide +kernel
theorem dX0_copyFrom_38 : decode cX0_copyFrom 38 = .ok (.aload_n 1, 1) := by decide +kernel
theorem dX0_copyFrom_39 : decode cX0_copyFrom 39 = .ok (.getfield 22, 3) := by decide +kernel
theorem dX0_copyFrom_42 : decode cX0_copyFrom 42 = .ok (.iconst 0, 1) := by decide +kernel
theorem dX0_copyFrom_43 : decode cX0_copyFrom 43 = .ok (.aload_n 0, 1) := by decide +kernel
theorem dX0_copyFrom_44 : decode cX0_copyFrom 44 = .ok (.getfield 22, 3) := by decide +kernel
theorem dX0_copyFrom_47 : decode cX0_copyFrom 47 = .ok (.iconst 0, 1) := by decide +kernel
theorem dX0_copyFrom_48 : decode cX0_copyFrom 48 = .ok (.bipush 30, 2) := by decide +kernel
theorem dX0_copyFrom_50 : decode cX0_copyFrom 50 = .ok (.invokestatic 31, 3) := by decide +kernel
theorem dX0_copyFrom_53 : decode cX0_copyFrom 53 = .ok (.aload_n 1, 1) := by decide +kernel
theorem dX0_copyFrom_54 : decode cX0_copyFrom 54 = .ok (.getfield 25, 3) := by decide +kernel
theorem dX0_copyFrom_57 : decode cX0_copyFrom 57 = .ok (.iconst 0, 1) := by decide +kernel
theorem dX0_copyFrom_58 : decode cX0_copyFrom 58 = .ok (.aload_n 0, 1) := by decide +kernel
theorem dX0_copyFrom_59 : decode cX0_copyFrom 59 = .ok (.getfield 25, 3) := by decide +kernel
theorem dX0_copyFrom_62 : decode cX0_copyFrom 62 = .ok (.iconst 0, 1) := by decide +kernel
theorem dX0_copyFrom_63 : decode cX0_copyFrom 63 = .ok (.bipush 30, 2) := by decide +kernel
theorem dX0_copyFrom_65 : decode cX0_copyFrom 65 = .ok (.invokestatic 31, 3) := by decide +kernel
theorem dX0_copyFrom_68 : decode cX0_copyFrom 68 = .ok (.aload_n 1, 1) := by decide +kernel
theorem dX0_copyFrom_69 : decode cX0_copyFrom 69 = .ok (.getfield 28, 3) := by decide +kernel
theorem dX0_copyFrom_72 : decode cX0_copyFrom 72 = .ok (.iconst 0, 1) := by decide +kernel
theorem dX0_copyFrom_73 : decode cX0_copyFrom 73 = .ok (.aload_n 0, 1) := by decide +kernel
theorem dX0_copyFrom_74 : decode cX0_copyFrom 74 = .ok (.getfield 28, 3) := by decide +kernel
theorem dX0_copyFrom_77 : decode cX0_copyFrom 77 = .ok (.iconst 0, 1) := by decide +kernel
theorem dX0_copyFrom_78 : decode cX0_copyFrom 78 = .ok (.bipush 30, 2) := by decide +kernel
theorem dX0_copyFrom_80 : decode cX0_copyFrom 80 = .ok (.invokestatic 31, 3) := by decide +kernel
theorem dX0_copyFrom_83 : decode cX0_copyFrom 83 = .ok (.return_, 1) := by decide +kernel
theorem dX1_init_0 : decode cX1_init 0 = .ok (.aload_n 0, 1) := by decide +kernel
theorem dX1_init_1 : decode cX1_init 1 = .ok (.invokespecial 3, 3) := by decide +kernel
theorem dX1_init_4 : decode cX1_init 4 = .ok (.aload_n 0, 1) := by decide +kernel
theorem dX1_init_5 : decode cX1_init 5 = .ok (.bipush 15, 2) := by decide +kernel
theorem dX1_init_7 : decode cX1_init 7 = .ok (.putfield 9, 3) := by decide +kernel
theorem dX1_init_10 : decode cX1_init 10 = .ok (.aload_n 0, 1) := by decide +kernel
theorem dX1_init_11 : decode cX1_init 11 = .ok (.iconst 0, 1) := by decide +kernel
theorem dX1_init_12 : decode cX1_init 12 = .ok (.putfield 15, 3) := by decide +kernel
theorem dX1_init_15 : decode cX1_init 15 = .ok (.aload_n 0, 1) := by decide +kernel
theorem dX1_init_16 : decode cX1_init 16 = .ok (.bipush 30, 2) := by decide +kernel
theorem dX1_init_18 : decode cX1_init 18 = .ok (.newarray .int, 2) := by decide +kernel
theorem dX1_init_20 : decode cX1_init 20 = .ok (.putfield 18, 3) := by decide +kernel
theorem dX1_init_23 : decode cX1_init 23 = .ok (.aload_n 0, 1) := by decide +kernel
theorem dX1_init_24 : decode cX1_init 24 = .ok (.bipush 30, 2) := by decide +kernel
theorem dX1_init_26 : decode cX1_init 26 = .ok (.newarray .int, 2) := by decide +kernel
theorem dX1_init_28 : decode cX1_init 28 = .ok (.putfield 22, 3) := by decide +kernel
theorem dX1_init_31 : decode cX1_init 31 = .ok (.aload_n 0, 1) := by decide +kernel
theorem dX1_init_32 : decode cX1_init 32 = .ok (.getfield 18, 3) := by decide +kernel
theorem dX1_init_35 : decode cX1_init 35 = .ok (.iconst (-1), 1) := by decide +kernel
theorem dX1_init_36 : decode cX1_init 36 = .ok (.invokestatic 25, 3) := by decide +kernel
theorem dX1_init_39 : decode cX1_init 39 = .ok (.return_, 1) := by decide +kernel
theorem dX1_carries_0 : decode cX1_carries 0 = .ok (.aload_n 0, 1) := by decide +kernel
theorem dX1_carries_1 : decode cX1_carries 1 = .ok (.getfield 9, 3) := by decide +kernel
theorem dX1_carries_4 : decode cX1_carries 4 = .ok (.iload_n 1, 1) := by decide +kernel
theorem dX1_carries_5 : decode cX1_carries 5 = .ok (.invokestatic 31, 3) := by decide +kernel
theorem dX1_carries_8 : decode cX1_carries 8 = .ok (.ireturn, 1) := by decide +kernel
theorem dX1_stores_0 : decode cX1_stores 0 = .ok (.aload_n 0, 1) := by decide +kernel
theorem dX1_stores_1 : decode cX1_stores 1 = .ok (.getfield 15, 3) := by decide +kernel
theorem dX1_stores_4 : decode cX1_stores 4 = .ok (.iload_n 1, 1) := by decide +kernel
theorem dX1_stores_5 : decode cX1_stores 5 = .ok (.invokestatic 31, 3) := by decide +kernel
theorem dX1_stores_8 : decode cX1_stores 8 = .ok (.ireturn, 1) := by decide +kernel
theorem dX1_knows_0 : decode cX1_knows 0 = .ok (.aload_n 0, 1) := by decide +kernel
theorem dX1_knows_1 : decode cX1_knows 1 = .ok (.getfield 18, 3) := by decide +kernel
theorem dX1_knows_4 : decode cX1_knows 4 = .ok (.iload_n 1, 1) := by decide +kernel
theorem dX1_knows_5 : decode cX1_knows 5 = .ok (.iaload, 1) := by decide +kernel
theorem dX1_knows_6 : decode cX1_knows 6 = .ok (.iconst (-1), 1) := by decide +kernel
theorem dX1_knows_7 : decode cX1_knows 7 = .ok (.if_icmp .eq 7, 3) := by decide +kernel
theorem dX1_knows_10 : decode cX1_knows 10 = .ok (.iconst 1, 1) := by decide +kernel
theorem dX1_knows_11 : decode cX1_knows 11 = .ok (.goto 4, 3) := by decide +kernel
theorem dX1_knows_14 : decode cX1_knows 14 = .ok (.iconst 0, 1) := by decide +kernel
theorem dX1_knows_15 : decode cX1_knows 15 = .ok (.ireturn, 1) := by decide +kernel
theorem dX1_keep_0 : decode cX1_keep 0 = .ok (.aload_n 0, 1) := by decide +kernel
theorem dX1_keep_1 : decode cX1_keep 1 = .ok (.dup, 1) := by decide +kernel
theorem dX1_keep_2 : decode cX1_keep 2 = .ok (.getfield 15, 3) := by decide +kernel
theorem dX1_keep_5 : decode cX1_keep 5 = .ok (.iconst 1, 1) := by decide +kernel
theorem dX1_keep_6 : decode cX1_keep 6 = .ok (.iload_n 1, 1) := by decide +kernel
theorem dX1_keep_7 : decode cX1_keep 7 = .ok (.ishl, 1) := by decide +kernel
theorem dX1_keep_8 : decode cX1_keep 8 = .ok (.ior, 1) := by decide +kernel
theorem dX1_keep_9 : decode cX1_keep 9 = .ok (.putfield 15, 3) := by decide +kernel
theorem dX1_keep_12 : decode cX1_keep 12 = .ok (.return_, 1) := by decide +kernel
theorem dX1_drop_0 : decode cX1_drop 0 = .ok (.aload_n 0, 1) := by decide +kernel
theorem dX1_drop_1 : decode cX1_drop 1 = .ok (.dup, 1) := by decide +kernel
theorem dX1_drop_2 : decode cX1_drop 2 = .ok (.getfield 15, 3) := by decide +kernel
theorem dX1_drop_5 : decode cX1_drop 5 = .ok (.iconst 1, 1) := by decide +kernel
theorem dX1_drop_6 : decode cX1_drop 6 = .ok (.iload_n 1, 1) := by decide +kernel
theorem dX1_drop_7 : decode cX1_drop 7 = .ok (.ishl, 1) := by decide +kernel
theorem dX1_drop_8 : decode cX1_drop 8 = .ok (.iconst (-1), 1) := by decide +kernel
theorem dX1_drop_9 : decode cX1_drop 9 = .ok (.ixor, 1) := by decide +kernel
theorem dX1_drop_10 : decode cX1_drop 10 = .ok (.iand, 1) := by decide +kernel
theorem dX1_drop_11 : decode cX1_drop 11 = .ok (.putfield 15, 3) := by decide +kernel
theorem dX1_drop_14 : decode cX1_drop 14 = .ok (.return_, 1) := by decide +kernel
theorem dX1_addCancel_0 : decode cX1_addCancel 0 = .ok (.aload_n 0, 1) := by decide +kernel
theorem dX1_addCancel_1 : decode cX1_addCancel 1 = .ok (.getfield 22, 3) := by decide +kernel
theorem dX1_addCancel_4 : decode cX1_addCancel 4 = .ok (.iload_n 1, 1) := by decide +kernel
theorem dX1_addCancel_5 : decode cX1_addCancel 5 = .ok (.dup2, 1) := by decide +kernel
theorem dX1_addCancel_6 : decode cX1_addCancel 6 = .ok (.iaload, 1) := by decide +kernel
theorem dX1_addCancel_7 : decode cX1_addCancel 7 = .ok (.iconst 1, 1) := by decide +kernel
theorem dX1_addCancel_8 : decode cX1_addCancel 8 = .ok (.iload_n 2, 1) := by decide +kernel
theorem dX1_addCancel_9 : decode cX1_addCancel 9 = .ok (.ishl, 1) := by decide +kernel
theorem dX1_addCancel_10 : decode cX1_addCancel 10 = .ok (.ior, 1) := by decide +kernel
theorem dX1_addCancel_11 : decode cX1_addCancel 11 = .ok (.iastore, 1) := by decide +kernel
theorem dX1_addCancel_12 : decode cX1_addCancel 12 = .ok (.return_, 1) := by decide +kernel
theorem dX1_takeCancel_0 : decode cX1_takeCancel 0 = .ok (.aload_n 0, 1) := by decide +kernel
theorem dX1_takeCancel_1 : decode cX1_takeCancel 1 = .ok (.getfield 22, 3) := by decide +kernel
theorem dX1_takeCancel_4 : decode cX1_takeCancel 4 = .ok (.iload_n 1, 1) := by decide +kernel
theorem dX1_takeCancel_5 : decode cX1_takeCancel 5 = .ok (.iaload, 1) := by decide +kernel
theorem dX1_takeCancel_6 : decode cX1_takeCancel 6 = .ok (.iload_n 2, 1) := by decide +kernel
theorem dX1_takeCancel_7 : decode cX1_takeCancel 7 = .ok (.invokestatic 31, 3) := by decide +kernel
theorem dX1_takeCancel_10 : decode cX1_takeCancel 10 = .ok (.istore_n 3, 1) := by decide +kernel
theorem dX1_takeCancel_11 : decode cX1_takeCancel 11 = .ok (.aload_n 0, 1) := by decide +kernel
theorem dX1_takeCancel_12 : decode cX1_takeCancel 12 = .ok (.getfield 22, 3) := by decide +kernel
theorem dX1_takeCancel_15 : decode cX1_takeCancel 15 = .ok (.iload_n 1, 1) := by decide +kernel
theorem dX1_takeCancel_16 : decode cX1_takeCancel 16 = .ok (.dup2, 1) := by decide +kernel
theorem dX1_takeCancel_17 : decode cX1_takeCancel 17 = .ok (.iaload, 1) := by decide +kernel
theorem dX1_takeCancel_18 : decode cX1_takeCancel 18 = .ok (.iconst 1, 1) := by decide +kernel
theorem dX1_takeCancel_19 : decode cX1_takeCancel 19 = .ok (.iload_n 2, 1) := by decide +kernel
theorem dX1_takeCancel_20 : decode cX1_takeCancel 20 = .ok (.ishl, 1) := by decide +kernel
theorem dX1_takeCancel_21 : decode cX1_takeCancel 21 = .ok (.iconst (-1), 1) := by decide +kernel
theorem dX1_takeCancel_22 : decode cX1_takeCancel 22 = .ok (.ixor, 1) := by decide +kernel
theorem dX1_takeCancel_23 : decode cX1_takeCancel 23 = .ok (.iand, 1) := by decide +kernel
theorem dX1_takeCancel_24 : decode cX1_takeCancel 24 = .ok (.iastore, 1) := by decide +kernel
theorem dX1_takeCancel_25 : decode cX1_takeCancel 25 = .ok (.iload_n 3, 1) := by decide +kernel
theorem dX1_takeCancel_26 : decode cX1_takeCancel 26 = .ok (.ireturn, 1) := by decide +kernel
theorem dX1_countCancels_0 : decode cX1_countCancels 0 = .ok (.iconst 0, 1) := by decide +kernel
theorem dX1_countCancels_1 : decode cX1_countCancels 1 = .ok (.istore_n 1, 1) := by decide +kernel
theorem dX1_countCancels_2 : decode cX1_countCancels 2 = .ok (.aload_n 0, 1) := by decide +kernel
theorem dX1_countCancels_3 : decode cX1_countCancels 3 = .ok (.getfield 22, 3) := by decide +kernel
theorem dX1_countCancels_6 : decode cX1_countCancels 6 = .ok (.astore_n 2, 1) := by decide +kernel
theorem dX1_countCancels_7 : decode cX1_countCancels 7 = .ok (.aload_n 2, 1) := by decide +kernel
theorem dX1_countCancels_8 : decode cX1_countCancels 8 = .ok (.arraylength, 1) := by decide +kernel
theorem dX1_countCancels_9 : decode cX1_countCancels 9 = .ok (.istore_n 3, 1) := by decide +kernel
theorem dX1_countCancels_10 : decode cX1_countCancels 10 = .ok (.iconst 0, 1) := by decide +kernel
theorem dX1_countCancels_11 : decode cX1_countCancels 11 = .ok (.istore 4, 2) := by decide +kernel
theorem dX1_countCancels_13 : decode cX1_countCancels 13 = .ok (.iload 4, 2) := by decide +kernel
theorem dX1_countCancels_15 : decode cX1_countCancels 15 = .ok (.iload_n 3, 1) := by decide +kernel
theorem dX1_countCancels_16 : decode cX1_countCancels 16 = .ok (.if_icmp .ge 23, 3) := by decide +kernel
theorem dX1_countCancels_19 : decode cX1_countCancels 19 = .ok (.aload_n 2, 1) := by decide +kernel
theorem dX1_countCancels_20 : decode cX1_countCancels 20 = .ok (.iload 4, 2) := by decide +kernel
theorem dX1_countCancels_22 : decode cX1_countCancels 22 = .ok (.iaload, 1) := by decide +kernel
theorem dX1_countCancels_23 : decode cX1_countCancels 23 = .ok (.istore 5, 2) := by decide +kernel
theorem dX1_countCancels_25 : decode cX1_countCancels 25 = .ok (.iload_n 1, 1) := by decide +kernel
theorem dX1_countCancels_26 : decode cX1_countCancels 26 = .ok (.iload 5, 2) := by decide +kernel
theorem dX1_countCancels_28 : decode cX1_countCancels 28 = .ok (.invokestatic 35, 3) := by decide +kernel
theorem dX1_countCancels_31 : decode cX1_countCancels 31 = .ok (.iadd, 1) := by decide +kernel
theorem dX1_countCancels_32 : decode cX1_countCancels 32 = .ok (.istore_n 1, 1) := by decide +kernel
theorem dX1_countCancels_33 : decode cX1_countCancels 33 = .ok (.iinc 4 1, 3) := by decide +kernel
theorem dX1_countCancels_36 : decode cX1_countCancels 36 = .ok (.goto (-23), 3) := by decide +kernel
theorem dX1_countCancels_39 : decode cX1_countCancels 39 = .ok (.iload_n 1, 1) := by decide +kernel
theorem dX1_countCancels_40 : decode cX1_countCancels 40 = .ok (.ireturn, 1) := by decide +kernel
theorem dX1_copyFrom_0 : decode cX1_copyFrom 0 = .ok (.aload_n 0, 1) := by decide +kernel
theorem dX1_copyFrom_1 : decode cX1_copyFrom 1 = .ok (.aload_n 1, 1) := by decide +kernel
theorem dX1_copyFrom_2 : decode cX1_copyFrom 2 = .ok (.getfield 9, 3) := by decide +kernel
theorem dX1_copyFrom_5 : decode cX1_copyFrom 5 = .ok (.putfield 9, 3) := by decide +kernel
theorem dX1_copyFrom_8 : decode cX1_copyFrom 8 = .ok (.aload_n 0, 1) := by decide +kernel
theorem dX1_copyFrom_9 : decode cX1_copyFrom 9 = .ok (.aload_n 1, 1) := by decide +kernel
theorem dX1_copyFrom_10 : decode cX1_copyFrom 10 = .ok (.getfield 15, 3) := by decide +kernel
theorem dX1_copyFrom_13 : decode cX1_copyFrom 13 = .ok (.putfield 15, 3) := by decide +kernel
theorem dX1_copyFrom_16 : decode cX1_copyFrom 16 = .ok (.aload_n 1, 1) := by decide +kernel
theorem dX1_copyFrom_17 : decode cX1_copyFrom 17 = .ok (.getfield 18, 3) := by decide +kernel
theorem dX1_copyFrom_20 : decode cX1_copyFrom 20 = .ok (.iconst 0, 1) := by decide +kernel
theorem dX1_copyFrom_21 : decode cX1_copyFrom 21 = .ok (.aload_n 0, 1) := by decide +kernel
theorem dX1_copyFrom_22 : decode cX1_copyFrom 22 = .ok (.getfield 18, 3) := by decide +kernel
theorem dX1_copyFrom_25 : decode cX1_copyFrom 25 = .ok (.iconst 0, 1) := by decide +kernel
theorem dX1_copyFrom_26 : decode cX1_copyFrom 26 = .ok (.bipush 30, 2) := by decide +kernel
theorem dX1_copyFrom_28 : decode cX1_copyFrom 28 = .ok (.invokestatic 41, 3) := by decide +kernel
theorem dX1_copyFrom_31 : decode cX1_copyFrom 31 = .ok (.aload_n 1, 1) := by decide +kernel
theorem dX1_copyFrom_32 : decode cX1_copyFrom 32 = .ok (.getfield 22, 3) := by decide +kernel
theorem dX1_copyFrom_35 : decode cX1_copyFrom 35 = .ok (.iconst 0, 1) := by decide +kernel
theorem dX1_copyFrom_36 : decode cX1_copyFrom 36 = .ok (.aload_n 0, 1) := by decide +kernel
theorem dX1_copyFrom_37 : decode cX1_copyFrom 37 = .ok (.getfield 22, 3) := by decide +kernel
theorem dX1_copyFrom_40 : decode cX1_copyFrom 40 = .ok (.iconst 0, 1) := by decide +kernel
theorem dX1_copyFrom_41 : decode cX1_copyFrom 41 = .ok (.bipush 30, 2) := by decide +kernel
theorem dX1_copyFrom_43 : decode cX1_copyFrom 43 = .ok (.invokestatic 41, 3) := by decide +kernel
theorem dX1_copyFrom_46 : decode cX1_copyFrom 46 = .ok (.return_, 1) := by decide +kernel
theorem dX2_init_0 : decode cX2_init 0 = .ok (.aload_n 0, 1) := by decide +kernel
theorem dX2_init_1 : decode cX2_init 1 = .ok (.invokespecial 3, 3) := by decide +kernel
theorem dX2_init_4 : decode cX2_init 4 = .ok (.aload_n 0, 1) := by decide +kernel
theorem dX2_init_5 : decode cX2_init 5 = .ok (.iconst 0, 1) := by decide +kernel
theorem dX2_init_6 : decode cX2_init 6 = .ok (.putfield 9, 3) := by decide +kernel
theorem dX2_init_9 : decode cX2_init 9 = .ok (.aload_n 0, 1) := by decide +kernel
theorem dX2_init_10 : decode cX2_init 10 = .ok (.bipush 12, 2) := by decide +kernel
theorem dX2_init_12 : decode cX2_init 12 = .ok (.newarray .int, 2) := by decide +kernel
theorem dX2_init_14 : decode cX2_init 14 = .ok (.putfield 15, 3) := by decide +kernel
theorem dX2_init_17 : decode cX2_init 17 = .ok (.aload_n 0, 1) := by decide +kernel
theorem dX2_init_18 : decode cX2_init 18 = .ok (.bipush 12, 2) := by decide +kernel
theorem dX2_init_20 : decode cX2_init 20 = .ok (.newarray .int, 2) := by decide +kernel
theorem dX2_init_22 : decode cX2_init 22 = .ok (.putfield 19, 3) := by decide +kernel
theorem dX2_init_25 : decode cX2_init 25 = .ok (.aload_n 0, 1) := by decide +kernel
theorem dX2_init_26 : decode cX2_init 26 = .ok (.bipush 12, 2) := by decide +kernel
theorem dX2_init_28 : decode cX2_init 28 = .ok (.newarray .int, 2) := by decide +kernel
theorem dX2_init_30 : decode cX2_init 30 = .ok (.putfield 22, 3) := by decide +kernel
theorem dX2_init_33 : decode cX2_init 33 = .ok (.return_, 1) := by decide +kernel
theorem dX2_between_0 : decode cX2_between 0 = .ok (.iconst 0, 1) := by decide +kernel
theorem dX2_between_1 : decode cX2_between 1 = .ok (.istore_n 3, 1) := by decide +kernel
theorem dX2_between_2 : decode cX2_between 2 = .ok (.iload_n 3, 1) := by decide +kernel
theorem dX2_between_3 : decode cX2_between 3 = .ok (.aload_n 0, 1) := by decide +kernel
theorem dX2_between_4 : decode cX2_between 4 = .ok (.getfield 9, 3) := by decide +kernel
theorem dX2_between_7 : decode cX2_between 7 = .ok (.if_icmp .ge 75, 3) := by decide +kernel
theorem dX2_between_10 : decode cX2_between 10 = .ok (.aload_n 0, 1) := by decide +kernel
theorem dX2_between_11 : decode cX2_between 11 = .ok (.getfield 15, 3) := by decide +kernel
theorem dX2_between_14 : decode cX2_between 14 = .ok (.iload_n 3, 1) := by decide +kernel
theorem dX2_between_15 : decode cX2_between 15 = .ok (.iaload, 1) := by decide +kernel
theorem dX2_between_16 : decode cX2_between 16 = .ok (.iload_n 1, 1) := by decide +kernel
theorem dX2_between_17 : decode cX2_between 17 = .ok (.if_icmp .ne 17, 3) := by decide +kernel
theorem dX2_between_20 : decode cX2_between 20 = .ok (.aload_n 0, 1) := by decide +kernel
theorem dX2_between_21 : decode cX2_between 21 = .ok (.getfield 19, 3) := by decide +kernel
theorem dX2_between_24 : decode cX2_between 24 = .ok (.iload_n 3, 1) := by decide +kernel
theorem dX2_between_25 : decode cX2_between 25 = .ok (.iaload, 1) := by decide +kernel
theorem dX2_between_26 : decode cX2_between 26 = .ok (.iload_n 2, 1) := by decide +kernel
theorem dX2_between_27 : decode cX2_between 27 = .ok (.if_icmp .ne 7, 3) := by decide +kernel
theorem dX2_between_30 : decode cX2_between 30 = .ok (.iconst 1, 1) := by decide +kernel
theorem dX2_between_31 : decode cX2_between 31 = .ok (.goto 4, 3) := by decide +kernel
theorem dX2_between_34 : decode cX2_between 34 = .ok (.iconst 0, 1) := by decide +kernel
theorem dX2_between_35 : decode cX2_between 35 = .ok (.istore 4, 2) := by decide +kernel
theorem dX2_between_37 : decode cX2_between 37 = .ok (.aload_n 0, 1) := by decide +kernel
theorem dX2_between_38 : decode cX2_between 38 = .ok (.getfield 15, 3) := by decide +kernel
theorem dX2_between_41 : decode cX2_between 41 = .ok (.iload_n 3, 1) := by decide +kernel
theorem dX2_between_42 : decode cX2_between 42 = .ok (.iaload, 1) := by decide +kernel
theorem dX2_between_43 : decode cX2_between 43 = .ok (.iload_n 2, 1) := by decide +kernel
theorem dX2_between_44 : decode cX2_between 44 = .ok (.if_icmp .ne 17, 3) := by decide +kernel
theorem dX2_between_47 : decode cX2_between 47 = .ok (.aload_n 0, 1) := by decide +kernel
theorem dX2_between_48 : decode cX2_between 48 = .ok (.getfield 19, 3) := by decide +kernel
theorem dX2_between_51 : decode cX2_between 51 = .ok (.iload_n 3, 1) := by decide +kernel
theorem dX2_between_52 : decode cX2_between 52 = .ok (.iaload, 1) := by decide +kernel
theorem dX2_between_53 : decode cX2_between 53 = .ok (.iload_n 1, 1) := by decide +kernel
theorem dX2_between_54 : decode cX2_between 54 = .ok (.if_icmp .ne 7, 3) := by decide +kernel
theorem dX2_between_57 : decode cX2_between 57 = .ok (.iconst 1, 1) := by decide +kernel
theorem dX2_between_58 : decode cX2_between 58 = .ok (.goto 4, 3) := by decide +kernel
theorem dX2_between_61 : decode cX2_between 61 = .ok (.iconst 0, 1) := by decide +kernel
theorem dX2_between_62 : decode cX2_between 62 = .ok (.istore 5, 2) := by decide +kernel
theorem dX2_between_64 : decode cX2_between 64 = .ok (.iload 4, 2) := by decide +kernel
theorem dX2_between_66 : decode cX2_between 66 = .ok (.ifCond .ne 8, 3) := by decide +kernel
theorem dX2_between_69 : decode cX2_between 69 = .ok (.iload 5, 2) := by decide +kernel
theorem dX2_between_71 : decode cX2_between 71 = .ok (.ifCond .eq 5, 3) := by decide +kernel
theorem dX2_between_74 : decode cX2_between 74 = .ok (.iload_n 3, 1) := by decide +kernel
theorem dX2_between_75 : decode cX2_between 75 = .ok (.ireturn, 1) := by decide +kernel
theorem dX2_between_76 : decode cX2_between 76 = .ok (.iinc 3 1, 3) := by decide +kernel
theorem dX2_between_79 : decode cX2_between 79 = .ok (.goto (-77), 3) := by decide +kernel
theorem dX2_between_82 : decode cX2_between 82 = .ok (.iconst (-1), 1) := by decide +kernel
theorem dX2_between_83 : decode cX2_between 83 = .ok (.ireturn, 1) := by decide +kernel
theorem dX2_neighboursOf_0 : decode cX2_neighboursOf 0 = .ok (.iconst 0, 1) := by decide +kernel
theorem dX2_neighboursOf_1 : decode cX2_neighboursOf 1 = .ok (.istore_n 2, 1) := by decide +kernel
theorem dX2_neighboursOf_2 : decode cX2_neighboursOf 2 = .ok (.iconst 0, 1) := by decide +kernel
theorem dX2_neighboursOf_3 : decode cX2_neighboursOf 3 = .ok (.istore_n 3, 1) := by decide +kernel
theorem dX2_neighboursOf_4 : decode cX2_neighboursOf 4 = .ok (.iload_n 3, 1) := by decide +kernel
theorem dX2_neighboursOf_5 : decode cX2_neighboursOf 5 = .ok (.aload_n 0, 1) := by decide +kernel
theorem dX2_neighboursOf_6 : decode cX2_neighboursOf 6 = .ok (.getfield 9, 3) := by decide +kernel
theorem dX2_neighboursOf_9 : decode cX2_neighboursOf 9 = .ok (.if_icmp .ge 57, 3) := by decide +kernel
theorem dX2_neighboursOf_12 : decode cX2_neighboursOf 12 = .ok (.iload_n 1, 1) := by decide +kernel
theorem dX2_neighboursOf_13 : decode cX2_neighboursOf 13 = .ok (.aload_n 0, 1) := by decide +kernel
theorem dX2_neighboursOf_14 : decode cX2_neighboursOf 14 = .ok (.getfield 15, 3) := by decide +kernel
theorem dX2_neighboursOf_17 : decode cX2_neighboursOf 17 = .ok (.iload_n 3, 1) := by decide +kernel
theorem dX2_neighboursOf_18 : decode cX2_neighboursOf 18 = .ok (.iaload, 1) := by decide +kernel
theorem dX2_neighboursOf_19 : decode cX2_neighboursOf 19 = .ok (.invokestatic 25, 3) := by decide +kernel
theorem dX2_neighboursOf_22 : decode cX2_neighboursOf 22 = .ok (.ifCond .eq 14, 3) := by decide +kernel
theorem dX2_neighboursOf_25 : decode cX2_neighboursOf 25 = .ok (.iload_n 2, 1) := by decide +kernel
theorem dX2_neighboursOf_26 : decode cX2_neighboursOf 26 = .ok (.iconst 1, 1) := by decide +kernel
theorem dX2_neighboursOf_27 : decode cX2_neighboursOf 27 = .ok (.aload_n 0, 1) := by decide +kernel
theorem dX2_neighboursOf_28 : decode cX2_neighboursOf 28 = .ok (.getfield 19, 3) := by decide +kernel
theorem dX2_neighboursOf_31 : decode cX2_neighboursOf 31 = .ok (.iload_n 3, 1) := by decide +kernel
theorem dX2_neighboursOf_32 : decode cX2_neighboursOf 32 = .ok (.iaload, 1) := by decide +kernel
theorem dX2_neighboursOf_33 : decode cX2_neighboursOf 33 = .ok (.ishl, 1) := by decide +kernel
theorem dX2_neighboursOf_34 : decode cX2_neighboursOf 34 = .ok (.ior, 1) := by decide +kernel
theorem dX2_neighboursOf_35 : decode cX2_neighboursOf 35 = .ok (.istore_n 2, 1) := by decide +kernel
theorem dX2_neighboursOf_36 : decode cX2_neighboursOf 36 = .ok (.iload_n 1, 1) := by decide +kernel
theorem dX2_neighboursOf_37 : decode cX2_neighboursOf 37 = .ok (.aload_n 0, 1) := by decide +kernel
theorem dX2_neighboursOf_38 : decode cX2_neighboursOf 38 = .ok (.getfield 19, 3) := by decide +kernel
theorem dX2_neighboursOf_41 : decode cX2_neighboursOf 41 = .ok (.iload_n 3, 1) := by decide +kernel
theorem dX2_neighboursOf_42 : decode cX2_neighboursOf 42 = .ok (.iaload, 1) := by decide +kernel
theorem dX2_neighboursOf_43 : decode cX2_neighboursOf 43 = .ok (.invokestatic 25, 3) := by decide +kernel
theorem dX2_neighboursOf_46 : decode cX2_neighboursOf 46 = .ok (.ifCond .eq 14, 3) := by decide +kernel
theorem dX2_neighboursOf_49 : decode cX2_neighboursOf 49 = .ok (.iload_n 2, 1) := by decide +kernel
theorem dX2_neighboursOf_50 : decode cX2_neighboursOf 50 = .ok (.iconst 1, 1) := by decide +kernel
theorem dX2_neighboursOf_51 : decode cX2_neighboursOf 51 = .ok (.aload_n 0, 1) := by decide +kernel
theorem dX2_neighboursOf_52 : decode cX2_neighboursOf 52 = .ok (.getfield 15, 3) := by decide +kernel
theorem dX2_neighboursOf_55 : decode cX2_neighboursOf 55 = .ok (.iload_n 3, 1) := by decide +kernel
theorem dX2_neighboursOf_56 : decode cX2_neighboursOf 56 = .ok (.iaload, 1) := by decide +kernel
theorem dX2_neighboursOf_57 : decode cX2_neighboursOf 57 = .ok (.ishl, 1) := by decide +kernel
theorem dX2_neighboursOf_58 : decode cX2_neighboursOf 58 = .ok (.ior, 1) := by decide +kernel
theorem dX2_neighboursOf_59 : decode cX2_neighboursOf 59 = .ok (.istore_n 2, 1) := by decide +kernel
theorem dX2_neighboursOf_60 : decode cX2_neighboursOf 60 = .ok (.iinc 3 1, 3) := by decide +kernel
theorem dX2_neighboursOf_63 : decode cX2_neighboursOf 63 = .ok (.goto (-59), 3) := by decide +kernel
theorem dX2_neighboursOf_66 : decode cX2_neighboursOf 66 = .ok (.iload_n 2, 1) := by decide +kernel
theorem dX2_neighboursOf_67 : decode cX2_neighboursOf 67 = .ok (.ireturn, 1) := by decide +kernel
theorem dX2_append_0 : decode cX2_append 0 = .ok (.aload_n 0, 1) := by decide +kernel
theorem dX2_append_1 : decode cX2_append 1 = .ok (.getfield 9, 3) := by decide +kernel
theorem dX2_append_4 : decode cX2_append 4 = .ok (.bipush 12, 2) := by decide +kernel
theorem dX2_append_6 : decode cX2_append 6 = .ok (.if_icmp .lt 5, 3) := by decide +kernel
theorem dX2_append_9 : decode cX2_append 9 = .ok (.iconst (-1), 1) := by decide +kernel
theorem dX2_append_10 : decode cX2_append 10 = .ok (.ireturn, 1) := by decide +kernel
theorem dX2_append_11 : decode cX2_append 11 = .ok (.aload_n 0, 1) := by decide +kernel
theorem dX2_append_12 : decode cX2_append 12 = .ok (.getfield 15, 3) := by decide +kernel
theorem dX2_append_15 : decode cX2_append 15 = .ok (.aload_n 0, 1) := by decide +kernel
theorem dX2_append_16 : decode cX2_append 16 = .ok (.getfield 9, 3) := by decide +kernel
theorem dX2_append_19 : decode cX2_append 19 = .ok (.iload_n 1, 1) := by decide +kernel
theorem dX2_append_20 : decode cX2_append 20 = .ok (.iastore, 1) := by decide +kernel
theorem dX2_append_21 : decode cX2_append 21 = .ok (.aload_n 0, 1) := by decide +kernel
theorem dX2_append_22 : decode cX2_append 22 = .ok (.getfield 19, 3) := by decide +kernel
theorem dX2_append_25 : decode cX2_append 25 = .ok (.aload_n 0, 1) := by decide +kernel
theorem dX2_append_26 : decode cX2_append 26 = .ok (.getfield 9, 3) := by decide +kernel
theorem dX2_append_29 : decode cX2_append 29 = .ok (.iload_n 2, 1) := by decide +kernel
theorem dX2_append_30 : decode cX2_append 30 = .ok (.iastore, 1) := by decide +kernel
theorem dX2_append_31 : decode cX2_append 31 = .ok (.aload_n 0, 1) := by decide +kernel
theorem dX2_append_32 : decode cX2_append 32 = .ok (.getfield 22, 3) := by decide +kernel
theorem dX2_append_35 : decode cX2_append 35 = .ok (.aload_n 0, 1) := by decide +kernel
theorem dX2_append_36 : decode cX2_append 36 = .ok (.getfield 9, 3) := by decide +kernel
theorem dX2_append_39 : decode cX2_append 39 = .ok (.iload_n 3, 1) := by decide +kernel
theorem dX2_append_40 : decode cX2_append 40 = .ok (.iastore, 1) := by decide +kernel
theorem dX2_append_41 : decode cX2_append 41 = .ok (.aload_n 0, 1) := by decide +kernel
theorem dX2_append_42 : decode cX2_append 42 = .ok (.dup, 1) := by decide +kernel
theorem dX2_append_43 : decode cX2_append 43 = .ok (.getfield 9, 3) := by decide +kernel
theorem dX2_append_46 : decode cX2_append 46 = .ok (.iconst 1, 1) := by decide +kernel
theorem dX2_append_47 : decode cX2_append 47 = .ok (.iadd, 1) := by decide +kernel
theorem dX2_append_48 : decode cX2_append 48 = .ok (.putfield 9, 3) := by decide +kernel
theorem dX2_append_51 : decode cX2_append 51 = .ok (.aload_n 0, 1) := by decide +kernel
theorem dX2_append_52 : decode cX2_append 52 = .ok (.getfield 9, 3) := by decide +kernel
theorem dX2_append_55 : decode cX2_append 55 = .ok (.iconst 1, 1) := by decide +kernel
theorem dX2_append_56 : decode cX2_append 56 = .ok (.isub, 1) := by decide +kernel
theorem dX2_append_57 : decode cX2_append 57 = .ok (.ireturn, 1) := by decide +kernel
theorem dX2_delete_0 : decode cX2_delete 0 = .ok (.iload_n 1, 1) := by decide +kernel
theorem dX2_delete_1 : decode cX2_delete 1 = .ok (.aload_n 0, 1) := by decide +kernel
theorem dX2_delete_2 : decode cX2_delete 2 = .ok (.getfield 9, 3) := by decide +kernel
theorem dX2_delete_5 : decode cX2_delete 5 = .ok (.invokestatic 29, 3) := by decide +kernel
theorem dX2_delete_8 : decode cX2_delete 8 = .ok (.ifCond .ne 4, 3) := by decide +kernel
theorem dX2_delete_11 : decode cX2_delete 11 = .ok (.return_, 1) := by decide +kernel
theorem dX2_delete_12 : decode cX2_delete 12 = .ok (.aload_n 0, 1) := by decide +kernel
theorem dX2_delete_13 : decode cX2_delete 13 = .ok (.dup, 1) := by decide +kernel
theorem dX2_delete_14 : decode cX2_delete 14 = .ok (.getfield 9, 3) := by decide +kernel
theorem dX2_delete_17 : decode cX2_delete 17 = .ok (.iconst 1, 1) := by decide +kernel
theorem dX2_delete_18 : decode cX2_delete 18 = .ok (.isub, 1) := by decide +kernel
theorem dX2_delete_19 : decode cX2_delete 19 = .ok (.putfield 9, 3) := by decide +kernel
theorem dX2_delete_22 : decode cX2_delete 22 = .ok (.iload_n 1, 1) := by decide +kernel
theorem dX2_delete_23 : decode cX2_delete 23 = .ok (.istore_n 2, 1) := by decide +kernel
theorem dX2_delete_24 : decode cX2_delete 24 = .ok (.iload_n 2, 1) := by decide +kernel
theorem dX2_delete_25 : decode cX2_delete 25 = .ok (.aload_n 0, 1) := by decide +kernel
theorem dX2_delete_26 : decode cX2_delete 26 = .ok (.getfield 9, 3) := by decide +kernel
theorem dX2_delete_29 : decode cX2_delete 29 = .ok (.if_icmp .ge 51, 3) := by decide +kernel
theorem dX2_delete_32 : decode cX2_delete 32 = .ok (.aload_n 0, 1) := by decide +kernel
theorem dX2_delete_33 : decode cX2_delete 33 = .ok (.getfield 15, 3) := by decide +kernel
theorem dX2_delete_36 : decode cX2_delete 36 = .ok (.iload_n 2, 1) := by decide +kernel
theorem dX2_delete_37 : decode cX2_delete 37 = .ok (.aload_n 0, 1) := by decide +kernel
theorem dX2_delete_38 : decode cX2_delete 38 = .ok (.getfield 15, 3) := by decide +kernel
theorem dX2_delete_41 : decode cX2_delete 41 = .ok (.iload_n 2, 1) := by decide +kernel
theorem dX2_delete_42 : decode cX2_delete 42 = .ok (.iconst 1, 1) := by decide +kernel
theorem dX2_delete_43 : decode cX2_delete 43 = .ok (.iadd, 1) := by decide +kernel
theorem dX2_delete_44 : decode cX2_delete 44 = .ok (.iaload, 1) := by decide +kernel
theorem dX2_delete_45 : decode cX2_delete 45 = .ok (.iastore, 1) := by decide +kernel
theorem dX2_delete_46 : decode cX2_delete 46 = .ok (.aload_n 0, 1) := by decide +kernel
theorem dX2_delete_47 : decode cX2_delete 47 = .ok (.getfield 19, 3) := by decide +kernel
theorem dX2_delete_50 : decode cX2_delete 50 = .ok (.iload_n 2, 1) := by decide +kernel
theorem dX2_delete_51 : decode cX2_delete 51 = .ok (.aload_n 0, 1) := by decide +kernel
theorem dX2_delete_52 : decode cX2_delete 52 = .ok (.getfield 19, 3) := by decide +kernel
theorem dX2_delete_55 : decode cX2_delete 55 = .ok (.iload_n 2, 1) := by decide +kernel
theorem dX2_delete_56 : decode cX2_delete 56 = .ok (.iconst 1, 1) := by decide +kernel
theorem dX2_delete_57 : decode cX2_delete 57 = .ok (.iadd, 1) := by decide +kernel
theorem dX2_delete_58 : decode cX2_delete 58 = .ok (.iaload, 1) := by decide +kernel
theorem dX2_delete_59 : decode cX2_delete 59 = .ok (.iastore, 1) := by decide +kernel
theorem dX2_delete_60 : decode cX2_delete 60 = .ok (.aload_n 0, 1) := by decide +kernel
theorem dX2_delete_61 : decode cX2_delete 61 = .ok (.getfield 22, 3) := by decide +kernel
theorem dX2_delete_64 : decode cX2_delete 64 = .ok (.iload_n 2, 1) := by decide +kernel
theorem dX2_delete_65 : decode cX2_delete 65 = .ok (.aload_n 0, 1) := by decide +kernel
theorem dX2_delete_66 : decode cX2_delete 66 = .ok (.getfield 22, 3) := by decide +kernel
theorem dX2_delete_69 : decode cX2_delete 69 = .ok (.iload_n 2, 1) := by decide +kernel
theorem dX2_delete_70 : decode cX2_delete 70 = .ok (.iconst 1, 1) := by decide +kernel
theorem dX2_delete_71 : decode cX2_delete 71 = .ok (.iadd, 1) := by decide +kernel
theorem dX2_delete_72 : decode cX2_delete 72 = .ok (.iaload, 1) := by decide +kernel
theorem dX2_delete_73 : decode cX2_delete 73 = .ok (.iastore, 1) := by decide +kernel
theorem dX2_delete_74 : decode cX2_delete 74 = .ok (.iinc 2 1, 3) := by decide +kernel
theorem dX2_delete_77 : decode cX2_delete 77 = .ok (.goto (-53), 3) := by decide +kernel
theorem dX2_delete_80 : decode cX2_delete 80 = .ok (.return_, 1) := by decide +kernel
theorem dX2_copyFrom_0 : decode cX2_copyFrom 0 = .ok (.aload_n 0, 1) := by decide +kernel
theorem dX2_copyFrom_1 : decode cX2_copyFrom 1 = .ok (.aload_n 1, 1) := by decide +kernel
theorem dX2_copyFrom_2 : decode cX2_copyFrom 2 = .ok (.getfield 9, 3) := by decide +kernel
theorem dX2_copyFrom_5 : decode cX2_copyFrom 5 = .ok (.putfield 9, 3) := by decide +kernel
theorem dX2_copyFrom_8 : decode cX2_copyFrom 8 = .ok (.aload_n 1, 1) := by decide +kernel
theorem dX2_copyFrom_9 : decode cX2_copyFrom 9 = .ok (.getfield 15, 3) := by decide +kernel
theorem dX2_copyFrom_12 : decode cX2_copyFrom 12 = .ok (.iconst 0, 1) := by decide +kernel
theorem dX2_copyFrom_13 : decode cX2_copyFrom 13 = .ok (.aload_n 0, 1) := by decide +kernel
theorem dX2_copyFrom_14 : decode cX2_copyFrom 14 = .ok (.getfield 15, 3) := by decide +kernel
theorem dX2_copyFrom_17 : decode cX2_copyFrom 17 = .ok (.iconst 0, 1) := by decide +kernel
theorem dX2_copyFrom_18 : decode cX2_copyFrom 18 = .ok (.bipush 12, 2) := by decide +kernel
theorem dX2_copyFrom_20 : decode cX2_copyFrom 20 = .ok (.invokestatic 32, 3) := by decide +kernel
theorem dX2_copyFrom_23 : decode cX2_copyFrom 23 = .ok (.aload_n 1, 1) := by decide +kernel
theorem dX2_copyFrom_24 : decode cX2_copyFrom 24 = .ok (.getfield 19, 3) := by decide +kernel
theorem dX2_copyFrom_27 : decode cX2_copyFrom 27 = .ok (.iconst 0, 1) := by decide +kernel
theorem dX2_copyFrom_28 : decode cX2_copyFrom 28 = .ok (.aload_n 0, 1) := by decide +kernel
theorem dX2_copyFrom_29 : decode cX2_copyFrom 29 = .ok (.getfield 19, 3) := by decide +kernel
theorem dX2_copyFrom_32 : decode cX2_copyFrom 32 = .ok (.iconst 0, 1) := by decide +kernel
theorem dX2_copyFrom_33 : decode cX2_copyFrom 33 = .ok (.bipush 12, 2) := by decide +kernel
theorem dX2_copyFrom_35 : decode cX2_copyFrom 35 = .ok (.invokestatic 32, 3) := by decide +kernel
theorem dX2_copyFrom_38 : decode cX2_copyFrom 38 = .ok (.aload_n 1, 1) := by decide +kernel
theorem dX2_copyFrom_39 : decode cX2_copyFrom 39 = .ok (.getfield 22, 3) := by decide +kernel
theorem dX2_copyFrom_42 : decode cX2_copyFrom 42 = .ok (.iconst 0, 1) := by decide +kernel
theorem dX2_copyFrom_43 : decode cX2_copyFrom 43 = .ok (.aload_n 0, 1) := by decide +kernel
theorem dX2_copyFrom_44 : decode cX2_copyFrom 44 = .ok (.getfield 22, 3) := by decide +kernel
theorem dX2_copyFrom_47 : decode cX2_copyFrom 47 = .ok (.iconst 0, 1) := by decide +kernel
theorem dX2_copyFrom_48 : decode cX2_copyFrom 48 = .ok (.bipush 12, 2) := by decide +kernel
theorem dX2_copyFrom_50 : decode cX2_copyFrom 50 = .ok (.invokestatic 32, 3) := by decide +kernel
theorem dX2_copyFrom_53 : decode cX2_copyFrom 53 = .ok (.return_, 1) := by decide +kernel
theorem dX3_init_0 : decode cX3_init 0 = .ok (.aload_n 0, 1) := by decide +kernel
theorem dX3_init_1 : decode cX3_init 1 = .ok (.invokespecial 3, 3) := by decide +kernel
theorem dX3_init_4 : decode cX3_init 4 = .ok (.aload_n 0, 1) := by decide +kernel
theorem dX3_init_5 : decode cX3_init 5 = .ok (.iconst 0, 1) := by decide +kernel
theorem dX3_init_6 : decode cX3_init 6 = .ok (.putfield 9, 3) := by decide +kernel
theorem dX3_init_9 : decode cX3_init 9 = .ok (.aload_n 0, 1) := by decide +kernel
theorem dX3_init_10 : decode cX3_init 10 = .ok (.bipush 10, 2) := by decide +kernel
theorem dX3_init_12 : decode cX3_init 12 = .ok (.putfield 15, 3) := by decide +kernel
theorem dX3_init_15 : decode cX3_init 15 = .ok (.aload_n 0, 1) := by decide +kernel
theorem dX3_init_16 : decode cX3_init 16 = .ok (.iconst 4, 1) := by decide +kernel
theorem dX3_init_17 : decode cX3_init 17 = .ok (.newarray .int, 2) := by decide +kernel
theorem dX3_init_19 : decode cX3_init 19 = .ok (.putfield 18, 3) := by decide +kernel
theorem dX3_init_22 : decode cX3_init 22 = .ok (.aload_n 0, 1) := by decide +kernel
theorem dX3_init_23 : decode cX3_init 23 = .ok (.new 22, 3) := by decide +kernel
theorem dX3_init_26 : decode cX3_init 26 = .ok (.dup, 1) := by decide +kernel
theorem dX3_init_27 : decode cX3_init 27 = .ok (.invokespecial 24, 3) := by decide +kernel
theorem dX3_init_30 : decode cX3_init 30 = .ok (.putfield 25, 3) := by decide +kernel
theorem dX3_init_33 : decode cX3_init 33 = .ok (.aload_n 0, 1) := by decide +kernel
theorem dX3_init_34 : decode cX3_init 34 = .ok (.new 29, 3) := by decide +kernel
theorem dX3_init_37 : decode cX3_init 37 = .ok (.dup, 1) := by decide +kernel
theorem dX3_init_38 : decode cX3_init 38 = .ok (.invokespecial 31, 3) := by decide +kernel
theorem dX3_init_41 : decode cX3_init 41 = .ok (.putfield 32, 3) := by decide +kernel
theorem dX3_init_44 : decode cX3_init 44 = .ok (.aload_n 0, 1) := by decide +kernel
theorem dX3_init_45 : decode cX3_init 45 = .ok (.bipush 6, 2) := by decide +kernel
theorem dX3_init_47 : decode cX3_init 47 = .ok (.anewarray 36, 3) := by decide +kernel
theorem dX3_init_50 : decode cX3_init 50 = .ok (.putfield 38, 3) := by decide +kernel
theorem dX3_init_53 : decode cX3_init 53 = .ok (.aload_n 0, 1) := by decide +kernel
theorem dX3_init_54 : decode cX3_init 54 = .ok (.new 42, 3) := by decide +kernel
theorem dX3_init_57 : decode cX3_init 57 = .ok (.dup, 1) := by decide +kernel
theorem dX3_init_58 : decode cX3_init 58 = .ok (.invokespecial 44, 3) := by decide +kernel
theorem dX3_init_61 : decode cX3_init 61 = .ok (.putfield 45, 3) := by decide +kernel
theorem dX3_init_64 : decode cX3_init 64 = .ok (.aload_n 0, 1) := by decide +kernel
theorem dX3_init_65 : decode cX3_init 65 = .ok (.bipush 6, 2) := by decide +kernel
theorem dX3_init_67 : decode cX3_init 67 = .ok (.newarray .int, 2) := by decide +kernel
theorem dX3_init_69 : decode cX3_init 69 = .ok (.putfield 49, 3) := by decide +kernel
theorem dX3_init_72 : decode cX3_init 72 = .ok (.aload_n 0, 1) := by decide +kernel
theorem dX3_init_73 : decode cX3_init 73 = .ok (.getfield 18, 3) := by decide +kernel
theorem dX3_init_76 : decode cX3_init 76 = .ok (.iconst 5, 1) := by decide +kernel
theorem dX3_init_77 : decode cX3_init 77 = .ok (.invokestatic 52, 3) := by decide +kernel
theorem dX3_init_80 : decode cX3_init 80 = .ok (.iconst 0, 1) := by decide +kernel
theorem dX3_init_81 : decode cX3_init 81 = .ok (.istore_n 1, 1) := by decide +kernel
theorem dX3_init_82 : decode cX3_init 82 = .ok (.iload_n 1, 1) := by decide +kernel
theorem dX3_init_83 : decode cX3_init 83 = .ok (.bipush 6, 2) := by decide +kernel
theorem dX3_init_85 : decode cX3_init 85 = .ok (.if_icmp .ge 22, 3) := by decide +kernel
theorem dX3_init_88 : decode cX3_init 88 = .ok (.aload_n 0, 1) := by decide +kernel
theorem dX3_init_89 : decode cX3_init 89 = .ok (.getfield 38, 3) := by decide +kernel
theorem dX3_init_92 : decode cX3_init 92 = .ok (.iload_n 1, 1) := by decide +kernel
theorem dX3_init_93 : decode cX3_init 93 = .ok (.new 36, 3) := by decide +kernel
theorem dX3_init_96 : decode cX3_init 96 = .ok (.dup, 1) := by decide +kernel
theorem dX3_init_97 : decode cX3_init 97 = .ok (.invokespecial 58, 3) := by decide +kernel
theorem dX3_init_100 : decode cX3_init 100 = .ok (.aastore, 1) := by decide +kernel
theorem dX3_init_101 : decode cX3_init 101 = .ok (.iinc 1 1, 3) := by decide +kernel
theorem dX3_init_104 : decode cX3_init 104 = .ok (.goto (-22), 3) := by decide +kernel
theorem dX3_init_107 : decode cX3_init 107 = .ok (.return_, 1) := by decide +kernel
theorem dX3_arrive_0 : decode cX3_arrive 0 = .ok (.aload_n 0, 1) := by decide +kernel
theorem dX3_arrive_1 : decode cX3_arrive 1 = .ok (.getfield 38, 3) := by decide +kernel
theorem dX3_arrive_4 : decode cX3_arrive 4 = .ok (.iload_n 2, 1) := by decide +kernel
theorem dX3_arrive_5 : decode cX3_arrive 5 = .ok (.aaload, 1) := by decide +kernel
theorem dX3_arrive_6 : decode cX3_arrive 6 = .ok (.astore 4, 2) := by decide +kernel
theorem dX3_arrive_8 : decode cX3_arrive 8 = .ok (.aload 4, 2) := by decide +kernel
theorem dX3_arrive_10 : decode cX3_arrive 10 = .ok (.iload_n 1, 1) := by decide +kernel
theorem dX3_arrive_11 : decode cX3_arrive 11 = .ok (.invokevirtual 59, 3) := by decide +kernel
theorem dX3_arrive_14 : decode cX3_arrive 14 = .ok (.ifCond .eq 15, 3) := by decide +kernel
theorem dX3_arrive_17 : decode cX3_arrive 17 = .ok (.aload_n 0, 1) := by decide +kernel
theorem dX3_arrive_18 : decode cX3_arrive 18 = .ok (.getfield 49, 3) := by decide +kernel
theorem dX3_arrive_21 : decode cX3_arrive 21 = .ok (.iconst 2, 1) := by decide +kernel
theorem dX3_arrive_22 : decode cX3_arrive 22 = .ok (.dup2, 1) := by decide +kernel
theorem dX3_arrive_23 : decode cX3_arrive 23 = .ok (.iaload, 1) := by decide +kernel
theorem dX3_arrive_24 : decode cX3_arrive 24 = .ok (.iconst 1, 1) := by decide +kernel
theorem dX3_arrive_25 : decode cX3_arrive 25 = .ok (.iadd, 1) := by decide +kernel
theorem dX3_arrive_26 : decode cX3_arrive 26 = .ok (.iastore, 1) := by decide +kernel
theorem dX3_arrive_27 : decode cX3_arrive 27 = .ok (.iconst 0, 1) := by decide +kernel
theorem dX3_arrive_28 : decode cX3_arrive 28 = .ok (.ireturn, 1) := by decide +kernel
theorem dX3_arrive_29 : decode cX3_arrive 29 = .ok (.aload_n 0, 1) := by decide +kernel
theorem dX3_arrive_30 : decode cX3_arrive 30 = .ok (.getfield 9, 3) := by decide +kernel
theorem dX3_arrive_33 : decode cX3_arrive 33 = .ok (.aload_n 0, 1) := by decide +kernel
theorem dX3_arrive_34 : decode cX3_arrive 34 = .ok (.getfield 32, 3) := by decide +kernel
theorem dX3_arrive_37 : decode cX3_arrive 37 = .ok (.getfield 63, 3) := by decide +kernel
theorem dX3_arrive_40 : decode cX3_arrive 40 = .ok (.iload_n 1, 1) := by decide +kernel
theorem dX3_arrive_41 : decode cX3_arrive 41 = .ok (.iaload, 1) := by decide +kernel
theorem dX3_arrive_42 : decode cX3_arrive 42 = .ok (.isub, 1) := by decide +kernel
theorem dX3_arrive_43 : decode cX3_arrive 43 = .ok (.aload_n 0, 1) := by decide +kernel
theorem dX3_arrive_44 : decode cX3_arrive 44 = .ok (.getfield 15, 3) := by decide +kernel
theorem dX3_arrive_47 : decode cX3_arrive 47 = .ok (.if_icmp .lt 15, 3) := by decide +kernel
theorem dX3_arrive_50 : decode cX3_arrive 50 = .ok (.aload_n 0, 1) := by decide +kernel
theorem dX3_arrive_51 : decode cX3_arrive 51 = .ok (.getfield 49, 3) := by decide +kernel
theorem dX3_arrive_54 : decode cX3_arrive 54 = .ok (.iconst 3, 1) := by decide +kernel
theorem dX3_arrive_55 : decode cX3_arrive 55 = .ok (.dup2, 1) := by decide +kernel
theorem dX3_arrive_56 : decode cX3_arrive 56 = .ok (.iaload, 1) := by decide +kernel
theorem dX3_arrive_57 : decode cX3_arrive 57 = .ok (.iconst 1, 1) := by decide +kernel
theorem dX3_arrive_58 : decode cX3_arrive 58 = .ok (.iadd, 1) := by decide +kernel
theorem dX3_arrive_59 : decode cX3_arrive 59 = .ok (.iastore, 1) := by decide +kernel
theorem dX3_arrive_60 : decode cX3_arrive 60 = .ok (.iconst 0, 1) := by decide +kernel
theorem dX3_arrive_61 : decode cX3_arrive 61 = .ok (.ireturn, 1) := by decide +kernel
theorem dX3_arrive_62 : decode cX3_arrive 62 = .ok (.aload 4, 2) := by decide +kernel
theorem dX3_arrive_64 : decode cX3_arrive 64 = .ok (.getfield 66, 3) := by decide +kernel
theorem dX3_arrive_67 : decode cX3_arrive 67 = .ok (.iload_n 1, 1) := by decide +kernel
theorem dX3_arrive_68 : decode cX3_arrive 68 = .ok (.aload_n 0, 1) := by decide +kernel
theorem dX3_arrive_69 : decode cX3_arrive 69 = .ok (.getfield 9, 3) := by decide +kernel
theorem dX3_arrive_72 : decode cX3_arrive 72 = .ok (.iastore, 1) := by decide +kernel
theorem dX3_arrive_73 : decode cX3_arrive 73 = .ok (.aload 4, 2) := by decide +kernel
theorem dX3_arrive_75 : decode cX3_arrive 75 = .ok (.iload_n 1, 1) := by decide +kernel
theorem dX3_arrive_76 : decode cX3_arrive 76 = .ok (.aload_n 0, 1) := by decide +kernel
theorem dX3_arrive_77 : decode cX3_arrive 77 = .ok (.getfield 32, 3) := by decide +kernel
theorem dX3_arrive_80 : decode cX3_arrive 80 = .ok (.getfield 69, 3) := by decide +kernel
theorem dX3_arrive_83 : decode cX3_arrive 83 = .ok (.iload_n 1, 1) := by decide +kernel
theorem dX3_arrive_84 : decode cX3_arrive 84 = .ok (.iaload, 1) := by decide +kernel
theorem dX3_arrive_85 : decode cX3_arrive 85 = .ok (.invokevirtual 72, 3) := by decide +kernel
theorem dX3_arrive_88 : decode cX3_arrive 88 = .ok (.ifCond .eq 15, 3) := by decide +kernel
theorem dX3_arrive_91 : decode cX3_arrive 91 = .ok (.aload_n 0, 1) := by decide +kernel
theorem dX3_arrive_92 : decode cX3_arrive 92 = .ok (.getfield 49, 3) := by decide +kernel
theorem dX3_arrive_95 : decode cX3_arrive 95 = .ok (.iconst 4, 1) := by decide +kernel
theorem dX3_arrive_96 : decode cX3_arrive 96 = .ok (.dup2, 1) := by decide +kernel
theorem dX3_arrive_97 : decode cX3_arrive 97 = .ok (.iaload, 1) := by decide +kernel
theorem dX3_arrive_98 : decode cX3_arrive 98 = .ok (.iconst 1, 1) := by decide +kernel
theorem dX3_arrive_99 : decode cX3_arrive 99 = .ok (.iadd, 1) := by decide +kernel
theorem dX3_arrive_100 : decode cX3_arrive 100 = .ok (.iastore, 1) := by decide +kernel
theorem dX3_arrive_101 : decode cX3_arrive 101 = .ok (.iconst 0, 1) := by decide +kernel
theorem dX3_arrive_102 : decode cX3_arrive 102 = .ok (.ireturn, 1) := by decide +kernel
theorem dX3_arrive_103 : decode cX3_arrive 103 = .ok (.aload 4, 2) := by decide +kernel
theorem dX3_arrive_105 : decode cX3_arrive 105 = .ok (.aload_n 0, 1) := by decide +kernel
theorem dX3_arrive_106 : decode cX3_arrive 106 = .ok (.getfield 32, 3) := by decide +kernel
theorem dX3_arrive_109 : decode cX3_arrive 109 = .ok (.getfield 76, 3) := by decide +kernel
theorem dX3_arrive_112 : decode cX3_arrive 112 = .ok (.iload_n 1, 1) := by decide +kernel
theorem dX3_arrive_113 : decode cX3_arrive 113 = .ok (.iaload, 1) := by decide +kernel
theorem dX3_arrive_114 : decode cX3_arrive 114 = .ok (.invokevirtual 79, 3) := by decide +kernel
theorem dX3_arrive_117 : decode cX3_arrive 117 = .ok (.ifCond .ne 5, 3) := by decide +kernel
theorem dX3_arrive_120 : decode cX3_arrive 120 = .ok (.iconst 0, 1) := by decide +kernel
theorem dX3_arrive_121 : decode cX3_arrive 121 = .ok (.ireturn, 1) := by decide +kernel
theorem dX3_arrive_122 : decode cX3_arrive 122 = .ok (.aload 4, 2) := by decide +kernel
theorem dX3_arrive_124 : decode cX3_arrive 124 = .ok (.iload_n 1, 1) := by decide +kernel
theorem dX3_arrive_125 : decode cX3_arrive 125 = .ok (.invokevirtual 82, 3) := by decide +kernel
theorem dX3_arrive_128 : decode cX3_arrive 128 = .ok (.aload_n 0, 1) := by decide +kernel
theorem dX3_arrive_129 : decode cX3_arrive 129 = .ok (.getfield 32, 3) := by decide +kernel
theorem dX3_arrive_132 : decode cX3_arrive 132 = .ok (.getfield 86, 3) := by decide +kernel
theorem dX3_arrive_135 : decode cX3_arrive 135 = .ok (.iload_n 1, 1) := by decide +kernel
theorem dX3_arrive_136 : decode cX3_arrive 136 = .ok (.iaload, 1) := by decide +kernel
theorem dX3_arrive_137 : decode cX3_arrive 137 = .ok (.ifCond .eq 10, 3) := by decide +kernel
theorem dX3_arrive_140 : decode cX3_arrive 140 = .ok (.aload_n 0, 1) := by decide +kernel
theorem dX3_arrive_141 : decode cX3_arrive 141 = .ok (.iload_n 1, 1) := by decide +kernel
theorem dX3_arrive_142 : decode cX3_arrive 142 = .ok (.aload 4, 2) := by decide +kernel
theorem dX3_arrive_144 : decode cX3_arrive 144 = .ok (.invokevirtual 89, 3) := by decide +kernel
theorem dX3_arrive_147 : decode cX3_arrive 147 = .ok (.iload_n 3, 1) := by decide +kernel
theorem dX3_arrive_148 : decode cX3_arrive 148 = .ok (.iconst 1, 1) := by decide +kernel
theorem dX3_arrive_149 : decode cX3_arrive 149 = .ok (.iload_n 2, 1) := by decide +kernel
theorem dX3_arrive_150 : decode cX3_arrive 150 = .ok (.ishl, 1) := by decide +kernel
theorem dX3_arrive_151 : decode cX3_arrive 151 = .ok (.ior, 1) := by decide +kernel
theorem dX3_arrive_152 : decode cX3_arrive 152 = .ok (.istore 5, 2) := by decide +kernel
theorem dX3_arrive_154 : decode cX3_arrive 154 = .ok (.aload_n 0, 1) := by decide +kernel
theorem dX3_arrive_155 : decode cX3_arrive 155 = .ok (.getfield 45, 3) := by decide +kernel
theorem dX3_arrive_158 : decode cX3_arrive 158 = .ok (.iload_n 1, 1) := by decide +kernel
theorem dX3_arrive_159 : decode cX3_arrive 159 = .ok (.iload_n 2, 1) := by decide +kernel
theorem dX3_arrive_160 : decode cX3_arrive 160 = .ok (.aload_n 0, 1) := by decide +kernel
theorem dX3_arrive_161 : decode cX3_arrive 161 = .ok (.getfield 25, 3) := by decide +kernel
theorem dX3_arrive_164 : decode cX3_arrive 164 = .ok (.iconst 1, 1) := by decide +kernel
theorem dX3_arrive_165 : decode cX3_arrive 165 = .ok (.iload_n 2, 1) := by decide +kernel
theorem dX3_arrive_166 : decode cX3_arrive 166 = .ok (.ishl, 1) := by decide +kernel
theorem dX3_arrive_167 : decode cX3_arrive 167 = .ok (.invokevirtual 93, 3) := by decide +kernel
theorem dX3_arrive_170 : decode cX3_arrive 170 = .ok (.iload 5, 2) := by decide +kernel
theorem dX3_arrive_172 : decode cX3_arrive 172 = .ok (.iconst (-1), 1) := by decide +kernel
theorem dX3_arrive_173 : decode cX3_arrive 173 = .ok (.ixor, 1) := by decide +kernel
theorem dX3_arrive_174 : decode cX3_arrive 174 = .ok (.iand, 1) := by decide +kernel
theorem dX3_arrive_175 : decode cX3_arrive 175 = .ok (.iload 5, 2) := by decide +kernel
theorem dX3_arrive_177 : decode cX3_arrive 177 = .ok (.invokevirtual 97, 3) := by decide +kernel
theorem dX3_arrive_180 : decode cX3_arrive 180 = .ok (.iconst 1, 1) := by decide +kernel
theorem dX3_arrive_181 : decode cX3_arrive 181 = .ok (.ireturn, 1) := by decide +kernel
theorem dX3_actOnTarget_0 : decode cX3_actOnTarget 0 = .ok (.aload_n 0, 1) := by decide +kernel
theorem dX3_actOnTarget_1 : decode cX3_actOnTarget 1 = .ok (.getfield 32, 3) := by decide +kernel
theorem dX3_actOnTarget_4 : decode cX3_actOnTarget 4 = .ok (.getfield 101, 3) := by decide +kernel
theorem dX3_actOnTarget_7 : decode cX3_actOnTarget 7 = .ok (.iload_n 1, 1) := by decide +kernel
theorem dX3_actOnTarget_8 : decode cX3_actOnTarget 8 = .ok (.iaload, 1) := by decide +kernel
theorem dX3_actOnTarget_9 : decode cX3_actOnTarget 9 = .ok (.istore_n 3, 1) := by decide +kernel
theorem dX3_actOnTarget_10 : decode cX3_actOnTarget 10 = .ok (.aload_n 0, 1) := by decide +kernel
theorem dX3_actOnTarget_11 : decode cX3_actOnTarget 11 = .ok (.getfield 32, 3) := by decide +kernel
theorem dX3_actOnTarget_14 : decode cX3_actOnTarget 14 = .ok (.getfield 69, 3) := by decide +kernel
theorem dX3_actOnTarget_17 : decode cX3_actOnTarget 17 = .ok (.iload_n 1, 1) := by decide +kernel
theorem dX3_actOnTarget_18 : decode cX3_actOnTarget 18 = .ok (.iaload, 1) := by decide +kernel
theorem dX3_actOnTarget_19 : decode cX3_actOnTarget 19 = .ok (.istore 4, 2) := by decide +kernel
theorem dX3_actOnTarget_21 : decode cX3_actOnTarget 21 = .ok (.aload_n 2, 1) := by decide +kernel
theorem dX3_actOnTarget_22 : decode cX3_actOnTarget 22 = .ok (.iload_n 3, 1) := by decide +kernel
theorem dX3_actOnTarget_23 : decode cX3_actOnTarget 23 = .ok (.invokevirtual 104, 3) := by decide +kernel
theorem dX3_actOnTarget_26 : decode cX3_actOnTarget 26 = .ok (.ifCond .eq 48, 3) := by decide +kernel
theorem dX3_actOnTarget_29 : decode cX3_actOnTarget 29 = .ok (.aload_n 0, 1) := by decide +kernel
theorem dX3_actOnTarget_30 : decode cX3_actOnTarget 30 = .ok (.getfield 32, 3) := by decide +kernel
theorem dX3_actOnTarget_33 : decode cX3_actOnTarget 33 = .ok (.getfield 69, 3) := by decide +kernel
theorem dX3_actOnTarget_36 : decode cX3_actOnTarget 36 = .ok (.iload_n 3, 1) := by decide +kernel
theorem dX3_actOnTarget_37 : decode cX3_actOnTarget 37 = .ok (.iaload, 1) := by decide +kernel
theorem dX3_actOnTarget_38 : decode cX3_actOnTarget 38 = .ok (.iload 4, 2) := by decide +kernel
theorem dX3_actOnTarget_40 : decode cX3_actOnTarget 40 = .ok (.if_icmp .ne 21, 3) := by decide +kernel
theorem dX3_actOnTarget_43 : decode cX3_actOnTarget 43 = .ok (.aload_n 2, 1) := by decide +kernel
theorem dX3_actOnTarget_44 : decode cX3_actOnTarget 44 = .ok (.iload_n 3, 1) := by decide +kernel
theorem dX3_actOnTarget_45 : decode cX3_actOnTarget 45 = .ok (.invokevirtual 107, 3) := by decide +kernel
theorem dX3_actOnTarget_48 : decode cX3_actOnTarget 48 = .ok (.aload_n 0, 1) := by decide +kernel
theorem dX3_actOnTarget_49 : decode cX3_actOnTarget 49 = .ok (.getfield 49, 3) := by decide +kernel
theorem dX3_actOnTarget_52 : decode cX3_actOnTarget 52 = .ok (.iconst 4, 1) := by decide +kernel
theorem dX3_actOnTarget_53 : decode cX3_actOnTarget 53 = .ok (.dup2, 1) := by decide +kernel
theorem dX3_actOnTarget_54 : decode cX3_actOnTarget 54 = .ok (.iaload, 1) := by decide +kernel
theorem dX3_actOnTarget_55 : decode cX3_actOnTarget 55 = .ok (.iconst 1, 1) := by decide +kernel
theorem dX3_actOnTarget_56 : decode cX3_actOnTarget 56 = .ok (.iadd, 1) := by decide +kernel
theorem dX3_actOnTarget_57 : decode cX3_actOnTarget 57 = .ok (.iastore, 1) := by decide +kernel
theorem dX3_actOnTarget_58 : decode cX3_actOnTarget 58 = .ok (.goto 31, 3) := by decide +kernel
theorem dX3_actOnTarget_61 : decode cX3_actOnTarget 61 = .ok (.aload_n 0, 1) := by decide +kernel
theorem dX3_actOnTarget_62 : decode cX3_actOnTarget 62 = .ok (.getfield 49, 3) := by decide +kernel
theorem dX3_actOnTarget_65 : decode cX3_actOnTarget 65 = .ok (.iconst 5, 1) := by decide +kernel
theorem dX3_actOnTarget_66 : decode cX3_actOnTarget 66 = .ok (.dup2, 1) := by decide +kernel
theorem dX3_actOnTarget_67 : decode cX3_actOnTarget 67 = .ok (.iaload, 1) := by decide +kernel
theorem dX3_actOnTarget_68 : decode cX3_actOnTarget 68 = .ok (.iconst 1, 1) := by decide +kernel
theorem dX3_actOnTarget_69 : decode cX3_actOnTarget 69 = .ok (.iadd, 1) := by decide +kernel
theorem dX3_actOnTarget_70 : decode cX3_actOnTarget 70 = .ok (.iastore, 1) := by decide +kernel
theorem dX3_actOnTarget_71 : decode cX3_actOnTarget 71 = .ok (.goto 18, 3) := by decide +kernel
theorem dX3_actOnTarget_74 : decode cX3_actOnTarget 74 = .ok (.aload_n 2, 1) := by decide +kernel
theorem dX3_actOnTarget_75 : decode cX3_actOnTarget 75 = .ok (.iload_n 3, 1) := by decide +kernel
theorem dX3_actOnTarget_76 : decode cX3_actOnTarget 76 = .ok (.invokevirtual 59, 3) := by decide +kernel
theorem dX3_actOnTarget_79 : decode cX3_actOnTarget 79 = .ok (.ifCond .ne 10, 3) := by decide +kernel
theorem dX3_actOnTarget_82 : decode cX3_actOnTarget 82 = .ok (.aload_n 2, 1) := by decide +kernel
theorem dX3_actOnTarget_83 : decode cX3_actOnTarget 83 = .ok (.iload_n 3, 1) := by decide +kernel
theorem dX3_actOnTarget_84 : decode cX3_actOnTarget 84 = .ok (.iload 4, 2) := by decide +kernel
theorem dX3_actOnTarget_86 : decode cX3_actOnTarget 86 = .ok (.invokevirtual 110, 3) := by decide +kernel
theorem dX3_actOnTarget_89 : decode cX3_actOnTarget 89 = .ok (.return_, 1) := by decide +kernel
theorem dX3_performRound_0 : decode cX3_performRound 0 = .ok (.aload_n 1, 1) := by decide +kernel
theorem dX3_performRound_1 : decode cX3_performRound 1 = .ok (.aload_n 0, 1) := by decide +kernel
theorem dX3_performRound_2 : decode cX3_performRound 2 = .ok (.getfield 45, 3) := by decide +kernel
theorem dX3_performRound_5 : decode cX3_performRound 5 = .ok (.invokevirtual 114, 3) := by decide +kernel
theorem dX3_performRound_8 : decode cX3_performRound 8 = .ok (.aload_n 0, 1) := by decide +kernel
theorem dX3_performRound_9 : decode cX3_performRound 9 = .ok (.getfield 45, 3) := by decide +kernel
theorem dX3_performRound_12 : decode cX3_performRound 12 = .ok (.invokevirtual 118, 3) := by decide +kernel
theorem dX3_performRound_15 : decode cX3_performRound 15 = .ok (.iconst 0, 1) := by decide +kernel
theorem dX3_performRound_16 : decode cX3_performRound 16 = .ok (.istore_n 2, 1) := by decide +kernel
theorem dX3_performRound_17 : decode cX3_performRound 17 = .ok (.iconst 0, 1) := by decide +kernel
theorem dX3_performRound_18 : decode cX3_performRound 18 = .ok (.istore_n 3, 1) := by decide +kernel
theorem dX3_performRound_19 : decode cX3_performRound 19 = .ok (.iload_n 3, 1) := by decide +kernel
theorem dX3_performRound_20 : decode cX3_performRound 20 = .ok (.aload_n 0, 1) := by decide +kernel
theorem dX3_performRound_21 : decode cX3_performRound 21 = .ok (.getfield 32, 3) := by decide +kernel
theorem dX3_performRound_24 : decode cX3_performRound 24 = .ok (.getfield 121, 3) := by decide +kernel
theorem dX3_performRound_27 : decode cX3_performRound 27 = .ok (.if_icmp .ge 86, 3) := by decide +kernel
theorem dX3_performRound_30 : decode cX3_performRound 30 = .ok (.iconst 0, 1) := by decide +kernel
theorem dX3_performRound_31 : decode cX3_performRound 31 = .ok (.istore 4, 2) := by decide +kernel
theorem dX3_performRound_33 : decode cX3_performRound 33 = .ok (.iload 4, 2) := by decide +kernel
theorem dX3_performRound_35 : decode cX3_performRound 35 = .ok (.bipush 6, 2) := by decide +kernel
theorem dX3_performRound_37 : decode cX3_performRound 37 = .ok (.if_icmp .ge 70, 3) := by decide +kernel
theorem dX3_performRound_40 : decode cX3_performRound 40 = .ok (.iload_n 3, 1) := by decide +kernel
theorem dX3_performRound_41 : decode cX3_performRound 41 = .ok (.iload 4, 2) := by decide +kernel
theorem dX3_performRound_43 : decode cX3_performRound 43 = .ok (.invokestatic 124, 3) := by decide +kernel
theorem dX3_performRound_46 : decode cX3_performRound 46 = .ok (.istore 5, 2) := by decide +kernel
theorem dX3_performRound_48 : decode cX3_performRound 48 = .ok (.iconst 0, 1) := by decide +kernel
theorem dX3_performRound_49 : decode cX3_performRound 49 = .ok (.istore 6, 2) := by decide +kernel
theorem dX3_performRound_51 : decode cX3_performRound 51 = .ok (.iload 6, 2) := by decide +kernel
theorem dX3_performRound_53 : decode cX3_performRound 53 = .ok (.bipush 6, 2) := by decide +kernel
theorem dX3_performRound_55 : decode cX3_performRound 55 = .ok (.if_icmp .ge 46, 3) := by decide +kernel
theorem dX3_performRound_58 : decode cX3_performRound 58 = .ok (.aload_n 1, 1) := by decide +kernel
theorem dX3_performRound_59 : decode cX3_performRound 59 = .ok (.getfield 128, 3) := by decide +kernel
theorem dX3_performRound_62 : decode cX3_performRound 62 = .ok (.iload 5, 2) := by decide +kernel
theorem dX3_performRound_64 : decode cX3_performRound 64 = .ok (.iaload, 1) := by decide +kernel
theorem dX3_performRound_65 : decode cX3_performRound 65 = .ok (.iload 6, 2) := by decide +kernel
theorem dX3_performRound_67 : decode cX3_performRound 67 = .ok (.invokestatic 131, 3) := by decide +kernel
theorem dX3_performRound_70 : decode cX3_performRound 70 = .ok (.ifCond .eq 25, 3) := by decide +kernel
theorem dX3_performRound_73 : decode cX3_performRound 73 = .ok (.aload_n 0, 1) := by decide +kernel
theorem dX3_performRound_74 : decode cX3_performRound 74 = .ok (.iload_n 3, 1) := by decide +kernel
theorem dX3_performRound_75 : decode cX3_performRound 75 = .ok (.iload 4, 2) := by decide +kernel
theorem dX3_performRound_77 : decode cX3_performRound 77 = .ok (.iload 6, 2) := by decide +kernel
theorem dX3_performRound_79 : decode cX3_performRound 79 = .ok (.aload_n 1, 1) := by decide +kernel
theorem dX3_performRound_80 : decode cX3_performRound 80 = .ok (.getfield 134, 3) := by decide +kernel
theorem dX3_performRound_83 : decode cX3_performRound 83 = .ok (.iload 5, 2) := by decide +kernel
theorem dX3_performRound_85 : decode cX3_performRound 85 = .ok (.iaload, 1) := by decide +kernel
theorem dX3_performRound_86 : decode cX3_performRound 86 = .ok (.invokevirtual 137, 3) := by decide +kernel
theorem dX3_performRound_89 : decode cX3_performRound 89 = .ok (.ifCond .eq 6, 3) := by decide +kernel
theorem dX3_performRound_92 : decode cX3_performRound 92 = .ok (.iinc 2 1, 3) := by decide +kernel
theorem dX3_performRound_95 : decode cX3_performRound 95 = .ok (.iinc 6 1, 3) := by decide +kernel
theorem dX3_performRound_98 : decode cX3_performRound 98 = .ok (.goto (-47), 3) := by decide +kernel
theorem dX3_performRound_101 : decode cX3_performRound 101 = .ok (.iinc 4 1, 3) := by decide +kernel
theorem dX3_performRound_104 : decode cX3_performRound 104 = .ok (.goto (-71), 3) := by decide +kernel
theorem dX3_performRound_107 : decode cX3_performRound 107 = .ok (.iinc 3 1, 3) := by decide +kernel
theorem dX3_performRound_110 : decode cX3_performRound 110 = .ok (.goto (-91), 3) := by decide +kernel
theorem dX3_performRound_113 : decode cX3_performRound 113 = .ok (.iload_n 2, 1) := by decide +kernel
theorem dX3_performRound_114 : decode cX3_performRound 114 = .ok (.ireturn, 1) := by decide +kernel
theorem dX3_sendTo_0 : decode cX3_sendTo 0 = .ok (.aload_n 0, 1) := by decide +kernel
theorem dX3_sendTo_1 : decode cX3_sendTo 1 = .ok (.getfield 25, 3) := by decide +kernel
theorem dX3_sendTo_4 : decode cX3_sendTo 4 = .ok (.iload_n 2, 1) := by decide +kernel
theorem dX3_sendTo_5 : decode cX3_sendTo 5 = .ok (.iload_n 3, 1) := by decide +kernel
theorem dX3_sendTo_6 : decode cX3_sendTo 6 = .ok (.invokevirtual 141, 3) := by decide +kernel
theorem dX3_sendTo_9 : decode cX3_sendTo 9 = .ok (.istore 5, 2) := by decide +kernel
theorem dX3_sendTo_11 : decode cX3_sendTo 11 = .ok (.iload 5, 2) := by decide +kernel
theorem dX3_sendTo_13 : decode cX3_sendTo 13 = .ok (.iconst (-1), 1) := by decide +kernel
theorem dX3_sendTo_14 : decode cX3_sendTo 14 = .ok (.if_icmp .ne 5, 3) := by decide +kernel
theorem dX3_sendTo_17 : decode cX3_sendTo 17 = .ok (.iconst 0, 1) := by decide +kernel
theorem dX3_sendTo_18 : decode cX3_sendTo 18 = .ok (.ireturn, 1) := by decide +kernel
theorem dX3_sendTo_19 : decode cX3_sendTo 19 = .ok (.aload_n 0, 1) := by decide +kernel
theorem dX3_sendTo_20 : decode cX3_sendTo 20 = .ok (.getfield 25, 3) := by decide +kernel
theorem dX3_sendTo_23 : decode cX3_sendTo 23 = .ok (.getfield 144, 3) := by decide +kernel
theorem dX3_sendTo_26 : decode cX3_sendTo 26 = .ok (.iload 5, 2) := by decide +kernel
theorem dX3_sendTo_28 : decode cX3_sendTo 28 = .ok (.iaload, 1) := by decide +kernel
theorem dX3_sendTo_29 : decode cX3_sendTo 29 = .ok (.iconst 1, 1) := by decide +kernel
theorem dX3_sendTo_30 : decode cX3_sendTo 30 = .ok (.if_icmp .ne 28, 3) := by decide +kernel
theorem dX3_sendTo_33 : decode cX3_sendTo 33 = .ok (.aload_n 0, 1) := by decide +kernel
theorem dX3_sendTo_34 : decode cX3_sendTo 34 = .ok (.getfield 49, 3) := by decide +kernel
theorem dX3_sendTo_37 : decode cX3_sendTo 37 = .ok (.iconst 1, 1) := by decide +kernel
theorem dX3_sendTo_38 : decode cX3_sendTo 38 = .ok (.dup2, 1) := by decide +kernel
theorem dX3_sendTo_39 : decode cX3_sendTo 39 = .ok (.iaload, 1) := by decide +kernel
theorem dX3_sendTo_40 : decode cX3_sendTo 40 = .ok (.iconst 1, 1) := by decide +kernel
theorem dX3_sendTo_41 : decode cX3_sendTo 41 = .ok (.iadd, 1) := by decide +kernel
theorem dX3_sendTo_42 : decode cX3_sendTo 42 = .ok (.iastore, 1) := by decide +kernel
theorem dX3_sendTo_43 : decode cX3_sendTo 43 = .ok (.aload_n 0, 1) := by decide +kernel
theorem dX3_sendTo_44 : decode cX3_sendTo 44 = .ok (.getfield 38, 3) := by decide +kernel
theorem dX3_sendTo_47 : decode cX3_sendTo 47 = .ok (.iload_n 3, 1) := by decide +kernel
theorem dX3_sendTo_48 : decode cX3_sendTo 48 = .ok (.aaload, 1) := by decide +kernel
theorem dX3_sendTo_49 : decode cX3_sendTo 49 = .ok (.iload_n 1, 1) := by decide +kernel
theorem dX3_sendTo_50 : decode cX3_sendTo 50 = .ok (.invokevirtual 59, 3) := by decide +kernel
theorem dX3_sendTo_53 : decode cX3_sendTo 53 = .ok (.ifCond .eq 5, 3) := by decide +kernel
theorem dX3_sendTo_56 : decode cX3_sendTo 56 = .ok (.iconst 0, 1) := by decide +kernel
theorem dX3_sendTo_57 : decode cX3_sendTo 57 = .ok (.ireturn, 1) := by decide +kernel
theorem dX3_sendTo_58 : decode cX3_sendTo 58 = .ok (.aload_n 0, 1) := by decide +kernel
theorem dX3_sendTo_59 : decode cX3_sendTo 59 = .ok (.getfield 49, 3) := by decide +kernel
theorem dX3_sendTo_62 : decode cX3_sendTo 62 = .ok (.iconst 0, 1) := by decide +kernel
theorem dX3_sendTo_63 : decode cX3_sendTo 63 = .ok (.dup2, 1) := by decide +kernel
theorem dX3_sendTo_64 : decode cX3_sendTo 64 = .ok (.iaload, 1) := by decide +kernel
theorem dX3_sendTo_65 : decode cX3_sendTo 65 = .ok (.iconst 1, 1) := by decide +kernel
theorem dX3_sendTo_66 : decode cX3_sendTo 66 = .ok (.iadd, 1) := by decide +kernel
theorem dX3_sendTo_67 : decode cX3_sendTo 67 = .ok (.iastore, 1) := by decide +kernel
theorem dX3_sendTo_68 : decode cX3_sendTo 68 = .ok (.aload_n 0, 1) := by decide +kernel
theorem dX3_sendTo_69 : decode cX3_sendTo 69 = .ok (.iload_n 1, 1) := by decide +kernel
theorem dX3_sendTo_70 : decode cX3_sendTo 70 = .ok (.iload_n 3, 1) := by decide +kernel
theorem dX3_sendTo_71 : decode cX3_sendTo 71 = .ok (.iload 4, 2) := by decide +kernel
theorem dX3_sendTo_73 : decode cX3_sendTo 73 = .ok (.invokevirtual 147, 3) := by decide +kernel
theorem dX3_sendTo_76 : decode cX3_sendTo 76 = .ok (.ireturn, 1) := by decide +kernel
theorem dX3_beginDay_0 : decode cX3_beginDay 0 = .ok (.aload_n 0, 1) := by decide +kernel
theorem dX3_beginDay_1 : decode cX3_beginDay 1 = .ok (.dup, 1) := by decide +kernel
theorem dX3_beginDay_2 : decode cX3_beginDay 2 = .ok (.getfield 9, 3) := by decide +kernel
theorem dX3_beginDay_5 : decode cX3_beginDay 5 = .ok (.iconst 1, 1) := by decide +kernel
theorem dX3_beginDay_6 : decode cX3_beginDay 6 = .ok (.iadd, 1) := by decide +kernel
theorem dX3_beginDay_7 : decode cX3_beginDay 7 = .ok (.putfield 9, 3) := by decide +kernel
theorem dX3_beginDay_10 : decode cX3_beginDay 10 = .ok (.iconst 0, 1) := by decide +kernel
theorem dX3_beginDay_11 : decode cX3_beginDay 11 = .ok (.istore_n 1, 1) := by decide +kernel
theorem dX3_beginDay_12 : decode cX3_beginDay 12 = .ok (.iconst 0, 1) := by decide +kernel
theorem dX3_beginDay_13 : decode cX3_beginDay 13 = .ok (.istore_n 2, 1) := by decide +kernel
theorem dX3_beginDay_14 : decode cX3_beginDay 14 = .ok (.iload_n 2, 1) := by decide +kernel
theorem dX3_beginDay_15 : decode cX3_beginDay 15 = .ok (.bipush 6, 2) := by decide +kernel
theorem dX3_beginDay_17 : decode cX3_beginDay 17 = .ok (.if_icmp .ge 32, 3) := by decide +kernel
theorem dX3_beginDay_20 : decode cX3_beginDay 20 = .ok (.iload_n 1, 1) := by decide +kernel
theorem dX3_beginDay_21 : decode cX3_beginDay 21 = .ok (.aload_n 0, 1) := by decide +kernel
theorem dX3_beginDay_22 : decode cX3_beginDay 22 = .ok (.aload_n 0, 1) := by decide +kernel
theorem dX3_beginDay_23 : decode cX3_beginDay 23 = .ok (.getfield 38, 3) := by decide +kernel
theorem dX3_beginDay_26 : decode cX3_beginDay 26 = .ok (.iload_n 2, 1) := by decide +kernel
theorem dX3_beginDay_27 : decode cX3_beginDay 27 = .ok (.aaload, 1) := by decide +kernel
theorem dX3_beginDay_28 : decode cX3_beginDay 28 = .ok (.invokevirtual 151, 3) := by decide +kernel
theorem dX3_beginDay_31 : decode cX3_beginDay 31 = .ok (.iadd, 1) := by decide +kernel
theorem dX3_beginDay_32 : decode cX3_beginDay 32 = .ok (.istore_n 1, 1) := by decide +kernel
theorem dX3_beginDay_33 : decode cX3_beginDay 33 = .ok (.aload_n 0, 1) := by decide +kernel
theorem dX3_beginDay_34 : decode cX3_beginDay 34 = .ok (.aload_n 0, 1) := by decide +kernel
theorem dX3_beginDay_35 : decode cX3_beginDay 35 = .ok (.getfield 38, 3) := by decide +kernel
theorem dX3_beginDay_38 : decode cX3_beginDay 38 = .ok (.iload_n 2, 1) := by decide +kernel
theorem dX3_beginDay_39 : decode cX3_beginDay 39 = .ok (.aaload, 1) := by decide +kernel
theorem dX3_beginDay_40 : decode cX3_beginDay 40 = .ok (.invokevirtual 155, 3) := by decide +kernel
theorem dX3_beginDay_43 : decode cX3_beginDay 43 = .ok (.iinc 2 1, 3) := by decide +kernel
theorem dX3_beginDay_46 : decode cX3_beginDay 46 = .ok (.goto (-32), 3) := by decide +kernel
theorem dX3_beginDay_49 : decode cX3_beginDay 49 = .ok (.iload_n 1, 1) := by decide +kernel
theorem dX3_beginDay_50 : decode cX3_beginDay 50 = .ok (.ireturn, 1) := by decide +kernel
theorem dX3_expireStore_0 : decode cX3_expireStore 0 = .ok (.iconst 0, 1) := by decide +kernel
theorem dX3_expireStore_1 : decode cX3_expireStore 1 = .ok (.istore_n 2, 1) := by decide +kernel
theorem dX3_expireStore_2 : decode cX3_expireStore 2 = .ok (.iconst 0, 1) := by decide +kernel
theorem dX3_expireStore_3 : decode cX3_expireStore 3 = .ok (.istore_n 3, 1) := by decide +kernel
theorem dX3_expireStore_4 : decode cX3_expireStore 4 = .ok (.iload_n 3, 1) := by decide +kernel
theorem dX3_expireStore_5 : decode cX3_expireStore 5 = .ok (.aload_n 0, 1) := by decide +kernel
theorem dX3_expireStore_6 : decode cX3_expireStore 6 = .ok (.getfield 32, 3) := by decide +kernel
theorem dX3_expireStore_9 : decode cX3_expireStore 9 = .ok (.getfield 121, 3) := by decide +kernel
theorem dX3_expireStore_12 : decode cX3_expireStore 12 = .ok (.if_icmp .ge 60, 3) := by decide +kernel
theorem dX3_expireStore_15 : decode cX3_expireStore 15 = .ok (.aload_n 0, 1) := by decide +kernel
theorem dX3_expireStore_16 : decode cX3_expireStore 16 = .ok (.getfield 9, 3) := by decide +kernel
theorem dX3_expireStore_19 : decode cX3_expireStore 19 = .ok (.aload_n 0, 1) := by decide +kernel
theorem dX3_expireStore_20 : decode cX3_expireStore 20 = .ok (.getfield 32, 3) := by decide +kernel
theorem dX3_expireStore_23 : decode cX3_expireStore 23 = .ok (.getfield 63, 3) := by decide +kernel
theorem dX3_expireStore_26 : decode cX3_expireStore 26 = .ok (.iload_n 3, 1) := by decide +kernel
theorem dX3_expireStore_27 : decode cX3_expireStore 27 = .ok (.iaload, 1) := by decide +kernel
theorem dX3_expireStore_28 : decode cX3_expireStore 28 = .ok (.isub, 1) := by decide +kernel
theorem dX3_expireStore_29 : decode cX3_expireStore 29 = .ok (.istore 4, 2) := by decide +kernel
theorem dX3_expireStore_31 : decode cX3_expireStore 31 = .ok (.aload_n 1, 1) := by decide +kernel
theorem dX3_expireStore_32 : decode cX3_expireStore 32 = .ok (.iload_n 3, 1) := by decide +kernel
theorem dX3_expireStore_33 : decode cX3_expireStore 33 = .ok (.invokevirtual 104, 3) := by decide +kernel
theorem dX3_expireStore_36 : decode cX3_expireStore 36 = .ok (.ifCond .eq 30, 3) := by decide +kernel
theorem dX3_expireStore_39 : decode cX3_expireStore 39 = .ok (.iload 4, 2) := by decide +kernel
theorem dX3_expireStore_41 : decode cX3_expireStore 41 = .ok (.aload_n 0, 1) := by decide +kernel
theorem dX3_expireStore_42 : decode cX3_expireStore 42 = .ok (.getfield 18, 3) := by decide +kernel
theorem dX3_expireStore_45 : decode cX3_expireStore 45 = .ok (.aload_n 0, 1) := by decide +kernel
theorem dX3_expireStore_46 : decode cX3_expireStore 46 = .ok (.getfield 32, 3) := by decide +kernel
theorem dX3_expireStore_49 : decode cX3_expireStore 49 = .ok (.getfield 76, 3) := by decide +kernel
theorem dX3_expireStore_52 : decode cX3_expireStore 52 = .ok (.iload_n 3, 1) := by decide +kernel
theorem dX3_expireStore_53 : decode cX3_expireStore 53 = .ok (.iaload, 1) := by decide +kernel
theorem dX3_expireStore_54 : decode cX3_expireStore 54 = .ok (.iaload, 1) := by decide +kernel
theorem dX3_expireStore_55 : decode cX3_expireStore 55 = .ok (.if_icmp .lt 11, 3) := by decide +kernel
theorem dX3_expireStore_58 : decode cX3_expireStore 58 = .ok (.aload_n 1, 1) := by decide +kernel
theorem dX3_expireStore_59 : decode cX3_expireStore 59 = .ok (.iload_n 3, 1) := by decide +kernel
theorem dX3_expireStore_60 : decode cX3_expireStore 60 = .ok (.invokevirtual 107, 3) := by decide +kernel
theorem dX3_expireStore_63 : decode cX3_expireStore 63 = .ok (.iinc 2 1, 3) := by decide +kernel
theorem dX3_expireStore_66 : decode cX3_expireStore 66 = .ok (.iinc 3 1, 3) := by decide +kernel
theorem dX3_expireStore_69 : decode cX3_expireStore 69 = .ok (.goto (-65), 3) := by decide +kernel
theorem dX3_expireStore_72 : decode cX3_expireStore 72 = .ok (.iload_n 2, 1) := by decide +kernel
theorem dX3_expireStore_73 : decode cX3_expireStore 73 = .ok (.ireturn, 1) := by decide +kernel
theorem dX3_forgetOld_0 : decode cX3_forgetOld 0 = .ok (.iconst 0, 1) := by decide +kernel
theorem dX3_forgetOld_1 : decode cX3_forgetOld 1 = .ok (.istore_n 2, 1) := by decide +kernel
theorem dX3_forgetOld_2 : decode cX3_forgetOld 2 = .ok (.iload_n 2, 1) := by decide +kernel
theorem dX3_forgetOld_3 : decode cX3_forgetOld 3 = .ok (.aload_n 0, 1) := by decide +kernel
theorem dX3_forgetOld_4 : decode cX3_forgetOld 4 = .ok (.getfield 32, 3) := by decide +kernel
theorem dX3_forgetOld_7 : decode cX3_forgetOld 7 = .ok (.getfield 121, 3) := by decide +kernel
theorem dX3_forgetOld_10 : decode cX3_forgetOld 10 = .ok (.if_icmp .ge 42, 3) := by decide +kernel
theorem dX3_forgetOld_13 : decode cX3_forgetOld 13 = .ok (.aload_n 1, 1) := by decide +kernel
theorem dX3_forgetOld_14 : decode cX3_forgetOld 14 = .ok (.iload_n 2, 1) := by decide +kernel
theorem dX3_forgetOld_15 : decode cX3_forgetOld 15 = .ok (.invokevirtual 59, 3) := by decide +kernel
theorem dX3_forgetOld_18 : decode cX3_forgetOld 18 = .ok (.ifCond .eq 28, 3) := by decide +kernel
theorem dX3_forgetOld_21 : decode cX3_forgetOld 21 = .ok (.aload_n 0, 1) := by decide +kernel
theorem dX3_forgetOld_22 : decode cX3_forgetOld 22 = .ok (.getfield 9, 3) := by decide +kernel
theorem dX3_forgetOld_25 : decode cX3_forgetOld 25 = .ok (.aload_n 1, 1) := by decide +kernel
theorem dX3_forgetOld_26 : decode cX3_forgetOld 26 = .ok (.getfield 66, 3) := by decide +kernel
theorem dX3_forgetOld_29 : decode cX3_forgetOld 29 = .ok (.iload_n 2, 1) := by decide +kernel
theorem dX3_forgetOld_30 : decode cX3_forgetOld 30 = .ok (.iaload, 1) := by decide +kernel
theorem dX3_forgetOld_31 : decode cX3_forgetOld 31 = .ok (.isub, 1) := by decide +kernel
theorem dX3_forgetOld_32 : decode cX3_forgetOld 32 = .ok (.aload_n 0, 1) := by decide +kernel
theorem dX3_forgetOld_33 : decode cX3_forgetOld 33 = .ok (.getfield 15, 3) := by decide +kernel
theorem dX3_forgetOld_36 : decode cX3_forgetOld 36 = .ok (.if_icmp .lt 10, 3) := by decide +kernel
theorem dX3_forgetOld_39 : decode cX3_forgetOld 39 = .ok (.aload_n 1, 1) := by decide +kernel
theorem dX3_forgetOld_40 : decode cX3_forgetOld 40 = .ok (.getfield 66, 3) := by decide +kernel
theorem dX3_forgetOld_43 : decode cX3_forgetOld 43 = .ok (.iload_n 2, 1) := by decide +kernel
theorem dX3_forgetOld_44 : decode cX3_forgetOld 44 = .ok (.iconst (-1), 1) := by decide +kernel
theorem dX3_forgetOld_45 : decode cX3_forgetOld 45 = .ok (.iastore, 1) := by decide +kernel
theorem dX3_forgetOld_46 : decode cX3_forgetOld 46 = .ok (.iinc 2 1, 3) := by decide +kernel
theorem dX3_forgetOld_49 : decode cX3_forgetOld 49 = .ok (.goto (-47), 3) := by decide +kernel
theorem dX3_forgetOld_52 : decode cX3_forgetOld 52 = .ok (.return_, 1) := by decide +kernel
theorem dX3_copyFrom_0 : decode cX3_copyFrom 0 = .ok (.aload_n 0, 1) := by decide +kernel
theorem dX3_copyFrom_1 : decode cX3_copyFrom 1 = .ok (.aload_n 1, 1) := by decide +kernel
theorem dX3_copyFrom_2 : decode cX3_copyFrom 2 = .ok (.getfield 9, 3) := by decide +kernel
theorem dX3_copyFrom_5 : decode cX3_copyFrom 5 = .ok (.putfield 9, 3) := by decide +kernel
theorem dX3_copyFrom_8 : decode cX3_copyFrom 8 = .ok (.aload_n 0, 1) := by decide +kernel
theorem dX3_copyFrom_9 : decode cX3_copyFrom 9 = .ok (.aload_n 1, 1) := by decide +kernel
theorem dX3_copyFrom_10 : decode cX3_copyFrom 10 = .ok (.getfield 15, 3) := by decide +kernel
theorem dX3_copyFrom_13 : decode cX3_copyFrom 13 = .ok (.putfield 15, 3) := by decide +kernel
theorem dX3_copyFrom_16 : decode cX3_copyFrom 16 = .ok (.aload_n 1, 1) := by decide +kernel
theorem dX3_copyFrom_17 : decode cX3_copyFrom 17 = .ok (.getfield 18, 3) := by decide +kernel
theorem dX3_copyFrom_20 : decode cX3_copyFrom 20 = .ok (.iconst 0, 1) := by decide +kernel
theorem dX3_copyFrom_21 : decode cX3_copyFrom 21 = .ok (.aload_n 0, 1) := by decide +kernel
theorem dX3_copyFrom_22 : decode cX3_copyFrom 22 = .ok (.getfield 18, 3) := by decide +kernel
theorem dX3_copyFrom_25 : decode cX3_copyFrom 25 = .ok (.iconst 0, 1) := by decide +kernel
theorem dX3_copyFrom_26 : decode cX3_copyFrom 26 = .ok (.iconst 4, 1) := by decide +kernel
theorem dX3_copyFrom_27 : decode cX3_copyFrom 27 = .ok (.invokestatic 159, 3) := by decide +kernel
theorem dX3_copyFrom_30 : decode cX3_copyFrom 30 = .ok (.aload_n 0, 1) := by decide +kernel
theorem dX3_copyFrom_31 : decode cX3_copyFrom 31 = .ok (.getfield 25, 3) := by decide +kernel
theorem dX3_copyFrom_34 : decode cX3_copyFrom 34 = .ok (.aload_n 1, 1) := by decide +kernel
theorem dX3_copyFrom_35 : decode cX3_copyFrom 35 = .ok (.getfield 25, 3) := by decide +kernel
theorem dX3_copyFrom_38 : decode cX3_copyFrom 38 = .ok (.invokevirtual 165, 3) := by decide +kernel
theorem dX3_copyFrom_41 : decode cX3_copyFrom 41 = .ok (.aload_n 0, 1) := by decide +kernel
theorem dX3_copyFrom_42 : decode cX3_copyFrom 42 = .ok (.getfield 32, 3) := by decide +kernel
theorem dX3_copyFrom_45 : decode cX3_copyFrom 45 = .ok (.aload_n 1, 1) := by decide +kernel
theorem dX3_copyFrom_46 : decode cX3_copyFrom 46 = .ok (.getfield 32, 3) := by decide +kernel
theorem dX3_copyFrom_49 : decode cX3_copyFrom 49 = .ok (.invokevirtual 168, 3) := by decide +kernel
theorem dX3_copyFrom_52 : decode cX3_copyFrom 52 = .ok (.iconst 0, 1) := by decide +kernel
theorem dX3_copyFrom_53 : decode cX3_copyFrom 53 = .ok (.istore_n 2, 1) := by decide +kernel
theorem dX3_copyFrom_54 : decode cX3_copyFrom 54 = .ok (.iload_n 2, 1) := by decide +kernel
theorem dX3_copyFrom_55 : decode cX3_copyFrom 55 = .ok (.bipush 6, 2) := by decide +kernel
theorem dX3_copyFrom_57 : decode cX3_copyFrom 57 = .ok (.if_icmp .ge 24, 3) := by decide +kernel
theorem dX3_copyFrom_60 : decode cX3_copyFrom 60 = .ok (.aload_n 0, 1) := by decide +kernel
theorem dX3_copyFrom_61 : decode cX3_copyFrom 61 = .ok (.getfield 38, 3) := by decide +kernel
theorem dX3_copyFrom_64 : decode cX3_copyFrom 64 = .ok (.iload_n 2, 1) := by decide +kernel
theorem dX3_copyFrom_65 : decode cX3_copyFrom 65 = .ok (.aaload, 1) := by decide +kernel
theorem dX3_copyFrom_66 : decode cX3_copyFrom 66 = .ok (.aload_n 1, 1) := by decide +kernel
theorem dX3_copyFrom_67 : decode cX3_copyFrom 67 = .ok (.getfield 38, 3) := by decide +kernel
theorem dX3_copyFrom_70 : decode cX3_copyFrom 70 = .ok (.iload_n 2, 1) := by decide +kernel
theorem dX3_copyFrom_71 : decode cX3_copyFrom 71 = .ok (.aaload, 1) := by decide +kernel
theorem dX3_copyFrom_72 : decode cX3_copyFrom 72 = .ok (.invokevirtual 171, 3) := by decide +kernel
theorem dX3_copyFrom_75 : decode cX3_copyFrom 75 = .ok (.iinc 2 1, 3) := by decide +kernel
theorem dX3_copyFrom_78 : decode cX3_copyFrom 78 = .ok (.goto (-24), 3) := by decide +kernel
theorem dX3_copyFrom_81 : decode cX3_copyFrom 81 = .ok (.aload_n 0, 1) := by decide +kernel
theorem dX3_copyFrom_82 : decode cX3_copyFrom 82 = .ok (.getfield 45, 3) := by decide +kernel
theorem dX3_copyFrom_85 : decode cX3_copyFrom 85 = .ok (.aload_n 1, 1) := by decide +kernel
theorem dX3_copyFrom_86 : decode cX3_copyFrom 86 = .ok (.getfield 45, 3) := by decide +kernel
theorem dX3_copyFrom_89 : decode cX3_copyFrom 89 = .ok (.invokevirtual 114, 3) := by decide +kernel
theorem dX3_copyFrom_92 : decode cX3_copyFrom 92 = .ok (.aload_n 1, 1) := by decide +kernel
theorem dX3_copyFrom_93 : decode cX3_copyFrom 93 = .ok (.getfield 49, 3) := by decide +kernel
theorem dX3_copyFrom_96 : decode cX3_copyFrom 96 = .ok (.iconst 0, 1) := by decide +kernel
theorem dX3_copyFrom_97 : decode cX3_copyFrom 97 = .ok (.aload_n 0, 1) := by decide +kernel
theorem dX3_copyFrom_98 : decode cX3_copyFrom 98 = .ok (.getfield 49, 3) := by decide +kernel
theorem dX3_copyFrom_101 : decode cX3_copyFrom 101 = .ok (.iconst 0, 1) := by decide +kernel
theorem dX3_copyFrom_102 : decode cX3_copyFrom 102 = .ok (.bipush 6, 2) := by decide +kernel
theorem dX3_copyFrom_104 : decode cX3_copyFrom 104 = .ok (.invokestatic 159, 3) := by decide +kernel
theorem dX3_copyFrom_107 : decode cX3_copyFrom 107 = .ok (.return_, 1) := by decide +kernel
theorem dX4_init_0 : decode cX4_init 0 = .ok (.aload_n 0, 1) := by decide +kernel
theorem dX4_init_1 : decode cX4_init 1 = .ok (.invokespecial 3, 3) := by decide +kernel
theorem dX4_init_4 : decode cX4_init 4 = .ok (.aload_n 0, 1) := by decide +kernel
theorem dX4_init_5 : decode cX4_init 5 = .ok (.sipush 180, 3) := by decide +kernel
theorem dX4_init_8 : decode cX4_init 8 = .ok (.newarray .int, 2) := by decide +kernel
theorem dX4_init_10 : decode cX4_init 10 = .ok (.putfield 9, 3) := by decide +kernel
theorem dX4_init_13 : decode cX4_init 13 = .ok (.aload_n 0, 1) := by decide +kernel
theorem dX4_init_14 : decode cX4_init 14 = .ok (.sipush 180, 3) := by decide +kernel
theorem dX4_init_17 : decode cX4_init 17 = .ok (.newarray .int, 2) := by decide +kernel
theorem dX4_init_19 : decode cX4_init 19 = .ok (.putfield 15, 3) := by decide +kernel
theorem dX4_init_22 : decode cX4_init 22 = .ok (.return_, 1) := by decide +kernel
theorem dX4_slot_0 : decode cX4_slot 0 = .ok (.iload_n 0, 1) := by decide +kernel
theorem dX4_slot_1 : decode cX4_slot 1 = .ok (.bipush 6, 2) := by decide +kernel
theorem dX4_slot_3 : decode cX4_slot 3 = .ok (.imul, 1) := by decide +kernel
theorem dX4_slot_4 : decode cX4_slot 4 = .ok (.iload_n 1, 1) := by decide +kernel
theorem dX4_slot_5 : decode cX4_slot 5 = .ok (.iadd, 1) := by decide +kernel
theorem dX4_slot_6 : decode cX4_slot 6 = .ok (.ireturn, 1) := by decide +kernel
theorem dX4_put_0 : decode cX4_put 0 = .ok (.aload_n 0, 1) := by decide +kernel
theorem dX4_put_1 : decode cX4_put 1 = .ok (.getfield 9, 3) := by decide +kernel
theorem dX4_put_4 : decode cX4_put 4 = .ok (.iload_n 1, 1) := by decide +kernel
theorem dX4_put_5 : decode cX4_put 5 = .ok (.iload_n 2, 1) := by decide +kernel
theorem dX4_put_6 : decode cX4_put 6 = .ok (.invokestatic 18, 3) := by decide +kernel
theorem dX4_put_9 : decode cX4_put 9 = .ok (.iload_n 3, 1) := by decide +kernel
theorem dX4_put_10 : decode cX4_put 10 = .ok (.iastore, 1) := by decide +kernel
theorem dX4_put_11 : decode cX4_put 11 = .ok (.aload_n 0, 1) := by decide +kernel
theorem dX4_put_12 : decode cX4_put 12 = .ok (.getfield 15, 3) := by decide +kernel
theorem dX4_put_15 : decode cX4_put 15 = .ok (.iload_n 1, 1) := by decide +kernel
theorem dX4_put_16 : decode cX4_put 16 = .ok (.iload_n 2, 1) := by decide +kernel
theorem dX4_put_17 : decode cX4_put 17 = .ok (.invokestatic 18, 3) := by decide +kernel
theorem dX4_put_20 : decode cX4_put 20 = .ok (.iload 4, 2) := by decide +kernel
theorem dX4_put_22 : decode cX4_put 22 = .ok (.iastore, 1) := by decide +kernel
theorem dX4_put_23 : decode cX4_put 23 = .ok (.return_, 1) := by decide +kernel
theorem dX4_size_0 : decode cX4_size 0 = .ok (.iconst 0, 1) := by decide +kernel
theorem dX4_size_1 : decode cX4_size 1 = .ok (.istore_n 1, 1) := by decide +kernel
theorem dX4_size_2 : decode cX4_size 2 = .ok (.aload_n 0, 1) := by decide +kernel
theorem dX4_size_3 : decode cX4_size 3 = .ok (.getfield 9, 3) := by decide +kernel
theorem dX4_size_6 : decode cX4_size 6 = .ok (.astore_n 2, 1) := by decide +kernel
theorem dX4_size_7 : decode cX4_size 7 = .ok (.aload_n 2, 1) := by decide +kernel
theorem dX4_size_8 : decode cX4_size 8 = .ok (.arraylength, 1) := by decide +kernel
theorem dX4_size_9 : decode cX4_size 9 = .ok (.istore_n 3, 1) := by decide +kernel
theorem dX4_size_10 : decode cX4_size 10 = .ok (.iconst 0, 1) := by decide +kernel
theorem dX4_size_11 : decode cX4_size 11 = .ok (.istore 4, 2) := by decide +kernel
theorem dX4_size_13 : decode cX4_size 13 = .ok (.iload 4, 2) := by decide +kernel
theorem dX4_size_15 : decode cX4_size 15 = .ok (.iload_n 3, 1) := by decide +kernel
theorem dX4_size_16 : decode cX4_size 16 = .ok (.if_icmp .ge 23, 3) := by decide +kernel
theorem dX4_size_19 : decode cX4_size 19 = .ok (.aload_n 2, 1) := by decide +kernel
theorem dX4_size_20 : decode cX4_size 20 = .ok (.iload 4, 2) := by decide +kernel
theorem dX4_size_22 : decode cX4_size 22 = .ok (.iaload, 1) := by decide +kernel
theorem dX4_size_23 : decode cX4_size 23 = .ok (.istore 5, 2) := by decide +kernel
theorem dX4_size_25 : decode cX4_size 25 = .ok (.iload_n 1, 1) := by decide +kernel
theorem dX4_size_26 : decode cX4_size 26 = .ok (.iload 5, 2) := by decide +kernel
theorem dX4_size_28 : decode cX4_size 28 = .ok (.invokestatic 22, 3) := by decide +kernel
theorem dX4_size_31 : decode cX4_size 31 = .ok (.iadd, 1) := by decide +kernel
theorem dX4_size_32 : decode cX4_size 32 = .ok (.istore_n 1, 1) := by decide +kernel
theorem dX4_size_33 : decode cX4_size 33 = .ok (.iinc 4 1, 3) := by decide +kernel
theorem dX4_size_36 : decode cX4_size 36 = .ok (.goto (-23), 3) := by decide +kernel
theorem dX4_size_39 : decode cX4_size 39 = .ok (.iload_n 1, 1) := by decide +kernel
theorem dX4_size_40 : decode cX4_size 40 = .ok (.ireturn, 1) := by decide +kernel
theorem dX4_makeEmpty_0 : decode cX4_makeEmpty 0 = .ok (.aload_n 0, 1) := by decide +kernel
theorem dX4_makeEmpty_1 : decode cX4_makeEmpty 1 = .ok (.getfield 9, 3) := by decide +kernel
theorem dX4_makeEmpty_4 : decode cX4_makeEmpty 4 = .ok (.iconst 0, 1) := by decide +kernel
theorem dX4_makeEmpty_5 : decode cX4_makeEmpty 5 = .ok (.invokestatic 28, 3) := by decide +kernel
theorem dX4_makeEmpty_8 : decode cX4_makeEmpty 8 = .ok (.aload_n 0, 1) := by decide +kernel
theorem dX4_makeEmpty_9 : decode cX4_makeEmpty 9 = .ok (.getfield 15, 3) := by decide +kernel
theorem dX4_makeEmpty_12 : decode cX4_makeEmpty 12 = .ok (.iconst 0, 1) := by decide +kernel
theorem dX4_makeEmpty_13 : decode cX4_makeEmpty 13 = .ok (.invokestatic 28, 3) := by decide +kernel
theorem dX4_makeEmpty_16 : decode cX4_makeEmpty 16 = .ok (.return_, 1) := by decide +kernel
theorem dX4_copyFrom_0 : decode cX4_copyFrom 0 = .ok (.aload_n 1, 1) := by decide +kernel
theorem dX4_copyFrom_1 : decode cX4_copyFrom 1 = .ok (.getfield 9, 3) := by decide +kernel
theorem dX4_copyFrom_4 : decode cX4_copyFrom 4 = .ok (.iconst 0, 1) := by decide +kernel
theorem dX4_copyFrom_5 : decode cX4_copyFrom 5 = .ok (.aload_n 0, 1) := by decide +kernel
theorem dX4_copyFrom_6 : decode cX4_copyFrom 6 = .ok (.getfield 9, 3) := by decide +kernel
theorem dX4_copyFrom_9 : decode cX4_copyFrom 9 = .ok (.iconst 0, 1) := by decide +kernel
theorem dX4_copyFrom_10 : decode cX4_copyFrom 10 = .ok (.aload_n 0, 1) := by decide +kernel
theorem dX4_copyFrom_11 : decode cX4_copyFrom 11 = .ok (.getfield 9, 3) := by decide +kernel
theorem dX4_copyFrom_14 : decode cX4_copyFrom 14 = .ok (.arraylength, 1) := by decide +kernel
theorem dX4_copyFrom_15 : decode cX4_copyFrom 15 = .ok (.invokestatic 34, 3) := by decide +kernel
theorem dX4_copyFrom_18 : decode cX4_copyFrom 18 = .ok (.aload_n 1, 1) := by decide +kernel
theorem dX4_copyFrom_19 : decode cX4_copyFrom 19 = .ok (.getfield 15, 3) := by decide +kernel
theorem dX4_copyFrom_22 : decode cX4_copyFrom 22 = .ok (.iconst 0, 1) := by decide +kernel
theorem dX4_copyFrom_23 : decode cX4_copyFrom 23 = .ok (.aload_n 0, 1) := by decide +kernel
theorem dX4_copyFrom_24 : decode cX4_copyFrom 24 = .ok (.getfield 15, 3) := by decide +kernel
theorem dX4_copyFrom_27 : decode cX4_copyFrom 27 = .ok (.iconst 0, 1) := by decide +kernel
theorem dX4_copyFrom_28 : decode cX4_copyFrom 28 = .ok (.aload_n 0, 1) := by decide +kernel
theorem dX4_copyFrom_29 : decode cX4_copyFrom 29 = .ok (.getfield 15, 3) := by decide +kernel
theorem dX4_copyFrom_32 : decode cX4_copyFrom 32 = .ok (.arraylength, 1) := by decide +kernel
theorem dX4_copyFrom_33 : decode cX4_copyFrom 33 = .ok (.invokestatic 34, 3) := by decide +kernel
theorem dX4_copyFrom_36 : decode cX4_copyFrom 36 = .ok (.return_, 1) := by decide +kernel
theorem dX5_init_0 : decode cX5_init 0 = .ok (.aload_n 0, 1) := by decide +kernel
theorem dX5_init_1 : decode cX5_init 1 = .ok (.invokespecial 3, 3) := by decide +kernel
theorem dX5_init_4 : decode cX5_init 4 = .ok (.aload_n 0, 1) := by decide +kernel
theorem dX5_init_5 : decode cX5_init 5 = .ok (.new 9, 3) := by decide +kernel
theorem dX5_init_8 : decode cX5_init 8 = .ok (.dup, 1) := by decide +kernel
theorem dX5_init_9 : decode cX5_init 9 = .ok (.invokespecial 11, 3) := by decide +kernel
theorem dX5_init_12 : decode cX5_init 12 = .ok (.putfield 12, 3) := by decide +kernel
theorem dX5_init_15 : decode cX5_init 15 = .ok (.aload_n 0, 1) := by decide +kernel
theorem dX5_init_16 : decode cX5_init 16 = .ok (.new 16, 3) := by decide +kernel
theorem dX5_init_19 : decode cX5_init 19 = .ok (.dup, 1) := by decide +kernel
theorem dX5_init_20 : decode cX5_init 20 = .ok (.invokespecial 18, 3) := by decide +kernel
theorem dX5_init_23 : decode cX5_init 23 = .ok (.putfield 19, 3) := by decide +kernel
theorem dX5_init_26 : decode cX5_init 26 = .ok (.aload_n 0, 1) := by decide +kernel
theorem dX5_init_27 : decode cX5_init 27 = .ok (.iconst 4, 1) := by decide +kernel
theorem dX5_init_28 : decode cX5_init 28 = .ok (.anewarray 9, 3) := by decide +kernel
theorem dX5_init_31 : decode cX5_init 31 = .ok (.putfield 23, 3) := by decide +kernel
theorem dX5_init_34 : decode cX5_init 34 = .ok (.aload_n 0, 1) := by decide +kernel
theorem dX5_init_35 : decode cX5_init 35 = .ok (.iconst 0, 1) := by decide +kernel
theorem dX5_init_36 : decode cX5_init 36 = .ok (.putfield 27, 3) := by decide +kernel
theorem dX5_init_39 : decode cX5_init 39 = .ok (.aload_n 0, 1) := by decide +kernel
theorem dX5_init_40 : decode cX5_init 40 = .ok (.iconst 4, 1) := by decide +kernel
theorem dX5_init_41 : decode cX5_init 41 = .ok (.newarray .int, 2) := by decide +kernel
theorem dX5_init_43 : decode cX5_init 43 = .ok (.putfield 31, 3) := by decide +kernel
theorem dX5_init_46 : decode cX5_init 46 = .ok (.iconst 0, 1) := by decide +kernel
theorem dX5_init_47 : decode cX5_init 47 = .ok (.istore_n 1, 1) := by decide +kernel
theorem dX5_init_48 : decode cX5_init 48 = .ok (.iload_n 1, 1) := by decide +kernel
theorem dX5_init_49 : decode cX5_init 49 = .ok (.iconst 4, 1) := by decide +kernel
theorem dX5_init_50 : decode cX5_init 50 = .ok (.if_icmp .ge 22, 3) := by decide +kernel
theorem dX5_init_53 : decode cX5_init 53 = .ok (.aload_n 0, 1) := by decide +kernel
theorem dX5_init_54 : decode cX5_init 54 = .ok (.getfield 23, 3) := by decide +kernel
theorem dX5_init_57 : decode cX5_init 57 = .ok (.iload_n 1, 1) := by decide +kernel
theorem dX5_init_58 : decode cX5_init 58 = .ok (.new 9, 3) := by decide +kernel
theorem dX5_init_61 : decode cX5_init 61 = .ok (.dup, 1) := by decide +kernel
theorem dX5_init_62 : decode cX5_init 62 = .ok (.invokespecial 11, 3) := by decide +kernel
theorem dX5_init_65 : decode cX5_init 65 = .ok (.aastore, 1) := by decide +kernel
theorem dX5_init_66 : decode cX5_init 66 = .ok (.iinc 1 1, 3) := by decide +kernel
theorem dX5_init_69 : decode cX5_init 69 = .ok (.goto (-21), 3) := by decide +kernel
theorem dX5_init_72 : decode cX5_init 72 = .ok (.return_, 1) := by decide +kernel
theorem dX5_addLink_0 : decode cX5_addLink 0 = .ok (.iload_n 1, 1) := by decide +kernel
theorem dX5_addLink_1 : decode cX5_addLink 1 = .ok (.bipush 6, 2) := by decide +kernel
theorem dX5_addLink_3 : decode cX5_addLink 3 = .ok (.invokestatic 35, 3) := by decide +kernel
theorem dX5_addLink_6 : decode cX5_addLink 6 = .ok (.ifCond .eq 25, 3) := by decide +kernel
theorem dX5_addLink_9 : decode cX5_addLink 9 = .ok (.iload_n 2, 1) := by decide +kernel
theorem dX5_addLink_10 : decode cX5_addLink 10 = .ok (.bipush 6, 2) := by decide +kernel
theorem dX5_addLink_12 : decode cX5_addLink 12 = .ok (.invokestatic 35, 3) := by decide +kernel
theorem dX5_addLink_15 : decode cX5_addLink 15 = .ok (.ifCond .eq 16, 3) := by decide +kernel
theorem dX5_addLink_18 : decode cX5_addLink 18 = .ok (.iload_n 1, 1) := by decide +kernel
theorem dX5_addLink_19 : decode cX5_addLink 19 = .ok (.iload_n 2, 1) := by decide +kernel
theorem dX5_addLink_20 : decode cX5_addLink 20 = .ok (.if_icmp .eq 11, 3) := by decide +kernel
theorem dX5_addLink_23 : decode cX5_addLink 23 = .ok (.iload_n 3, 1) := by decide +kernel
theorem dX5_addLink_24 : decode cX5_addLink 24 = .ok (.iconst 2, 1) := by decide +kernel
theorem dX5_addLink_25 : decode cX5_addLink 25 = .ok (.invokestatic 35, 3) := by decide +kernel
theorem dX5_addLink_28 : decode cX5_addLink 28 = .ok (.ifCond .ne 10, 3) := by decide +kernel
theorem dX5_addLink_31 : decode cX5_addLink 31 = .ok (.aload_n 0, 1) := by decide +kernel
theorem dX5_addLink_32 : decode cX5_addLink 32 = .ok (.bipush (-2), 2) := by decide +kernel
theorem dX5_addLink_34 : decode cX5_addLink 34 = .ok (.invokevirtual 39, 3) := by decide +kernel
theorem dX5_addLink_37 : decode cX5_addLink 37 = .ok (.ireturn, 1) := by decide +kernel
theorem dX5_addLink_38 : decode cX5_addLink 38 = .ok (.aload_n 0, 1) := by decide +kernel
theorem dX5_addLink_39 : decode cX5_addLink 39 = .ok (.getfield 12, 3) := by decide +kernel
theorem dX5_addLink_42 : decode cX5_addLink 42 = .ok (.getfield 43, 3) := by decide +kernel
theorem dX5_addLink_45 : decode cX5_addLink 45 = .ok (.iload_n 1, 1) := by decide +kernel
theorem dX5_addLink_46 : decode cX5_addLink 46 = .ok (.iload_n 2, 1) := by decide +kernel
theorem dX5_addLink_47 : decode cX5_addLink 47 = .ok (.invokevirtual 47, 3) := by decide +kernel
theorem dX5_addLink_50 : decode cX5_addLink 50 = .ok (.iconst (-1), 1) := by decide +kernel
theorem dX5_addLink_51 : decode cX5_addLink 51 = .ok (.if_icmp .eq 10, 3) := by decide +kernel
theorem dX5_addLink_54 : decode cX5_addLink 54 = .ok (.aload_n 0, 1) := by decide +kernel
theorem dX5_addLink_55 : decode cX5_addLink 55 = .ok (.bipush (-3), 2) := by decide +kernel
theorem dX5_addLink_57 : decode cX5_addLink 57 = .ok (.invokevirtual 39, 3) := by decide +kernel
theorem dX5_addLink_60 : decode cX5_addLink 60 = .ok (.ireturn, 1) := by decide +kernel
theorem dX5_addLink_61 : decode cX5_addLink 61 = .ok (.aload_n 0, 1) := by decide +kernel
theorem dX5_addLink_62 : decode cX5_addLink 62 = .ok (.getfield 12, 3) := by decide +kernel
theorem dX5_addLink_65 : decode cX5_addLink 65 = .ok (.getfield 43, 3) := by decide +kernel
theorem dX5_addLink_68 : decode cX5_addLink 68 = .ok (.getfield 53, 3) := by decide +kernel
theorem dX5_addLink_71 : decode cX5_addLink 71 = .ok (.bipush 12, 2) := by decide +kernel
theorem dX5_addLink_73 : decode cX5_addLink 73 = .ok (.if_icmp .lt 10, 3) := by decide +kernel
theorem dX5_addLink_76 : decode cX5_addLink 76 = .ok (.aload_n 0, 1) := by decide +kernel
theorem dX5_addLink_77 : decode cX5_addLink 77 = .ok (.bipush (-4), 2) := by decide +kernel
theorem dX5_addLink_79 : decode cX5_addLink 79 = .ok (.invokevirtual 39, 3) := by decide +kernel
theorem dX5_addLink_82 : decode cX5_addLink 82 = .ok (.ireturn, 1) := by decide +kernel
theorem dX5_addLink_83 : decode cX5_addLink 83 = .ok (.aload_n 0, 1) := by decide +kernel
theorem dX5_addLink_84 : decode cX5_addLink 84 = .ok (.invokevirtual 56, 3) := by decide +kernel
theorem dX5_addLink_87 : decode cX5_addLink 87 = .ok (.aload_n 0, 1) := by decide +kernel
theorem dX5_addLink_88 : decode cX5_addLink 88 = .ok (.getfield 12, 3) := by decide +kernel
theorem dX5_addLink_91 : decode cX5_addLink 91 = .ok (.getfield 43, 3) := by decide +kernel
theorem dX5_addLink_94 : decode cX5_addLink 94 = .ok (.iload_n 1, 1) := by decide +kernel
theorem dX5_addLink_95 : decode cX5_addLink 95 = .ok (.iload_n 2, 1) := by decide +kernel
theorem dX5_addLink_96 : decode cX5_addLink 96 = .ok (.iload_n 3, 1) := by decide +kernel
theorem dX5_addLink_97 : decode cX5_addLink 97 = .ok (.invokevirtual 59, 3) := by decide +kernel
theorem dX5_addLink_100 : decode cX5_addLink 100 = .ok (.ireturn, 1) := by decide +kernel
theorem dX5_removeLink_0 : decode cX5_removeLink 0 = .ok (.iload_n 1, 1) := by decide +kernel
theorem dX5_removeLink_1 : decode cX5_removeLink 1 = .ok (.aload_n 0, 1) := by decide +kernel
theorem dX5_removeLink_2 : decode cX5_removeLink 2 = .ok (.getfield 12, 3) := by decide +kernel
theorem dX5_removeLink_5 : decode cX5_removeLink 5 = .ok (.getfield 43, 3) := by decide +kernel
theorem dX5_removeLink_8 : decode cX5_removeLink 8 = .ok (.getfield 53, 3) := by decide +kernel
theorem dX5_removeLink_11 : decode cX5_removeLink 11 = .ok (.invokestatic 35, 3) := by decide +kernel
theorem dX5_removeLink_14 : decode cX5_removeLink 14 = .ok (.ifCond .ne 10, 3) := by decide +kernel
theorem dX5_removeLink_17 : decode cX5_removeLink 17 = .ok (.aload_n 0, 1) := by decide +kernel
theorem dX5_removeLink_18 : decode cX5_removeLink 18 = .ok (.bipush (-2), 2) := by decide +kernel
theorem dX5_removeLink_20 : decode cX5_removeLink 20 = .ok (.invokevirtual 39, 3) := by decide +kernel
theorem dX5_removeLink_23 : decode cX5_removeLink 23 = .ok (.ireturn, 1) := by decide +kernel
theorem dX5_removeLink_24 : decode cX5_removeLink 24 = .ok (.aload_n 0, 1) := by decide +kernel
theorem dX5_removeLink_25 : decode cX5_removeLink 25 = .ok (.invokevirtual 56, 3) := by decide +kernel
theorem dX5_removeLink_28 : decode cX5_removeLink 28 = .ok (.aload_n 0, 1) := by decide +kernel
theorem dX5_removeLink_29 : decode cX5_removeLink 29 = .ok (.getfield 12, 3) := by decide +kernel
theorem dX5_removeLink_32 : decode cX5_removeLink 32 = .ok (.getfield 43, 3) := by decide +kernel
theorem dX5_removeLink_35 : decode cX5_removeLink 35 = .ok (.iload_n 1, 1) := by decide +kernel
theorem dX5_removeLink_36 : decode cX5_removeLink 36 = .ok (.invokevirtual 63, 3) := by decide +kernel
theorem dX5_removeLink_39 : decode cX5_removeLink 39 = .ok (.aload_n 0, 1) := by decide +kernel
theorem dX5_removeLink_40 : decode cX5_removeLink 40 = .ok (.getfield 12, 3) := by decide +kernel
theorem dX5_removeLink_43 : decode cX5_removeLink 43 = .ok (.getfield 43, 3) := by decide +kernel
theorem dX5_removeLink_46 : decode cX5_removeLink 46 = .ok (.getfield 53, 3) := by decide +kernel
theorem dX5_removeLink_49 : decode cX5_removeLink 49 = .ok (.ireturn, 1) := by decide +kernel
theorem dX5_setKind_0 : decode cX5_setKind 0 = .ok (.iload_n 1, 1) := by decide +kernel
theorem dX5_setKind_1 : decode cX5_setKind 1 = .ok (.aload_n 0, 1) := by decide +kernel
theorem dX5_setKind_2 : decode cX5_setKind 2 = .ok (.getfield 12, 3) := by decide +kernel
theorem dX5_setKind_5 : decode cX5_setKind 5 = .ok (.getfield 43, 3) := by decide +kernel
theorem dX5_setKind_8 : decode cX5_setKind 8 = .ok (.getfield 53, 3) := by decide +kernel
theorem dX5_setKind_11 : decode cX5_setKind 11 = .ok (.invokestatic 35, 3) := by decide +kernel
theorem dX5_setKind_14 : decode cX5_setKind 14 = .ok (.ifCond .eq 11, 3) := by decide +kernel
theorem dX5_setKind_17 : decode cX5_setKind 17 = .ok (.iload_n 2, 1) := by decide +kernel
theorem dX5_setKind_18 : decode cX5_setKind 18 = .ok (.iconst 2, 1) := by decide +kernel
theorem dX5_setKind_19 : decode cX5_setKind 19 = .ok (.invokestatic 35, 3) := by decide +kernel
theorem dX5_setKind_22 : decode cX5_setKind 22 = .ok (.ifCond .ne 10, 3) := by decide +kernel
theorem dX5_setKind_25 : decode cX5_setKind 25 = .ok (.aload_n 0, 1) := by decide +kernel
theorem dX5_setKind_26 : decode cX5_setKind 26 = .ok (.bipush (-2), 2) := by decide +kernel
theorem dX5_setKind_28 : decode cX5_setKind 28 = .ok (.invokevirtual 39, 3) := by decide +kernel
theorem dX5_setKind_31 : decode cX5_setKind 31 = .ok (.ireturn, 1) := by decide +kernel
theorem dX5_setKind_32 : decode cX5_setKind 32 = .ok (.aload_n 0, 1) := by decide +kernel
theorem dX5_setKind_33 : decode cX5_setKind 33 = .ok (.invokevirtual 56, 3) := by decide +kernel
theorem dX5_setKind_36 : decode cX5_setKind 36 = .ok (.aload_n 0, 1) := by decide +kernel
theorem dX5_setKind_37 : decode cX5_setKind 37 = .ok (.getfield 12, 3) := by decide +kernel
theorem dX5_setKind_40 : decode cX5_setKind 40 = .ok (.getfield 43, 3) := by decide +kernel
theorem dX5_setKind_43 : decode cX5_setKind 43 = .ok (.getfield 67, 3) := by decide +kernel
theorem dX5_setKind_46 : decode cX5_setKind 46 = .ok (.iload_n 1, 1) := by decide +kernel
theorem dX5_setKind_47 : decode cX5_setKind 47 = .ok (.iaload, 1) := by decide +kernel
theorem dX5_setKind_48 : decode cX5_setKind 48 = .ok (.istore_n 3, 1) := by decide +kernel
theorem dX5_setKind_49 : decode cX5_setKind 49 = .ok (.aload_n 0, 1) := by decide +kernel
theorem dX5_setKind_50 : decode cX5_setKind 50 = .ok (.getfield 12, 3) := by decide +kernel
theorem dX5_setKind_53 : decode cX5_setKind 53 = .ok (.getfield 43, 3) := by decide +kernel
theorem dX5_setKind_56 : decode cX5_setKind 56 = .ok (.getfield 67, 3) := by decide +kernel
theorem dX5_setKind_59 : decode cX5_setKind 59 = .ok (.iload_n 1, 1) := by decide +kernel
theorem dX5_setKind_60 : decode cX5_setKind 60 = .ok (.iload_n 2, 1) := by decide +kernel
theorem dX5_setKind_61 : decode cX5_setKind 61 = .ok (.iastore, 1) := by decide +kernel
theorem dX5_setKind_62 : decode cX5_setKind 62 = .ok (.iload_n 3, 1) := by decide +kernel
theorem dX5_setKind_63 : decode cX5_setKind 63 = .ok (.ireturn, 1) := by decide +kernel
theorem dX5_setGroups_0 : decode cX5_setGroups 0 = .ok (.iload_n 1, 1) := by decide +kernel
theorem dX5_setGroups_1 : decode cX5_setGroups 1 = .ok (.bipush 6, 2) := by decide +kernel
theorem dX5_setGroups_3 : decode cX5_setGroups 3 = .ok (.invokestatic 35, 3) := by decide +kernel
theorem dX5_setGroups_6 : decode cX5_setGroups 6 = .ok (.ifCond .eq 13, 3) := by decide +kernel
theorem dX5_setGroups_9 : decode cX5_setGroups 9 = .ok (.iload_n 2, 1) := by decide +kernel
theorem dX5_setGroups_10 : decode cX5_setGroups 10 = .ok (.ifCond .lt 9, 3) := by decide +kernel
theorem dX5_setGroups_13 : decode cX5_setGroups 13 = .ok (.iload_n 2, 1) := by decide +kernel
theorem dX5_setGroups_14 : decode cX5_setGroups 14 = .ok (.bipush 15, 2) := by decide +kernel
theorem dX5_setGroups_16 : decode cX5_setGroups 16 = .ok (.if_icmp .le 10, 3) := by decide +kernel
theorem dX5_setGroups_19 : decode cX5_setGroups 19 = .ok (.aload_n 0, 1) := by decide +kernel
theorem dX5_setGroups_20 : decode cX5_setGroups 20 = .ok (.bipush (-2), 2) := by decide +kernel
theorem dX5_setGroups_22 : decode cX5_setGroups 22 = .ok (.invokevirtual 39, 3) := by decide +kernel
theorem dX5_setGroups_25 : decode cX5_setGroups 25 = .ok (.ireturn, 1) := by decide +kernel
theorem dX5_setGroups_26 : decode cX5_setGroups 26 = .ok (.aload_n 0, 1) := by decide +kernel
theorem dX5_setGroups_27 : decode cX5_setGroups 27 = .ok (.invokevirtual 56, 3) := by decide +kernel
theorem dX5_setGroups_30 : decode cX5_setGroups 30 = .ok (.aload_n 0, 1) := by decide +kernel
theorem dX5_setGroups_31 : decode cX5_setGroups 31 = .ok (.getfield 12, 3) := by decide +kernel
theorem dX5_setGroups_34 : decode cX5_setGroups 34 = .ok (.getfield 70, 3) := by decide +kernel
theorem dX5_setGroups_37 : decode cX5_setGroups 37 = .ok (.iload_n 1, 1) := by decide +kernel
theorem dX5_setGroups_38 : decode cX5_setGroups 38 = .ok (.aaload, 1) := by decide +kernel
theorem dX5_setGroups_39 : decode cX5_setGroups 39 = .ok (.getfield 74, 3) := by decide +kernel
theorem dX5_setGroups_42 : decode cX5_setGroups 42 = .ok (.istore_n 3, 1) := by decide +kernel
theorem dX5_setGroups_43 : decode cX5_setGroups 43 = .ok (.aload_n 0, 1) := by decide +kernel
theorem dX5_setGroups_44 : decode cX5_setGroups 44 = .ok (.getfield 12, 3) := by decide +kernel
theorem dX5_setGroups_47 : decode cX5_setGroups 47 = .ok (.getfield 70, 3) := by decide +kernel
theorem dX5_setGroups_50 : decode cX5_setGroups 50 = .ok (.iload_n 1, 1) := by decide +kernel
theorem dX5_setGroups_51 : decode cX5_setGroups 51 = .ok (.aaload, 1) := by decide +kernel
theorem dX5_setGroups_52 : decode cX5_setGroups 52 = .ok (.iload_n 2, 1) := by decide +kernel
theorem dX5_setGroups_53 : decode cX5_setGroups 53 = .ok (.putfield 74, 3) := by decide +kernel
theorem dX5_setGroups_56 : decode cX5_setGroups 56 = .ok (.iload_n 3, 1) := by decide +kernel
theorem dX5_setGroups_57 : decode cX5_setGroups 57 = .ok (.ireturn, 1) := by decide +kernel
theorem dX5_setExpiry_0 : decode cX5_setExpiry 0 = .ok (.iload_n 1, 1) := by decide +kernel
theorem dX5_setExpiry_1 : decode cX5_setExpiry 1 = .ok (.iconst 4, 1) := by decide +kernel
theorem dX5_setExpiry_2 : decode cX5_setExpiry 2 = .ok (.invokestatic 35, 3) := by decide +kernel
theorem dX5_setExpiry_5 : decode cX5_setExpiry 5 = .ok (.ifCond .eq 10, 3) := by decide +kernel
theorem dX5_setExpiry_8 : decode cX5_setExpiry 8 = .ok (.iload_n 2, 1) := by decide +kernel
theorem dX5_setExpiry_9 : decode cX5_setExpiry 9 = .ok (.invokestatic 79, 3) := by decide +kernel
theorem dX5_setExpiry_12 : decode cX5_setExpiry 12 = .ok (.ifCond .ne 10, 3) := by decide +kernel
theorem dX5_setExpiry_15 : decode cX5_setExpiry 15 = .ok (.aload_n 0, 1) := by decide +kernel
theorem dX5_setExpiry_16 : decode cX5_setExpiry 16 = .ok (.bipush (-2), 2) := by decide +kernel
theorem dX5_setExpiry_18 : decode cX5_setExpiry 18 = .ok (.invokevirtual 39, 3) := by decide +kernel
theorem dX5_setExpiry_21 : decode cX5_setExpiry 21 = .ok (.ireturn, 1) := by decide +kernel
theorem dX5_setExpiry_22 : decode cX5_setExpiry 22 = .ok (.aload_n 0, 1) := by decide +kernel
theorem dX5_setExpiry_23 : decode cX5_setExpiry 23 = .ok (.invokevirtual 56, 3) := by decide +kernel
theorem dX5_setExpiry_26 : decode cX5_setExpiry 26 = .ok (.aload_n 0, 1) := by decide +kernel
theorem dX5_setExpiry_27 : decode cX5_setExpiry 27 = .ok (.getfield 12, 3) := by decide +kernel
theorem dX5_setExpiry_30 : decode cX5_setExpiry 30 = .ok (.getfield 83, 3) := by decide +kernel
theorem dX5_setExpiry_33 : decode cX5_setExpiry 33 = .ok (.iload_n 1, 1) := by decide +kernel
theorem dX5_setExpiry_34 : decode cX5_setExpiry 34 = .ok (.iaload, 1) := by decide +kernel
theorem dX5_setExpiry_35 : decode cX5_setExpiry 35 = .ok (.istore_n 3, 1) := by decide +kernel
theorem dX5_setExpiry_36 : decode cX5_setExpiry 36 = .ok (.aload_n 0, 1) := by decide +kernel
theorem dX5_setExpiry_37 : decode cX5_setExpiry 37 = .ok (.getfield 12, 3) := by decide +kernel
theorem dX5_setExpiry_40 : decode cX5_setExpiry 40 = .ok (.getfield 83, 3) := by decide +kernel
theorem dX5_setExpiry_43 : decode cX5_setExpiry 43 = .ok (.iload_n 1, 1) := by decide +kernel
theorem dX5_setExpiry_44 : decode cX5_setExpiry 44 = .ok (.iload_n 2, 1) := by decide +kernel
theorem dX5_setExpiry_45 : decode cX5_setExpiry 45 = .ok (.iastore, 1) := by decide +kernel
theorem dX5_setExpiry_46 : decode cX5_setExpiry 46 = .ok (.iload_n 3, 1) := by decide +kernel
theorem dX5_setExpiry_47 : decode cX5_setExpiry 47 = .ok (.ireturn, 1) := by decide +kernel
theorem dX5_setHistoryLimit_0 : decode cX5_setHistoryLimit 0 = .ok (.iload_n 1, 1) := by decide +kernel
theorem dX5_setHistoryLimit_1 : decode cX5_setHistoryLimit 1 = .ok (.invokestatic 79, 3) := by decide +kernel
theorem dX5_setHistoryLimit_4 : decode cX5_setHistoryLimit 4 = .ok (.ifCond .ne 10, 3) := by decide +kernel
theorem dX5_setHistoryLimit_7 : decode cX5_setHistoryLimit 7 = .ok (.aload_n 0, 1) := by decide +kernel
theorem dX5_setHistoryLimit_8 : decode cX5_setHistoryLimit 8 = .ok (.bipush (-2), 2) := by decide +kernel
theorem dX5_setHistoryLimit_10 : decode cX5_setHistoryLimit 10 = .ok (.invokevirtual 39, 3) := by decide +kernel
theorem dX5_setHistoryLimit_13 : decode cX5_setHistoryLimit 13 = .ok (.ireturn, 1) := by decide +kernel
theorem dX5_setHistoryLimit_14 : decode cX5_setHistoryLimit 14 = .ok (.aload_n 0, 1) := by decide +kernel
theorem dX5_setHistoryLimit_15 : decode cX5_setHistoryLimit 15 = .ok (.invokevirtual 56, 3) := by decide +kernel
theorem dX5_setHistoryLimit_18 : decode cX5_setHistoryLimit 18 = .ok (.aload_n 0, 1) := by decide +kernel
theorem dX5_setHistoryLimit_19 : decode cX5_setHistoryLimit 19 = .ok (.getfield 12, 3) := by decide +kernel
theorem dX5_setHistoryLimit_22 : decode cX5_setHistoryLimit 22 = .ok (.getfield 86, 3) := by decide +kernel
theorem dX5_setHistoryLimit_25 : decode cX5_setHistoryLimit 25 = .ok (.istore_n 2, 1) := by decide +kernel
theorem dX5_setHistoryLimit_26 : decode cX5_setHistoryLimit 26 = .ok (.aload_n 0, 1) := by decide +kernel
theorem dX5_setHistoryLimit_27 : decode cX5_setHistoryLimit 27 = .ok (.getfield 12, 3) := by decide +kernel
theorem dX5_setHistoryLimit_30 : decode cX5_setHistoryLimit 30 = .ok (.iload_n 1, 1) := by decide +kernel
theorem dX5_setHistoryLimit_31 : decode cX5_setHistoryLimit 31 = .ok (.putfield 86, 3) := by decide +kernel
theorem dX5_setHistoryLimit_34 : decode cX5_setHistoryLimit 34 = .ok (.iload_n 2, 1) := by decide +kernel
theorem dX5_setHistoryLimit_35 : decode cX5_setHistoryLimit 35 = .ok (.ireturn, 1) := by decide +kernel
theorem dX5_post_0 : decode cX5_post 0 = .ok (.iload_n 1, 1) := by decide +kernel
theorem dX5_post_1 : decode cX5_post 1 = .ok (.bipush 6, 2) := by decide +kernel
theorem dX5_post_3 : decode cX5_post 3 = .ok (.invokestatic 35, 3) := by decide +kernel
theorem dX5_post_6 : decode cX5_post 6 = .ok (.ifCond .eq 20, 3) := by decide +kernel
theorem dX5_post_9 : decode cX5_post 9 = .ok (.iload_n 2, 1) := by decide +kernel
theorem dX5_post_10 : decode cX5_post 10 = .ok (.iconst 4, 1) := by decide +kernel
theorem dX5_post_11 : decode cX5_post 11 = .ok (.invokestatic 35, 3) := by decide +kernel
theorem dX5_post_14 : decode cX5_post 14 = .ok (.ifCond .eq 12, 3) := by decide +kernel
theorem dX5_post_17 : decode cX5_post 17 = .ok (.iload_n 3, 1) := by decide +kernel
theorem dX5_post_18 : decode cX5_post 18 = .ok (.bipush 10, 2) := by decide +kernel
theorem dX5_post_20 : decode cX5_post 20 = .ok (.invokestatic 35, 3) := by decide +kernel
theorem dX5_post_23 : decode cX5_post 23 = .ok (.ifCond .ne 10, 3) := by decide +kernel
theorem dX5_post_26 : decode cX5_post 26 = .ok (.aload_n 0, 1) := by decide +kernel
theorem dX5_post_27 : decode cX5_post 27 = .ok (.bipush (-2), 2) := by decide +kernel
theorem dX5_post_29 : decode cX5_post 29 = .ok (.invokevirtual 39, 3) := by decide +kernel
theorem dX5_post_32 : decode cX5_post 32 = .ok (.ireturn, 1) := by decide +kernel
theorem dX5_post_33 : decode cX5_post 33 = .ok (.aload_n 0, 1) := by decide +kernel
theorem dX5_post_34 : decode cX5_post 34 = .ok (.iload_n 1, 1) := by decide +kernel
theorem dX5_post_35 : decode cX5_post 35 = .ok (.iload_n 2, 1) := by decide +kernel
theorem dX5_post_36 : decode cX5_post 36 = .ok (.iload_n 3, 1) := by decide +kernel
theorem dX5_post_37 : decode cX5_post 37 = .ok (.iconst 0, 1) := by decide +kernel
theorem dX5_post_38 : decode cX5_post 38 = .ok (.iconst (-1), 1) := by decide +kernel
theorem dX5_post_39 : decode cX5_post 39 = .ok (.invokevirtual 89, 3) := by decide +kernel
theorem dX5_post_42 : decode cX5_post 42 = .ok (.ireturn, 1) := by decide +kernel
theorem dX5_postAction_0 : decode cX5_postAction 0 = .ok (.iload_n 1, 1) := by decide +kernel
theorem dX5_postAction_1 : decode cX5_postAction 1 = .ok (.bipush 6, 2) := by decide +kernel
theorem dX5_postAction_3 : decode cX5_postAction 3 = .ok (.invokestatic 35, 3) := by decide +kernel
theorem dX5_postAction_6 : decode cX5_postAction 6 = .ok (.ifCond .eq 31, 3) := by decide +kernel
theorem dX5_postAction_9 : decode cX5_postAction 9 = .ok (.iload_n 2, 1) := by decide +kernel
theorem dX5_postAction_10 : decode cX5_postAction 10 = .ok (.bipush 10, 2) := by decide +kernel
theorem dX5_postAction_12 : decode cX5_postAction 12 = .ok (.invokestatic 35, 3) := by decide +kernel
theorem dX5_postAction_15 : decode cX5_postAction 15 = .ok (.ifCond .eq 22, 3) := by decide +kernel
theorem dX5_postAction_18 : decode cX5_postAction 18 = .ok (.iload_n 3, 1) := by decide +kernel
theorem dX5_postAction_19 : decode cX5_postAction 19 = .ok (.iconst 1, 1) := by decide +kernel
theorem dX5_postAction_20 : decode cX5_postAction 20 = .ok (.if_icmp .lt 17, 3) := by decide +kernel
theorem dX5_postAction_23 : decode cX5_postAction 23 = .ok (.iload_n 3, 1) := by decide +kernel
theorem dX5_postAction_24 : decode cX5_postAction 24 = .ok (.iconst 2, 1) := by decide +kernel
theorem dX5_postAction_25 : decode cX5_postAction 25 = .ok (.if_icmp .gt 12, 3) := by decide +kernel
theorem dX5_postAction_28 : decode cX5_postAction 28 = .ok (.aload_n 0, 1) := by decide +kernel
theorem dX5_postAction_29 : decode cX5_postAction 29 = .ok (.iload 4, 2) := by decide +kernel
theorem dX5_postAction_31 : decode cX5_postAction 31 = .ok (.invokevirtual 93, 3) := by decide +kernel
theorem dX5_postAction_34 : decode cX5_postAction 34 = .ok (.ifCond .ne 10, 3) := by decide +kernel
theorem dX5_postAction_37 : decode cX5_postAction 37 = .ok (.aload_n 0, 1) := by decide +kernel
theorem dX5_postAction_38 : decode cX5_postAction 38 = .ok (.bipush (-2), 2) := by decide +kernel
theorem dX5_postAction_40 : decode cX5_postAction 40 = .ok (.invokevirtual 39, 3) := by decide +kernel
theorem dX5_postAction_43 : decode cX5_postAction 43 = .ok (.ireturn, 1) := by decide +kernel
theorem dX5_postAction_44 : decode cX5_postAction 44 = .ok (.aload_n 0, 1) := by decide +kernel
theorem dX5_postAction_45 : decode cX5_postAction 45 = .ok (.iload_n 1, 1) := by decide +kernel
theorem dX5_postAction_46 : decode cX5_postAction 46 = .ok (.aload_n 0, 1) := by decide +kernel
theorem dX5_postAction_47 : decode cX5_postAction 47 = .ok (.getfield 12, 3) := by decide +kernel
theorem dX5_postAction_50 : decode cX5_postAction 50 = .ok (.getfield 96, 3) := by decide +kernel
theorem dX5_postAction_53 : decode cX5_postAction 53 = .ok (.getfield 100, 3) := by decide +kernel
theorem dX5_postAction_56 : decode cX5_postAction 56 = .ok (.iload 4, 2) := by decide +kernel
theorem dX5_postAction_58 : decode cX5_postAction 58 = .ok (.iaload, 1) := by decide +kernel
theorem dX5_postAction_59 : decode cX5_postAction 59 = .ok (.iload_n 2, 1) := by decide +kernel
theorem dX5_postAction_60 : decode cX5_postAction 60 = .ok (.iload_n 3, 1) := by decide +kernel
theorem dX5_postAction_61 : decode cX5_postAction 61 = .ok (.iload 4, 2) := by decide +kernel
theorem dX5_postAction_63 : decode cX5_postAction 63 = .ok (.invokevirtual 89, 3) := by decide +kernel
theorem dX5_postAction_66 : decode cX5_postAction 66 = .ok (.ireturn, 1) := by decide +kernel
theorem dX5_round_0 : decode cX5_round 0 = .ok (.aload_n 0, 1) := by decide +kernel
theorem dX5_round_1 : decode cX5_round 1 = .ok (.invokevirtual 56, 3) := by decide +kernel
theorem dX5_round_4 : decode cX5_round 4 = .ok (.aload_n 0, 1) := by decide +kernel
theorem dX5_round_5 : decode cX5_round 5 = .ok (.getfield 12, 3) := by decide +kernel
theorem dX5_round_8 : decode cX5_round 8 = .ok (.aload_n 0, 1) := by decide +kernel
theorem dX5_round_9 : decode cX5_round 9 = .ok (.getfield 19, 3) := by decide +kernel
theorem dX5_round_12 : decode cX5_round 12 = .ok (.invokevirtual 105, 3) := by decide +kernel
theorem dX5_round_15 : decode cX5_round 15 = .ok (.ireturn, 1) := by decide +kernel
theorem dX5_settle_0 : decode cX5_settle 0 = .ok (.aload_n 0, 1) := by decide +kernel
theorem dX5_settle_1 : decode cX5_settle 1 = .ok (.invokevirtual 56, 3) := by decide +kernel
theorem dX5_settle_4 : decode cX5_settle 4 = .ok (.iconst 0, 1) := by decide +kernel
theorem dX5_settle_5 : decode cX5_settle 5 = .ok (.istore_n 1, 1) := by decide +kernel
theorem dX5_settle_6 : decode cX5_settle 6 = .ok (.iload_n 1, 1) := by decide +kernel
theorem dX5_settle_7 : decode cX5_settle 7 = .ok (.bipush 6, 2) := by decide +kernel
theorem dX5_settle_9 : decode cX5_settle 9 = .ok (.if_icmp .ge 34, 3) := by decide +kernel
theorem dX5_settle_12 : decode cX5_settle 12 = .ok (.aload_n 0, 1) := by decide +kernel
theorem dX5_settle_13 : decode cX5_settle 13 = .ok (.getfield 12, 3) := by decide +kernel
theorem dX5_settle_16 : decode cX5_settle 16 = .ok (.getfield 109, 3) := by decide +kernel
theorem dX5_settle_19 : decode cX5_settle 19 = .ok (.invokevirtual 112, 3) := by decide +kernel
theorem dX5_settle_22 : decode cX5_settle 22 = .ok (.ifCond .le 21, 3) := by decide +kernel
theorem dX5_settle_25 : decode cX5_settle 25 = .ok (.aload_n 0, 1) := by decide +kernel
theorem dX5_settle_26 : decode cX5_settle 26 = .ok (.getfield 12, 3) := by decide +kernel
theorem dX5_settle_29 : decode cX5_settle 29 = .ok (.aload_n 0, 1) := by decide +kernel
theorem dX5_settle_30 : decode cX5_settle 30 = .ok (.getfield 19, 3) := by decide +kernel
theorem dX5_settle_33 : decode cX5_settle 33 = .ok (.invokevirtual 105, 3) := by decide +kernel
theorem dX5_settle_36 : decode cX5_settle 36 = .ok (.pop, 1) := by decide +kernel
theorem dX5_settle_37 : decode cX5_settle 37 = .ok (.iinc 1 1, 3) := by decide +kernel
theorem dX5_settle_40 : decode cX5_settle 40 = .ok (.goto (-34), 3) := by decide +kernel
theorem dX5_settle_43 : decode cX5_settle 43 = .ok (.iload_n 1, 1) := by decide +kernel
theorem dX5_settle_44 : decode cX5_settle 44 = .ok (.ireturn, 1) := by decide +kernel
theorem dX5_nextDay_0 : decode cX5_nextDay 0 = .ok (.aload_n 0, 1) := by decide +kernel
theorem dX5_nextDay_1 : decode cX5_nextDay 1 = .ok (.invokevirtual 56, 3) := by decide +kernel
theorem dX5_nextDay_4 : decode cX5_nextDay 4 = .ok (.aload_n 0, 1) := by decide +kernel
theorem dX5_nextDay_5 : decode cX5_nextDay 5 = .ok (.getfield 12, 3) := by decide +kernel
theorem dX5_nextDay_8 : decode cX5_nextDay 8 = .ok (.invokevirtual 116, 3) := by decide +kernel
theorem dX5_nextDay_11 : decode cX5_nextDay 11 = .ok (.ireturn, 1) := by decide +kernel
theorem dX5_isStored_0 : decode cX5_isStored 0 = .ok (.iload_n 1, 1) := by decide +kernel
theorem dX5_isStored_1 : decode cX5_isStored 1 = .ok (.bipush 6, 2) := by decide +kernel
theorem dX5_isStored_3 : decode cX5_isStored 3 = .ok (.invokestatic 35, 3) := by decide +kernel
theorem dX5_isStored_6 : decode cX5_isStored 6 = .ok (.ifCond .eq 11, 3) := by decide +kernel
theorem dX5_isStored_9 : decode cX5_isStored 9 = .ok (.aload_n 0, 1) := by decide +kernel
theorem dX5_isStored_10 : decode cX5_isStored 10 = .ok (.iload_n 2, 1) := by decide +kernel
theorem dX5_isStored_11 : decode cX5_isStored 11 = .ok (.invokevirtual 93, 3) := by decide +kernel
theorem dX5_isStored_14 : decode cX5_isStored 14 = .ok (.ifCond .ne 10, 3) := by decide +kernel
theorem dX5_isStored_17 : decode cX5_isStored 17 = .ok (.aload_n 0, 1) := by decide +kernel
theorem dX5_isStored_18 : decode cX5_isStored 18 = .ok (.bipush (-2), 2) := by decide +kernel
theorem dX5_isStored_20 : decode cX5_isStored 20 = .ok (.invokevirtual 39, 3) := by decide +kernel
theorem dX5_isStored_23 : decode cX5_isStored 23 = .ok (.ireturn, 1) := by decide +kernel
theorem dX5_isStored_24 : decode cX5_isStored 24 = .ok (.aload_n 0, 1) := by decide +kernel
theorem dX5_isStored_25 : decode cX5_isStored 25 = .ok (.getfield 12, 3) := by decide +kernel
theorem dX5_isStored_28 : decode cX5_isStored 28 = .ok (.getfield 70, 3) := by decide +kernel
theorem dX5_isStored_31 : decode cX5_isStored 31 = .ok (.iload_n 1, 1) := by decide +kernel
theorem dX5_isStored_32 : decode cX5_isStored 32 = .ok (.aaload, 1) := by decide +kernel
theorem dX5_isStored_33 : decode cX5_isStored 33 = .ok (.iload_n 2, 1) := by decide +kernel
theorem dX5_isStored_34 : decode cX5_isStored 34 = .ok (.invokevirtual 119, 3) := by decide +kernel
theorem dX5_isStored_37 : decode cX5_isStored 37 = .ok (.ifCond .eq 7, 3) := by decide +kernel
theorem dX5_isStored_40 : decode cX5_isStored 40 = .ok (.iconst 1, 1) := by decide +kernel
theorem dX5_isStored_41 : decode cX5_isStored 41 = .ok (.goto 4, 3) := by decide +kernel
theorem dX5_isStored_44 : decode cX5_isStored 44 = .ok (.iconst 0, 1) := by decide +kernel
theorem dX5_isStored_45 : decode cX5_isStored 45 = .ok (.ireturn, 1) := by decide +kernel
theorem dX5_knownSince_0 : decode cX5_knownSince 0 = .ok (.iload_n 1, 1) := by decide +kernel
theorem dX5_knownSince_1 : decode cX5_knownSince 1 = .ok (.bipush 6, 2) := by decide +kernel
theorem dX5_knownSince_3 : decode cX5_knownSince 3 = .ok (.invokestatic 35, 3) := by decide +kernel
theorem dX5_knownSince_6 : decode cX5_knownSince 6 = .ok (.ifCond .eq 11, 3) := by decide +kernel
theorem dX5_knownSince_9 : decode cX5_knownSince 9 = .ok (.aload_n 0, 1) := by decide +kernel
theorem dX5_knownSince_10 : decode cX5_knownSince 10 = .ok (.iload_n 2, 1) := by decide +kernel
theorem dX5_knownSince_11 : decode cX5_knownSince 11 = .ok (.invokevirtual 93, 3) := by decide +kernel
theorem dX5_knownSince_14 : decode cX5_knownSince 14 = .ok (.ifCond .ne 10, 3) := by decide +kernel
theorem dX5_knownSince_17 : decode cX5_knownSince 17 = .ok (.aload_n 0, 1) := by decide +kernel
theorem dX5_knownSince_18 : decode cX5_knownSince 18 = .ok (.bipush (-2), 2) := by decide +kernel
theorem dX5_knownSince_20 : decode cX5_knownSince 20 = .ok (.invokevirtual 39, 3) := by decide +kernel
theorem dX5_knownSince_23 : decode cX5_knownSince 23 = .ok (.ireturn, 1) := by decide +kernel
theorem dX5_knownSince_24 : decode cX5_knownSince 24 = .ok (.aload_n 0, 1) := by decide +kernel
theorem dX5_knownSince_25 : decode cX5_knownSince 25 = .ok (.getfield 12, 3) := by decide +kernel
theorem dX5_knownSince_28 : decode cX5_knownSince 28 = .ok (.getfield 70, 3) := by decide +kernel
theorem dX5_knownSince_31 : decode cX5_knownSince 31 = .ok (.iload_n 1, 1) := by decide +kernel
theorem dX5_knownSince_32 : decode cX5_knownSince 32 = .ok (.aaload, 1) := by decide +kernel
theorem dX5_knownSince_33 : decode cX5_knownSince 33 = .ok (.getfield 122, 3) := by decide +kernel
theorem dX5_knownSince_36 : decode cX5_knownSince 36 = .ok (.iload_n 2, 1) := by decide +kernel
theorem dX5_knownSince_37 : decode cX5_knownSince 37 = .ok (.iaload, 1) := by decide +kernel
theorem dX5_knownSince_38 : decode cX5_knownSince 38 = .ok (.ireturn, 1) := by decide +kernel
theorem dX5_pendingCancels_0 : decode cX5_pendingCancels 0 = .ok (.iload_n 1, 1) := by decide +kernel
theorem dX5_pendingCancels_1 : decode cX5_pendingCancels 1 = .ok (.bipush 6, 2) := by decide +kernel
theorem dX5_pendingCancels_3 : decode cX5_pendingCancels 3 = .ok (.invokestatic 35, 3) := by decide +kernel
theorem dX5_pendingCancels_6 : decode cX5_pendingCancels 6 = .ok (.ifCond .ne 10, 3) := by decide +kernel
theorem dX5_pendingCancels_9 : decode cX5_pendingCancels 9 = .ok (.aload_n 0, 1) := by decide +kernel
theorem dX5_pendingCancels_10 : decode cX5_pendingCancels 10 = .ok (.bipush (-2), 2) := by decide +kernel
theorem dX5_pendingCancels_12 : decode cX5_pendingCancels 12 = .ok (.invokevirtual 39, 3) := by decide +kernel
theorem dX5_pendingCancels_15 : decode cX5_pendingCancels 15 = .ok (.ireturn, 1) := by decide +kernel
theorem dX5_pendingCancels_16 : decode cX5_pendingCancels 16 = .ok (.aload_n 0, 1) := by decide +kernel
theorem dX5_pendingCancels_17 : decode cX5_pendingCancels 17 = .ok (.getfield 12, 3) := by decide +kernel
theorem dX5_pendingCancels_20 : decode cX5_pendingCancels 20 = .ok (.getfield 70, 3) := by decide +kernel
theorem dX5_pendingCancels_23 : decode cX5_pendingCancels 23 = .ok (.iload_n 1, 1) := by decide +kernel
theorem dX5_pendingCancels_24 : decode cX5_pendingCancels 24 = .ok (.aaload, 1) := by decide +kernel
theorem dX5_pendingCancels_25 : decode cX5_pendingCancels 25 = .ok (.invokevirtual 125, 3) := by decide +kernel
theorem dX5_pendingCancels_28 : decode cX5_pendingCancels 28 = .ok (.ireturn, 1) := by decide +kernel
theorem dX5_holders_0 : decode cX5_holders 0 = .ok (.aload_n 0, 1) := by decide +kernel
theorem dX5_holders_1 : decode cX5_holders 1 = .ok (.iload_n 1, 1) := by decide +kernel
theorem dX5_holders_2 : decode cX5_holders 2 = .ok (.invokevirtual 93, 3) := by decide +kernel
theorem dX5_holders_5 : decode cX5_holders 5 = .ok (.ifCond .ne 10, 3) := by decide +kernel
theorem dX5_holders_8 : decode cX5_holders 8 = .ok (.aload_n 0, 1) := by decide +kernel
theorem dX5_holders_9 : decode cX5_holders 9 = .ok (.bipush (-2), 2) := by decide +kernel
theorem dX5_holders_11 : decode cX5_holders 11 = .ok (.invokevirtual 39, 3) := by decide +kernel
theorem dX5_holders_14 : decode cX5_holders 14 = .ok (.ireturn, 1) := by decide +kernel
theorem dX5_holders_15 : decode cX5_holders 15 = .ok (.iconst 0, 1) := by decide +kernel
theorem dX5_holders_16 : decode cX5_holders 16 = .ok (.istore_n 2, 1) := by decide +kernel
theorem dX5_holders_17 : decode cX5_holders 17 = .ok (.iconst 0, 1) := by decide +kernel
theorem dX5_holders_18 : decode cX5_holders 18 = .ok (.istore_n 3, 1) := by decide +kernel
theorem dX5_holders_19 : decode cX5_holders 19 = .ok (.iload_n 3, 1) := by decide +kernel
theorem dX5_holders_20 : decode cX5_holders 20 = .ok (.bipush 6, 2) := by decide +kernel
theorem dX5_holders_22 : decode cX5_holders 22 = .ok (.if_icmp .ge 31, 3) := by decide +kernel
theorem dX5_holders_25 : decode cX5_holders 25 = .ok (.aload_n 0, 1) := by decide +kernel
theorem dX5_holders_26 : decode cX5_holders 26 = .ok (.getfield 12, 3) := by decide +kernel
theorem dX5_holders_29 : decode cX5_holders 29 = .ok (.getfield 70, 3) := by decide +kernel
theorem dX5_holders_32 : decode cX5_holders 32 = .ok (.iload_n 3, 1) := by decide +kernel
theorem dX5_holders_33 : decode cX5_holders 33 = .ok (.aaload, 1) := by decide +kernel
theorem dX5_holders_34 : decode cX5_holders 34 = .ok (.iload_n 1, 1) := by decide +kernel
theorem dX5_holders_35 : decode cX5_holders 35 = .ok (.invokevirtual 119, 3) := by decide +kernel
theorem dX5_holders_38 : decode cX5_holders 38 = .ok (.ifCond .eq 9, 3) := by decide +kernel
theorem dX5_holders_41 : decode cX5_holders 41 = .ok (.iload_n 2, 1) := by decide +kernel
theorem dX5_holders_42 : decode cX5_holders 42 = .ok (.iconst 1, 1) := by decide +kernel
theorem dX5_holders_43 : decode cX5_holders 43 = .ok (.iload_n 3, 1) := by decide +kernel
theorem dX5_holders_44 : decode cX5_holders 44 = .ok (.ishl, 1) := by decide +kernel
theorem dX5_holders_45 : decode cX5_holders 45 = .ok (.ior, 1) := by decide +kernel
theorem dX5_holders_46 : decode cX5_holders 46 = .ok (.istore_n 2, 1) := by decide +kernel
theorem dX5_holders_47 : decode cX5_holders 47 = .ok (.iinc 3 1, 3) := by decide +kernel
theorem dX5_holders_50 : decode cX5_holders 50 = .ok (.goto (-31), 3) := by decide +kernel
theorem dX5_holders_53 : decode cX5_holders 53 = .ok (.iload_n 2, 1) := by decide +kernel
theorem dX5_holders_54 : decode cX5_holders 54 = .ok (.ireturn, 1) := by decide +kernel
theorem dX5_storedInGroup_0 : decode cX5_storedInGroup 0 = .ok (.iload_n 1, 1) := by decide +kernel
theorem dX5_storedInGroup_1 : decode cX5_storedInGroup 1 = .ok (.bipush 6, 2) := by decide +kernel
theorem dX5_storedInGroup_3 : decode cX5_storedInGroup 3 = .ok (.invokestatic 35, 3) := by decide +kernel
theorem dX5_storedInGroup_6 : decode cX5_storedInGroup 6 = .ok (.ifCond .eq 11, 3) := by decide +kernel
theorem dX5_storedInGroup_9 : decode cX5_storedInGroup 9 = .ok (.iload_n 2, 1) := by decide +kernel
theorem dX5_storedInGroup_10 : decode cX5_storedInGroup 10 = .ok (.iconst 4, 1) := by decide +kernel
theorem dX5_storedInGroup_11 : decode cX5_storedInGroup 11 = .ok (.invokestatic 35, 3) := by decide +kernel
theorem dX5_storedInGroup_14 : decode cX5_storedInGroup 14 = .ok (.ifCond .ne 10, 3) := by decide +kernel
theorem dX5_storedInGroup_17 : decode cX5_storedInGroup 17 = .ok (.aload_n 0, 1) := by decide +kernel
theorem dX5_storedInGroup_18 : decode cX5_storedInGroup 18 = .ok (.bipush (-2), 2) := by decide +kernel
theorem dX5_storedInGroup_20 : decode cX5_storedInGroup 20 = .ok (.invokevirtual 39, 3) := by decide +kernel
theorem dX5_storedInGroup_23 : decode cX5_storedInGroup 23 = .ok (.ireturn, 1) := by decide +kernel
theorem dX5_storedInGroup_24 : decode cX5_storedInGroup 24 = .ok (.iconst 0, 1) := by decide +kernel
theorem dX5_storedInGroup_25 : decode cX5_storedInGroup 25 = .ok (.istore_n 3, 1) := by decide +kernel
theorem dX5_storedInGroup_26 : decode cX5_storedInGroup 26 = .ok (.iconst 0, 1) := by decide +kernel
theorem dX5_storedInGroup_27 : decode cX5_storedInGroup 27 = .ok (.istore 4, 2) := by decide +kernel
theorem dX5_storedInGroup_29 : decode cX5_storedInGroup 29 = .ok (.iload 4, 2) := by decide +kernel
theorem dX5_storedInGroup_31 : decode cX5_storedInGroup 31 = .ok (.aload_n 0, 1) := by decide +kernel
theorem dX5_storedInGroup_32 : decode cX5_storedInGroup 32 = .ok (.getfield 12, 3) := by decide +kernel
theorem dX5_storedInGroup_35 : decode cX5_storedInGroup 35 = .ok (.getfield 96, 3) := by decide +kernel
theorem dX5_storedInGroup_38 : decode cX5_storedInGroup 38 = .ok (.getfield 128, 3) := by decide +kernel
theorem dX5_storedInGroup_41 : decode cX5_storedInGroup 41 = .ok (.if_icmp .ge 46, 3) := by decide +kernel
theorem dX5_storedInGroup_44 : decode cX5_storedInGroup 44 = .ok (.aload_n 0, 1) := by decide +kernel
theorem dX5_storedInGroup_45 : decode cX5_storedInGroup 45 = .ok (.getfield 12, 3) := by decide +kernel
theorem dX5_storedInGroup_48 : decode cX5_storedInGroup 48 = .ok (.getfield 96, 3) := by decide +kernel
theorem dX5_storedInGroup_51 : decode cX5_storedInGroup 51 = .ok (.getfield 100, 3) := by decide +kernel
theorem dX5_storedInGroup_54 : decode cX5_storedInGroup 54 = .ok (.iload 4, 2) := by decide +kernel
theorem dX5_storedInGroup_56 : decode cX5_storedInGroup 56 = .ok (.iaload, 1) := by decide +kernel
theorem dX5_storedInGroup_57 : decode cX5_storedInGroup 57 = .ok (.iload_n 2, 1) := by decide +kernel
theorem dX5_storedInGroup_58 : decode cX5_storedInGroup 58 = .ok (.if_icmp .ne 23, 3) := by decide +kernel
theorem dX5_storedInGroup_61 : decode cX5_storedInGroup 61 = .ok (.aload_n 0, 1) := by decide +kernel
theorem dX5_storedInGroup_62 : decode cX5_storedInGroup 62 = .ok (.getfield 12, 3) := by decide +kernel
theorem dX5_storedInGroup_65 : decode cX5_storedInGroup 65 = .ok (.getfield 70, 3) := by decide +kernel
theorem dX5_storedInGroup_68 : decode cX5_storedInGroup 68 = .ok (.iload_n 1, 1) := by decide +kernel
theorem dX5_storedInGroup_69 : decode cX5_storedInGroup 69 = .ok (.aaload, 1) := by decide +kernel
theorem dX5_storedInGroup_70 : decode cX5_storedInGroup 70 = .ok (.iload 4, 2) := by decide +kernel
theorem dX5_storedInGroup_72 : decode cX5_storedInGroup 72 = .ok (.invokevirtual 119, 3) := by decide +kernel
theorem dX5_storedInGroup_75 : decode cX5_storedInGroup 75 = .ok (.ifCond .eq 6, 3) := by decide +kernel
theorem dX5_storedInGroup_78 : decode cX5_storedInGroup 78 = .ok (.iinc 3 1, 3) := by decide +kernel
theorem dX5_storedInGroup_81 : decode cX5_storedInGroup 81 = .ok (.iinc 4 1, 3) := by decide +kernel
theorem dX5_storedInGroup_84 : decode cX5_storedInGroup 84 = .ok (.goto (-55), 3) := by decide +kernel
theorem dX5_storedInGroup_87 : decode cX5_storedInGroup 87 = .ok (.iload_n 3, 1) := by decide +kernel
theorem dX5_storedInGroup_88 : decode cX5_storedInGroup 88 = .ok (.ireturn, 1) := by decide +kernel
theorem dX5_distance_0 : decode cX5_distance 0 = .ok (.iload_n 1, 1) := by decide +kernel
theorem dX5_distance_1 : decode cX5_distance 1 = .ok (.bipush 6, 2) := by decide +kernel
theorem dX5_distance_3 : decode cX5_distance 3 = .ok (.invokestatic 35, 3) := by decide +kernel
theorem dX5_distance_6 : decode cX5_distance 6 = .ok (.ifCond .eq 12, 3) := by decide +kernel
theorem dX5_distance_9 : decode cX5_distance 9 = .ok (.iload_n 2, 1) := by decide +kernel
theorem dX5_distance_10 : decode cX5_distance 10 = .ok (.bipush 6, 2) := by decide +kernel
theorem dX5_distance_12 : decode cX5_distance 12 = .ok (.invokestatic 35, 3) := by decide +kernel
theorem dX5_distance_15 : decode cX5_distance 15 = .ok (.ifCond .ne 10, 3) := by decide +kernel
theorem dX5_distance_18 : decode cX5_distance 18 = .ok (.aload_n 0, 1) := by decide +kernel
theorem dX5_distance_19 : decode cX5_distance 19 = .ok (.bipush (-2), 2) := by decide +kernel
theorem dX5_distance_21 : decode cX5_distance 21 = .ok (.invokevirtual 39, 3) := by decide +kernel
theorem dX5_distance_24 : decode cX5_distance 24 = .ok (.ireturn, 1) := by decide +kernel
theorem dX5_distance_25 : decode cX5_distance 25 = .ok (.iconst 1, 1) := by decide +kernel
theorem dX5_distance_26 : decode cX5_distance 26 = .ok (.iload_n 1, 1) := by decide +kernel
theorem dX5_distance_27 : decode cX5_distance 27 = .ok (.ishl, 1) := by decide +kernel
theorem dX5_distance_28 : decode cX5_distance 28 = .ok (.istore_n 3, 1) := by decide +kernel
theorem dX5_distance_29 : decode cX5_distance 29 = .ok (.iconst 0, 1) := by decide +kernel
theorem dX5_distance_30 : decode cX5_distance 30 = .ok (.istore 4, 2) := by decide +kernel
theorem dX5_distance_32 : decode cX5_distance 32 = .ok (.iload 4, 2) := by decide +kernel
theorem dX5_distance_34 : decode cX5_distance 34 = .ok (.bipush 6, 2) := by decide +kernel
theorem dX5_distance_36 : decode cX5_distance 36 = .ok (.if_icmp .ge 34, 3) := by decide +kernel
theorem dX5_distance_39 : decode cX5_distance 39 = .ok (.iload_n 3, 1) := by decide +kernel
theorem dX5_distance_40 : decode cX5_distance 40 = .ok (.iload_n 2, 1) := by decide +kernel
theorem dX5_distance_41 : decode cX5_distance 41 = .ok (.invokestatic 129, 3) := by decide +kernel
theorem dX5_distance_44 : decode cX5_distance 44 = .ok (.ifCond .eq 6, 3) := by decide +kernel
theorem dX5_distance_47 : decode cX5_distance 47 = .ok (.iload 4, 2) := by decide +kernel
theorem dX5_distance_49 : decode cX5_distance 49 = .ok (.ireturn, 1) := by decide +kernel
theorem dX5_distance_50 : decode cX5_distance 50 = .ok (.iload_n 3, 1) := by decide +kernel
theorem dX5_distance_51 : decode cX5_distance 51 = .ok (.aload_n 0, 1) := by decide +kernel
theorem dX5_distance_52 : decode cX5_distance 52 = .ok (.getfield 12, 3) := by decide +kernel
theorem dX5_distance_55 : decode cX5_distance 55 = .ok (.getfield 43, 3) := by decide +kernel
theorem dX5_distance_58 : decode cX5_distance 58 = .ok (.iload_n 3, 1) := by decide +kernel
theorem dX5_distance_59 : decode cX5_distance 59 = .ok (.invokevirtual 132, 3) := by decide +kernel
theorem dX5_distance_62 : decode cX5_distance 62 = .ok (.ior, 1) := by decide +kernel
theorem dX5_distance_63 : decode cX5_distance 63 = .ok (.istore_n 3, 1) := by decide +kernel
theorem dX5_distance_64 : decode cX5_distance 64 = .ok (.iinc 4 1, 3) := by decide +kernel
theorem dX5_distance_67 : decode cX5_distance 67 = .ok (.goto (-35), 3) := by decide +kernel
theorem dX5_distance_70 : decode cX5_distance 70 = .ok (.iconst (-1), 1) := by decide +kernel
theorem dX5_distance_71 : decode cX5_distance 71 = .ok (.ireturn, 1) := by decide +kernel
theorem dX5_waiting_0 : decode cX5_waiting 0 = .ok (.aload_n 0, 1) := by decide +kernel
theorem dX5_waiting_1 : decode cX5_waiting 1 = .ok (.getfield 12, 3) := by decide +kernel
theorem dX5_waiting_4 : decode cX5_waiting 4 = .ok (.getfield 109, 3) := by decide +kernel
theorem dX5_waiting_7 : decode cX5_waiting 7 = .ok (.invokevirtual 112, 3) := by decide +kernel
theorem dX5_waiting_10 : decode cX5_waiting 10 = .ok (.ireturn, 1) := by decide +kernel
theorem dX5_total_0 : decode cX5_total 0 = .ok (.iload_n 1, 1) := by decide +kernel
theorem dX5_total_1 : decode cX5_total 1 = .ok (.bipush 6, 2) := by decide +kernel
theorem dX5_total_3 : decode cX5_total 3 = .ok (.invokestatic 35, 3) := by decide +kernel
theorem dX5_total_6 : decode cX5_total 6 = .ok (.ifCond .ne 10, 3) := by decide +kernel
theorem dX5_total_9 : decode cX5_total 9 = .ok (.aload_n 0, 1) := by decide +kernel
theorem dX5_total_10 : decode cX5_total 10 = .ok (.bipush (-2), 2) := by decide +kernel
theorem dX5_total_12 : decode cX5_total 12 = .ok (.invokevirtual 39, 3) := by decide +kernel
theorem dX5_total_15 : decode cX5_total 15 = .ok (.ireturn, 1) := by decide +kernel
theorem dX5_total_16 : decode cX5_total 16 = .ok (.aload_n 0, 1) := by decide +kernel
theorem dX5_total_17 : decode cX5_total 17 = .ok (.getfield 12, 3) := by decide +kernel
theorem dX5_total_20 : decode cX5_total 20 = .ok (.getfield 135, 3) := by decide +kernel
theorem dX5_total_23 : decode cX5_total 23 = .ok (.iload_n 1, 1) := by decide +kernel
theorem dX5_total_24 : decode cX5_total 24 = .ok (.iaload, 1) := by decide +kernel
theorem dX5_total_25 : decode cX5_total 25 = .ok (.ireturn, 1) := by decide +kernel
theorem dX5_day_0 : decode cX5_day 0 = .ok (.aload_n 0, 1) := by decide +kernel
theorem dX5_day_1 : decode cX5_day 1 = .ok (.getfield 12, 3) := by decide +kernel
theorem dX5_day_4 : decode cX5_day 4 = .ok (.getfield 138, 3) := by decide +kernel
theorem dX5_day_7 : decode cX5_day 7 = .ok (.ireturn, 1) := by decide +kernel
theorem dX5_undo_0 : decode cX5_undo 0 = .ok (.aload_n 0, 1) := by decide +kernel
theorem dX5_undo_1 : decode cX5_undo 1 = .ok (.getfield 27, 3) := by decide +kernel
theorem dX5_undo_4 : decode cX5_undo 4 = .ok (.iconst 1, 1) := by decide +kernel
theorem dX5_undo_5 : decode cX5_undo 5 = .ok (.if_icmp .ge 10, 3) := by decide +kernel
theorem dX5_undo_8 : decode cX5_undo 8 = .ok (.aload_n 0, 1) := by decide +kernel
theorem dX5_undo_9 : decode cX5_undo 9 = .ok (.bipush (-5), 2) := by decide +kernel
theorem dX5_undo_11 : decode cX5_undo 11 = .ok (.invokevirtual 39, 3) := by decide +kernel
theorem dX5_undo_14 : decode cX5_undo 14 = .ok (.ireturn, 1) := by decide +kernel
theorem dX5_undo_15 : decode cX5_undo 15 = .ok (.aload_n 0, 1) := by decide +kernel
theorem dX5_undo_16 : decode cX5_undo 16 = .ok (.dup, 1) := by decide +kernel
theorem dX5_undo_17 : decode cX5_undo 17 = .ok (.getfield 27, 3) := by decide +kernel
theorem dX5_undo_20 : decode cX5_undo 20 = .ok (.iconst 1, 1) := by decide +kernel
theorem dX5_undo_21 : decode cX5_undo 21 = .ok (.isub, 1) := by decide +kernel
theorem dX5_undo_22 : decode cX5_undo 22 = .ok (.putfield 27, 3) := by decide +kernel
theorem dX5_undo_25 : decode cX5_undo 25 = .ok (.aload_n 0, 1) := by decide +kernel
theorem dX5_undo_26 : decode cX5_undo 26 = .ok (.getfield 12, 3) := by decide +kernel
theorem dX5_undo_29 : decode cX5_undo 29 = .ok (.aload_n 0, 1) := by decide +kernel
theorem dX5_undo_30 : decode cX5_undo 30 = .ok (.getfield 23, 3) := by decide +kernel
theorem dX5_undo_33 : decode cX5_undo 33 = .ok (.aload_n 0, 1) := by decide +kernel
theorem dX5_undo_34 : decode cX5_undo 34 = .ok (.getfield 27, 3) := by decide +kernel
theorem dX5_undo_37 : decode cX5_undo 37 = .ok (.aaload, 1) := by decide +kernel
theorem dX5_undo_38 : decode cX5_undo 38 = .ok (.invokevirtual 141, 3) := by decide +kernel
theorem dX5_undo_41 : decode cX5_undo 41 = .ok (.aload_n 0, 1) := by decide +kernel
theorem dX5_undo_42 : decode cX5_undo 42 = .ok (.getfield 27, 3) := by decide +kernel
theorem dX5_undo_45 : decode cX5_undo 45 = .ok (.ireturn, 1) := by decide +kernel
theorem dX5_errorCount_0 : decode cX5_errorCount 0 = .ok (.iload_n 1, 1) := by decide +kernel
theorem dX5_errorCount_1 : decode cX5_errorCount 1 = .ok (.invokestatic 145, 3) := by decide +kernel
theorem dX5_errorCount_4 : decode cX5_errorCount 4 = .ok (.istore_n 2, 1) := by decide +kernel
theorem dX5_errorCount_5 : decode cX5_errorCount 5 = .ok (.iload_n 2, 1) := by decide +kernel
theorem dX5_errorCount_6 : decode cX5_errorCount 6 = .ok (.iconst 4, 1) := by decide +kernel
theorem dX5_errorCount_7 : decode cX5_errorCount 7 = .ok (.invokestatic 35, 3) := by decide +kernel
theorem dX5_errorCount_10 : decode cX5_errorCount 10 = .ok (.ifCond .ne 10, 3) := by decide +kernel
theorem dX5_errorCount_13 : decode cX5_errorCount 13 = .ok (.aload_n 0, 1) := by decide +kernel
theorem dX5_errorCount_14 : decode cX5_errorCount 14 = .ok (.bipush (-2), 2) := by decide +kernel
theorem dX5_errorCount_16 : decode cX5_errorCount 16 = .ok (.invokevirtual 39, 3) := by decide +kernel
theorem dX5_errorCount_19 : decode cX5_errorCount 19 = .ok (.ireturn, 1) := by decide +kernel
theorem dX5_errorCount_20 : decode cX5_errorCount 20 = .ok (.aload_n 0, 1) := by decide +kernel
theorem dX5_errorCount_21 : decode cX5_errorCount 21 = .ok (.getfield 31, 3) := by decide +kernel
theorem dX5_errorCount_24 : decode cX5_errorCount 24 = .ok (.iload_n 2, 1) := by decide +kernel
theorem dX5_errorCount_25 : decode cX5_errorCount 25 = .ok (.iaload, 1) := by decide +kernel
theorem dX5_errorCount_26 : decode cX5_errorCount 26 = .ok (.ireturn, 1) := by decide +kernel
theorem dX5_digest_0 : decode cX5_digest 0 = .ok (.ldc2_w 148, 3) := by decide +kernel
theorem dX5_digest_3 : decode cX5_digest 3 = .ok (.aload_n 0, 1) := by decide +kernel
theorem dX5_digest_4 : decode cX5_digest 4 = .ok (.getfield 31, 3) := by decide +kernel
theorem dX5_digest_7 : decode cX5_digest 7 = .ok (.invokestatic 150, 3) := by decide +kernel
theorem dX5_digest_10 : decode cX5_digest 10 = .ok (.lstore_n 1, 1) := by decide +kernel
theorem dX5_digest_11 : decode cX5_digest 11 = .ok (.lload_n 1, 1) := by decide +kernel
theorem dX5_digest_12 : decode cX5_digest 12 = .ok (.aload_n 0, 1) := by decide +kernel
theorem dX5_digest_13 : decode cX5_digest 13 = .ok (.getfield 12, 3) := by decide +kernel
theorem dX5_digest_16 : decode cX5_digest 16 = .ok (.getfield 138, 3) := by decide +kernel
theorem dX5_digest_19 : decode cX5_digest 19 = .ok (.invokestatic 154, 3) := by decide +kernel
theorem dX5_digest_22 : decode cX5_digest 22 = .ok (.lstore_n 1, 1) := by decide +kernel
theorem dX5_digest_23 : decode cX5_digest 23 = .ok (.lload_n 1, 1) := by decide +kernel
theorem dX5_digest_24 : decode cX5_digest 24 = .ok (.aload_n 0, 1) := by decide +kernel
theorem dX5_digest_25 : decode cX5_digest 25 = .ok (.getfield 12, 3) := by decide +kernel
theorem dX5_digest_28 : decode cX5_digest 28 = .ok (.getfield 86, 3) := by decide +kernel
theorem dX5_digest_31 : decode cX5_digest 31 = .ok (.invokestatic 154, 3) := by decide +kernel
theorem dX5_digest_34 : decode cX5_digest 34 = .ok (.lstore_n 1, 1) := by decide +kernel
theorem dX5_digest_35 : decode cX5_digest 35 = .ok (.lload_n 1, 1) := by decide +kernel
theorem dX5_digest_36 : decode cX5_digest 36 = .ok (.aload_n 0, 1) := by decide +kernel
theorem dX5_digest_37 : decode cX5_digest 37 = .ok (.getfield 12, 3) := by decide +kernel
theorem dX5_digest_40 : decode cX5_digest 40 = .ok (.getfield 83, 3) := by decide +kernel
theorem dX5_digest_43 : decode cX5_digest 43 = .ok (.invokestatic 150, 3) := by decide +kernel
theorem dX5_digest_46 : decode cX5_digest 46 = .ok (.lstore_n 1, 1) := by decide +kernel
theorem dX5_digest_47 : decode cX5_digest 47 = .ok (.lload_n 1, 1) := by decide +kernel
theorem dX5_digest_48 : decode cX5_digest 48 = .ok (.aload_n 0, 1) := by decide +kernel
theorem dX5_digest_49 : decode cX5_digest 49 = .ok (.getfield 12, 3) := by decide +kernel
theorem dX5_digest_52 : decode cX5_digest 52 = .ok (.getfield 43, 3) := by decide +kernel
theorem dX5_digest_55 : decode cX5_digest 55 = .ok (.invokestatic 158, 3) := by decide +kernel
theorem dX5_digest_58 : decode cX5_digest 58 = .ok (.lstore_n 1, 1) := by decide +kernel
theorem dX5_digest_59 : decode cX5_digest 59 = .ok (.lload_n 1, 1) := by decide +kernel
theorem dX5_digest_60 : decode cX5_digest 60 = .ok (.aload_n 0, 1) := by decide +kernel
theorem dX5_digest_61 : decode cX5_digest 61 = .ok (.getfield 12, 3) := by decide +kernel
theorem dX5_digest_64 : decode cX5_digest 64 = .ok (.getfield 96, 3) := by decide +kernel
theorem dX5_digest_67 : decode cX5_digest 67 = .ok (.invokestatic 162, 3) := by decide +kernel
theorem dX5_digest_70 : decode cX5_digest 70 = .ok (.lstore_n 1, 1) := by decide +kernel
theorem dX5_digest_71 : decode cX5_digest 71 = .ok (.iconst 0, 1) := by decide +kernel
theorem dX5_digest_72 : decode cX5_digest 72 = .ok (.istore_n 3, 1) := by decide +kernel
theorem dX5_digest_73 : decode cX5_digest 73 = .ok (.iload_n 3, 1) := by decide +kernel
theorem dX5_digest_74 : decode cX5_digest 74 = .ok (.bipush 6, 2) := by decide +kernel
theorem dX5_digest_76 : decode cX5_digest 76 = .ok (.if_icmp .ge 33, 3) := by decide +kernel
theorem dX5_digest_79 : decode cX5_digest 79 = .ok (.lload_n 1, 1) := by decide +kernel
theorem dX5_digest_80 : decode cX5_digest 80 = .ok (.aload_n 0, 1) := by decide +kernel
theorem dX5_digest_81 : decode cX5_digest 81 = .ok (.getfield 12, 3) := by decide +kernel
theorem dX5_digest_84 : decode cX5_digest 84 = .ok (.getfield 70, 3) := by decide +kernel
theorem dX5_digest_87 : decode cX5_digest 87 = .ok (.iload_n 3, 1) := by decide +kernel
theorem dX5_digest_88 : decode cX5_digest 88 = .ok (.aaload, 1) := by decide +kernel
theorem dX5_digest_89 : decode cX5_digest 89 = .ok (.aload_n 0, 1) := by decide +kernel
theorem dX5_digest_90 : decode cX5_digest 90 = .ok (.getfield 12, 3) := by decide +kernel
theorem dX5_digest_93 : decode cX5_digest 93 = .ok (.getfield 96, 3) := by decide +kernel
theorem dX5_digest_96 : decode cX5_digest 96 = .ok (.getfield 128, 3) := by decide +kernel
theorem dX5_digest_99 : decode cX5_digest 99 = .ok (.invokestatic 166, 3) := by decide +kernel
theorem dX5_digest_102 : decode cX5_digest 102 = .ok (.lstore_n 1, 1) := by decide +kernel
theorem dX5_digest_103 : decode cX5_digest 103 = .ok (.iinc 3 1, 3) := by decide +kernel
theorem dX5_digest_106 : decode cX5_digest 106 = .ok (.goto (-33), 3) := by decide +kernel
theorem dX5_digest_109 : decode cX5_digest 109 = .ok (.lload_n 1, 1) := by decide +kernel
theorem dX5_digest_110 : decode cX5_digest 110 = .ok (.aload_n 0, 1) := by decide +kernel
theorem dX5_digest_111 : decode cX5_digest 111 = .ok (.getfield 12, 3) := by decide +kernel
theorem dX5_digest_114 : decode cX5_digest 114 = .ok (.getfield 135, 3) := by decide +kernel
theorem dX5_digest_117 : decode cX5_digest 117 = .ok (.invokestatic 150, 3) := by decide +kernel
theorem dX5_digest_120 : decode cX5_digest 120 = .ok (.lstore_n 1, 1) := by decide +kernel
theorem dX5_digest_121 : decode cX5_digest 121 = .ok (.lload_n 1, 1) := by decide +kernel
theorem dX5_digest_122 : decode cX5_digest 122 = .ok (.aload_n 0, 1) := by decide +kernel
theorem dX5_digest_123 : decode cX5_digest 123 = .ok (.getfield 12, 3) := by decide +kernel
theorem dX5_digest_126 : decode cX5_digest 126 = .ok (.getfield 109, 3) := by decide +kernel
theorem dX5_digest_129 : decode cX5_digest 129 = .ok (.invokevirtual 112, 3) := by decide +kernel
theorem dX5_digest_132 : decode cX5_digest 132 = .ok (.invokestatic 154, 3) := by decide +kernel
theorem dX5_digest_135 : decode cX5_digest 135 = .ok (.lstore_n 1, 1) := by decide +kernel
theorem dX5_digest_136 : decode cX5_digest 136 = .ok (.lload_n 1, 1) := by decide +kernel
theorem dX5_digest_137 : decode cX5_digest 137 = .ok (.aload_n 0, 1) := by decide +kernel
theorem dX5_digest_138 : decode cX5_digest 138 = .ok (.getfield 27, 3) := by decide +kernel
theorem dX5_digest_141 : decode cX5_digest 141 = .ok (.invokestatic 154, 3) := by decide +kernel
theorem dX5_digest_144 : decode cX5_digest 144 = .ok (.lreturn, 1) := by decide +kernel
theorem dX5_publish_0 : decode cX5_publish 0 = .ok (.aload_n 0, 1) := by decide +kernel
theorem dX5_publish_1 : decode cX5_publish 1 = .ok (.getfield 12, 3) := by decide +kernel
theorem dX5_publish_4 : decode cX5_publish 4 = .ok (.getfield 96, 3) := by decide +kernel
theorem dX5_publish_7 : decode cX5_publish 7 = .ok (.getfield 128, 3) := by decide +kernel
theorem dX5_publish_10 : decode cX5_publish 10 = .ok (.bipush 30, 2) := by decide +kernel
theorem dX5_publish_12 : decode cX5_publish 12 = .ok (.if_icmp .lt 10, 3) := by decide +kernel
theorem dX5_publish_15 : decode cX5_publish 15 = .ok (.aload_n 0, 1) := by decide +kernel
theorem dX5_publish_16 : decode cX5_publish 16 = .ok (.bipush (-4), 2) := by decide +kernel
theorem dX5_publish_18 : decode cX5_publish 18 = .ok (.invokevirtual 39, 3) := by decide +kernel
theorem dX5_publish_21 : decode cX5_publish 21 = .ok (.ireturn, 1) := by decide +kernel
theorem dX5_publish_22 : decode cX5_publish 22 = .ok (.aload_n 0, 1) := by decide +kernel
theorem dX5_publish_23 : decode cX5_publish 23 = .ok (.invokevirtual 56, 3) := by decide +kernel
theorem dX5_publish_26 : decode cX5_publish 26 = .ok (.aload_n 0, 1) := by decide +kernel
theorem dX5_publish_27 : decode cX5_publish 27 = .ok (.getfield 12, 3) := by decide +kernel
theorem dX5_publish_30 : decode cX5_publish 30 = .ok (.getfield 96, 3) := by decide +kernel
theorem dX5_publish_33 : decode cX5_publish 33 = .ok (.iload_n 2, 1) := by decide +kernel
theorem dX5_publish_34 : decode cX5_publish 34 = .ok (.iload_n 3, 1) := by decide +kernel
theorem dX5_publish_35 : decode cX5_publish 35 = .ok (.aload_n 0, 1) := by decide +kernel
theorem dX5_publish_36 : decode cX5_publish 36 = .ok (.getfield 12, 3) := by decide +kernel
theorem dX5_publish_39 : decode cX5_publish 39 = .ok (.getfield 138, 3) := by decide +kernel
theorem dX5_publish_42 : decode cX5_publish 42 = .ok (.iload 4, 2) := by decide +kernel
theorem dX5_publish_44 : decode cX5_publish 44 = .ok (.iload 5, 2) := by decide +kernel
theorem dX5_publish_46 : decode cX5_publish 46 = .ok (.invokevirtual 170, 3) := by decide +kernel
theorem dX5_publish_49 : decode cX5_publish 49 = .ok (.istore 6, 2) := by decide +kernel
theorem dX5_publish_51 : decode cX5_publish 51 = .ok (.aload_n 0, 1) := by decide +kernel
theorem dX5_publish_52 : decode cX5_publish 52 = .ok (.getfield 12, 3) := by decide +kernel
theorem dX5_publish_55 : decode cX5_publish 55 = .ok (.iload 6, 2) := by decide +kernel
theorem dX5_publish_57 : decode cX5_publish 57 = .ok (.iload_n 1, 1) := by decide +kernel
theorem dX5_publish_58 : decode cX5_publish 58 = .ok (.iconst 0, 1) := by decide +kernel
theorem dX5_publish_59 : decode cX5_publish 59 = .ok (.invokevirtual 172, 3) := by decide +kernel
theorem dX5_publish_62 : decode cX5_publish 62 = .ok (.pop, 1) := by decide +kernel
theorem dX5_publish_63 : decode cX5_publish 63 = .ok (.iload 6, 2) := by decide +kernel
theorem dX5_publish_65 : decode cX5_publish 65 = .ok (.ireturn, 1) := by decide +kernel
theorem dX5_save_0 : decode cX5_save 0 = .ok (.aload_n 0, 1) := by decide +kernel
theorem dX5_save_1 : decode cX5_save 1 = .ok (.getfield 27, 3) := by decide +kernel
theorem dX5_save_4 : decode cX5_save 4 = .ok (.iconst 4, 1) := by decide +kernel
theorem dX5_save_5 : decode cX5_save 5 = .ok (.if_icmp .ge 16, 3) := by decide +kernel
theorem dX5_save_8 : decode cX5_save 8 = .ok (.aload_n 0, 1) := by decide +kernel
theorem dX5_save_9 : decode cX5_save 9 = .ok (.dup, 1) := by decide +kernel
theorem dX5_save_10 : decode cX5_save 10 = .ok (.getfield 27, 3) := by decide +kernel
theorem dX5_save_13 : decode cX5_save 13 = .ok (.iconst 1, 1) := by decide +kernel
theorem dX5_save_14 : decode cX5_save 14 = .ok (.iadd, 1) := by decide +kernel
theorem dX5_save_15 : decode cX5_save 15 = .ok (.putfield 27, 3) := by decide +kernel
theorem dX5_save_18 : decode cX5_save 18 = .ok (.goto 44, 3) := by decide +kernel
theorem dX5_save_21 : decode cX5_save 21 = .ok (.aload_n 0, 1) := by decide +kernel
theorem dX5_save_22 : decode cX5_save 22 = .ok (.getfield 23, 3) := by decide +kernel
theorem dX5_save_25 : decode cX5_save 25 = .ok (.iconst 0, 1) := by decide +kernel
theorem dX5_save_26 : decode cX5_save 26 = .ok (.aaload, 1) := by decide +kernel
theorem dX5_save_27 : decode cX5_save 27 = .ok (.astore_n 1, 1) := by decide +kernel
theorem dX5_save_28 : decode cX5_save 28 = .ok (.iconst 1, 1) := by decide +kernel
theorem dX5_save_29 : decode cX5_save 29 = .ok (.istore_n 2, 1) := by decide +kernel
theorem dX5_save_30 : decode cX5_save 30 = .ok (.iload_n 2, 1) := by decide +kernel
theorem dX5_save_31 : decode cX5_save 31 = .ok (.iconst 4, 1) := by decide +kernel
theorem dX5_save_32 : decode cX5_save 32 = .ok (.if_icmp .ge 23, 3) := by decide +kernel
theorem dX5_save_35 : decode cX5_save 35 = .ok (.aload_n 0, 1) := by decide +kernel
theorem dX5_save_36 : decode cX5_save 36 = .ok (.getfield 23, 3) := by decide +kernel
theorem dX5_save_39 : decode cX5_save 39 = .ok (.iload_n 2, 1) := by decide +kernel
theorem dX5_save_40 : decode cX5_save 40 = .ok (.iconst 1, 1) := by decide +kernel
theorem dX5_save_41 : decode cX5_save 41 = .ok (.isub, 1) := by decide +kernel
theorem dX5_save_42 : decode cX5_save 42 = .ok (.aload_n 0, 1) := by decide +kernel
theorem dX5_save_43 : decode cX5_save 43 = .ok (.getfield 23, 3) := by decide +kernel
theorem dX5_save_46 : decode cX5_save 46 = .ok (.iload_n 2, 1) := by decide +kernel
theorem dX5_save_47 : decode cX5_save 47 = .ok (.aaload, 1) := by decide +kernel
theorem dX5_save_48 : decode cX5_save 48 = .ok (.aastore, 1) := by decide +kernel
theorem dX5_save_49 : decode cX5_save 49 = .ok (.iinc 2 1, 3) := by decide +kernel
theorem dX5_save_52 : decode cX5_save 52 = .ok (.goto (-22), 3) := by decide +kernel
theorem dX5_save_55 : decode cX5_save 55 = .ok (.aload_n 0, 1) := by decide +kernel
theorem dX5_save_56 : decode cX5_save 56 = .ok (.getfield 23, 3) := by decide +kernel
theorem dX5_save_59 : decode cX5_save 59 = .ok (.iconst 3, 1) := by decide +kernel
theorem dX5_save_60 : decode cX5_save 60 = .ok (.aload_n 1, 1) := by decide +kernel
theorem dX5_save_61 : decode cX5_save 61 = .ok (.aastore, 1) := by decide +kernel
theorem dX5_save_62 : decode cX5_save 62 = .ok (.aload_n 0, 1) := by decide +kernel
theorem dX5_save_63 : decode cX5_save 63 = .ok (.getfield 23, 3) := by decide +kernel
theorem dX5_save_66 : decode cX5_save 66 = .ok (.aload_n 0, 1) := by decide +kernel
theorem dX5_save_67 : decode cX5_save 67 = .ok (.getfield 27, 3) := by decide +kernel
theorem dX5_save_70 : decode cX5_save 70 = .ok (.iconst 1, 1) := by decide +kernel
theorem dX5_save_71 : decode cX5_save 71 = .ok (.isub, 1) := by decide +kernel
theorem dX5_save_72 : decode cX5_save 72 = .ok (.aaload, 1) := by decide +kernel
theorem dX5_save_73 : decode cX5_save 73 = .ok (.aload_n 0, 1) := by decide +kernel
theorem dX5_save_74 : decode cX5_save 74 = .ok (.getfield 12, 3) := by decide +kernel
theorem dX5_save_77 : decode cX5_save 77 = .ok (.invokevirtual 141, 3) := by decide +kernel
theorem dX5_save_80 : decode cX5_save 80 = .ok (.return_, 1) := by decide +kernel
theorem dX5_fail_0 : decode cX5_fail 0 = .ok (.iload_n 1, 1) := by decide +kernel
theorem dX5_fail_1 : decode cX5_fail 1 = .ok (.invokestatic 145, 3) := by decide +kernel
theorem dX5_fail_4 : decode cX5_fail 4 = .ok (.istore_n 2, 1) := by decide +kernel
theorem dX5_fail_5 : decode cX5_fail 5 = .ok (.iload_n 2, 1) := by decide +kernel
theorem dX5_fail_6 : decode cX5_fail 6 = .ok (.iconst 4, 1) := by decide +kernel
theorem dX5_fail_7 : decode cX5_fail 7 = .ok (.invokestatic 35, 3) := by decide +kernel
theorem dX5_fail_10 : decode cX5_fail 10 = .ok (.ifCond .eq 13, 3) := by decide +kernel
theorem dX5_fail_13 : decode cX5_fail 13 = .ok (.aload_n 0, 1) := by decide +kernel
theorem dX5_fail_14 : decode cX5_fail 14 = .ok (.getfield 31, 3) := by decide +kernel
theorem dX5_fail_17 : decode cX5_fail 17 = .ok (.iload_n 2, 1) := by decide +kernel
theorem dX5_fail_18 : decode cX5_fail 18 = .ok (.dup2, 1) := by decide +kernel
theorem dX5_fail_19 : decode cX5_fail 19 = .ok (.iaload, 1) := by decide +kernel
theorem dX5_fail_20 : decode cX5_fail 20 = .ok (.iconst 1, 1) := by decide +kernel
theorem dX5_fail_21 : decode cX5_fail 21 = .ok (.iadd, 1) := by decide +kernel
theorem dX5_fail_22 : decode cX5_fail 22 = .ok (.iastore, 1) := by decide +kernel
theorem dX5_fail_23 : decode cX5_fail 23 = .ok (.iload_n 1, 1) := by decide +kernel
theorem dX5_fail_24 : decode cX5_fail 24 = .ok (.ireturn, 1) := by decide +kernel
theorem dX5_errorSlot_0 : decode cX5_errorSlot 0 = .ok (.iload_n 0, 1) := by decide +kernel
theorem dX5_errorSlot_1 : decode cX5_errorSlot 1 = .ok (.bipush (-5), 2) := by decide +kernel
theorem dX5_errorSlot_3 : decode cX5_errorSlot 3 = .ok (.if_icmp .lt 16, 3) := by decide +kernel
theorem dX5_errorSlot_6 : decode cX5_errorSlot 6 = .ok (.iload_n 0, 1) := by decide +kernel
theorem dX5_errorSlot_7 : decode cX5_errorSlot 7 = .ok (.bipush (-2), 2) := by decide +kernel
theorem dX5_errorSlot_9 : decode cX5_errorSlot 9 = .ok (.if_icmp .gt 10, 3) := by decide +kernel
theorem dX5_errorSlot_12 : decode cX5_errorSlot 12 = .ok (.bipush (-2), 2) := by decide +kernel
theorem dX5_errorSlot_14 : decode cX5_errorSlot 14 = .ok (.iload_n 0, 1) := by decide +kernel
theorem dX5_errorSlot_15 : decode cX5_errorSlot 15 = .ok (.isub, 1) := by decide +kernel
theorem dX5_errorSlot_16 : decode cX5_errorSlot 16 = .ok (.goto 4, 3) := by decide +kernel
theorem dX5_errorSlot_19 : decode cX5_errorSlot 19 = .ok (.iconst (-1), 1) := by decide +kernel
theorem dX5_errorSlot_20 : decode cX5_errorSlot 20 = .ok (.ireturn, 1) := by decide +kernel
theorem dX5_isArticle_0 : decode cX5_isArticle 0 = .ok (.iload_n 1, 1) := by decide +kernel
theorem dX5_isArticle_1 : decode cX5_isArticle 1 = .ok (.aload_n 0, 1) := by decide +kernel
theorem dX5_isArticle_2 : decode cX5_isArticle 2 = .ok (.getfield 12, 3) := by decide +kernel
theorem dX5_isArticle_5 : decode cX5_isArticle 5 = .ok (.getfield 96, 3) := by decide +kernel
theorem dX5_isArticle_8 : decode cX5_isArticle 8 = .ok (.getfield 128, 3) := by decide +kernel
theorem dX5_isArticle_11 : decode cX5_isArticle 11 = .ok (.invokestatic 35, 3) := by decide +kernel
theorem dX5_isArticle_14 : decode cX5_isArticle 14 = .ok (.ireturn, 1) := by decide +kernel
theorem dX5_isLimit_0 : decode cX5_isLimit 0 = .ok (.iload_n 0, 1) := by decide +kernel
theorem dX5_isLimit_1 : decode cX5_isLimit 1 = .ok (.iconst 1, 1) := by decide +kernel
theorem dX5_isLimit_2 : decode cX5_isLimit 2 = .ok (.if_icmp .lt 13, 3) := by decide +kernel
theorem dX5_isLimit_5 : decode cX5_isLimit 5 = .ok (.iload_n 0, 1) := by decide +kernel
theorem dX5_isLimit_6 : decode cX5_isLimit 6 = .ok (.bipush 30, 2) := by decide +kernel
theorem dX5_isLimit_8 : decode cX5_isLimit 8 = .ok (.if_icmp .gt 7, 3) := by decide +kernel
theorem dX5_isLimit_11 : decode cX5_isLimit 11 = .ok (.iconst 1, 1) := by decide +kernel
theorem dX5_isLimit_12 : decode cX5_isLimit 12 = .ok (.goto 4, 3) := by decide +kernel
theorem dX5_isLimit_15 : decode cX5_isLimit 15 = .ok (.iconst 0, 1) := by decide +kernel
theorem dX5_isLimit_16 : decode cX5_isLimit 16 = .ok (.ireturn, 1) := by decide +kernel
theorem dX5_isBelow_0 : decode cX5_isBelow 0 = .ok (.iload_n 0, 1) := by decide +kernel
theorem dX5_isBelow_1 : decode cX5_isBelow 1 = .ok (.ifCond .lt 12, 3) := by decide +kernel
theorem dX5_isBelow_4 : decode cX5_isBelow 4 = .ok (.iload_n 0, 1) := by decide +kernel
theorem dX5_isBelow_5 : decode cX5_isBelow 5 = .ok (.iload_n 1, 1) := by decide +kernel
theorem dX5_isBelow_6 : decode cX5_isBelow 6 = .ok (.if_icmp .ge 7, 3) := by decide +kernel
theorem dX5_isBelow_9 : decode cX5_isBelow 9 = .ok (.iconst 1, 1) := by decide +kernel
theorem dX5_isBelow_10 : decode cX5_isBelow 10 = .ok (.goto 4, 3) := by decide +kernel
theorem dX5_isBelow_13 : decode cX5_isBelow 13 = .ok (.iconst 0, 1) := by decide +kernel
theorem dX5_isBelow_14 : decode cX5_isBelow 14 = .ok (.ireturn, 1) := by decide +kernel
theorem dX5_has_0 : decode cX5_has 0 = .ok (.iload_n 0, 1) := by decide +kernel
theorem dX5_has_1 : decode cX5_has 1 = .ok (.iconst 1, 1) := by decide +kernel
theorem dX5_has_2 : decode cX5_has 2 = .ok (.iload_n 1, 1) := by decide +kernel
theorem dX5_has_3 : decode cX5_has 3 = .ok (.ishl, 1) := by decide +kernel
theorem dX5_has_4 : decode cX5_has 4 = .ok (.iand, 1) := by decide +kernel
theorem dX5_has_5 : decode cX5_has 5 = .ok (.ifCond .eq 7, 3) := by decide +kernel
theorem dX5_has_8 : decode cX5_has 8 = .ok (.iconst 1, 1) := by decide +kernel
theorem dX5_has_9 : decode cX5_has 9 = .ok (.goto 4, 3) := by decide +kernel
theorem dX5_has_12 : decode cX5_has 12 = .ok (.iconst 0, 1) := by decide +kernel
theorem dX5_has_13 : decode cX5_has 13 = .ok (.ireturn, 1) := by decide +kernel
theorem dX5_mix_0 : decode cX5_mix 0 = .ok (.ldc2_w 176, 3) := by decide +kernel
theorem dX5_mix_3 : decode cX5_mix 3 = .ok (.lload_n 0, 1) := by decide +kernel
theorem dX5_mix_4 : decode cX5_mix 4 = .ok (.lmul, 1) := by decide +kernel
theorem dX5_mix_5 : decode cX5_mix 5 = .ok (.iload_n 2, 1) := by decide +kernel
theorem dX5_mix_6 : decode cX5_mix 6 = .ok (.i2l, 1) := by decide +kernel
theorem dX5_mix_7 : decode cX5_mix 7 = .ok (.ladd, 1) := by decide +kernel
theorem dX5_mix_8 : decode cX5_mix 8 = .ok (.lreturn, 1) := by decide +kernel
theorem dX5_mixAll_0 : decode cX5_mixAll 0 = .ok (.lload_n 0, 1) := by decide +kernel
theorem dX5_mixAll_1 : decode cX5_mixAll 1 = .ok (.lstore_n 3, 1) := by decide +kernel
theorem dX5_mixAll_2 : decode cX5_mixAll 2 = .ok (.aload_n 2, 1) := by decide +kernel
theorem dX5_mixAll_3 : decode cX5_mixAll 3 = .ok (.astore 5, 2) := by decide +kernel
theorem dX5_mixAll_5 : decode cX5_mixAll 5 = .ok (.aload 5, 2) := by decide +kernel
theorem dX5_mixAll_7 : decode cX5_mixAll 7 = .ok (.arraylength, 1) := by decide +kernel
theorem dX5_mixAll_8 : decode cX5_mixAll 8 = .ok (.istore 6, 2) := by decide +kernel
theorem dX5_mixAll_10 : decode cX5_mixAll 10 = .ok (.iconst 0, 1) := by decide +kernel
theorem dX5_mixAll_11 : decode cX5_mixAll 11 = .ok (.istore 7, 2) := by decide +kernel
theorem dX5_mixAll_13 : decode cX5_mixAll 13 = .ok (.iload 7, 2) := by decide +kernel
theorem dX5_mixAll_15 : decode cX5_mixAll 15 = .ok (.iload 6, 2) := by decide +kernel
theorem dX5_mixAll_17 : decode cX5_mixAll 17 = .ok (.if_icmp .ge 23, 3) := by decide +kernel
theorem dX5_mixAll_20 : decode cX5_mixAll 20 = .ok (.aload 5, 2) := by decide +kernel
theorem dX5_mixAll_22 : decode cX5_mixAll 22 = .ok (.iload 7, 2) := by decide +kernel
theorem dX5_mixAll_24 : decode cX5_mixAll 24 = .ok (.iaload, 1) := by decide +kernel
theorem dX5_mixAll_25 : decode cX5_mixAll 25 = .ok (.istore 8, 2) := by decide +kernel
theorem dX5_mixAll_27 : decode cX5_mixAll 27 = .ok (.lload_n 3, 1) := by decide +kernel
theorem dX5_mixAll_28 : decode cX5_mixAll 28 = .ok (.iload 8, 2) := by decide +kernel
theorem dX5_mixAll_30 : decode cX5_mixAll 30 = .ok (.invokestatic 154, 3) := by decide +kernel
theorem dX5_mixAll_33 : decode cX5_mixAll 33 = .ok (.lstore_n 3, 1) := by decide +kernel
theorem dX5_mixAll_34 : decode cX5_mixAll 34 = .ok (.iinc 7 1, 3) := by decide +kernel
theorem dX5_mixAll_37 : decode cX5_mixAll 37 = .ok (.goto (-24), 3) := by decide +kernel
theorem dX5_mixAll_40 : decode cX5_mixAll 40 = .ok (.lload_n 3, 1) := by decide +kernel
theorem dX5_mixAll_41 : decode cX5_mixAll 41 = .ok (.lreturn, 1) := by decide +kernel
theorem dX5_mixLinks_0 : decode cX5_mixLinks 0 = .ok (.lload_n 0, 1) := by decide +kernel
theorem dX5_mixLinks_1 : decode cX5_mixLinks 1 = .ok (.lstore_n 3, 1) := by decide +kernel
theorem dX5_mixLinks_2 : decode cX5_mixLinks 2 = .ok (.iconst 0, 1) := by decide +kernel
theorem dX5_mixLinks_3 : decode cX5_mixLinks 3 = .ok (.istore 5, 2) := by decide +kernel
theorem dX5_mixLinks_5 : decode cX5_mixLinks 5 = .ok (.iload 5, 2) := by decide +kernel
theorem dX5_mixLinks_7 : decode cX5_mixLinks 7 = .ok (.aload_n 2, 1) := by decide +kernel
theorem dX5_mixLinks_8 : decode cX5_mixLinks 8 = .ok (.getfield 53, 3) := by decide +kernel
theorem dX5_mixLinks_11 : decode cX5_mixLinks 11 = .ok (.if_icmp .ge 45, 3) := by decide +kernel
theorem dX5_mixLinks_14 : decode cX5_mixLinks 14 = .ok (.lload_n 3, 1) := by decide +kernel
theorem dX5_mixLinks_15 : decode cX5_mixLinks 15 = .ok (.aload_n 2, 1) := by decide +kernel
theorem dX5_mixLinks_16 : decode cX5_mixLinks 16 = .ok (.getfield 178, 3) := by decide +kernel
theorem dX5_mixLinks_19 : decode cX5_mixLinks 19 = .ok (.iload 5, 2) := by decide +kernel
theorem dX5_mixLinks_21 : decode cX5_mixLinks 21 = .ok (.iaload, 1) := by decide +kernel
theorem dX5_mixLinks_22 : decode cX5_mixLinks 22 = .ok (.invokestatic 154, 3) := by decide +kernel
theorem dX5_mixLinks_25 : decode cX5_mixLinks 25 = .ok (.lstore_n 3, 1) := by decide +kernel
theorem dX5_mixLinks_26 : decode cX5_mixLinks 26 = .ok (.lload_n 3, 1) := by decide +kernel
theorem dX5_mixLinks_27 : decode cX5_mixLinks 27 = .ok (.aload_n 2, 1) := by decide +kernel
theorem dX5_mixLinks_28 : decode cX5_mixLinks 28 = .ok (.getfield 181, 3) := by decide +kernel
theorem dX5_mixLinks_31 : decode cX5_mixLinks 31 = .ok (.iload 5, 2) := by decide +kernel
theorem dX5_mixLinks_33 : decode cX5_mixLinks 33 = .ok (.iaload, 1) := by decide +kernel
theorem dX5_mixLinks_34 : decode cX5_mixLinks 34 = .ok (.invokestatic 154, 3) := by decide +kernel
theorem dX5_mixLinks_37 : decode cX5_mixLinks 37 = .ok (.lstore_n 3, 1) := by decide +kernel
theorem dX5_mixLinks_38 : decode cX5_mixLinks 38 = .ok (.lload_n 3, 1) := by decide +kernel
theorem dX5_mixLinks_39 : decode cX5_mixLinks 39 = .ok (.aload_n 2, 1) := by decide +kernel
theorem dX5_mixLinks_40 : decode cX5_mixLinks 40 = .ok (.getfield 67, 3) := by decide +kernel
theorem dX5_mixLinks_43 : decode cX5_mixLinks 43 = .ok (.iload 5, 2) := by decide +kernel
theorem dX5_mixLinks_45 : decode cX5_mixLinks 45 = .ok (.iaload, 1) := by decide +kernel
theorem dX5_mixLinks_46 : decode cX5_mixLinks 46 = .ok (.invokestatic 154, 3) := by decide +kernel
theorem dX5_mixLinks_49 : decode cX5_mixLinks 49 = .ok (.lstore_n 3, 1) := by decide +kernel
theorem dX5_mixLinks_50 : decode cX5_mixLinks 50 = .ok (.iinc 5 1, 3) := by decide +kernel
theorem dX5_mixLinks_53 : decode cX5_mixLinks 53 = .ok (.goto (-48), 3) := by decide +kernel
theorem dX5_mixLinks_56 : decode cX5_mixLinks 56 = .ok (.lload_n 3, 1) := by decide +kernel
theorem dX5_mixLinks_57 : decode cX5_mixLinks 57 = .ok (.lreturn, 1) := by decide +kernel
theorem dX5_mixArticles_0 : decode cX5_mixArticles 0 = .ok (.lload_n 0, 1) := by decide +kernel
theorem dX5_mixArticles_1 : decode cX5_mixArticles 1 = .ok (.aload_n 2, 1) := by decide +kernel
theorem dX5_mixArticles_2 : decode cX5_mixArticles 2 = .ok (.getfield 128, 3) := by decide +kernel
theorem dX5_mixArticles_5 : decode cX5_mixArticles 5 = .ok (.invokestatic 154, 3) := by decide +kernel
theorem dX5_mixArticles_8 : decode cX5_mixArticles 8 = .ok (.lstore_n 3, 1) := by decide +kernel
theorem dX5_mixArticles_9 : decode cX5_mixArticles 9 = .ok (.iconst 0, 1) := by decide +kernel
theorem dX5_mixArticles_10 : decode cX5_mixArticles 10 = .ok (.istore 5, 2) := by decide +kernel
theorem dX5_mixArticles_12 : decode cX5_mixArticles 12 = .ok (.iload 5, 2) := by decide +kernel
theorem dX5_mixArticles_14 : decode cX5_mixArticles 14 = .ok (.aload_n 2, 1) := by decide +kernel
theorem dX5_mixArticles_15 : decode cX5_mixArticles 15 = .ok (.getfield 128, 3) := by decide +kernel
theorem dX5_mixArticles_18 : decode cX5_mixArticles 18 = .ok (.if_icmp .ge 69, 3) := by decide +kernel
theorem dX5_mixArticles_21 : decode cX5_mixArticles 21 = .ok (.lload_n 3, 1) := by decide +kernel
theorem dX5_mixArticles_22 : decode cX5_mixArticles 22 = .ok (.aload_n 2, 1) := by decide +kernel
theorem dX5_mixArticles_23 : decode cX5_mixArticles 23 = .ok (.getfield 100, 3) := by decide +kernel
theorem dX5_mixArticles_26 : decode cX5_mixArticles 26 = .ok (.iload 5, 2) := by decide +kernel
theorem dX5_mixArticles_28 : decode cX5_mixArticles 28 = .ok (.iaload, 1) := by decide +kernel
theorem dX5_mixArticles_29 : decode cX5_mixArticles 29 = .ok (.invokestatic 154, 3) := by decide +kernel
theorem dX5_mixArticles_32 : decode cX5_mixArticles 32 = .ok (.lstore_n 3, 1) := by decide +kernel
theorem dX5_mixArticles_33 : decode cX5_mixArticles 33 = .ok (.lload_n 3, 1) := by decide +kernel
theorem dX5_mixArticles_34 : decode cX5_mixArticles 34 = .ok (.aload_n 2, 1) := by decide +kernel
theorem dX5_mixArticles_35 : decode cX5_mixArticles 35 = .ok (.getfield 184, 3) := by decide +kernel
theorem dX5_mixArticles_38 : decode cX5_mixArticles 38 = .ok (.iload 5, 2) := by decide +kernel
theorem dX5_mixArticles_40 : decode cX5_mixArticles 40 = .ok (.iaload, 1) := by decide +kernel
theorem dX5_mixArticles_41 : decode cX5_mixArticles 41 = .ok (.invokestatic 154, 3) := by decide +kernel
theorem dX5_mixArticles_44 : decode cX5_mixArticles 44 = .ok (.lstore_n 3, 1) := by decide +kernel
theorem dX5_mixArticles_45 : decode cX5_mixArticles 45 = .ok (.lload_n 3, 1) := by decide +kernel
theorem dX5_mixArticles_46 : decode cX5_mixArticles 46 = .ok (.aload_n 2, 1) := by decide +kernel
theorem dX5_mixArticles_47 : decode cX5_mixArticles 47 = .ok (.getfield 187, 3) := by decide +kernel
theorem dX5_mixArticles_50 : decode cX5_mixArticles 50 = .ok (.iload 5, 2) := by decide +kernel
theorem dX5_mixArticles_52 : decode cX5_mixArticles 52 = .ok (.iaload, 1) := by decide +kernel
theorem dX5_mixArticles_53 : decode cX5_mixArticles 53 = .ok (.invokestatic 154, 3) := by decide +kernel
theorem dX5_mixArticles_56 : decode cX5_mixArticles 56 = .ok (.lstore_n 3, 1) := by decide +kernel
theorem dX5_mixArticles_57 : decode cX5_mixArticles 57 = .ok (.lload_n 3, 1) := by decide +kernel
theorem dX5_mixArticles_58 : decode cX5_mixArticles 58 = .ok (.aload_n 2, 1) := by decide +kernel
theorem dX5_mixArticles_59 : decode cX5_mixArticles 59 = .ok (.getfield 190, 3) := by decide +kernel
theorem dX5_mixArticles_62 : decode cX5_mixArticles 62 = .ok (.iload 5, 2) := by decide +kernel
theorem dX5_mixArticles_64 : decode cX5_mixArticles 64 = .ok (.iaload, 1) := by decide +kernel
theorem dX5_mixArticles_65 : decode cX5_mixArticles 65 = .ok (.invokestatic 154, 3) := by decide +kernel
theorem dX5_mixArticles_68 : decode cX5_mixArticles 68 = .ok (.lstore_n 3, 1) := by decide +kernel
theorem dX5_mixArticles_69 : decode cX5_mixArticles 69 = .ok (.lload_n 3, 1) := by decide +kernel
theorem dX5_mixArticles_70 : decode cX5_mixArticles 70 = .ok (.aload_n 2, 1) := by decide +kernel
theorem dX5_mixArticles_71 : decode cX5_mixArticles 71 = .ok (.getfield 193, 3) := by decide +kernel
theorem dX5_mixArticles_74 : decode cX5_mixArticles 74 = .ok (.iload 5, 2) := by decide +kernel
theorem dX5_mixArticles_76 : decode cX5_mixArticles 76 = .ok (.iaload, 1) := by decide +kernel
theorem dX5_mixArticles_77 : decode cX5_mixArticles 77 = .ok (.invokestatic 154, 3) := by decide +kernel
theorem dX5_mixArticles_80 : decode cX5_mixArticles 80 = .ok (.lstore_n 3, 1) := by decide +kernel
theorem dX5_mixArticles_81 : decode cX5_mixArticles 81 = .ok (.iinc 5 1, 3) := by decide +kernel
theorem dX5_mixArticles_84 : decode cX5_mixArticles 84 = .ok (.goto (-72), 3) := by decide +kernel
theorem dX5_mixArticles_87 : decode cX5_mixArticles 87 = .ok (.lload_n 3, 1) := by decide +kernel
theorem dX5_mixArticles_88 : decode cX5_mixArticles 88 = .ok (.lreturn, 1) := by decide +kernel
theorem dX5_mixHost_0 : decode cX5_mixHost 0 = .ok (.lload_n 0, 1) := by decide +kernel
theorem dX5_mixHost_1 : decode cX5_mixHost 1 = .ok (.aload_n 2, 1) := by decide +kernel
theorem dX5_mixHost_2 : decode cX5_mixHost 2 = .ok (.getfield 74, 3) := by decide +kernel
theorem dX5_mixHost_5 : decode cX5_mixHost 5 = .ok (.invokestatic 154, 3) := by decide +kernel
theorem dX5_mixHost_8 : decode cX5_mixHost 8 = .ok (.lstore 4, 2) := by decide +kernel
theorem dX5_mixHost_10 : decode cX5_mixHost 10 = .ok (.lload 4, 2) := by decide +kernel
theorem dX5_mixHost_12 : decode cX5_mixHost 12 = .ok (.aload_n 2, 1) := by decide +kernel
theorem dX5_mixHost_13 : decode cX5_mixHost 13 = .ok (.invokevirtual 125, 3) := by decide +kernel
theorem dX5_mixHost_16 : decode cX5_mixHost 16 = .ok (.invokestatic 154, 3) := by decide +kernel
theorem dX5_mixHost_19 : decode cX5_mixHost 19 = .ok (.lstore 4, 2) := by decide +kernel
theorem dX5_mixHost_21 : decode cX5_mixHost 21 = .ok (.iconst 0, 1) := by decide +kernel
theorem dX5_mixHost_22 : decode cX5_mixHost 22 = .ok (.istore 6, 2) := by decide +kernel
theorem dX5_mixHost_24 : decode cX5_mixHost 24 = .ok (.iload 6, 2) := by decide +kernel
theorem dX5_mixHost_26 : decode cX5_mixHost 26 = .ok (.iload_n 3, 1) := by decide +kernel
theorem dX5_mixHost_27 : decode cX5_mixHost 27 = .ok (.if_icmp .ge 44, 3) := by decide +kernel
theorem dX5_mixHost_30 : decode cX5_mixHost 30 = .ok (.lload 4, 2) := by decide +kernel
theorem dX5_mixHost_32 : decode cX5_mixHost 32 = .ok (.aload_n 2, 1) := by decide +kernel
theorem dX5_mixHost_33 : decode cX5_mixHost 33 = .ok (.iload 6, 2) := by decide +kernel
theorem dX5_mixHost_35 : decode cX5_mixHost 35 = .ok (.invokevirtual 119, 3) := by decide +kernel
theorem dX5_mixHost_38 : decode cX5_mixHost 38 = .ok (.ifCond .eq 7, 3) := by decide +kernel
theorem dX5_mixHost_41 : decode cX5_mixHost 41 = .ok (.iconst 1, 1) := by decide +kernel
theorem dX5_mixHost_42 : decode cX5_mixHost 42 = .ok (.goto 4, 3) := by decide +kernel
theorem dX5_mixHost_45 : decode cX5_mixHost 45 = .ok (.iconst 0, 1) := by decide +kernel
theorem dX5_mixHost_46 : decode cX5_mixHost 46 = .ok (.invokestatic 154, 3) := by decide +kernel
theorem dX5_mixHost_49 : decode cX5_mixHost 49 = .ok (.lstore 4, 2) := by decide +kernel
theorem dX5_mixHost_51 : decode cX5_mixHost 51 = .ok (.lload 4, 2) := by decide +kernel
theorem dX5_mixHost_53 : decode cX5_mixHost 53 = .ok (.aload_n 2, 1) := by decide +kernel
theorem dX5_mixHost_54 : decode cX5_mixHost 54 = .ok (.getfield 122, 3) := by decide +kernel
theorem dX5_mixHost_57 : decode cX5_mixHost 57 = .ok (.iload 6, 2) := by decide +kernel
theorem dX5_mixHost_59 : decode cX5_mixHost 59 = .ok (.iaload, 1) := by decide +kernel
theorem dX5_mixHost_60 : decode cX5_mixHost 60 = .ok (.invokestatic 154, 3) := by decide +kernel
theorem dX5_mixHost_63 : decode cX5_mixHost 63 = .ok (.lstore 4, 2) := by decide +kernel
theorem dX5_mixHost_65 : decode cX5_mixHost 65 = .ok (.iinc 6 1, 3) := by decide +kernel
theorem dX5_mixHost_68 : decode cX5_mixHost 68 = .ok (.goto (-44), 3) := by decide +kernel
theorem dX5_mixHost_71 : decode cX5_mixHost 71 = .ok (.lload 4, 2) := by decide +kernel
theorem dX5_mixHost_73 : decode cX5_mixHost 73 = .ok (.lreturn, 1) := by decide +kernel
theorem dX6_init_0 : decode cX6_init 0 = .ok (.aload_n 0, 1) := by decide +kernel
theorem dX6_init_1 : decode cX6_init 1 = .ok (.invokespecial 1, 3) := by decide +kernel
theorem dX6_init_4 : decode cX6_init 4 = .ok (.aload_n 0, 1) := by decide +kernel
theorem dX6_init_5 : decode cX6_init 5 = .ok (.sipush 1597, 3) := by decide +kernel
theorem dX6_init_8 : decode cX6_init 8 = .ok (.newarray .int, 2) := by decide +kernel
theorem dX6_init_10 : decode cX6_init 10 = .ok (.putfield 7, 3) := by decide +kernel
theorem dX6_init_13 : decode cX6_init 13 = .ok (.aload_n 0, 1) := by decide +kernel
theorem dX6_init_14 : decode cX6_init 14 = .ok (.sipush 6388, 3) := by decide +kernel
theorem dX6_init_17 : decode cX6_init 17 = .ok (.newarray .int, 2) := by decide +kernel
theorem dX6_init_19 : decode cX6_init 19 = .ok (.putfield 13, 3) := by decide +kernel
theorem dX6_init_22 : decode cX6_init 22 = .ok (.aload_n 0, 1) := by decide +kernel
theorem dX6_init_23 : decode cX6_init 23 = .ok (.iconst 4, 1) := by decide +kernel
theorem dX6_init_24 : decode cX6_init 24 = .ok (.newarray .int, 2) := by decide +kernel
theorem dX6_init_26 : decode cX6_init 26 = .ok (.putfield 16, 3) := by decide +kernel
theorem dX6_init_29 : decode cX6_init 29 = .ok (.aload_n 0, 1) := by decide +kernel
theorem dX6_init_30 : decode cX6_init 30 = .ok (.sipush 1024, 3) := by decide +kernel
theorem dX6_init_33 : decode cX6_init 33 = .ok (.newarray .int, 2) := by decide +kernel
theorem dX6_init_35 : decode cX6_init 35 = .ok (.putfield 19, 3) := by decide +kernel
theorem dX6_init_38 : decode cX6_init 38 = .ok (.aload_n 0, 1) := by decide +kernel
theorem dX6_init_39 : decode cX6_init 39 = .ok (.getfield 7, 3) := by decide +kernel
theorem dX6_init_42 : decode cX6_init 42 = .ok (.iconst 1, 1) := by decide +kernel
theorem dX6_init_43 : decode cX6_init 43 = .ok (.bipush 10, 2) := by decide +kernel
theorem dX6_init_45 : decode cX6_init 45 = .ok (.iastore, 1) := by decide +kernel
theorem dX6_init_46 : decode cX6_init 46 = .ok (.iconst 0, 1) := by decide +kernel
theorem dX6_init_47 : decode cX6_init 47 = .ok (.istore_n 1, 1) := by decide +kernel
theorem dX6_init_48 : decode cX6_init 48 = .ok (.iload_n 1, 1) := by decide +kernel
theorem dX6_init_49 : decode cX6_init 49 = .ok (.iconst 4, 1) := by decide +kernel
theorem dX6_init_50 : decode cX6_init 50 = .ok (.if_icmp .ge 18, 3) := by decide +kernel
theorem dX6_init_53 : decode cX6_init 53 = .ok (.aload_n 0, 1) := by decide +kernel
theorem dX6_init_54 : decode cX6_init 54 = .ok (.getfield 7, 3) := by decide +kernel
theorem dX6_init_57 : decode cX6_init 57 = .ok (.iconst 2, 1) := by decide +kernel
theorem dX6_init_58 : decode cX6_init 58 = .ok (.iload_n 1, 1) := by decide +kernel
theorem dX6_init_59 : decode cX6_init 59 = .ok (.iadd, 1) := by decide +kernel
theorem dX6_init_60 : decode cX6_init 60 = .ok (.iconst 5, 1) := by decide +kernel
theorem dX6_init_61 : decode cX6_init 61 = .ok (.iastore, 1) := by decide +kernel
theorem dX6_init_62 : decode cX6_init 62 = .ok (.iinc 1 1, 3) := by decide +kernel
theorem dX6_init_65 : decode cX6_init 65 = .ok (.goto (-17), 3) := by decide +kernel
theorem dX6_init_68 : decode cX6_init 68 = .ok (.iconst 0, 1) := by decide +kernel
theorem dX6_init_69 : decode cX6_init 69 = .ok (.istore_n 1, 1) := by decide +kernel
theorem dX6_init_70 : decode cX6_init 70 = .ok (.iload_n 1, 1) := by decide +kernel
theorem dX6_init_71 : decode cX6_init 71 = .ok (.bipush 6, 2) := by decide +kernel
theorem dX6_init_73 : decode cX6_init 73 = .ok (.if_icmp .ge 20, 3) := by decide +kernel
theorem dX6_init_76 : decode cX6_init 76 = .ok (.aload_n 0, 1) := by decide +kernel
theorem dX6_init_77 : decode cX6_init 77 = .ok (.getfield 7, 3) := by decide +kernel
theorem dX6_init_80 : decode cX6_init 80 = .ok (.bipush 43, 2) := by decide +kernel
theorem dX6_init_82 : decode cX6_init 82 = .ok (.iload_n 1, 1) := by decide +kernel
theorem dX6_init_83 : decode cX6_init 83 = .ok (.iadd, 1) := by decide +kernel
theorem dX6_init_84 : decode cX6_init 84 = .ok (.bipush 15, 2) := by decide +kernel
theorem dX6_init_86 : decode cX6_init 86 = .ok (.iastore, 1) := by decide +kernel
theorem dX6_init_87 : decode cX6_init 87 = .ok (.iinc 1 1, 3) := by decide +kernel
theorem dX6_init_90 : decode cX6_init 90 = .ok (.goto (-20), 3) := by decide +kernel
theorem dX6_init_93 : decode cX6_init 93 = .ok (.iconst 0, 1) := by decide +kernel
theorem dX6_init_94 : decode cX6_init 94 = .ok (.istore_n 1, 1) := by decide +kernel
theorem dX6_init_95 : decode cX6_init 95 = .ok (.iload_n 1, 1) := by decide +kernel
theorem dX6_init_96 : decode cX6_init 96 = .ok (.sipush 180, 3) := by decide +kernel
theorem dX6_init_99 : decode cX6_init 99 = .ok (.if_icmp .ge 20, 3) := by decide +kernel
theorem dX6_init_102 : decode cX6_init 102 = .ok (.aload_n 0, 1) := by decide +kernel
theorem dX6_init_103 : decode cX6_init 103 = .ok (.getfield 7, 3) := by decide +kernel
theorem dX6_init_106 : decode cX6_init 106 = .ok (.sipush 200, 3) := by decide +kernel
theorem dX6_init_109 : decode cX6_init 109 = .ok (.iload_n 1, 1) := by decide +kernel
theorem dX6_init_110 : decode cX6_init 110 = .ok (.iadd, 1) := by decide +kernel
theorem dX6_init_111 : decode cX6_init 111 = .ok (.iconst (-1), 1) := by decide +kernel
theorem dX6_init_112 : decode cX6_init 112 = .ok (.iastore, 1) := by decide +kernel
theorem dX6_init_113 : decode cX6_init 113 = .ok (.iinc 1 1, 3) := by decide +kernel
theorem dX6_init_116 : decode cX6_init 116 = .ok (.goto (-21), 3) := by decide +kernel
theorem dX6_init_119 : decode cX6_init 119 = .ok (.return_, 1) := by decide +kernel
theorem dX6_in_0 : decode cX6_in 0 = .ok (.lload_n 0, 1) := by decide +kernel
theorem dX6_in_1 : decode cX6_in 1 = .ok (.lload_n 2, 1) := by decide +kernel
theorem dX6_in_2 : decode cX6_in 2 = .ok (.lcmp, 1) := by decide +kernel
theorem dX6_in_3 : decode cX6_in 3 = .ok (.ifCond .lt 14, 3) := by decide +kernel
theorem dX6_in_6 : decode cX6_in 6 = .ok (.lload_n 0, 1) := by decide +kernel
theorem dX6_in_7 : decode cX6_in 7 = .ok (.lload 4, 2) := by decide +kernel
theorem dX6_in_9 : decode cX6_in 9 = .ok (.lcmp, 1) := by decide +kernel
theorem dX6_in_10 : decode cX6_in 10 = .ok (.ifCond .gt 7, 3) := by decide +kernel
theorem dX6_in_13 : decode cX6_in 13 = .ok (.iconst 1, 1) := by decide +kernel
theorem dX6_in_14 : decode cX6_in 14 = .ok (.goto 4, 3) := by decide +kernel
theorem dX6_in_17 : decode cX6_in 17 = .ok (.iconst 0, 1) := by decide +kernel
theorem dX6_in_18 : decode cX6_in 18 = .ok (.ireturn, 1) := by decide +kernel
theorem dX6_error_0 : decode cX6_error 0 = .ok (.aload_n 0, 1) := by decide +kernel
theorem dX6_error_1 : decode cX6_error 1 = .ok (.getfield 16, 3) := by decide +kernel
theorem dX6_error_4 : decode cX6_error 4 = .ok (.bipush (-2), 2) := by decide +kernel
theorem dX6_error_6 : decode cX6_error 6 = .ok (.iload_n 1, 1) := by decide +kernel
theorem dX6_error_7 : decode cX6_error 7 = .ok (.isub, 1) := by decide +kernel
theorem dX6_error_8 : decode cX6_error 8 = .ok (.dup2, 1) := by decide +kernel
theorem dX6_error_9 : decode cX6_error 9 = .ok (.iaload, 1) := by decide +kernel
theorem dX6_error_10 : decode cX6_error 10 = .ok (.iconst 1, 1) := by decide +kernel
theorem dX6_error_11 : decode cX6_error 11 = .ok (.iadd, 1) := by decide +kernel
theorem dX6_error_12 : decode cX6_error 12 = .ok (.iastore, 1) := by decide +kernel
theorem dX6_error_13 : decode cX6_error 13 = .ok (.iload_n 1, 1) := by decide +kernel
theorem dX6_error_14 : decode cX6_error 14 = .ok (.ireturn, 1) := by decide +kernel
theorem dX6_save_0 : decode cX6_save 0 = .ok (.aload_n 0, 1) := by decide +kernel
theorem dX6_save_1 : decode cX6_save 1 = .ok (.getfield 22, 3) := by decide +kernel
theorem dX6_save_4 : decode cX6_save 4 = .ok (.iconst 4, 1) := by decide +kernel
theorem dX6_save_5 : decode cX6_save 5 = .ok (.if_icmp .ne 44, 3) := by decide +kernel
theorem dX6_save_8 : decode cX6_save 8 = .ok (.iconst 0, 1) := by decide +kernel
theorem dX6_save_9 : decode cX6_save 9 = .ok (.istore_n 1, 1) := by decide +kernel
theorem dX6_save_10 : decode cX6_save 10 = .ok (.iload_n 1, 1) := by decide +kernel
theorem dX6_save_11 : decode cX6_save 11 = .ok (.sipush 4791, 3) := by decide +kernel
theorem dX6_save_14 : decode cX6_save 14 = .ok (.if_icmp .ge 25, 3) := by decide +kernel
theorem dX6_save_17 : decode cX6_save 17 = .ok (.aload_n 0, 1) := by decide +kernel
theorem dX6_save_18 : decode cX6_save 18 = .ok (.getfield 13, 3) := by decide +kernel
theorem dX6_save_21 : decode cX6_save 21 = .ok (.iload_n 1, 1) := by decide +kernel
theorem dX6_save_22 : decode cX6_save 22 = .ok (.aload_n 0, 1) := by decide +kernel
theorem dX6_save_23 : decode cX6_save 23 = .ok (.getfield 13, 3) := by decide +kernel
theorem dX6_save_26 : decode cX6_save 26 = .ok (.iload_n 1, 1) := by decide +kernel
theorem dX6_save_27 : decode cX6_save 27 = .ok (.sipush 1597, 3) := by decide +kernel
theorem dX6_save_30 : decode cX6_save 30 = .ok (.iadd, 1) := by decide +kernel
theorem dX6_save_31 : decode cX6_save 31 = .ok (.iaload, 1) := by decide +kernel
theorem dX6_save_32 : decode cX6_save 32 = .ok (.iastore, 1) := by decide +kernel
theorem dX6_save_33 : decode cX6_save 33 = .ok (.iinc 1 1, 3) := by decide +kernel
theorem dX6_save_36 : decode cX6_save 36 = .ok (.goto (-26), 3) := by decide +kernel
theorem dX6_save_39 : decode cX6_save 39 = .ok (.aload_n 0, 1) := by decide +kernel
theorem dX6_save_40 : decode cX6_save 40 = .ok (.dup, 1) := by decide +kernel
theorem dX6_save_41 : decode cX6_save 41 = .ok (.getfield 22, 3) := by decide +kernel
theorem dX6_save_44 : decode cX6_save 44 = .ok (.iconst 1, 1) := by decide +kernel
theorem dX6_save_45 : decode cX6_save 45 = .ok (.isub, 1) := by decide +kernel
theorem dX6_save_46 : decode cX6_save 46 = .ok (.putfield 22, 3) := by decide +kernel
theorem dX6_save_49 : decode cX6_save 49 = .ok (.iconst 0, 1) := by decide +kernel
theorem dX6_save_50 : decode cX6_save 50 = .ok (.istore_n 1, 1) := by decide +kernel
theorem dX6_save_51 : decode cX6_save 51 = .ok (.iload_n 1, 1) := by decide +kernel
theorem dX6_save_52 : decode cX6_save 52 = .ok (.sipush 1597, 3) := by decide +kernel
theorem dX6_save_55 : decode cX6_save 55 = .ok (.if_icmp .ge 30, 3) := by decide +kernel
theorem dX6_save_58 : decode cX6_save 58 = .ok (.aload_n 0, 1) := by decide +kernel
theorem dX6_save_59 : decode cX6_save 59 = .ok (.getfield 13, 3) := by decide +kernel
theorem dX6_save_62 : decode cX6_save 62 = .ok (.sipush 1597, 3) := by decide +kernel
theorem dX6_save_65 : decode cX6_save 65 = .ok (.aload_n 0, 1) := by decide +kernel
theorem dX6_save_66 : decode cX6_save 66 = .ok (.getfield 22, 3) := by decide +kernel
theorem dX6_save_69 : decode cX6_save 69 = .ok (.imul, 1) := by decide +kernel
theorem dX6_save_70 : decode cX6_save 70 = .ok (.iload_n 1, 1) := by decide +kernel
theorem dX6_save_71 : decode cX6_save 71 = .ok (.iadd, 1) := by decide +kernel
theorem dX6_save_72 : decode cX6_save 72 = .ok (.aload_n 0, 1) := by decide +kernel
theorem dX6_save_73 : decode cX6_save 73 = .ok (.getfield 7, 3) := by decide +kernel
theorem dX6_save_76 : decode cX6_save 76 = .ok (.iload_n 1, 1) := by decide +kernel
theorem dX6_save_77 : decode cX6_save 77 = .ok (.iaload, 1) := by decide +kernel
end
section
theorem dX6_save_78 : decode cX6_save 78 = .ok (.iastore, 1) := by decide +kernel
theorem dX6_save_79 : decode cX6_save 79 = .ok (.iinc 1 1, 3) := by decide +kernel
theorem dX6_save_82 : decode cX6_save 82 = .ok (.goto (-31), 3) := by decide +kernel
theorem dX6_save_85 : decode cX6_save 85 = .ok (.aload_n 0, 1) := by decide +kernel
theorem dX6_save_86 : decode cX6_save 86 = .ok (.dup, 1) := by decide +kernel
theorem dX6_save_87 : decode cX6_save 87 = .ok (.getfield 22, 3) := by decide +kernel
theorem dX6_save_90 : decode cX6_save 90 = .ok (.iconst 1, 1) := by decide +kernel
theorem dX6_save_91 : decode cX6_save 91 = .ok (.iadd, 1) := by decide +kernel
theorem dX6_save_92 : decode cX6_save 92 = .ok (.putfield 22, 3) := by decide +kernel
theorem dX6_save_95 : decode cX6_save 95 = .ok (.return_, 1) := by decide +kernel
theorem dX6_isHost_0 : decode cX6_isHost 0 = .ok (.iload_n 0, 1) := by decide +kernel
theorem dX6_isHost_1 : decode cX6_isHost 1 = .ok (.i2l, 1) := by decide +kernel
theorem dX6_isHost_2 : decode cX6_isHost 2 = .ok (.lconst 0, 1) := by decide +kernel
theorem dX6_isHost_3 : decode cX6_isHost 3 = .ok (.ldc2_w 26, 3) := by decide +kernel
theorem dX6_isHost_6 : decode cX6_isHost 6 = .ok (.invokestatic 28, 3) := by decide +kernel
theorem dX6_isHost_9 : decode cX6_isHost 9 = .ok (.ireturn, 1) := by decide +kernel
theorem dX6_isGroup_0 : decode cX6_isGroup 0 = .ok (.iload_n 0, 1) := by decide +kernel
theorem dX6_isGroup_1 : decode cX6_isGroup 1 = .ok (.i2l, 1) := by decide +kernel
theorem dX6_isGroup_2 : decode cX6_isGroup 2 = .ok (.lconst 0, 1) := by decide +kernel
theorem dX6_isGroup_3 : decode cX6_isGroup 3 = .ok (.ldc2_w 32, 3) := by decide +kernel
theorem dX6_isGroup_6 : decode cX6_isGroup 6 = .ok (.invokestatic 28, 3) := by decide +kernel
theorem dX6_isGroup_9 : decode cX6_isGroup 9 = .ok (.ireturn, 1) := by decide +kernel
theorem dX6_isArticle_0 : decode cX6_isArticle 0 = .ok (.iload_n 1, 1) := by decide +kernel
theorem dX6_isArticle_1 : decode cX6_isArticle 1 = .ok (.i2l, 1) := by decide +kernel
theorem dX6_isArticle_2 : decode cX6_isArticle 2 = .ok (.lconst 0, 1) := by decide +kernel
theorem dX6_isArticle_3 : decode cX6_isArticle 3 = .ok (.aload_n 0, 1) := by decide +kernel
theorem dX6_isArticle_4 : decode cX6_isArticle 4 = .ok (.getfield 7, 3) := by decide +kernel
theorem dX6_isArticle_7 : decode cX6_isArticle 7 = .ok (.bipush 49, 2) := by decide +kernel
theorem dX6_isArticle_9 : decode cX6_isArticle 9 = .ok (.iaload, 1) := by decide +kernel
theorem dX6_isArticle_10 : decode cX6_isArticle 10 = .ok (.iconst 1, 1) := by decide +kernel
theorem dX6_isArticle_11 : decode cX6_isArticle 11 = .ok (.isub, 1) := by decide +kernel
theorem dX6_isArticle_12 : decode cX6_isArticle 12 = .ok (.i2l, 1) := by decide +kernel
theorem dX6_isArticle_13 : decode cX6_isArticle 13 = .ok (.invokestatic 28, 3) := by decide +kernel
theorem dX6_isArticle_16 : decode cX6_isArticle 16 = .ok (.ireturn, 1) := by decide +kernel
theorem dX6_isLink_0 : decode cX6_isLink 0 = .ok (.iload_n 1, 1) := by decide +kernel
theorem dX6_isLink_1 : decode cX6_isLink 1 = .ok (.i2l, 1) := by decide +kernel
theorem dX6_isLink_2 : decode cX6_isLink 2 = .ok (.lconst 0, 1) := by decide +kernel
theorem dX6_isLink_3 : decode cX6_isLink 3 = .ok (.aload_n 0, 1) := by decide +kernel
theorem dX6_isLink_4 : decode cX6_isLink 4 = .ok (.getfield 7, 3) := by decide +kernel
theorem dX6_isLink_7 : decode cX6_isLink 7 = .ok (.bipush 6, 2) := by decide +kernel
theorem dX6_isLink_9 : decode cX6_isLink 9 = .ok (.iaload, 1) := by decide +kernel
theorem dX6_isLink_10 : decode cX6_isLink 10 = .ok (.iconst 1, 1) := by decide +kernel
theorem dX6_isLink_11 : decode cX6_isLink 11 = .ok (.isub, 1) := by decide +kernel
theorem dX6_isLink_12 : decode cX6_isLink 12 = .ok (.i2l, 1) := by decide +kernel
theorem dX6_isLink_13 : decode cX6_isLink 13 = .ok (.invokestatic 28, 3) := by decide +kernel
theorem dX6_isLink_16 : decode cX6_isLink 16 = .ok (.ireturn, 1) := by decide +kernel
theorem dX6_link_0 : decode cX6_link 0 = .ok (.aload_n 0, 1) := by decide +kernel
theorem dX6_link_1 : decode cX6_link 1 = .ok (.getfield 7, 3) := by decide +kernel
theorem dX6_link_4 : decode cX6_link 4 = .ok (.bipush 7, 2) := by decide +kernel
theorem dX6_link_6 : decode cX6_link 6 = .ok (.iconst 3, 1) := by decide +kernel
theorem dX6_link_7 : decode cX6_link 7 = .ok (.iload_n 1, 1) := by decide +kernel
theorem dX6_link_8 : decode cX6_link 8 = .ok (.imul, 1) := by decide +kernel
theorem dX6_link_9 : decode cX6_link 9 = .ok (.iadd, 1) := by decide +kernel
theorem dX6_link_10 : decode cX6_link 10 = .ok (.iload_n 2, 1) := by decide +kernel
theorem dX6_link_11 : decode cX6_link 11 = .ok (.iadd, 1) := by decide +kernel
theorem dX6_link_12 : decode cX6_link 12 = .ok (.iaload, 1) := by decide +kernel
theorem dX6_link_13 : decode cX6_link 13 = .ok (.ireturn, 1) := by decide +kernel
theorem dX6_linkOf_0 : decode cX6_linkOf 0 = .ok (.iconst 0, 1) := by decide +kernel
theorem dX6_linkOf_1 : decode cX6_linkOf 1 = .ok (.istore_n 3, 1) := by decide +kernel
theorem dX6_linkOf_2 : decode cX6_linkOf 2 = .ok (.iload_n 3, 1) := by decide +kernel
theorem dX6_linkOf_3 : decode cX6_linkOf 3 = .ok (.aload_n 0, 1) := by decide +kernel
theorem dX6_linkOf_4 : decode cX6_linkOf 4 = .ok (.getfield 7, 3) := by decide +kernel
theorem dX6_linkOf_7 : decode cX6_linkOf 7 = .ok (.bipush 6, 2) := by decide +kernel
theorem dX6_linkOf_9 : decode cX6_linkOf 9 = .ok (.iaload, 1) := by decide +kernel
theorem dX6_linkOf_10 : decode cX6_linkOf 10 = .ok (.if_icmp .ge 51, 3) := by decide +kernel
theorem dX6_linkOf_13 : decode cX6_linkOf 13 = .ok (.aload_n 0, 1) := by decide +kernel
theorem dX6_linkOf_14 : decode cX6_linkOf 14 = .ok (.iload_n 3, 1) := by decide +kernel
theorem dX6_linkOf_15 : decode cX6_linkOf 15 = .ok (.iconst 0, 1) := by decide +kernel
theorem dX6_linkOf_16 : decode cX6_linkOf 16 = .ok (.invokevirtual 34, 3) := by decide +kernel
theorem dX6_linkOf_19 : decode cX6_linkOf 19 = .ok (.iload_n 1, 1) := by decide +kernel
theorem dX6_linkOf_20 : decode cX6_linkOf 20 = .ok (.if_icmp .ne 13, 3) := by decide +kernel
theorem dX6_linkOf_23 : decode cX6_linkOf 23 = .ok (.aload_n 0, 1) := by decide +kernel
theorem dX6_linkOf_24 : decode cX6_linkOf 24 = .ok (.iload_n 3, 1) := by decide +kernel
theorem dX6_linkOf_25 : decode cX6_linkOf 25 = .ok (.iconst 1, 1) := by decide +kernel
theorem dX6_linkOf_26 : decode cX6_linkOf 26 = .ok (.invokevirtual 34, 3) := by decide +kernel
theorem dX6_linkOf_29 : decode cX6_linkOf 29 = .ok (.iload_n 2, 1) := by decide +kernel
theorem dX6_linkOf_30 : decode cX6_linkOf 30 = .ok (.if_icmp .eq 23, 3) := by decide +kernel
theorem dX6_linkOf_33 : decode cX6_linkOf 33 = .ok (.aload_n 0, 1) := by decide +kernel
theorem dX6_linkOf_34 : decode cX6_linkOf 34 = .ok (.iload_n 3, 1) := by decide +kernel
theorem dX6_linkOf_35 : decode cX6_linkOf 35 = .ok (.iconst 0, 1) := by decide +kernel
theorem dX6_linkOf_36 : decode cX6_linkOf 36 = .ok (.invokevirtual 34, 3) := by decide +kernel
theorem dX6_linkOf_39 : decode cX6_linkOf 39 = .ok (.iload_n 2, 1) := by decide +kernel
theorem dX6_linkOf_40 : decode cX6_linkOf 40 = .ok (.if_icmp .ne 15, 3) := by decide +kernel
theorem dX6_linkOf_43 : decode cX6_linkOf 43 = .ok (.aload_n 0, 1) := by decide +kernel
theorem dX6_linkOf_44 : decode cX6_linkOf 44 = .ok (.iload_n 3, 1) := by decide +kernel
theorem dX6_linkOf_45 : decode cX6_linkOf 45 = .ok (.iconst 1, 1) := by decide +kernel
theorem dX6_linkOf_46 : decode cX6_linkOf 46 = .ok (.invokevirtual 34, 3) := by decide +kernel
theorem dX6_linkOf_49 : decode cX6_linkOf 49 = .ok (.iload_n 1, 1) := by decide +kernel
theorem dX6_linkOf_50 : decode cX6_linkOf 50 = .ok (.if_icmp .ne 5, 3) := by decide +kernel
theorem dX6_linkOf_53 : decode cX6_linkOf 53 = .ok (.iload_n 3, 1) := by decide +kernel
theorem dX6_linkOf_54 : decode cX6_linkOf 54 = .ok (.ireturn, 1) := by decide +kernel
theorem dX6_linkOf_55 : decode cX6_linkOf 55 = .ok (.iinc 3 1, 3) := by decide +kernel
theorem dX6_linkOf_58 : decode cX6_linkOf 58 = .ok (.goto (-56), 3) := by decide +kernel
theorem dX6_linkOf_61 : decode cX6_linkOf 61 = .ok (.iconst (-1), 1) := by decide +kernel
theorem dX6_linkOf_62 : decode cX6_linkOf 62 = .ok (.ireturn, 1) := by decide +kernel
theorem dX6_addLink_0 : decode cX6_addLink 0 = .ok (.iload_n 1, 1) := by decide +kernel
theorem dX6_addLink_1 : decode cX6_addLink 1 = .ok (.invokestatic 38, 3) := by decide +kernel
theorem dX6_addLink_4 : decode cX6_addLink 4 = .ok (.ifCond .eq 25, 3) := by decide +kernel
theorem dX6_addLink_7 : decode cX6_addLink 7 = .ok (.iload_n 2, 1) := by decide +kernel
theorem dX6_addLink_8 : decode cX6_addLink 8 = .ok (.invokestatic 38, 3) := by decide +kernel
theorem dX6_addLink_11 : decode cX6_addLink 11 = .ok (.ifCond .eq 18, 3) := by decide +kernel
theorem dX6_addLink_14 : decode cX6_addLink 14 = .ok (.iload_n 1, 1) := by decide +kernel
theorem dX6_addLink_15 : decode cX6_addLink 15 = .ok (.iload_n 2, 1) := by decide +kernel
theorem dX6_addLink_16 : decode cX6_addLink 16 = .ok (.if_icmp .eq 13, 3) := by decide +kernel
theorem dX6_addLink_19 : decode cX6_addLink 19 = .ok (.iload_n 3, 1) := by decide +kernel
theorem dX6_addLink_20 : decode cX6_addLink 20 = .ok (.i2l, 1) := by decide +kernel
theorem dX6_addLink_21 : decode cX6_addLink 21 = .ok (.lconst 0, 1) := by decide +kernel
theorem dX6_addLink_22 : decode cX6_addLink 22 = .ok (.lconst 1, 1) := by decide +kernel
theorem dX6_addLink_23 : decode cX6_addLink 23 = .ok (.invokestatic 28, 3) := by decide +kernel
theorem dX6_addLink_26 : decode cX6_addLink 26 = .ok (.ifCond .ne 10, 3) := by decide +kernel
theorem dX6_addLink_29 : decode cX6_addLink 29 = .ok (.aload_n 0, 1) := by decide +kernel
theorem dX6_addLink_30 : decode cX6_addLink 30 = .ok (.bipush (-2), 2) := by decide +kernel
theorem dX6_addLink_32 : decode cX6_addLink 32 = .ok (.invokevirtual 42, 3) := by decide +kernel
theorem dX6_addLink_35 : decode cX6_addLink 35 = .ok (.ireturn, 1) := by decide +kernel
theorem dX6_addLink_36 : decode cX6_addLink 36 = .ok (.aload_n 0, 1) := by decide +kernel
theorem dX6_addLink_37 : decode cX6_addLink 37 = .ok (.iload_n 1, 1) := by decide +kernel
theorem dX6_addLink_38 : decode cX6_addLink 38 = .ok (.iload_n 2, 1) := by decide +kernel
theorem dX6_addLink_39 : decode cX6_addLink 39 = .ok (.invokevirtual 46, 3) := by decide +kernel
theorem dX6_addLink_42 : decode cX6_addLink 42 = .ok (.iconst (-1), 1) := by decide +kernel
theorem dX6_addLink_43 : decode cX6_addLink 43 = .ok (.if_icmp .eq 10, 3) := by decide +kernel
theorem dX6_addLink_46 : decode cX6_addLink 46 = .ok (.aload_n 0, 1) := by decide +kernel
theorem dX6_addLink_47 : decode cX6_addLink 47 = .ok (.bipush (-3), 2) := by decide +kernel
theorem dX6_addLink_49 : decode cX6_addLink 49 = .ok (.invokevirtual 42, 3) := by decide +kernel
theorem dX6_addLink_52 : decode cX6_addLink 52 = .ok (.ireturn, 1) := by decide +kernel
theorem dX6_addLink_53 : decode cX6_addLink 53 = .ok (.aload_n 0, 1) := by decide +kernel
theorem dX6_addLink_54 : decode cX6_addLink 54 = .ok (.getfield 7, 3) := by decide +kernel
theorem dX6_addLink_57 : decode cX6_addLink 57 = .ok (.bipush 6, 2) := by decide +kernel
theorem dX6_addLink_59 : decode cX6_addLink 59 = .ok (.iaload, 1) := by decide +kernel
theorem dX6_addLink_60 : decode cX6_addLink 60 = .ok (.bipush 12, 2) := by decide +kernel
theorem dX6_addLink_62 : decode cX6_addLink 62 = .ok (.if_icmp .ne 10, 3) := by decide +kernel
theorem dX6_addLink_65 : decode cX6_addLink 65 = .ok (.aload_n 0, 1) := by decide +kernel
theorem dX6_addLink_66 : decode cX6_addLink 66 = .ok (.bipush (-4), 2) := by decide +kernel
theorem dX6_addLink_68 : decode cX6_addLink 68 = .ok (.invokevirtual 42, 3) := by decide +kernel
theorem dX6_addLink_71 : decode cX6_addLink 71 = .ok (.ireturn, 1) := by decide +kernel
theorem dX6_addLink_72 : decode cX6_addLink 72 = .ok (.aload_n 0, 1) := by decide +kernel
theorem dX6_addLink_73 : decode cX6_addLink 73 = .ok (.invokevirtual 49, 3) := by decide +kernel
theorem dX6_addLink_76 : decode cX6_addLink 76 = .ok (.bipush 7, 2) := by decide +kernel
theorem dX6_addLink_78 : decode cX6_addLink 78 = .ok (.iconst 3, 1) := by decide +kernel
theorem dX6_addLink_79 : decode cX6_addLink 79 = .ok (.aload_n 0, 1) := by decide +kernel
theorem dX6_addLink_80 : decode cX6_addLink 80 = .ok (.getfield 7, 3) := by decide +kernel
theorem dX6_addLink_83 : decode cX6_addLink 83 = .ok (.bipush 6, 2) := by decide +kernel
theorem dX6_addLink_85 : decode cX6_addLink 85 = .ok (.iaload, 1) := by decide +kernel
theorem dX6_addLink_86 : decode cX6_addLink 86 = .ok (.imul, 1) := by decide +kernel
theorem dX6_addLink_87 : decode cX6_addLink 87 = .ok (.iadd, 1) := by decide +kernel
theorem dX6_addLink_88 : decode cX6_addLink 88 = .ok (.istore 4, 2) := by decide +kernel
theorem dX6_addLink_90 : decode cX6_addLink 90 = .ok (.aload_n 0, 1) := by decide +kernel
theorem dX6_addLink_91 : decode cX6_addLink 91 = .ok (.getfield 7, 3) := by decide +kernel
theorem dX6_addLink_94 : decode cX6_addLink 94 = .ok (.iload 4, 2) := by decide +kernel
theorem dX6_addLink_96 : decode cX6_addLink 96 = .ok (.iload_n 1, 1) := by decide +kernel
theorem dX6_addLink_97 : decode cX6_addLink 97 = .ok (.iastore, 1) := by decide +kernel
theorem dX6_addLink_98 : decode cX6_addLink 98 = .ok (.aload_n 0, 1) := by decide +kernel
theorem dX6_addLink_99 : decode cX6_addLink 99 = .ok (.getfield 7, 3) := by decide +kernel
theorem dX6_addLink_102 : decode cX6_addLink 102 = .ok (.iload 4, 2) := by decide +kernel
theorem dX6_addLink_104 : decode cX6_addLink 104 = .ok (.iconst 1, 1) := by decide +kernel
theorem dX6_addLink_105 : decode cX6_addLink 105 = .ok (.iadd, 1) := by decide +kernel
theorem dX6_addLink_106 : decode cX6_addLink 106 = .ok (.iload_n 2, 1) := by decide +kernel
theorem dX6_addLink_107 : decode cX6_addLink 107 = .ok (.iastore, 1) := by decide +kernel
theorem dX6_addLink_108 : decode cX6_addLink 108 = .ok (.aload_n 0, 1) := by decide +kernel
theorem dX6_addLink_109 : decode cX6_addLink 109 = .ok (.getfield 7, 3) := by decide +kernel
theorem dX6_addLink_112 : decode cX6_addLink 112 = .ok (.iload 4, 2) := by decide +kernel
theorem dX6_addLink_114 : decode cX6_addLink 114 = .ok (.iconst 2, 1) := by decide +kernel
theorem dX6_addLink_115 : decode cX6_addLink 115 = .ok (.iadd, 1) := by decide +kernel
theorem dX6_addLink_116 : decode cX6_addLink 116 = .ok (.iload_n 3, 1) := by decide +kernel
theorem dX6_addLink_117 : decode cX6_addLink 117 = .ok (.iastore, 1) := by decide +kernel
theorem dX6_addLink_118 : decode cX6_addLink 118 = .ok (.aload_n 0, 1) := by decide +kernel
theorem dX6_addLink_119 : decode cX6_addLink 119 = .ok (.getfield 7, 3) := by decide +kernel
theorem dX6_addLink_122 : decode cX6_addLink 122 = .ok (.bipush 6, 2) := by decide +kernel
theorem dX6_addLink_124 : decode cX6_addLink 124 = .ok (.dup2, 1) := by decide +kernel
theorem dX6_addLink_125 : decode cX6_addLink 125 = .ok (.iaload, 1) := by decide +kernel
theorem dX6_addLink_126 : decode cX6_addLink 126 = .ok (.iconst 1, 1) := by decide +kernel
theorem dX6_addLink_127 : decode cX6_addLink 127 = .ok (.iadd, 1) := by decide +kernel
theorem dX6_addLink_128 : decode cX6_addLink 128 = .ok (.iastore, 1) := by decide +kernel
theorem dX6_addLink_129 : decode cX6_addLink 129 = .ok (.aload_n 0, 1) := by decide +kernel
theorem dX6_addLink_130 : decode cX6_addLink 130 = .ok (.getfield 7, 3) := by decide +kernel
theorem dX6_addLink_133 : decode cX6_addLink 133 = .ok (.bipush 6, 2) := by decide +kernel
theorem dX6_addLink_135 : decode cX6_addLink 135 = .ok (.iaload, 1) := by decide +kernel
theorem dX6_addLink_136 : decode cX6_addLink 136 = .ok (.iconst 1, 1) := by decide +kernel
theorem dX6_addLink_137 : decode cX6_addLink 137 = .ok (.isub, 1) := by decide +kernel
theorem dX6_addLink_138 : decode cX6_addLink 138 = .ok (.ireturn, 1) := by decide +kernel
theorem dX6_removeLink_0 : decode cX6_removeLink 0 = .ok (.aload_n 0, 1) := by decide +kernel
theorem dX6_removeLink_1 : decode cX6_removeLink 1 = .ok (.iload_n 1, 1) := by decide +kernel
theorem dX6_removeLink_2 : decode cX6_removeLink 2 = .ok (.invokevirtual 52, 3) := by decide +kernel
theorem dX6_removeLink_5 : decode cX6_removeLink 5 = .ok (.ifCond .ne 10, 3) := by decide +kernel
theorem dX6_removeLink_8 : decode cX6_removeLink 8 = .ok (.aload_n 0, 1) := by decide +kernel
theorem dX6_removeLink_9 : decode cX6_removeLink 9 = .ok (.bipush (-2), 2) := by decide +kernel
theorem dX6_removeLink_11 : decode cX6_removeLink 11 = .ok (.invokevirtual 42, 3) := by decide +kernel
theorem dX6_removeLink_14 : decode cX6_removeLink 14 = .ok (.ireturn, 1) := by decide +kernel
theorem dX6_removeLink_15 : decode cX6_removeLink 15 = .ok (.aload_n 0, 1) := by decide +kernel
theorem dX6_removeLink_16 : decode cX6_removeLink 16 = .ok (.invokevirtual 49, 3) := by decide +kernel
theorem dX6_removeLink_19 : decode cX6_removeLink 19 = .ok (.iconst 3, 1) := by decide +kernel
theorem dX6_removeLink_20 : decode cX6_removeLink 20 = .ok (.iload_n 1, 1) := by decide +kernel
theorem dX6_removeLink_21 : decode cX6_removeLink 21 = .ok (.imul, 1) := by decide +kernel
theorem dX6_removeLink_22 : decode cX6_removeLink 22 = .ok (.istore_n 2, 1) := by decide +kernel
theorem dX6_removeLink_23 : decode cX6_removeLink 23 = .ok (.iload_n 2, 1) := by decide +kernel
theorem dX6_removeLink_24 : decode cX6_removeLink 24 = .ok (.bipush 33, 2) := by decide +kernel
theorem dX6_removeLink_26 : decode cX6_removeLink 26 = .ok (.if_icmp .ge 29, 3) := by decide +kernel
theorem dX6_removeLink_29 : decode cX6_removeLink 29 = .ok (.aload_n 0, 1) := by decide +kernel
theorem dX6_removeLink_30 : decode cX6_removeLink 30 = .ok (.getfield 7, 3) := by decide +kernel
theorem dX6_removeLink_33 : decode cX6_removeLink 33 = .ok (.bipush 7, 2) := by decide +kernel
theorem dX6_removeLink_35 : decode cX6_removeLink 35 = .ok (.iload_n 2, 1) := by decide +kernel
theorem dX6_removeLink_36 : decode cX6_removeLink 36 = .ok (.iadd, 1) := by decide +kernel
theorem dX6_removeLink_37 : decode cX6_removeLink 37 = .ok (.aload_n 0, 1) := by decide +kernel
theorem dX6_removeLink_38 : decode cX6_removeLink 38 = .ok (.getfield 7, 3) := by decide +kernel
theorem dX6_removeLink_41 : decode cX6_removeLink 41 = .ok (.bipush 7, 2) := by decide +kernel
theorem dX6_removeLink_43 : decode cX6_removeLink 43 = .ok (.iload_n 2, 1) := by decide +kernel
theorem dX6_removeLink_44 : decode cX6_removeLink 44 = .ok (.iadd, 1) := by decide +kernel
theorem dX6_removeLink_45 : decode cX6_removeLink 45 = .ok (.iconst 3, 1) := by decide +kernel
theorem dX6_removeLink_46 : decode cX6_removeLink 46 = .ok (.iadd, 1) := by decide +kernel
theorem dX6_removeLink_47 : decode cX6_removeLink 47 = .ok (.iaload, 1) := by decide +kernel
theorem dX6_removeLink_48 : decode cX6_removeLink 48 = .ok (.iastore, 1) := by decide +kernel
theorem dX6_removeLink_49 : decode cX6_removeLink 49 = .ok (.iinc 2 1, 3) := by decide +kernel
theorem dX6_removeLink_52 : decode cX6_removeLink 52 = .ok (.goto (-29), 3) := by decide +kernel
theorem dX6_removeLink_55 : decode cX6_removeLink 55 = .ok (.aload_n 0, 1) := by decide +kernel
theorem dX6_removeLink_56 : decode cX6_removeLink 56 = .ok (.getfield 7, 3) := by decide +kernel
theorem dX6_removeLink_59 : decode cX6_removeLink 59 = .ok (.bipush 6, 2) := by decide +kernel
theorem dX6_removeLink_61 : decode cX6_removeLink 61 = .ok (.dup2, 1) := by decide +kernel
theorem dX6_removeLink_62 : decode cX6_removeLink 62 = .ok (.iaload, 1) := by decide +kernel
theorem dX6_removeLink_63 : decode cX6_removeLink 63 = .ok (.iconst 1, 1) := by decide +kernel
theorem dX6_removeLink_64 : decode cX6_removeLink 64 = .ok (.isub, 1) := by decide +kernel
theorem dX6_removeLink_65 : decode cX6_removeLink 65 = .ok (.iastore, 1) := by decide +kernel
theorem dX6_removeLink_66 : decode cX6_removeLink 66 = .ok (.aload_n 0, 1) := by decide +kernel
theorem dX6_removeLink_67 : decode cX6_removeLink 67 = .ok (.getfield 7, 3) := by decide +kernel
theorem dX6_removeLink_70 : decode cX6_removeLink 70 = .ok (.bipush 6, 2) := by decide +kernel
theorem dX6_removeLink_72 : decode cX6_removeLink 72 = .ok (.iaload, 1) := by decide +kernel
theorem dX6_removeLink_73 : decode cX6_removeLink 73 = .ok (.ireturn, 1) := by decide +kernel
theorem dX6_setKind_0 : decode cX6_setKind 0 = .ok (.aload_n 0, 1) := by decide +kernel
theorem dX6_setKind_1 : decode cX6_setKind 1 = .ok (.iload_n 1, 1) := by decide +kernel
theorem dX6_setKind_2 : decode cX6_setKind 2 = .ok (.invokevirtual 52, 3) := by decide +kernel
theorem dX6_setKind_5 : decode cX6_setKind 5 = .ok (.ifCond .eq 13, 3) := by decide +kernel
theorem dX6_setKind_8 : decode cX6_setKind 8 = .ok (.iload_n 2, 1) := by decide +kernel
theorem dX6_setKind_9 : decode cX6_setKind 9 = .ok (.i2l, 1) := by decide +kernel
theorem dX6_setKind_10 : decode cX6_setKind 10 = .ok (.lconst 0, 1) := by decide +kernel
theorem dX6_setKind_11 : decode cX6_setKind 11 = .ok (.lconst 1, 1) := by decide +kernel
theorem dX6_setKind_12 : decode cX6_setKind 12 = .ok (.invokestatic 28, 3) := by decide +kernel
theorem dX6_setKind_15 : decode cX6_setKind 15 = .ok (.ifCond .ne 10, 3) := by decide +kernel
theorem dX6_setKind_18 : decode cX6_setKind 18 = .ok (.aload_n 0, 1) := by decide +kernel
theorem dX6_setKind_19 : decode cX6_setKind 19 = .ok (.bipush (-2), 2) := by decide +kernel
theorem dX6_setKind_21 : decode cX6_setKind 21 = .ok (.invokevirtual 42, 3) := by decide +kernel
theorem dX6_setKind_24 : decode cX6_setKind 24 = .ok (.ireturn, 1) := by decide +kernel
theorem dX6_setKind_25 : decode cX6_setKind 25 = .ok (.aload_n 0, 1) := by decide +kernel
theorem dX6_setKind_26 : decode cX6_setKind 26 = .ok (.invokevirtual 49, 3) := by decide +kernel
theorem dX6_setKind_29 : decode cX6_setKind 29 = .ok (.aload_n 0, 1) := by decide +kernel
theorem dX6_setKind_30 : decode cX6_setKind 30 = .ok (.iload_n 1, 1) := by decide +kernel
theorem dX6_setKind_31 : decode cX6_setKind 31 = .ok (.iconst 2, 1) := by decide +kernel
theorem dX6_setKind_32 : decode cX6_setKind 32 = .ok (.invokevirtual 34, 3) := by decide +kernel
theorem dX6_setKind_35 : decode cX6_setKind 35 = .ok (.istore_n 3, 1) := by decide +kernel
theorem dX6_setKind_36 : decode cX6_setKind 36 = .ok (.aload_n 0, 1) := by decide +kernel
theorem dX6_setKind_37 : decode cX6_setKind 37 = .ok (.getfield 7, 3) := by decide +kernel
theorem dX6_setKind_40 : decode cX6_setKind 40 = .ok (.bipush 7, 2) := by decide +kernel
theorem dX6_setKind_42 : decode cX6_setKind 42 = .ok (.iconst 3, 1) := by decide +kernel
theorem dX6_setKind_43 : decode cX6_setKind 43 = .ok (.iload_n 1, 1) := by decide +kernel
theorem dX6_setKind_44 : decode cX6_setKind 44 = .ok (.imul, 1) := by decide +kernel
theorem dX6_setKind_45 : decode cX6_setKind 45 = .ok (.iadd, 1) := by decide +kernel
theorem dX6_setKind_46 : decode cX6_setKind 46 = .ok (.iconst 2, 1) := by decide +kernel
theorem dX6_setKind_47 : decode cX6_setKind 47 = .ok (.iadd, 1) := by decide +kernel
theorem dX6_setKind_48 : decode cX6_setKind 48 = .ok (.iload_n 2, 1) := by decide +kernel
theorem dX6_setKind_49 : decode cX6_setKind 49 = .ok (.iastore, 1) := by decide +kernel
theorem dX6_setKind_50 : decode cX6_setKind 50 = .ok (.iload_n 3, 1) := by decide +kernel
theorem dX6_setKind_51 : decode cX6_setKind 51 = .ok (.ireturn, 1) := by decide +kernel
theorem dX6_setGroups_0 : decode cX6_setGroups 0 = .ok (.iload_n 1, 1) := by decide +kernel
theorem dX6_setGroups_1 : decode cX6_setGroups 1 = .ok (.invokestatic 38, 3) := by decide +kernel
theorem dX6_setGroups_4 : decode cX6_setGroups 4 = .ok (.ifCond .eq 15, 3) := by decide +kernel
theorem dX6_setGroups_7 : decode cX6_setGroups 7 = .ok (.iload_n 2, 1) := by decide +kernel
theorem dX6_setGroups_8 : decode cX6_setGroups 8 = .ok (.i2l, 1) := by decide +kernel
theorem dX6_setGroups_9 : decode cX6_setGroups 9 = .ok (.lconst 0, 1) := by decide +kernel
theorem dX6_setGroups_10 : decode cX6_setGroups 10 = .ok (.ldc2_w 55, 3) := by decide +kernel
theorem dX6_setGroups_13 : decode cX6_setGroups 13 = .ok (.invokestatic 28, 3) := by decide +kernel
theorem dX6_setGroups_16 : decode cX6_setGroups 16 = .ok (.ifCond .ne 10, 3) := by decide +kernel
theorem dX6_setGroups_19 : decode cX6_setGroups 19 = .ok (.aload_n 0, 1) := by decide +kernel
theorem dX6_setGroups_20 : decode cX6_setGroups 20 = .ok (.bipush (-2), 2) := by decide +kernel
theorem dX6_setGroups_22 : decode cX6_setGroups 22 = .ok (.invokevirtual 42, 3) := by decide +kernel
theorem dX6_setGroups_25 : decode cX6_setGroups 25 = .ok (.ireturn, 1) := by decide +kernel
theorem dX6_setGroups_26 : decode cX6_setGroups 26 = .ok (.aload_n 0, 1) := by decide +kernel
theorem dX6_setGroups_27 : decode cX6_setGroups 27 = .ok (.invokevirtual 49, 3) := by decide +kernel
theorem dX6_setGroups_30 : decode cX6_setGroups 30 = .ok (.aload_n 0, 1) := by decide +kernel
theorem dX6_setGroups_31 : decode cX6_setGroups 31 = .ok (.getfield 7, 3) := by decide +kernel
theorem dX6_setGroups_34 : decode cX6_setGroups 34 = .ok (.bipush 43, 2) := by decide +kernel
theorem dX6_setGroups_36 : decode cX6_setGroups 36 = .ok (.iload_n 1, 1) := by decide +kernel
theorem dX6_setGroups_37 : decode cX6_setGroups 37 = .ok (.iadd, 1) := by decide +kernel
theorem dX6_setGroups_38 : decode cX6_setGroups 38 = .ok (.iaload, 1) := by decide +kernel
theorem dX6_setGroups_39 : decode cX6_setGroups 39 = .ok (.istore_n 3, 1) := by decide +kernel
theorem dX6_setGroups_40 : decode cX6_setGroups 40 = .ok (.aload_n 0, 1) := by decide +kernel
theorem dX6_setGroups_41 : decode cX6_setGroups 41 = .ok (.getfield 7, 3) := by decide +kernel
theorem dX6_setGroups_44 : decode cX6_setGroups 44 = .ok (.bipush 43, 2) := by decide +kernel
theorem dX6_setGroups_46 : decode cX6_setGroups 46 = .ok (.iload_n 1, 1) := by decide +kernel
theorem dX6_setGroups_47 : decode cX6_setGroups 47 = .ok (.iadd, 1) := by decide +kernel
theorem dX6_setGroups_48 : decode cX6_setGroups 48 = .ok (.iload_n 2, 1) := by decide +kernel
theorem dX6_setGroups_49 : decode cX6_setGroups 49 = .ok (.iastore, 1) := by decide +kernel
theorem dX6_setGroups_50 : decode cX6_setGroups 50 = .ok (.iload_n 3, 1) := by decide +kernel
theorem dX6_setGroups_51 : decode cX6_setGroups 51 = .ok (.ireturn, 1) := by decide +kernel
theorem dX6_setExpiry_0 : decode cX6_setExpiry 0 = .ok (.iload_n 1, 1) := by decide +kernel
theorem dX6_setExpiry_1 : decode cX6_setExpiry 1 = .ok (.invokestatic 57, 3) := by decide +kernel
theorem dX6_setExpiry_4 : decode cX6_setExpiry 4 = .ok (.ifCond .eq 15, 3) := by decide +kernel
theorem dX6_setExpiry_7 : decode cX6_setExpiry 7 = .ok (.iload_n 2, 1) := by decide +kernel
theorem dX6_setExpiry_8 : decode cX6_setExpiry 8 = .ok (.i2l, 1) := by decide +kernel
theorem dX6_setExpiry_9 : decode cX6_setExpiry 9 = .ok (.lconst 1, 1) := by decide +kernel
theorem dX6_setExpiry_10 : decode cX6_setExpiry 10 = .ok (.ldc2_w 60, 3) := by decide +kernel
theorem dX6_setExpiry_13 : decode cX6_setExpiry 13 = .ok (.invokestatic 28, 3) := by decide +kernel
theorem dX6_setExpiry_16 : decode cX6_setExpiry 16 = .ok (.ifCond .ne 10, 3) := by decide +kernel
theorem dX6_setExpiry_19 : decode cX6_setExpiry 19 = .ok (.aload_n 0, 1) := by decide +kernel
theorem dX6_setExpiry_20 : decode cX6_setExpiry 20 = .ok (.bipush (-2), 2) := by decide +kernel
theorem dX6_setExpiry_22 : decode cX6_setExpiry 22 = .ok (.invokevirtual 42, 3) := by decide +kernel
theorem dX6_setExpiry_25 : decode cX6_setExpiry 25 = .ok (.ireturn, 1) := by decide +kernel
theorem dX6_setExpiry_26 : decode cX6_setExpiry 26 = .ok (.aload_n 0, 1) := by decide +kernel
theorem dX6_setExpiry_27 : decode cX6_setExpiry 27 = .ok (.invokevirtual 49, 3) := by decide +kernel
theorem dX6_setExpiry_30 : decode cX6_setExpiry 30 = .ok (.aload_n 0, 1) := by decide +kernel
theorem dX6_setExpiry_31 : decode cX6_setExpiry 31 = .ok (.getfield 7, 3) := by decide +kernel
theorem dX6_setExpiry_34 : decode cX6_setExpiry 34 = .ok (.iconst 2, 1) := by decide +kernel
theorem dX6_setExpiry_35 : decode cX6_setExpiry 35 = .ok (.iload_n 1, 1) := by decide +kernel
theorem dX6_setExpiry_36 : decode cX6_setExpiry 36 = .ok (.iadd, 1) := by decide +kernel
theorem dX6_setExpiry_37 : decode cX6_setExpiry 37 = .ok (.iaload, 1) := by decide +kernel
theorem dX6_setExpiry_38 : decode cX6_setExpiry 38 = .ok (.istore_n 3, 1) := by decide +kernel
theorem dX6_setExpiry_39 : decode cX6_setExpiry 39 = .ok (.aload_n 0, 1) := by decide +kernel
theorem dX6_setExpiry_40 : decode cX6_setExpiry 40 = .ok (.getfield 7, 3) := by decide +kernel
theorem dX6_setExpiry_43 : decode cX6_setExpiry 43 = .ok (.iconst 2, 1) := by decide +kernel
theorem dX6_setExpiry_44 : decode cX6_setExpiry 44 = .ok (.iload_n 1, 1) := by decide +kernel
theorem dX6_setExpiry_45 : decode cX6_setExpiry 45 = .ok (.iadd, 1) := by decide +kernel
theorem dX6_setExpiry_46 : decode cX6_setExpiry 46 = .ok (.iload_n 2, 1) := by decide +kernel
theorem dX6_setExpiry_47 : decode cX6_setExpiry 47 = .ok (.iastore, 1) := by decide +kernel
theorem dX6_setExpiry_48 : decode cX6_setExpiry 48 = .ok (.iload_n 3, 1) := by decide +kernel
theorem dX6_setExpiry_49 : decode cX6_setExpiry 49 = .ok (.ireturn, 1) := by decide +kernel
theorem dX6_setHistoryLimit_0 : decode cX6_setHistoryLimit 0 = .ok (.iload_n 1, 1) := by decide +kernel
theorem dX6_setHistoryLimit_1 : decode cX6_setHistoryLimit 1 = .ok (.i2l, 1) := by decide +kernel
theorem dX6_setHistoryLimit_2 : decode cX6_setHistoryLimit 2 = .ok (.lconst 1, 1) := by decide +kernel
theorem dX6_setHistoryLimit_3 : decode cX6_setHistoryLimit 3 = .ok (.ldc2_w 60, 3) := by decide +kernel
theorem dX6_setHistoryLimit_6 : decode cX6_setHistoryLimit 6 = .ok (.invokestatic 28, 3) := by decide +kernel
theorem dX6_setHistoryLimit_9 : decode cX6_setHistoryLimit 9 = .ok (.ifCond .ne 10, 3) := by decide +kernel
theorem dX6_setHistoryLimit_12 : decode cX6_setHistoryLimit 12 = .ok (.aload_n 0, 1) := by decide +kernel
theorem dX6_setHistoryLimit_13 : decode cX6_setHistoryLimit 13 = .ok (.bipush (-2), 2) := by decide +kernel
theorem dX6_setHistoryLimit_15 : decode cX6_setHistoryLimit 15 = .ok (.invokevirtual 42, 3) := by decide +kernel
theorem dX6_setHistoryLimit_18 : decode cX6_setHistoryLimit 18 = .ok (.ireturn, 1) := by decide +kernel
theorem dX6_setHistoryLimit_19 : decode cX6_setHistoryLimit 19 = .ok (.aload_n 0, 1) := by decide +kernel
theorem dX6_setHistoryLimit_20 : decode cX6_setHistoryLimit 20 = .ok (.invokevirtual 49, 3) := by decide +kernel
theorem dX6_setHistoryLimit_23 : decode cX6_setHistoryLimit 23 = .ok (.aload_n 0, 1) := by decide +kernel
theorem dX6_setHistoryLimit_24 : decode cX6_setHistoryLimit 24 = .ok (.getfield 7, 3) := by decide +kernel
theorem dX6_setHistoryLimit_27 : decode cX6_setHistoryLimit 27 = .ok (.iconst 1, 1) := by decide +kernel
theorem dX6_setHistoryLimit_28 : decode cX6_setHistoryLimit 28 = .ok (.iaload, 1) := by decide +kernel
theorem dX6_setHistoryLimit_29 : decode cX6_setHistoryLimit 29 = .ok (.istore_n 2, 1) := by decide +kernel
theorem dX6_setHistoryLimit_30 : decode cX6_setHistoryLimit 30 = .ok (.aload_n 0, 1) := by decide +kernel
theorem dX6_setHistoryLimit_31 : decode cX6_setHistoryLimit 31 = .ok (.getfield 7, 3) := by decide +kernel
theorem dX6_setHistoryLimit_34 : decode cX6_setHistoryLimit 34 = .ok (.iconst 1, 1) := by decide +kernel
theorem dX6_setHistoryLimit_35 : decode cX6_setHistoryLimit 35 = .ok (.iload_n 1, 1) := by decide +kernel
theorem dX6_setHistoryLimit_36 : decode cX6_setHistoryLimit 36 = .ok (.iastore, 1) := by decide +kernel
theorem dX6_setHistoryLimit_37 : decode cX6_setHistoryLimit 37 = .ok (.iload_n 2, 1) := by decide +kernel
theorem dX6_setHistoryLimit_38 : decode cX6_setHistoryLimit 38 = .ok (.ireturn, 1) := by decide +kernel
theorem dX6_of_0 : decode cX6_of 0 = .ok (.aload_n 0, 1) := by decide +kernel
theorem dX6_of_1 : decode cX6_of 1 = .ok (.getfield 7, 3) := by decide +kernel
theorem dX6_of_4 : decode cX6_of 4 = .ok (.bipush 50, 2) := by decide +kernel
theorem dX6_of_6 : decode cX6_of 6 = .ok (.iconst 5, 1) := by decide +kernel
theorem dX6_of_7 : decode cX6_of 7 = .ok (.iload_n 1, 1) := by decide +kernel
theorem dX6_of_8 : decode cX6_of 8 = .ok (.imul, 1) := by decide +kernel
theorem dX6_of_9 : decode cX6_of 9 = .ok (.iadd, 1) := by decide +kernel
theorem dX6_of_10 : decode cX6_of 10 = .ok (.iload_n 2, 1) := by decide +kernel
theorem dX6_of_11 : decode cX6_of 11 = .ok (.iadd, 1) := by decide +kernel
theorem dX6_of_12 : decode cX6_of 12 = .ok (.iaload, 1) := by decide +kernel
theorem dX6_of_13 : decode cX6_of 13 = .ok (.ireturn, 1) := by decide +kernel
theorem dX6_isIn_0 : decode cX6_isIn 0 = .ok (.aload_n 0, 1) := by decide +kernel
theorem dX6_isIn_1 : decode cX6_isIn 1 = .ok (.getfield 7, 3) := by decide +kernel
theorem dX6_isIn_4 : decode cX6_isIn 4 = .ok (.sipush 380, 3) := by decide +kernel
theorem dX6_isIn_7 : decode cX6_isIn 7 = .ok (.iload_n 1, 1) := by decide +kernel
theorem dX6_isIn_8 : decode cX6_isIn 8 = .ok (.iadd, 1) := by decide +kernel
theorem dX6_isIn_9 : decode cX6_isIn 9 = .ok (.iaload, 1) := by decide +kernel
theorem dX6_isIn_10 : decode cX6_isIn 10 = .ok (.iload_n 2, 1) := by decide +kernel
theorem dX6_isIn_11 : decode cX6_isIn 11 = .ok (.ishr, 1) := by decide +kernel
theorem dX6_isIn_12 : decode cX6_isIn 12 = .ok (.iconst 1, 1) := by decide +kernel
theorem dX6_isIn_13 : decode cX6_isIn 13 = .ok (.iand, 1) := by decide +kernel
theorem dX6_isIn_14 : decode cX6_isIn 14 = .ok (.iconst 1, 1) := by decide +kernel
theorem dX6_isIn_15 : decode cX6_isIn 15 = .ok (.if_icmp .ne 7, 3) := by decide +kernel
theorem dX6_isIn_18 : decode cX6_isIn 18 = .ok (.iconst 1, 1) := by decide +kernel
theorem dX6_isIn_19 : decode cX6_isIn 19 = .ok (.goto 4, 3) := by decide +kernel
theorem dX6_isIn_22 : decode cX6_isIn 22 = .ok (.iconst 0, 1) := by decide +kernel
theorem dX6_isIn_23 : decode cX6_isIn 23 = .ok (.ireturn, 1) := by decide +kernel
theorem dX6_known_0 : decode cX6_known 0 = .ok (.aload_n 0, 1) := by decide +kernel
theorem dX6_known_1 : decode cX6_known 1 = .ok (.getfield 7, 3) := by decide +kernel
theorem dX6_known_4 : decode cX6_known 4 = .ok (.sipush 200, 3) := by decide +kernel
theorem dX6_known_7 : decode cX6_known 7 = .ok (.bipush 30, 2) := by decide +kernel
theorem dX6_known_9 : decode cX6_known 9 = .ok (.iload_n 1, 1) := by decide +kernel
theorem dX6_known_10 : decode cX6_known 10 = .ok (.imul, 1) := by decide +kernel
theorem dX6_known_11 : decode cX6_known 11 = .ok (.iadd, 1) := by decide +kernel
theorem dX6_known_12 : decode cX6_known 12 = .ok (.iload_n 2, 1) := by decide +kernel
theorem dX6_known_13 : decode cX6_known 13 = .ok (.iadd, 1) := by decide +kernel
theorem dX6_known_14 : decode cX6_known 14 = .ok (.iaload, 1) := by decide +kernel
theorem dX6_known_15 : decode cX6_known 15 = .ok (.ireturn, 1) := by decide +kernel
theorem dX6_acts_0 : decode cX6_acts 0 = .ok (.aload_n 0, 1) := by decide +kernel
theorem dX6_acts_1 : decode cX6_acts 1 = .ok (.iload_n 2, 1) := by decide +kernel
theorem dX6_acts_2 : decode cX6_acts 2 = .ok (.iconst 4, 1) := by decide +kernel
theorem dX6_acts_3 : decode cX6_acts 3 = .ok (.invokevirtual 62, 3) := by decide +kernel
theorem dX6_acts_6 : decode cX6_acts 6 = .ok (.istore_n 3, 1) := by decide +kernel
theorem dX6_acts_7 : decode cX6_acts 7 = .ok (.aload_n 0, 1) := by decide +kernel
theorem dX6_acts_8 : decode cX6_acts 8 = .ok (.iload_n 2, 1) := by decide +kernel
theorem dX6_acts_9 : decode cX6_acts 9 = .ok (.iconst 1, 1) := by decide +kernel
theorem dX6_acts_10 : decode cX6_acts 10 = .ok (.invokevirtual 62, 3) := by decide +kernel
theorem dX6_acts_13 : decode cX6_acts 13 = .ok (.istore 4, 2) := by decide +kernel
theorem dX6_acts_15 : decode cX6_acts 15 = .ok (.aload_n 0, 1) := by decide +kernel
theorem dX6_acts_16 : decode cX6_acts 16 = .ok (.iload_n 1, 1) := by decide +kernel
theorem dX6_acts_17 : decode cX6_acts 17 = .ok (.iload_n 3, 1) := by decide +kernel
theorem dX6_acts_18 : decode cX6_acts 18 = .ok (.invokevirtual 65, 3) := by decide +kernel
theorem dX6_acts_21 : decode cX6_acts 21 = .ok (.ifCond .eq 74, 3) := by decide +kernel
theorem dX6_acts_24 : decode cX6_acts 24 = .ok (.aload_n 0, 1) := by decide +kernel
theorem dX6_acts_25 : decode cX6_acts 25 = .ok (.iload_n 3, 1) := by decide +kernel
theorem dX6_acts_26 : decode cX6_acts 26 = .ok (.iconst 1, 1) := by decide +kernel
theorem dX6_acts_27 : decode cX6_acts 27 = .ok (.invokevirtual 62, 3) := by decide +kernel
theorem dX6_acts_30 : decode cX6_acts 30 = .ok (.iload 4, 2) := by decide +kernel
theorem dX6_acts_32 : decode cX6_acts 32 = .ok (.if_icmp .ne 7, 3) := by decide +kernel
theorem dX6_acts_35 : decode cX6_acts 35 = .ok (.iconst 1, 1) := by decide +kernel
theorem dX6_acts_36 : decode cX6_acts 36 = .ok (.goto 4, 3) := by decide +kernel
theorem dX6_acts_39 : decode cX6_acts 39 = .ok (.iconst 0, 1) := by decide +kernel
theorem dX6_acts_40 : decode cX6_acts 40 = .ok (.istore 5, 2) := by decide +kernel
theorem dX6_acts_42 : decode cX6_acts 42 = .ok (.aload_n 0, 1) := by decide +kernel
theorem dX6_acts_43 : decode cX6_acts 43 = .ok (.getfield 7, 3) := by decide +kernel
theorem dX6_acts_46 : decode cX6_acts 46 = .ok (.sipush 380, 3) := by decide +kernel
theorem dX6_acts_49 : decode cX6_acts 49 = .ok (.iload_n 1, 1) := by decide +kernel
theorem dX6_acts_50 : decode cX6_acts 50 = .ok (.iadd, 1) := by decide +kernel
theorem dX6_acts_51 : decode cX6_acts 51 = .ok (.dup2, 1) := by decide +kernel
theorem dX6_acts_52 : decode cX6_acts 52 = .ok (.iaload, 1) := by decide +kernel
theorem dX6_acts_53 : decode cX6_acts 53 = .ok (.iload 5, 2) := by decide +kernel
theorem dX6_acts_55 : decode cX6_acts 55 = .ok (.ifCond .eq 11, 3) := by decide +kernel
theorem dX6_acts_58 : decode cX6_acts 58 = .ok (.iconst 1, 1) := by decide +kernel
theorem dX6_acts_59 : decode cX6_acts 59 = .ok (.iload_n 3, 1) := by decide +kernel
theorem dX6_acts_60 : decode cX6_acts 60 = .ok (.ishl, 1) := by decide +kernel
theorem dX6_acts_61 : decode cX6_acts 61 = .ok (.iconst (-1), 1) := by decide +kernel
theorem dX6_acts_62 : decode cX6_acts 62 = .ok (.ixor, 1) := by decide +kernel
theorem dX6_acts_63 : decode cX6_acts 63 = .ok (.goto 4, 3) := by decide +kernel
theorem dX6_acts_66 : decode cX6_acts 66 = .ok (.iconst (-1), 1) := by decide +kernel
theorem dX6_acts_67 : decode cX6_acts 67 = .ok (.iand, 1) := by decide +kernel
theorem dX6_acts_68 : decode cX6_acts 68 = .ok (.iastore, 1) := by decide +kernel
theorem dX6_acts_69 : decode cX6_acts 69 = .ok (.aload_n 0, 1) := by decide +kernel
theorem dX6_acts_70 : decode cX6_acts 70 = .ok (.getfield 7, 3) := by decide +kernel
theorem dX6_acts_73 : decode cX6_acts 73 = .ok (.sipush 566, 3) := by decide +kernel
theorem dX6_acts_76 : decode cX6_acts 76 = .ok (.iload 5, 2) := by decide +kernel
theorem dX6_acts_78 : decode cX6_acts 78 = .ok (.ifCond .eq 7, 3) := by decide +kernel
theorem dX6_acts_81 : decode cX6_acts 81 = .ok (.iconst 4, 1) := by decide +kernel
theorem dX6_acts_82 : decode cX6_acts 82 = .ok (.goto 4, 3) := by decide +kernel
theorem dX6_acts_85 : decode cX6_acts 85 = .ok (.iconst 5, 1) := by decide +kernel
theorem dX6_acts_86 : decode cX6_acts 86 = .ok (.iadd, 1) := by decide +kernel
theorem dX6_acts_87 : decode cX6_acts 87 = .ok (.dup2, 1) := by decide +kernel
theorem dX6_acts_88 : decode cX6_acts 88 = .ok (.iaload, 1) := by decide +kernel
theorem dX6_acts_89 : decode cX6_acts 89 = .ok (.iconst 1, 1) := by decide +kernel
theorem dX6_acts_90 : decode cX6_acts 90 = .ok (.iadd, 1) := by decide +kernel
theorem dX6_acts_91 : decode cX6_acts 91 = .ok (.iastore, 1) := by decide +kernel
theorem dX6_acts_92 : decode cX6_acts 92 = .ok (.goto 35, 3) := by decide +kernel
theorem dX6_acts_95 : decode cX6_acts 95 = .ok (.aload_n 0, 1) := by decide +kernel
theorem dX6_acts_96 : decode cX6_acts 96 = .ok (.iload_n 1, 1) := by decide +kernel
theorem dX6_acts_97 : decode cX6_acts 97 = .ok (.iload_n 3, 1) := by decide +kernel
theorem dX6_acts_98 : decode cX6_acts 98 = .ok (.invokevirtual 69, 3) := by decide +kernel
theorem dX6_acts_101 : decode cX6_acts 101 = .ok (.iconst (-1), 1) := by decide +kernel
theorem dX6_acts_102 : decode cX6_acts 102 = .ok (.if_icmp .ne 25, 3) := by decide +kernel
theorem dX6_acts_105 : decode cX6_acts 105 = .ok (.aload_n 0, 1) := by decide +kernel
theorem dX6_acts_106 : decode cX6_acts 106 = .ok (.getfield 7, 3) := by decide +kernel
theorem dX6_acts_109 : decode cX6_acts 109 = .ok (.sipush 386, 3) := by decide +kernel
theorem dX6_acts_112 : decode cX6_acts 112 = .ok (.bipush 30, 2) := by decide +kernel
theorem dX6_acts_114 : decode cX6_acts 114 = .ok (.iload_n 1, 1) := by decide +kernel
theorem dX6_acts_115 : decode cX6_acts 115 = .ok (.imul, 1) := by decide +kernel
theorem dX6_acts_116 : decode cX6_acts 116 = .ok (.iadd, 1) := by decide +kernel
theorem dX6_acts_117 : decode cX6_acts 117 = .ok (.iload_n 3, 1) := by decide +kernel
theorem dX6_acts_118 : decode cX6_acts 118 = .ok (.iadd, 1) := by decide +kernel
theorem dX6_acts_119 : decode cX6_acts 119 = .ok (.dup2, 1) := by decide +kernel
theorem dX6_acts_120 : decode cX6_acts 120 = .ok (.iaload, 1) := by decide +kernel
theorem dX6_acts_121 : decode cX6_acts 121 = .ok (.iconst 1, 1) := by decide +kernel
theorem dX6_acts_122 : decode cX6_acts 122 = .ok (.iload 4, 2) := by decide +kernel
theorem dX6_acts_124 : decode cX6_acts 124 = .ok (.ishl, 1) := by decide +kernel
theorem dX6_acts_125 : decode cX6_acts 125 = .ok (.ior, 1) := by decide +kernel
theorem dX6_acts_126 : decode cX6_acts 126 = .ok (.iastore, 1) := by decide +kernel
theorem dX6_acts_127 : decode cX6_acts 127 = .ok (.return_, 1) := by decide +kernel
theorem dX6_arrives_0 : decode cX6_arrives 0 = .ok (.aload_n 0, 1) := by decide +kernel
theorem dX6_arrives_1 : decode cX6_arrives 1 = .ok (.iload_n 1, 1) := by decide +kernel
theorem dX6_arrives_2 : decode cX6_arrives 2 = .ok (.iload_n 2, 1) := by decide +kernel
theorem dX6_arrives_3 : decode cX6_arrives 3 = .ok (.invokevirtual 69, 3) := by decide +kernel
theorem dX6_arrives_6 : decode cX6_arrives 6 = .ok (.iconst (-1), 1) := by decide +kernel
theorem dX6_arrives_7 : decode cX6_arrives 7 = .ok (.if_icmp .eq 17, 3) := by decide +kernel
theorem dX6_arrives_10 : decode cX6_arrives 10 = .ok (.aload_n 0, 1) := by decide +kernel
theorem dX6_arrives_11 : decode cX6_arrives 11 = .ok (.getfield 7, 3) := by decide +kernel
theorem dX6_arrives_14 : decode cX6_arrives 14 = .ok (.sipush 568, 3) := by decide +kernel
theorem dX6_arrives_17 : decode cX6_arrives 17 = .ok (.dup2, 1) := by decide +kernel
theorem dX6_arrives_18 : decode cX6_arrives 18 = .ok (.iaload, 1) := by decide +kernel
theorem dX6_arrives_19 : decode cX6_arrives 19 = .ok (.iconst 1, 1) := by decide +kernel
theorem dX6_arrives_20 : decode cX6_arrives 20 = .ok (.iadd, 1) := by decide +kernel
theorem dX6_arrives_21 : decode cX6_arrives 21 = .ok (.iastore, 1) := by decide +kernel
theorem dX6_arrives_22 : decode cX6_arrives 22 = .ok (.iconst 0, 1) := by decide +kernel
theorem dX6_arrives_23 : decode cX6_arrives 23 = .ok (.ireturn, 1) := by decide +kernel
theorem dX6_arrives_24 : decode cX6_arrives 24 = .ok (.aload_n 0, 1) := by decide +kernel
theorem dX6_arrives_25 : decode cX6_arrives 25 = .ok (.getfield 7, 3) := by decide +kernel
theorem dX6_arrives_28 : decode cX6_arrives 28 = .ok (.iconst 0, 1) := by decide +kernel
theorem dX6_arrives_29 : decode cX6_arrives 29 = .ok (.iaload, 1) := by decide +kernel
theorem dX6_arrives_30 : decode cX6_arrives 30 = .ok (.aload_n 0, 1) := by decide +kernel
theorem dX6_arrives_31 : decode cX6_arrives 31 = .ok (.iload_n 2, 1) := by decide +kernel
theorem dX6_arrives_32 : decode cX6_arrives 32 = .ok (.iconst 2, 1) := by decide +kernel
theorem dX6_arrives_33 : decode cX6_arrives 33 = .ok (.invokevirtual 62, 3) := by decide +kernel
theorem dX6_arrives_36 : decode cX6_arrives 36 = .ok (.isub, 1) := by decide +kernel
theorem dX6_arrives_37 : decode cX6_arrives 37 = .ok (.aload_n 0, 1) := by decide +kernel
theorem dX6_arrives_38 : decode cX6_arrives 38 = .ok (.getfield 7, 3) := by decide +kernel
theorem dX6_arrives_41 : decode cX6_arrives 41 = .ok (.iconst 1, 1) := by decide +kernel
theorem dX6_arrives_42 : decode cX6_arrives 42 = .ok (.iaload, 1) := by decide +kernel
theorem dX6_arrives_43 : decode cX6_arrives 43 = .ok (.if_icmp .lt 17, 3) := by decide +kernel
theorem dX6_arrives_46 : decode cX6_arrives 46 = .ok (.aload_n 0, 1) := by decide +kernel
theorem dX6_arrives_47 : decode cX6_arrives 47 = .ok (.getfield 7, 3) := by decide +kernel
theorem dX6_arrives_50 : decode cX6_arrives 50 = .ok (.sipush 569, 3) := by decide +kernel
theorem dX6_arrives_53 : decode cX6_arrives 53 = .ok (.dup2, 1) := by decide +kernel
theorem dX6_arrives_54 : decode cX6_arrives 54 = .ok (.iaload, 1) := by decide +kernel
theorem dX6_arrives_55 : decode cX6_arrives 55 = .ok (.iconst 1, 1) := by decide +kernel
theorem dX6_arrives_56 : decode cX6_arrives 56 = .ok (.iadd, 1) := by decide +kernel
theorem dX6_arrives_57 : decode cX6_arrives 57 = .ok (.iastore, 1) := by decide +kernel
theorem dX6_arrives_58 : decode cX6_arrives 58 = .ok (.iconst 0, 1) := by decide +kernel
theorem dX6_arrives_59 : decode cX6_arrives 59 = .ok (.ireturn, 1) := by decide +kernel
theorem dX6_arrives_60 : decode cX6_arrives 60 = .ok (.aload_n 0, 1) := by decide +kernel
theorem dX6_arrives_61 : decode cX6_arrives 61 = .ok (.getfield 7, 3) := by decide +kernel
theorem dX6_arrives_64 : decode cX6_arrives 64 = .ok (.sipush 200, 3) := by decide +kernel
theorem dX6_arrives_67 : decode cX6_arrives 67 = .ok (.bipush 30, 2) := by decide +kernel
theorem dX6_arrives_69 : decode cX6_arrives 69 = .ok (.iload_n 1, 1) := by decide +kernel
theorem dX6_arrives_70 : decode cX6_arrives 70 = .ok (.imul, 1) := by decide +kernel
theorem dX6_arrives_71 : decode cX6_arrives 71 = .ok (.iadd, 1) := by decide +kernel
theorem dX6_arrives_72 : decode cX6_arrives 72 = .ok (.iload_n 2, 1) := by decide +kernel
theorem dX6_arrives_73 : decode cX6_arrives 73 = .ok (.iadd, 1) := by decide +kernel
theorem dX6_arrives_74 : decode cX6_arrives 74 = .ok (.aload_n 0, 1) := by decide +kernel
theorem dX6_arrives_75 : decode cX6_arrives 75 = .ok (.getfield 7, 3) := by decide +kernel
theorem dX6_arrives_78 : decode cX6_arrives 78 = .ok (.iconst 0, 1) := by decide +kernel
theorem dX6_arrives_79 : decode cX6_arrives 79 = .ok (.iaload, 1) := by decide +kernel
theorem dX6_arrives_80 : decode cX6_arrives 80 = .ok (.iastore, 1) := by decide +kernel
theorem dX6_arrives_81 : decode cX6_arrives 81 = .ok (.aload_n 0, 1) := by decide +kernel
theorem dX6_arrives_82 : decode cX6_arrives 82 = .ok (.iload_n 2, 1) := by decide +kernel
theorem dX6_arrives_83 : decode cX6_arrives 83 = .ok (.iconst 1, 1) := by decide +kernel
theorem dX6_arrives_84 : decode cX6_arrives 84 = .ok (.invokevirtual 62, 3) := by decide +kernel
theorem dX6_arrives_87 : decode cX6_arrives 87 = .ok (.istore 4, 2) := by decide +kernel
theorem dX6_arrives_89 : decode cX6_arrives 89 = .ok (.sipush 386, 3) := by decide +kernel
theorem dX6_arrives_92 : decode cX6_arrives 92 = .ok (.bipush 30, 2) := by decide +kernel
theorem dX6_arrives_94 : decode cX6_arrives 94 = .ok (.iload_n 1, 1) := by decide +kernel
theorem dX6_arrives_95 : decode cX6_arrives 95 = .ok (.imul, 1) := by decide +kernel
theorem dX6_arrives_96 : decode cX6_arrives 96 = .ok (.iadd, 1) := by decide +kernel
theorem dX6_arrives_97 : decode cX6_arrives 97 = .ok (.iload_n 2, 1) := by decide +kernel
theorem dX6_arrives_98 : decode cX6_arrives 98 = .ok (.iadd, 1) := by decide +kernel
theorem dX6_arrives_99 : decode cX6_arrives 99 = .ok (.istore 5, 2) := by decide +kernel
theorem dX6_arrives_101 : decode cX6_arrives 101 = .ok (.aload_n 0, 1) := by decide +kernel
theorem dX6_arrives_102 : decode cX6_arrives 102 = .ok (.getfield 7, 3) := by decide +kernel
theorem dX6_arrives_105 : decode cX6_arrives 105 = .ok (.iload 5, 2) := by decide +kernel
theorem dX6_arrives_107 : decode cX6_arrives 107 = .ok (.iaload, 1) := by decide +kernel
theorem dX6_arrives_108 : decode cX6_arrives 108 = .ok (.iload 4, 2) := by decide +kernel
theorem dX6_arrives_110 : decode cX6_arrives 110 = .ok (.ishr, 1) := by decide +kernel
theorem dX6_arrives_111 : decode cX6_arrives 111 = .ok (.iconst 1, 1) := by decide +kernel
theorem dX6_arrives_112 : decode cX6_arrives 112 = .ok (.iand, 1) := by decide +kernel
theorem dX6_arrives_113 : decode cX6_arrives 113 = .ok (.iconst 1, 1) := by decide +kernel
theorem dX6_arrives_114 : decode cX6_arrives 114 = .ok (.if_icmp .ne 33, 3) := by decide +kernel
theorem dX6_arrives_117 : decode cX6_arrives 117 = .ok (.aload_n 0, 1) := by decide +kernel
theorem dX6_arrives_118 : decode cX6_arrives 118 = .ok (.getfield 7, 3) := by decide +kernel
theorem dX6_arrives_121 : decode cX6_arrives 121 = .ok (.iload 5, 2) := by decide +kernel
theorem dX6_arrives_123 : decode cX6_arrives 123 = .ok (.dup2, 1) := by decide +kernel
theorem dX6_arrives_124 : decode cX6_arrives 124 = .ok (.iaload, 1) := by decide +kernel
theorem dX6_arrives_125 : decode cX6_arrives 125 = .ok (.iconst 1, 1) := by decide +kernel
theorem dX6_arrives_126 : decode cX6_arrives 126 = .ok (.iload 4, 2) := by decide +kernel
theorem dX6_arrives_128 : decode cX6_arrives 128 = .ok (.ishl, 1) := by decide +kernel
theorem dX6_arrives_129 : decode cX6_arrives 129 = .ok (.iconst (-1), 1) := by decide +kernel
theorem dX6_arrives_130 : decode cX6_arrives 130 = .ok (.ixor, 1) := by decide +kernel
theorem dX6_arrives_131 : decode cX6_arrives 131 = .ok (.iand, 1) := by decide +kernel
theorem dX6_arrives_132 : decode cX6_arrives 132 = .ok (.iastore, 1) := by decide +kernel
theorem dX6_arrives_133 : decode cX6_arrives 133 = .ok (.aload_n 0, 1) := by decide +kernel
theorem dX6_arrives_134 : decode cX6_arrives 134 = .ok (.getfield 7, 3) := by decide +kernel
theorem dX6_arrives_137 : decode cX6_arrives 137 = .ok (.sipush 570, 3) := by decide +kernel
theorem dX6_arrives_140 : decode cX6_arrives 140 = .ok (.dup2, 1) := by decide +kernel
theorem dX6_arrives_141 : decode cX6_arrives 141 = .ok (.iaload, 1) := by decide +kernel
theorem dX6_arrives_142 : decode cX6_arrives 142 = .ok (.iconst 1, 1) := by decide +kernel
theorem dX6_arrives_143 : decode cX6_arrives 143 = .ok (.iadd, 1) := by decide +kernel
theorem dX6_arrives_144 : decode cX6_arrives 144 = .ok (.iastore, 1) := by decide +kernel
theorem dX6_arrives_145 : decode cX6_arrives 145 = .ok (.iconst 0, 1) := by decide +kernel
theorem dX6_arrives_146 : decode cX6_arrives 146 = .ok (.ireturn, 1) := by decide +kernel
theorem dX6_arrives_147 : decode cX6_arrives 147 = .ok (.aload_n 0, 1) := by decide +kernel
theorem dX6_arrives_148 : decode cX6_arrives 148 = .ok (.getfield 7, 3) := by decide +kernel
theorem dX6_arrives_151 : decode cX6_arrives 151 = .ok (.bipush 43, 2) := by decide +kernel
theorem dX6_arrives_153 : decode cX6_arrives 153 = .ok (.iload_n 1, 1) := by decide +kernel
theorem dX6_arrives_154 : decode cX6_arrives 154 = .ok (.iadd, 1) := by decide +kernel
theorem dX6_arrives_155 : decode cX6_arrives 155 = .ok (.iaload, 1) := by decide +kernel
theorem dX6_arrives_156 : decode cX6_arrives 156 = .ok (.aload_n 0, 1) := by decide +kernel
theorem dX6_arrives_157 : decode cX6_arrives 157 = .ok (.iload_n 2, 1) := by decide +kernel
theorem dX6_arrives_158 : decode cX6_arrives 158 = .ok (.iconst 0, 1) := by decide +kernel
theorem dX6_arrives_159 : decode cX6_arrives 159 = .ok (.invokevirtual 62, 3) := by decide +kernel
theorem dX6_arrives_162 : decode cX6_arrives 162 = .ok (.ishr, 1) := by decide +kernel
theorem dX6_arrives_163 : decode cX6_arrives 163 = .ok (.iconst 1, 1) := by decide +kernel
theorem dX6_arrives_164 : decode cX6_arrives 164 = .ok (.iand, 1) := by decide +kernel
theorem dX6_arrives_165 : decode cX6_arrives 165 = .ok (.ifCond .ne 5, 3) := by decide +kernel
theorem dX6_arrives_168 : decode cX6_arrives 168 = .ok (.iconst 0, 1) := by decide +kernel
theorem dX6_arrives_169 : decode cX6_arrives 169 = .ok (.ireturn, 1) := by decide +kernel
theorem dX6_arrives_170 : decode cX6_arrives 170 = .ok (.aload_n 0, 1) := by decide +kernel
theorem dX6_arrives_171 : decode cX6_arrives 171 = .ok (.getfield 7, 3) := by decide +kernel
theorem dX6_arrives_174 : decode cX6_arrives 174 = .ok (.sipush 380, 3) := by decide +kernel
theorem dX6_arrives_177 : decode cX6_arrives 177 = .ok (.iload_n 1, 1) := by decide +kernel
theorem dX6_arrives_178 : decode cX6_arrives 178 = .ok (.iadd, 1) := by decide +kernel
theorem dX6_arrives_179 : decode cX6_arrives 179 = .ok (.dup2, 1) := by decide +kernel
theorem dX6_arrives_180 : decode cX6_arrives 180 = .ok (.iaload, 1) := by decide +kernel
theorem dX6_arrives_181 : decode cX6_arrives 181 = .ok (.iconst 1, 1) := by decide +kernel
theorem dX6_arrives_182 : decode cX6_arrives 182 = .ok (.iload_n 2, 1) := by decide +kernel
theorem dX6_arrives_183 : decode cX6_arrives 183 = .ok (.ishl, 1) := by decide +kernel
theorem dX6_arrives_184 : decode cX6_arrives 184 = .ok (.ior, 1) := by decide +kernel
theorem dX6_arrives_185 : decode cX6_arrives 185 = .ok (.iastore, 1) := by decide +kernel
theorem dX6_arrives_186 : decode cX6_arrives 186 = .ok (.aload_n 0, 1) := by decide +kernel
theorem dX6_arrives_187 : decode cX6_arrives 187 = .ok (.iload_n 2, 1) := by decide +kernel
theorem dX6_arrives_188 : decode cX6_arrives 188 = .ok (.iconst 3, 1) := by decide +kernel
theorem dX6_arrives_189 : decode cX6_arrives 189 = .ok (.invokevirtual 62, 3) := by decide +kernel
theorem dX6_arrives_192 : decode cX6_arrives 192 = .ok (.ifCond .eq 9, 3) := by decide +kernel
theorem dX6_arrives_195 : decode cX6_arrives 195 = .ok (.aload_n 0, 1) := by decide +kernel
theorem dX6_arrives_196 : decode cX6_arrives 196 = .ok (.iload_n 1, 1) := by decide +kernel
theorem dX6_arrives_197 : decode cX6_arrives 197 = .ok (.iload_n 2, 1) := by decide +kernel
theorem dX6_arrives_198 : decode cX6_arrives 198 = .ok (.invokevirtual 72, 3) := by decide +kernel
theorem dX6_arrives_201 : decode cX6_arrives 201 = .ok (.iload_n 3, 1) := by decide +kernel
theorem dX6_arrives_202 : decode cX6_arrives 202 = .ok (.iconst 1, 1) := by decide +kernel
theorem dX6_arrives_203 : decode cX6_arrives 203 = .ok (.iload_n 1, 1) := by decide +kernel
theorem dX6_arrives_204 : decode cX6_arrives 204 = .ok (.ishl, 1) := by decide +kernel
theorem dX6_arrives_205 : decode cX6_arrives 205 = .ok (.ior, 1) := by decide +kernel
theorem dX6_arrives_206 : decode cX6_arrives 206 = .ok (.istore 6, 2) := by decide +kernel
theorem dX6_arrives_208 : decode cX6_arrives 208 = .ok (.iconst 0, 1) := by decide +kernel
theorem dX6_arrives_209 : decode cX6_arrives 209 = .ok (.istore 7, 2) := by decide +kernel
theorem dX6_arrives_211 : decode cX6_arrives 211 = .ok (.iload 7, 2) := by decide +kernel
theorem dX6_arrives_213 : decode cX6_arrives 213 = .ok (.bipush 6, 2) := by decide +kernel
theorem dX6_arrives_215 : decode cX6_arrives 215 = .ok (.if_icmp .ge 77, 3) := by decide +kernel
theorem dX6_arrives_218 : decode cX6_arrives 218 = .ok (.iload 6, 2) := by decide +kernel
theorem dX6_arrives_220 : decode cX6_arrives 220 = .ok (.iload 7, 2) := by decide +kernel
theorem dX6_arrives_222 : decode cX6_arrives 222 = .ok (.ishr, 1) := by decide +kernel
theorem dX6_arrives_223 : decode cX6_arrives 223 = .ok (.iconst 1, 1) := by decide +kernel
theorem dX6_arrives_224 : decode cX6_arrives 224 = .ok (.iand, 1) := by decide +kernel
theorem dX6_arrives_225 : decode cX6_arrives 225 = .ok (.ifCond .ne 61, 3) := by decide +kernel
theorem dX6_arrives_228 : decode cX6_arrives 228 = .ok (.aload_n 0, 1) := by decide +kernel
theorem dX6_arrives_229 : decode cX6_arrives 229 = .ok (.iload_n 1, 1) := by decide +kernel
theorem dX6_arrives_230 : decode cX6_arrives 230 = .ok (.iload 7, 2) := by decide +kernel
theorem dX6_arrives_232 : decode cX6_arrives 232 = .ok (.invokevirtual 46, 3) := by decide +kernel
theorem dX6_arrives_235 : decode cX6_arrives 235 = .ok (.iconst (-1), 1) := by decide +kernel
theorem dX6_arrives_236 : decode cX6_arrives 236 = .ok (.if_icmp .eq 50, 3) := by decide +kernel
theorem dX6_arrives_239 : decode cX6_arrives 239 = .ok (.aload_n 0, 1) := by decide +kernel
theorem dX6_arrives_240 : decode cX6_arrives 240 = .ok (.getfield 7, 3) := by decide +kernel
theorem dX6_arrives_243 : decode cX6_arrives 243 = .ok (.sipush 573, 3) := by decide +kernel
theorem dX6_arrives_246 : decode cX6_arrives 246 = .ok (.aload_n 0, 1) := by decide +kernel
theorem dX6_arrives_247 : decode cX6_arrives 247 = .ok (.getfield 7, 3) := by decide +kernel
theorem dX6_arrives_250 : decode cX6_arrives 250 = .ok (.sipush 572, 3) := by decide +kernel
theorem dX6_arrives_253 : decode cX6_arrives 253 = .ok (.iaload, 1) := by decide +kernel
theorem dX6_arrives_254 : decode cX6_arrives 254 = .ok (.iadd, 1) := by decide +kernel
theorem dX6_arrives_255 : decode cX6_arrives 255 = .ok (.iload_n 2, 1) := by decide +kernel
theorem dX6_arrives_256 : decode cX6_arrives 256 = .ok (.bipush 12, 2) := by decide +kernel
theorem dX6_arrives_258 : decode cX6_arrives 258 = .ok (.ishl, 1) := by decide +kernel
theorem dX6_arrives_259 : decode cX6_arrives 259 = .ok (.iload_n 1, 1) := by decide +kernel
theorem dX6_arrives_260 : decode cX6_arrives 260 = .ok (.bipush 9, 2) := by decide +kernel
theorem dX6_arrives_262 : decode cX6_arrives 262 = .ok (.ishl, 1) := by decide +kernel
theorem dX6_arrives_263 : decode cX6_arrives 263 = .ok (.ior, 1) := by decide +kernel
theorem dX6_arrives_264 : decode cX6_arrives 264 = .ok (.iload 7, 2) := by decide +kernel
theorem dX6_arrives_266 : decode cX6_arrives 266 = .ok (.bipush 6, 2) := by decide +kernel
theorem dX6_arrives_268 : decode cX6_arrives 268 = .ok (.ishl, 1) := by decide +kernel
theorem dX6_arrives_269 : decode cX6_arrives 269 = .ok (.ior, 1) := by decide +kernel
theorem dX6_arrives_270 : decode cX6_arrives 270 = .ok (.iload 6, 2) := by decide +kernel
theorem dX6_arrives_272 : decode cX6_arrives 272 = .ok (.ior, 1) := by decide +kernel
theorem dX6_arrives_273 : decode cX6_arrives 273 = .ok (.iastore, 1) := by decide +kernel
theorem dX6_arrives_274 : decode cX6_arrives 274 = .ok (.aload_n 0, 1) := by decide +kernel
theorem dX6_arrives_275 : decode cX6_arrives 275 = .ok (.getfield 7, 3) := by decide +kernel
theorem dX6_arrives_278 : decode cX6_arrives 278 = .ok (.sipush 572, 3) := by decide +kernel
theorem dX6_arrives_281 : decode cX6_arrives 281 = .ok (.dup2, 1) := by decide +kernel
theorem dX6_arrives_282 : decode cX6_arrives 282 = .ok (.iaload, 1) := by decide +kernel
theorem dX6_arrives_283 : decode cX6_arrives 283 = .ok (.iconst 1, 1) := by decide +kernel
theorem dX6_arrives_284 : decode cX6_arrives 284 = .ok (.iadd, 1) := by decide +kernel
theorem dX6_arrives_285 : decode cX6_arrives 285 = .ok (.iastore, 1) := by decide +kernel
theorem dX6_arrives_286 : decode cX6_arrives 286 = .ok (.iinc 7 1, 3) := by decide +kernel
theorem dX6_arrives_289 : decode cX6_arrives 289 = .ok (.goto (-78), 3) := by decide +kernel
theorem dX6_arrives_292 : decode cX6_arrives 292 = .ok (.iconst 1, 1) := by decide +kernel
theorem dX6_arrives_293 : decode cX6_arrives 293 = .ok (.ireturn, 1) := by decide +kernel
theorem dX6_posts_0 : decode cX6_posts 0 = .ok (.aload_n 0, 1) := by decide +kernel
theorem dX6_posts_1 : decode cX6_posts 1 = .ok (.invokevirtual 49, 3) := by decide +kernel
theorem dX6_posts_4 : decode cX6_posts 4 = .ok (.aload_n 0, 1) := by decide +kernel
theorem dX6_posts_5 : decode cX6_posts 5 = .ok (.getfield 7, 3) := by decide +kernel
theorem dX6_posts_8 : decode cX6_posts 8 = .ok (.bipush 49, 2) := by decide +kernel
theorem dX6_posts_10 : decode cX6_posts 10 = .ok (.iaload, 1) := by decide +kernel
theorem dX6_posts_11 : decode cX6_posts 11 = .ok (.istore 6, 2) := by decide +kernel
theorem dX6_posts_13 : decode cX6_posts 13 = .ok (.bipush 50, 2) := by decide +kernel
theorem dX6_posts_15 : decode cX6_posts 15 = .ok (.iconst 5, 1) := by decide +kernel
theorem dX6_posts_16 : decode cX6_posts 16 = .ok (.iload 6, 2) := by decide +kernel
theorem dX6_posts_18 : decode cX6_posts 18 = .ok (.imul, 1) := by decide +kernel
theorem dX6_posts_19 : decode cX6_posts 19 = .ok (.iadd, 1) := by decide +kernel
theorem dX6_posts_20 : decode cX6_posts 20 = .ok (.istore 7, 2) := by decide +kernel
theorem dX6_posts_22 : decode cX6_posts 22 = .ok (.aload_n 0, 1) := by decide +kernel
theorem dX6_posts_23 : decode cX6_posts 23 = .ok (.getfield 7, 3) := by decide +kernel
theorem dX6_posts_26 : decode cX6_posts 26 = .ok (.iload 7, 2) := by decide +kernel
theorem dX6_posts_28 : decode cX6_posts 28 = .ok (.iload_n 2, 1) := by decide +kernel
theorem dX6_posts_29 : decode cX6_posts 29 = .ok (.iastore, 1) := by decide +kernel
theorem dX6_posts_30 : decode cX6_posts 30 = .ok (.aload_n 0, 1) := by decide +kernel
theorem dX6_posts_31 : decode cX6_posts 31 = .ok (.getfield 7, 3) := by decide +kernel
theorem dX6_posts_34 : decode cX6_posts 34 = .ok (.iload 7, 2) := by decide +kernel
theorem dX6_posts_36 : decode cX6_posts 36 = .ok (.iconst 1, 1) := by decide +kernel
theorem dX6_posts_37 : decode cX6_posts 37 = .ok (.iadd, 1) := by decide +kernel
theorem dX6_posts_38 : decode cX6_posts 38 = .ok (.iload_n 3, 1) := by decide +kernel
theorem dX6_posts_39 : decode cX6_posts 39 = .ok (.iastore, 1) := by decide +kernel
theorem dX6_posts_40 : decode cX6_posts 40 = .ok (.aload_n 0, 1) := by decide +kernel
theorem dX6_posts_41 : decode cX6_posts 41 = .ok (.getfield 7, 3) := by decide +kernel
theorem dX6_posts_44 : decode cX6_posts 44 = .ok (.iload 7, 2) := by decide +kernel
theorem dX6_posts_46 : decode cX6_posts 46 = .ok (.iconst 2, 1) := by decide +kernel
theorem dX6_posts_47 : decode cX6_posts 47 = .ok (.iadd, 1) := by decide +kernel
theorem dX6_posts_48 : decode cX6_posts 48 = .ok (.aload_n 0, 1) := by decide +kernel
theorem dX6_posts_49 : decode cX6_posts 49 = .ok (.getfield 7, 3) := by decide +kernel
theorem dX6_posts_52 : decode cX6_posts 52 = .ok (.iconst 0, 1) := by decide +kernel
theorem dX6_posts_53 : decode cX6_posts 53 = .ok (.iaload, 1) := by decide +kernel
theorem dX6_posts_54 : decode cX6_posts 54 = .ok (.iastore, 1) := by decide +kernel
theorem dX6_posts_55 : decode cX6_posts 55 = .ok (.aload_n 0, 1) := by decide +kernel
theorem dX6_posts_56 : decode cX6_posts 56 = .ok (.getfield 7, 3) := by decide +kernel
theorem dX6_posts_59 : decode cX6_posts 59 = .ok (.iload 7, 2) := by decide +kernel
theorem dX6_posts_61 : decode cX6_posts 61 = .ok (.iconst 3, 1) := by decide +kernel
theorem dX6_posts_62 : decode cX6_posts 62 = .ok (.iadd, 1) := by decide +kernel
theorem dX6_posts_63 : decode cX6_posts 63 = .ok (.iload 4, 2) := by decide +kernel
theorem dX6_posts_65 : decode cX6_posts 65 = .ok (.iastore, 1) := by decide +kernel
theorem dX6_posts_66 : decode cX6_posts 66 = .ok (.aload_n 0, 1) := by decide +kernel
theorem dX6_posts_67 : decode cX6_posts 67 = .ok (.getfield 7, 3) := by decide +kernel
theorem dX6_posts_70 : decode cX6_posts 70 = .ok (.iload 7, 2) := by decide +kernel
theorem dX6_posts_72 : decode cX6_posts 72 = .ok (.iconst 4, 1) := by decide +kernel
theorem dX6_posts_73 : decode cX6_posts 73 = .ok (.iadd, 1) := by decide +kernel
theorem dX6_posts_74 : decode cX6_posts 74 = .ok (.iload 5, 2) := by decide +kernel
theorem dX6_posts_76 : decode cX6_posts 76 = .ok (.iastore, 1) := by decide +kernel
theorem dX6_posts_77 : decode cX6_posts 77 = .ok (.aload_n 0, 1) := by decide +kernel
theorem dX6_posts_78 : decode cX6_posts 78 = .ok (.getfield 7, 3) := by decide +kernel
theorem dX6_posts_81 : decode cX6_posts 81 = .ok (.bipush 49, 2) := by decide +kernel
theorem dX6_posts_83 : decode cX6_posts 83 = .ok (.dup2, 1) := by decide +kernel
theorem dX6_posts_84 : decode cX6_posts 84 = .ok (.iaload, 1) := by decide +kernel
theorem dX6_posts_85 : decode cX6_posts 85 = .ok (.iconst 1, 1) := by decide +kernel
theorem dX6_posts_86 : decode cX6_posts 86 = .ok (.iadd, 1) := by decide +kernel
theorem dX6_posts_87 : decode cX6_posts 87 = .ok (.iastore, 1) := by decide +kernel
theorem dX6_posts_88 : decode cX6_posts 88 = .ok (.aload_n 0, 1) := by decide +kernel
theorem dX6_posts_89 : decode cX6_posts 89 = .ok (.iload_n 1, 1) := by decide +kernel
theorem dX6_posts_90 : decode cX6_posts 90 = .ok (.iload 6, 2) := by decide +kernel
theorem dX6_posts_92 : decode cX6_posts 92 = .ok (.iconst 0, 1) := by decide +kernel
theorem dX6_posts_93 : decode cX6_posts 93 = .ok (.invokevirtual 76, 3) := by decide +kernel
theorem dX6_posts_96 : decode cX6_posts 96 = .ok (.istore 8, 2) := by decide +kernel
theorem dX6_posts_98 : decode cX6_posts 98 = .ok (.iload 6, 2) := by decide +kernel
theorem dX6_posts_100 : decode cX6_posts 100 = .ok (.ireturn, 1) := by decide +kernel
theorem dX6_post_0 : decode cX6_post 0 = .ok (.iload_n 1, 1) := by decide +kernel
theorem dX6_post_1 : decode cX6_post 1 = .ok (.invokestatic 38, 3) := by decide +kernel
theorem dX6_post_4 : decode cX6_post 4 = .ok (.ifCond .eq 22, 3) := by decide +kernel
theorem dX6_post_7 : decode cX6_post 7 = .ok (.iload_n 2, 1) := by decide +kernel
theorem dX6_post_8 : decode cX6_post 8 = .ok (.invokestatic 57, 3) := by decide +kernel
theorem dX6_post_11 : decode cX6_post 11 = .ok (.ifCond .eq 15, 3) := by decide +kernel
theorem dX6_post_14 : decode cX6_post 14 = .ok (.iload_n 3, 1) := by decide +kernel
theorem dX6_post_15 : decode cX6_post 15 = .ok (.i2l, 1) := by decide +kernel
theorem dX6_post_16 : decode cX6_post 16 = .ok (.lconst 0, 1) := by decide +kernel
theorem dX6_post_17 : decode cX6_post 17 = .ok (.ldc2_w 80, 3) := by decide +kernel
theorem dX6_post_20 : decode cX6_post 20 = .ok (.invokestatic 28, 3) := by decide +kernel
theorem dX6_post_23 : decode cX6_post 23 = .ok (.ifCond .ne 10, 3) := by decide +kernel
theorem dX6_post_26 : decode cX6_post 26 = .ok (.aload_n 0, 1) := by decide +kernel
theorem dX6_post_27 : decode cX6_post 27 = .ok (.bipush (-2), 2) := by decide +kernel
theorem dX6_post_29 : decode cX6_post 29 = .ok (.invokevirtual 42, 3) := by decide +kernel
theorem dX6_post_32 : decode cX6_post 32 = .ok (.ireturn, 1) := by decide +kernel
theorem dX6_post_33 : decode cX6_post 33 = .ok (.aload_n 0, 1) := by decide +kernel
theorem dX6_post_34 : decode cX6_post 34 = .ok (.getfield 7, 3) := by decide +kernel
theorem dX6_post_37 : decode cX6_post 37 = .ok (.bipush 49, 2) := by decide +kernel
theorem dX6_post_39 : decode cX6_post 39 = .ok (.iaload, 1) := by decide +kernel
theorem dX6_post_40 : decode cX6_post 40 = .ok (.bipush 30, 2) := by decide +kernel
theorem dX6_post_42 : decode cX6_post 42 = .ok (.if_icmp .ne 12, 3) := by decide +kernel
theorem dX6_post_45 : decode cX6_post 45 = .ok (.aload_n 0, 1) := by decide +kernel
theorem dX6_post_46 : decode cX6_post 46 = .ok (.bipush (-4), 2) := by decide +kernel
theorem dX6_post_48 : decode cX6_post 48 = .ok (.invokevirtual 42, 3) := by decide +kernel
theorem dX6_post_51 : decode cX6_post 51 = .ok (.goto 12, 3) := by decide +kernel
theorem dX6_post_54 : decode cX6_post 54 = .ok (.aload_n 0, 1) := by decide +kernel
theorem dX6_post_55 : decode cX6_post 55 = .ok (.iload_n 1, 1) := by decide +kernel
theorem dX6_post_56 : decode cX6_post 56 = .ok (.iload_n 2, 1) := by decide +kernel
theorem dX6_post_57 : decode cX6_post 57 = .ok (.iload_n 3, 1) := by decide +kernel
theorem dX6_post_58 : decode cX6_post 58 = .ok (.iconst 0, 1) := by decide +kernel
theorem dX6_post_59 : decode cX6_post 59 = .ok (.iconst (-1), 1) := by decide +kernel
theorem dX6_post_60 : decode cX6_post 60 = .ok (.invokevirtual 82, 3) := by decide +kernel
theorem dX6_post_63 : decode cX6_post 63 = .ok (.ireturn, 1) := by decide +kernel
theorem dX6_postAction_0 : decode cX6_postAction 0 = .ok (.iload_n 1, 1) := by decide +kernel
theorem dX6_postAction_1 : decode cX6_postAction 1 = .ok (.invokestatic 38, 3) := by decide +kernel
theorem dX6_postAction_4 : decode cX6_postAction 4 = .ok (.ifCond .eq 36, 3) := by decide +kernel
theorem dX6_postAction_7 : decode cX6_postAction 7 = .ok (.iload_n 2, 1) := by decide +kernel
theorem dX6_postAction_8 : decode cX6_postAction 8 = .ok (.i2l, 1) := by decide +kernel
theorem dX6_postAction_9 : decode cX6_postAction 9 = .ok (.lconst 0, 1) := by decide +kernel
theorem dX6_postAction_10 : decode cX6_postAction 10 = .ok (.ldc2_w 80, 3) := by decide +kernel
theorem dX6_postAction_13 : decode cX6_postAction 13 = .ok (.invokestatic 28, 3) := by decide +kernel
theorem dX6_postAction_16 : decode cX6_postAction 16 = .ok (.ifCond .eq 24, 3) := by decide +kernel
theorem dX6_postAction_19 : decode cX6_postAction 19 = .ok (.iload_n 3, 1) := by decide +kernel
theorem dX6_postAction_20 : decode cX6_postAction 20 = .ok (.i2l, 1) := by decide +kernel
theorem dX6_postAction_21 : decode cX6_postAction 21 = .ok (.lconst 1, 1) := by decide +kernel
theorem dX6_postAction_22 : decode cX6_postAction 22 = .ok (.ldc2_w 86, 3) := by decide +kernel
theorem dX6_postAction_25 : decode cX6_postAction 25 = .ok (.invokestatic 28, 3) := by decide +kernel
theorem dX6_postAction_28 : decode cX6_postAction 28 = .ok (.ifCond .eq 12, 3) := by decide +kernel
theorem dX6_postAction_31 : decode cX6_postAction 31 = .ok (.aload_n 0, 1) := by decide +kernel
theorem dX6_postAction_32 : decode cX6_postAction 32 = .ok (.iload 4, 2) := by decide +kernel
theorem dX6_postAction_34 : decode cX6_postAction 34 = .ok (.invokevirtual 88, 3) := by decide +kernel
theorem dX6_postAction_37 : decode cX6_postAction 37 = .ok (.ifCond .ne 10, 3) := by decide +kernel
theorem dX6_postAction_40 : decode cX6_postAction 40 = .ok (.aload_n 0, 1) := by decide +kernel
theorem dX6_postAction_41 : decode cX6_postAction 41 = .ok (.bipush (-2), 2) := by decide +kernel
theorem dX6_postAction_43 : decode cX6_postAction 43 = .ok (.invokevirtual 42, 3) := by decide +kernel
theorem dX6_postAction_46 : decode cX6_postAction 46 = .ok (.ireturn, 1) := by decide +kernel
theorem dX6_postAction_47 : decode cX6_postAction 47 = .ok (.aload_n 0, 1) := by decide +kernel
theorem dX6_postAction_48 : decode cX6_postAction 48 = .ok (.getfield 7, 3) := by decide +kernel
theorem dX6_postAction_51 : decode cX6_postAction 51 = .ok (.bipush 49, 2) := by decide +kernel
theorem dX6_postAction_53 : decode cX6_postAction 53 = .ok (.iaload, 1) := by decide +kernel
theorem dX6_postAction_54 : decode cX6_postAction 54 = .ok (.bipush 30, 2) := by decide +kernel
theorem dX6_postAction_56 : decode cX6_postAction 56 = .ok (.if_icmp .ne 12, 3) := by decide +kernel
theorem dX6_postAction_59 : decode cX6_postAction 59 = .ok (.aload_n 0, 1) := by decide +kernel
theorem dX6_postAction_60 : decode cX6_postAction 60 = .ok (.bipush (-4), 2) := by decide +kernel
theorem dX6_postAction_62 : decode cX6_postAction 62 = .ok (.invokevirtual 42, 3) := by decide +kernel
theorem dX6_postAction_65 : decode cX6_postAction 65 = .ok (.goto 19, 3) := by decide +kernel
theorem dX6_postAction_68 : decode cX6_postAction 68 = .ok (.aload_n 0, 1) := by decide +kernel
theorem dX6_postAction_69 : decode cX6_postAction 69 = .ok (.iload_n 1, 1) := by decide +kernel
theorem dX6_postAction_70 : decode cX6_postAction 70 = .ok (.aload_n 0, 1) := by decide +kernel
theorem dX6_postAction_71 : decode cX6_postAction 71 = .ok (.iload 4, 2) := by decide +kernel
theorem dX6_postAction_73 : decode cX6_postAction 73 = .ok (.iconst 0, 1) := by decide +kernel
theorem dX6_postAction_74 : decode cX6_postAction 74 = .ok (.invokevirtual 62, 3) := by decide +kernel
theorem dX6_postAction_77 : decode cX6_postAction 77 = .ok (.iload_n 2, 1) := by decide +kernel
theorem dX6_postAction_78 : decode cX6_postAction 78 = .ok (.iload_n 3, 1) := by decide +kernel
theorem dX6_postAction_79 : decode cX6_postAction 79 = .ok (.iload 4, 2) := by decide +kernel
theorem dX6_postAction_81 : decode cX6_postAction 81 = .ok (.invokevirtual 82, 3) := by decide +kernel
theorem dX6_postAction_84 : decode cX6_postAction 84 = .ok (.ireturn, 1) := by decide +kernel
theorem dX6_takes_0 : decode cX6_takes 0 = .ok (.aload_n 0, 1) := by decide +kernel
theorem dX6_takes_1 : decode cX6_takes 1 = .ok (.getfield 7, 3) := by decide +kernel
theorem dX6_takes_4 : decode cX6_takes 4 = .ok (.sipush 572, 3) := by decide +kernel
theorem dX6_takes_7 : decode cX6_takes 7 = .ok (.iaload, 1) := by decide +kernel
theorem dX6_takes_8 : decode cX6_takes 8 = .ok (.istore_n 1, 1) := by decide +kernel
theorem dX6_takes_9 : decode cX6_takes 9 = .ok (.iconst 0, 1) := by decide +kernel
theorem dX6_takes_10 : decode cX6_takes 10 = .ok (.istore_n 2, 1) := by decide +kernel
theorem dX6_takes_11 : decode cX6_takes 11 = .ok (.iload_n 2, 1) := by decide +kernel
theorem dX6_takes_12 : decode cX6_takes 12 = .ok (.iload_n 1, 1) := by decide +kernel
theorem dX6_takes_13 : decode cX6_takes 13 = .ok (.if_icmp .ge 77, 3) := by decide +kernel
theorem dX6_takes_16 : decode cX6_takes 16 = .ok (.aload_n 0, 1) := by decide +kernel
theorem dX6_takes_17 : decode cX6_takes 17 = .ok (.getfield 7, 3) := by decide +kernel
theorem dX6_takes_20 : decode cX6_takes 20 = .ok (.sipush 573, 3) := by decide +kernel
theorem dX6_takes_23 : decode cX6_takes 23 = .ok (.iload_n 2, 1) := by decide +kernel
theorem dX6_takes_24 : decode cX6_takes 24 = .ok (.iadd, 1) := by decide +kernel
theorem dX6_takes_25 : decode cX6_takes 25 = .ok (.iaload, 1) := by decide +kernel
theorem dX6_takes_26 : decode cX6_takes 26 = .ok (.istore_n 3, 1) := by decide +kernel
theorem dX6_takes_27 : decode cX6_takes 27 = .ok (.iload_n 2, 1) := by decide +kernel
theorem dX6_takes_28 : decode cX6_takes 28 = .ok (.istore 4, 2) := by decide +kernel
theorem dX6_takes_30 : decode cX6_takes 30 = .ok (.iload 4, 2) := by decide +kernel
theorem dX6_takes_32 : decode cX6_takes 32 = .ok (.ifCond .le 44, 3) := by decide +kernel
theorem dX6_takes_35 : decode cX6_takes 35 = .ok (.aload_n 0, 1) := by decide +kernel
theorem dX6_takes_36 : decode cX6_takes 36 = .ok (.getfield 19, 3) := by decide +kernel
theorem dX6_takes_39 : decode cX6_takes 39 = .ok (.iload 4, 2) := by decide +kernel
theorem dX6_takes_41 : decode cX6_takes 41 = .ok (.iconst 1, 1) := by decide +kernel
theorem dX6_takes_42 : decode cX6_takes 42 = .ok (.isub, 1) := by decide +kernel
theorem dX6_takes_43 : decode cX6_takes 43 = .ok (.iaload, 1) := by decide +kernel
theorem dX6_takes_44 : decode cX6_takes 44 = .ok (.bipush 6, 2) := by decide +kernel
theorem dX6_takes_46 : decode cX6_takes 46 = .ok (.ishr, 1) := by decide +kernel
theorem dX6_takes_47 : decode cX6_takes 47 = .ok (.iload_n 3, 1) := by decide +kernel
theorem dX6_takes_48 : decode cX6_takes 48 = .ok (.bipush 6, 2) := by decide +kernel
theorem dX6_takes_50 : decode cX6_takes 50 = .ok (.ishr, 1) := by decide +kernel
theorem dX6_takes_51 : decode cX6_takes 51 = .ok (.if_icmp .le 25, 3) := by decide +kernel
theorem dX6_takes_54 : decode cX6_takes 54 = .ok (.aload_n 0, 1) := by decide +kernel
theorem dX6_takes_55 : decode cX6_takes 55 = .ok (.getfield 19, 3) := by decide +kernel
theorem dX6_takes_58 : decode cX6_takes 58 = .ok (.iload 4, 2) := by decide +kernel
theorem dX6_takes_60 : decode cX6_takes 60 = .ok (.aload_n 0, 1) := by decide +kernel
theorem dX6_takes_61 : decode cX6_takes 61 = .ok (.getfield 19, 3) := by decide +kernel
theorem dX6_takes_64 : decode cX6_takes 64 = .ok (.iload 4, 2) := by decide +kernel
theorem dX6_takes_66 : decode cX6_takes 66 = .ok (.iconst 1, 1) := by decide +kernel
theorem dX6_takes_67 : decode cX6_takes 67 = .ok (.isub, 1) := by decide +kernel
theorem dX6_takes_68 : decode cX6_takes 68 = .ok (.iaload, 1) := by decide +kernel
theorem dX6_takes_69 : decode cX6_takes 69 = .ok (.iastore, 1) := by decide +kernel
theorem dX6_takes_70 : decode cX6_takes 70 = .ok (.iinc 4 (-1), 3) := by decide +kernel
theorem dX6_takes_73 : decode cX6_takes 73 = .ok (.goto (-43), 3) := by decide +kernel
theorem dX6_takes_76 : decode cX6_takes 76 = .ok (.aload_n 0, 1) := by decide +kernel
theorem dX6_takes_77 : decode cX6_takes 77 = .ok (.getfield 19, 3) := by decide +kernel
theorem dX6_takes_80 : decode cX6_takes 80 = .ok (.iload 4, 2) := by decide +kernel
theorem dX6_takes_82 : decode cX6_takes 82 = .ok (.iload_n 3, 1) := by decide +kernel
theorem dX6_takes_83 : decode cX6_takes 83 = .ok (.iastore, 1) := by decide +kernel
theorem dX6_takes_84 : decode cX6_takes 84 = .ok (.iinc 2 1, 3) := by decide +kernel
theorem dX6_takes_87 : decode cX6_takes 87 = .ok (.goto (-76), 3) := by decide +kernel
theorem dX6_takes_90 : decode cX6_takes 90 = .ok (.aload_n 0, 1) := by decide +kernel
theorem dX6_takes_91 : decode cX6_takes 91 = .ok (.getfield 7, 3) := by decide +kernel
theorem dX6_takes_94 : decode cX6_takes 94 = .ok (.sipush 572, 3) := by decide +kernel
theorem dX6_takes_97 : decode cX6_takes 97 = .ok (.iconst 0, 1) := by decide +kernel
theorem dX6_takes_98 : decode cX6_takes 98 = .ok (.iastore, 1) := by decide +kernel
theorem dX6_takes_99 : decode cX6_takes 99 = .ok (.iload_n 1, 1) := by decide +kernel
theorem dX6_takes_100 : decode cX6_takes 100 = .ok (.ireturn, 1) := by decide +kernel
theorem dX6_goesRound_0 : decode cX6_goesRound 0 = .ok (.aload_n 0, 1) := by decide +kernel
theorem dX6_goesRound_1 : decode cX6_goesRound 1 = .ok (.invokevirtual 91, 3) := by decide +kernel
theorem dX6_goesRound_4 : decode cX6_goesRound 4 = .ok (.istore_n 1, 1) := by decide +kernel
theorem dX6_goesRound_5 : decode cX6_goesRound 5 = .ok (.iconst 0, 1) := by decide +kernel
theorem dX6_goesRound_6 : decode cX6_goesRound 6 = .ok (.istore_n 2, 1) := by decide +kernel
theorem dX6_goesRound_7 : decode cX6_goesRound 7 = .ok (.iconst 0, 1) := by decide +kernel
theorem dX6_goesRound_8 : decode cX6_goesRound 8 = .ok (.istore_n 3, 1) := by decide +kernel
theorem dX6_goesRound_9 : decode cX6_goesRound 9 = .ok (.iload_n 3, 1) := by decide +kernel
theorem dX6_goesRound_10 : decode cX6_goesRound 10 = .ok (.iload_n 1, 1) := by decide +kernel
theorem dX6_goesRound_11 : decode cX6_goesRound 11 = .ok (.if_icmp .ge 154, 3) := by decide +kernel
theorem dX6_goesRound_14 : decode cX6_goesRound 14 = .ok (.aload_n 0, 1) := by decide +kernel
theorem dX6_goesRound_15 : decode cX6_goesRound 15 = .ok (.getfield 19, 3) := by decide +kernel
theorem dX6_goesRound_18 : decode cX6_goesRound 18 = .ok (.iload_n 3, 1) := by decide +kernel
theorem dX6_goesRound_19 : decode cX6_goesRound 19 = .ok (.iaload, 1) := by decide +kernel
theorem dX6_goesRound_20 : decode cX6_goesRound 20 = .ok (.bipush 12, 2) := by decide +kernel
theorem dX6_goesRound_22 : decode cX6_goesRound 22 = .ok (.ishr, 1) := by decide +kernel
theorem dX6_goesRound_23 : decode cX6_goesRound 23 = .ok (.istore 4, 2) := by decide +kernel
theorem dX6_goesRound_25 : decode cX6_goesRound 25 = .ok (.aload_n 0, 1) := by decide +kernel
theorem dX6_goesRound_26 : decode cX6_goesRound 26 = .ok (.getfield 19, 3) := by decide +kernel
theorem dX6_goesRound_29 : decode cX6_goesRound 29 = .ok (.iload_n 3, 1) := by decide +kernel
theorem dX6_goesRound_30 : decode cX6_goesRound 30 = .ok (.iaload, 1) := by decide +kernel
theorem dX6_goesRound_31 : decode cX6_goesRound 31 = .ok (.bipush 6, 2) := by decide +kernel
theorem dX6_goesRound_33 : decode cX6_goesRound 33 = .ok (.ishr, 1) := by decide +kernel
theorem dX6_goesRound_34 : decode cX6_goesRound 34 = .ok (.bipush 7, 2) := by decide +kernel
theorem dX6_goesRound_36 : decode cX6_goesRound 36 = .ok (.iand, 1) := by decide +kernel
theorem dX6_goesRound_37 : decode cX6_goesRound 37 = .ok (.istore 5, 2) := by decide +kernel
theorem dX6_goesRound_39 : decode cX6_goesRound 39 = .ok (.aload_n 0, 1) := by decide +kernel
theorem dX6_goesRound_40 : decode cX6_goesRound 40 = .ok (.aload_n 0, 1) := by decide +kernel
theorem dX6_goesRound_41 : decode cX6_goesRound 41 = .ok (.getfield 19, 3) := by decide +kernel
theorem dX6_goesRound_44 : decode cX6_goesRound 44 = .ok (.iload_n 3, 1) := by decide +kernel
theorem dX6_goesRound_45 : decode cX6_goesRound 45 = .ok (.iaload, 1) := by decide +kernel
theorem dX6_goesRound_46 : decode cX6_goesRound 46 = .ok (.bipush 9, 2) := by decide +kernel
theorem dX6_goesRound_48 : decode cX6_goesRound 48 = .ok (.ishr, 1) := by decide +kernel
theorem dX6_goesRound_49 : decode cX6_goesRound 49 = .ok (.bipush 7, 2) := by decide +kernel
theorem dX6_goesRound_51 : decode cX6_goesRound 51 = .ok (.iand, 1) := by decide +kernel
theorem dX6_goesRound_52 : decode cX6_goesRound 52 = .ok (.iload 5, 2) := by decide +kernel
theorem dX6_goesRound_54 : decode cX6_goesRound 54 = .ok (.invokevirtual 46, 3) := by decide +kernel
theorem dX6_goesRound_57 : decode cX6_goesRound 57 = .ok (.istore 6, 2) := by decide +kernel
theorem dX6_goesRound_59 : decode cX6_goesRound 59 = .ok (.iload 6, 2) := by decide +kernel
theorem dX6_goesRound_61 : decode cX6_goesRound 61 = .ok (.iconst (-1), 1) := by decide +kernel
theorem dX6_goesRound_62 : decode cX6_goesRound 62 = .ok (.if_icmp .eq 18, 3) := by decide +kernel
theorem dX6_goesRound_65 : decode cX6_goesRound 65 = .ok (.aload_n 0, 1) := by decide +kernel
theorem dX6_goesRound_66 : decode cX6_goesRound 66 = .ok (.iload 6, 2) := by decide +kernel
theorem dX6_goesRound_68 : decode cX6_goesRound 68 = .ok (.iconst 2, 1) := by decide +kernel
theorem dX6_goesRound_69 : decode cX6_goesRound 69 = .ok (.invokevirtual 34, 3) := by decide +kernel
theorem dX6_goesRound_72 : decode cX6_goesRound 72 = .ok (.iconst 1, 1) := by decide +kernel
theorem dX6_goesRound_73 : decode cX6_goesRound 73 = .ok (.if_icmp .ne 7, 3) := by decide +kernel
theorem dX6_goesRound_76 : decode cX6_goesRound 76 = .ok (.iconst 1, 1) := by decide +kernel
theorem dX6_goesRound_77 : decode cX6_goesRound 77 = .ok (.goto 4, 3) := by decide +kernel
theorem dX6_goesRound_80 : decode cX6_goesRound 80 = .ok (.iconst 0, 1) := by decide +kernel
theorem dX6_goesRound_81 : decode cX6_goesRound 81 = .ok (.istore 7, 2) := by decide +kernel
theorem dX6_goesRound_83 : decode cX6_goesRound 83 = .ok (.aload_n 0, 1) := by decide +kernel
theorem dX6_goesRound_84 : decode cX6_goesRound 84 = .ok (.getfield 7, 3) := by decide +kernel
theorem dX6_goesRound_87 : decode cX6_goesRound 87 = .ok (.sipush 567, 3) := by decide +kernel
theorem dX6_goesRound_90 : decode cX6_goesRound 90 = .ok (.dup2, 1) := by decide +kernel
theorem dX6_goesRound_91 : decode cX6_goesRound 91 = .ok (.iaload, 1) := by decide +kernel
theorem dX6_goesRound_92 : decode cX6_goesRound 92 = .ok (.iload 7, 2) := by decide +kernel
theorem dX6_goesRound_94 : decode cX6_goesRound 94 = .ok (.ifCond .eq 7, 3) := by decide +kernel
theorem dX6_goesRound_97 : decode cX6_goesRound 97 = .ok (.iconst 1, 1) := by decide +kernel
theorem dX6_goesRound_98 : decode cX6_goesRound 98 = .ok (.goto 4, 3) := by decide +kernel
theorem dX6_goesRound_101 : decode cX6_goesRound 101 = .ok (.iconst 0, 1) := by decide +kernel
theorem dX6_goesRound_102 : decode cX6_goesRound 102 = .ok (.iadd, 1) := by decide +kernel
theorem dX6_goesRound_103 : decode cX6_goesRound 103 = .ok (.iastore, 1) := by decide +kernel
theorem dX6_goesRound_104 : decode cX6_goesRound 104 = .ok (.iload 6, 2) := by decide +kernel
theorem dX6_goesRound_106 : decode cX6_goesRound 106 = .ok (.iconst (-1), 1) := by decide +kernel
theorem dX6_goesRound_107 : decode cX6_goesRound 107 = .ok (.if_icmp .eq 52, 3) := by decide +kernel
theorem dX6_goesRound_110 : decode cX6_goesRound 110 = .ok (.iload 7, 2) := by decide +kernel
theorem dX6_goesRound_112 : decode cX6_goesRound 112 = .ok (.ifCond .eq 15, 3) := by decide +kernel
theorem dX6_goesRound_115 : decode cX6_goesRound 115 = .ok (.aload_n 0, 1) := by decide +kernel
theorem dX6_goesRound_116 : decode cX6_goesRound 116 = .ok (.iload 5, 2) := by decide +kernel
theorem dX6_goesRound_118 : decode cX6_goesRound 118 = .ok (.iload 4, 2) := by decide +kernel
theorem dX6_goesRound_120 : decode cX6_goesRound 120 = .ok (.invokevirtual 69, 3) := by decide +kernel
theorem dX6_goesRound_123 : decode cX6_goesRound 123 = .ok (.iconst (-1), 1) := by decide +kernel
theorem dX6_goesRound_124 : decode cX6_goesRound 124 = .ok (.if_icmp .ne 35, 3) := by decide +kernel
theorem dX6_goesRound_127 : decode cX6_goesRound 127 = .ok (.aload_n 0, 1) := by decide +kernel
theorem dX6_goesRound_128 : decode cX6_goesRound 128 = .ok (.getfield 7, 3) := by decide +kernel
theorem dX6_goesRound_131 : decode cX6_goesRound 131 = .ok (.sipush 566, 3) := by decide +kernel
theorem dX6_goesRound_134 : decode cX6_goesRound 134 = .ok (.dup2, 1) := by decide +kernel
theorem dX6_goesRound_135 : decode cX6_goesRound 135 = .ok (.iaload, 1) := by decide +kernel
theorem dX6_goesRound_136 : decode cX6_goesRound 136 = .ok (.iconst 1, 1) := by decide +kernel
theorem dX6_goesRound_137 : decode cX6_goesRound 137 = .ok (.iadd, 1) := by decide +kernel
theorem dX6_goesRound_138 : decode cX6_goesRound 138 = .ok (.iastore, 1) := by decide +kernel
theorem dX6_goesRound_139 : decode cX6_goesRound 139 = .ok (.iload_n 2, 1) := by decide +kernel
theorem dX6_goesRound_140 : decode cX6_goesRound 140 = .ok (.aload_n 0, 1) := by decide +kernel
theorem dX6_goesRound_141 : decode cX6_goesRound 141 = .ok (.iload 5, 2) := by decide +kernel
theorem dX6_goesRound_143 : decode cX6_goesRound 143 = .ok (.iload 4, 2) := by decide +kernel
theorem dX6_goesRound_145 : decode cX6_goesRound 145 = .ok (.aload_n 0, 1) := by decide +kernel
theorem dX6_goesRound_146 : decode cX6_goesRound 146 = .ok (.getfield 19, 3) := by decide +kernel
theorem dX6_goesRound_149 : decode cX6_goesRound 149 = .ok (.iload_n 3, 1) := by decide +kernel
theorem dX6_goesRound_150 : decode cX6_goesRound 150 = .ok (.iaload, 1) := by decide +kernel
theorem dX6_goesRound_151 : decode cX6_goesRound 151 = .ok (.bipush 63, 2) := by decide +kernel
theorem dX6_goesRound_153 : decode cX6_goesRound 153 = .ok (.iand, 1) := by decide +kernel
theorem dX6_goesRound_154 : decode cX6_goesRound 154 = .ok (.invokevirtual 76, 3) := by decide +kernel
theorem dX6_goesRound_157 : decode cX6_goesRound 157 = .ok (.iadd, 1) := by decide +kernel
theorem dX6_goesRound_158 : decode cX6_goesRound 158 = .ok (.istore_n 2, 1) := by decide +kernel
theorem dX6_goesRound_159 : decode cX6_goesRound 159 = .ok (.iinc 3 1, 3) := by decide +kernel
theorem dX6_goesRound_162 : decode cX6_goesRound 162 = .ok (.goto (-153), 3) := by decide +kernel
theorem dX6_goesRound_165 : decode cX6_goesRound 165 = .ok (.iload_n 2, 1) := by decide +kernel
theorem dX6_goesRound_166 : decode cX6_goesRound 166 = .ok (.ireturn, 1) := by decide +kernel
theorem dX6_round_0 : decode cX6_round 0 = .ok (.aload_n 0, 1) := by decide +kernel
theorem dX6_round_1 : decode cX6_round 1 = .ok (.invokevirtual 49, 3) := by decide +kernel
theorem dX6_round_4 : decode cX6_round 4 = .ok (.aload_n 0, 1) := by decide +kernel
theorem dX6_round_5 : decode cX6_round 5 = .ok (.invokevirtual 95, 3) := by decide +kernel
theorem dX6_round_8 : decode cX6_round 8 = .ok (.ireturn, 1) := by decide +kernel
theorem dX6_settle_0 : decode cX6_settle 0 = .ok (.aload_n 0, 1) := by decide +kernel
theorem dX6_settle_1 : decode cX6_settle 1 = .ok (.invokevirtual 49, 3) := by decide +kernel
theorem dX6_settle_4 : decode cX6_settle 4 = .ok (.iconst 0, 1) := by decide +kernel
theorem dX6_settle_5 : decode cX6_settle 5 = .ok (.istore_n 1, 1) := by decide +kernel
theorem dX6_settle_6 : decode cX6_settle 6 = .ok (.aload_n 0, 1) := by decide +kernel
theorem dX6_settle_7 : decode cX6_settle 7 = .ok (.getfield 7, 3) := by decide +kernel
theorem dX6_settle_10 : decode cX6_settle 10 = .ok (.sipush 572, 3) := by decide +kernel
theorem dX6_settle_13 : decode cX6_settle 13 = .ok (.iaload, 1) := by decide +kernel
theorem dX6_settle_14 : decode cX6_settle 14 = .ok (.ifCond .le 14, 3) := by decide +kernel
theorem dX6_settle_17 : decode cX6_settle 17 = .ok (.aload_n 0, 1) := by decide +kernel
theorem dX6_settle_18 : decode cX6_settle 18 = .ok (.invokevirtual 95, 3) := by decide +kernel
theorem dX6_settle_21 : decode cX6_settle 21 = .ok (.istore_n 2, 1) := by decide +kernel
theorem dX6_settle_22 : decode cX6_settle 22 = .ok (.iinc 1 1, 3) := by decide +kernel
theorem dX6_settle_25 : decode cX6_settle 25 = .ok (.goto (-19), 3) := by decide +kernel
theorem dX6_settle_28 : decode cX6_settle 28 = .ok (.iload_n 1, 1) := by decide +kernel
theorem dX6_settle_29 : decode cX6_settle 29 = .ok (.ireturn, 1) := by decide +kernel
theorem dX6_nextDay_0 : decode cX6_nextDay 0 = .ok (.aload_n 0, 1) := by decide +kernel
theorem dX6_nextDay_1 : decode cX6_nextDay 1 = .ok (.invokevirtual 49, 3) := by decide +kernel
theorem dX6_nextDay_4 : decode cX6_nextDay 4 = .ok (.aload_n 0, 1) := by decide +kernel
theorem dX6_nextDay_5 : decode cX6_nextDay 5 = .ok (.getfield 7, 3) := by decide +kernel
theorem dX6_nextDay_8 : decode cX6_nextDay 8 = .ok (.iconst 0, 1) := by decide +kernel
theorem dX6_nextDay_9 : decode cX6_nextDay 9 = .ok (.dup2, 1) := by decide +kernel
theorem dX6_nextDay_10 : decode cX6_nextDay 10 = .ok (.iaload, 1) := by decide +kernel
theorem dX6_nextDay_11 : decode cX6_nextDay 11 = .ok (.iconst 1, 1) := by decide +kernel
theorem dX6_nextDay_12 : decode cX6_nextDay 12 = .ok (.iadd, 1) := by decide +kernel
theorem dX6_nextDay_13 : decode cX6_nextDay 13 = .ok (.iastore, 1) := by decide +kernel
theorem dX6_nextDay_14 : decode cX6_nextDay 14 = .ok (.iconst 0, 1) := by decide +kernel
theorem dX6_nextDay_15 : decode cX6_nextDay 15 = .ok (.istore_n 1, 1) := by decide +kernel
theorem dX6_nextDay_16 : decode cX6_nextDay 16 = .ok (.iconst 0, 1) := by decide +kernel
theorem dX6_nextDay_17 : decode cX6_nextDay 17 = .ok (.istore_n 2, 1) := by decide +kernel
theorem dX6_nextDay_18 : decode cX6_nextDay 18 = .ok (.iload_n 2, 1) := by decide +kernel
theorem dX6_nextDay_19 : decode cX6_nextDay 19 = .ok (.sipush 180, 3) := by decide +kernel
theorem dX6_nextDay_22 : decode cX6_nextDay 22 = .ok (.if_icmp .ge 134, 3) := by decide +kernel
theorem dX6_nextDay_25 : decode cX6_nextDay 25 = .ok (.iload_n 2, 1) := by decide +kernel
theorem dX6_nextDay_26 : decode cX6_nextDay 26 = .ok (.bipush 30, 2) := by decide +kernel
theorem dX6_nextDay_28 : decode cX6_nextDay 28 = .ok (.idiv, 1) := by decide +kernel
theorem dX6_nextDay_29 : decode cX6_nextDay 29 = .ok (.istore_n 3, 1) := by decide +kernel
theorem dX6_nextDay_30 : decode cX6_nextDay 30 = .ok (.iload_n 2, 1) := by decide +kernel
theorem dX6_nextDay_31 : decode cX6_nextDay 31 = .ok (.bipush 30, 2) := by decide +kernel
theorem dX6_nextDay_33 : decode cX6_nextDay 33 = .ok (.irem, 1) := by decide +kernel
theorem dX6_nextDay_34 : decode cX6_nextDay 34 = .ok (.istore 4, 2) := by decide +kernel
theorem dX6_nextDay_36 : decode cX6_nextDay 36 = .ok (.aload_n 0, 1) := by decide +kernel
theorem dX6_nextDay_37 : decode cX6_nextDay 37 = .ok (.iload_n 3, 1) := by decide +kernel
theorem dX6_nextDay_38 : decode cX6_nextDay 38 = .ok (.iload 4, 2) := by decide +kernel
theorem dX6_nextDay_40 : decode cX6_nextDay 40 = .ok (.invokevirtual 65, 3) := by decide +kernel
theorem dX6_nextDay_43 : decode cX6_nextDay 43 = .ok (.ifCond .eq 56, 3) := by decide +kernel
theorem dX6_nextDay_46 : decode cX6_nextDay 46 = .ok (.aload_n 0, 1) := by decide +kernel
theorem dX6_nextDay_47 : decode cX6_nextDay 47 = .ok (.getfield 7, 3) := by decide +kernel
theorem dX6_nextDay_50 : decode cX6_nextDay 50 = .ok (.iconst 0, 1) := by decide +kernel
theorem dX6_nextDay_51 : decode cX6_nextDay 51 = .ok (.iaload, 1) := by decide +kernel
theorem dX6_nextDay_52 : decode cX6_nextDay 52 = .ok (.aload_n 0, 1) := by decide +kernel
theorem dX6_nextDay_53 : decode cX6_nextDay 53 = .ok (.iload 4, 2) := by decide +kernel
theorem dX6_nextDay_55 : decode cX6_nextDay 55 = .ok (.iconst 2, 1) := by decide +kernel
theorem dX6_nextDay_56 : decode cX6_nextDay 56 = .ok (.invokevirtual 62, 3) := by decide +kernel
theorem dX6_nextDay_59 : decode cX6_nextDay 59 = .ok (.isub, 1) := by decide +kernel
theorem dX6_nextDay_60 : decode cX6_nextDay 60 = .ok (.aload_n 0, 1) := by decide +kernel
theorem dX6_nextDay_61 : decode cX6_nextDay 61 = .ok (.getfield 7, 3) := by decide +kernel
theorem dX6_nextDay_64 : decode cX6_nextDay 64 = .ok (.iconst 2, 1) := by decide +kernel
theorem dX6_nextDay_65 : decode cX6_nextDay 65 = .ok (.aload_n 0, 1) := by decide +kernel
theorem dX6_nextDay_66 : decode cX6_nextDay 66 = .ok (.iload 4, 2) := by decide +kernel
theorem dX6_nextDay_68 : decode cX6_nextDay 68 = .ok (.iconst 0, 1) := by decide +kernel
theorem dX6_nextDay_69 : decode cX6_nextDay 69 = .ok (.invokevirtual 62, 3) := by decide +kernel
theorem dX6_nextDay_72 : decode cX6_nextDay 72 = .ok (.iadd, 1) := by decide +kernel
theorem dX6_nextDay_73 : decode cX6_nextDay 73 = .ok (.iaload, 1) := by decide +kernel
theorem dX6_nextDay_74 : decode cX6_nextDay 74 = .ok (.if_icmp .lt 25, 3) := by decide +kernel
theorem dX6_nextDay_77 : decode cX6_nextDay 77 = .ok (.aload_n 0, 1) := by decide +kernel
theorem dX6_nextDay_78 : decode cX6_nextDay 78 = .ok (.getfield 7, 3) := by decide +kernel
theorem dX6_nextDay_81 : decode cX6_nextDay 81 = .ok (.sipush 380, 3) := by decide +kernel
theorem dX6_nextDay_84 : decode cX6_nextDay 84 = .ok (.iload_n 3, 1) := by decide +kernel
theorem dX6_nextDay_85 : decode cX6_nextDay 85 = .ok (.iadd, 1) := by decide +kernel
theorem dX6_nextDay_86 : decode cX6_nextDay 86 = .ok (.dup2, 1) := by decide +kernel
theorem dX6_nextDay_87 : decode cX6_nextDay 87 = .ok (.iaload, 1) := by decide +kernel
theorem dX6_nextDay_88 : decode cX6_nextDay 88 = .ok (.iconst 1, 1) := by decide +kernel
theorem dX6_nextDay_89 : decode cX6_nextDay 89 = .ok (.iload 4, 2) := by decide +kernel
theorem dX6_nextDay_91 : decode cX6_nextDay 91 = .ok (.ishl, 1) := by decide +kernel
theorem dX6_nextDay_92 : decode cX6_nextDay 92 = .ok (.iconst (-1), 1) := by decide +kernel
theorem dX6_nextDay_93 : decode cX6_nextDay 93 = .ok (.ixor, 1) := by decide +kernel
theorem dX6_nextDay_94 : decode cX6_nextDay 94 = .ok (.iand, 1) := by decide +kernel
theorem dX6_nextDay_95 : decode cX6_nextDay 95 = .ok (.iastore, 1) := by decide +kernel
theorem dX6_nextDay_96 : decode cX6_nextDay 96 = .ok (.iinc 1 1, 3) := by decide +kernel
theorem dX6_nextDay_99 : decode cX6_nextDay 99 = .ok (.aload_n 0, 1) := by decide +kernel
theorem dX6_nextDay_100 : decode cX6_nextDay 100 = .ok (.getfield 7, 3) := by decide +kernel
theorem dX6_nextDay_103 : decode cX6_nextDay 103 = .ok (.sipush 200, 3) := by decide +kernel
theorem dX6_nextDay_106 : decode cX6_nextDay 106 = .ok (.iload_n 2, 1) := by decide +kernel
theorem dX6_nextDay_107 : decode cX6_nextDay 107 = .ok (.iadd, 1) := by decide +kernel
theorem dX6_nextDay_108 : decode cX6_nextDay 108 = .ok (.iaload, 1) := by decide +kernel
theorem dX6_nextDay_109 : decode cX6_nextDay 109 = .ok (.iconst (-1), 1) := by decide +kernel
theorem dX6_nextDay_110 : decode cX6_nextDay 110 = .ok (.if_icmp .eq 40, 3) := by decide +kernel
theorem dX6_nextDay_113 : decode cX6_nextDay 113 = .ok (.aload_n 0, 1) := by decide +kernel
theorem dX6_nextDay_114 : decode cX6_nextDay 114 = .ok (.getfield 7, 3) := by decide +kernel
theorem dX6_nextDay_117 : decode cX6_nextDay 117 = .ok (.iconst 0, 1) := by decide +kernel
theorem dX6_nextDay_118 : decode cX6_nextDay 118 = .ok (.iaload, 1) := by decide +kernel
theorem dX6_nextDay_119 : decode cX6_nextDay 119 = .ok (.aload_n 0, 1) := by decide +kernel
theorem dX6_nextDay_120 : decode cX6_nextDay 120 = .ok (.getfield 7, 3) := by decide +kernel
theorem dX6_nextDay_123 : decode cX6_nextDay 123 = .ok (.sipush 200, 3) := by decide +kernel
theorem dX6_nextDay_126 : decode cX6_nextDay 126 = .ok (.iload_n 2, 1) := by decide +kernel
theorem dX6_nextDay_127 : decode cX6_nextDay 127 = .ok (.iadd, 1) := by decide +kernel
theorem dX6_nextDay_128 : decode cX6_nextDay 128 = .ok (.iaload, 1) := by decide +kernel
theorem dX6_nextDay_129 : decode cX6_nextDay 129 = .ok (.isub, 1) := by decide +kernel
theorem dX6_nextDay_130 : decode cX6_nextDay 130 = .ok (.aload_n 0, 1) := by decide +kernel
theorem dX6_nextDay_131 : decode cX6_nextDay 131 = .ok (.getfield 7, 3) := by decide +kernel
theorem dX6_nextDay_134 : decode cX6_nextDay 134 = .ok (.iconst 1, 1) := by decide +kernel
theorem dX6_nextDay_135 : decode cX6_nextDay 135 = .ok (.iaload, 1) := by decide +kernel
theorem dX6_nextDay_136 : decode cX6_nextDay 136 = .ok (.if_icmp .lt 14, 3) := by decide +kernel
theorem dX6_nextDay_139 : decode cX6_nextDay 139 = .ok (.aload_n 0, 1) := by decide +kernel
theorem dX6_nextDay_140 : decode cX6_nextDay 140 = .ok (.getfield 7, 3) := by decide +kernel
theorem dX6_nextDay_143 : decode cX6_nextDay 143 = .ok (.sipush 200, 3) := by decide +kernel
theorem dX6_nextDay_146 : decode cX6_nextDay 146 = .ok (.iload_n 2, 1) := by decide +kernel
theorem dX6_nextDay_147 : decode cX6_nextDay 147 = .ok (.iadd, 1) := by decide +kernel
theorem dX6_nextDay_148 : decode cX6_nextDay 148 = .ok (.iconst (-1), 1) := by decide +kernel
theorem dX6_nextDay_149 : decode cX6_nextDay 149 = .ok (.iastore, 1) := by decide +kernel
theorem dX6_nextDay_150 : decode cX6_nextDay 150 = .ok (.iinc 2 1, 3) := by decide +kernel
theorem dX6_nextDay_153 : decode cX6_nextDay 153 = .ok (.goto (-135), 3) := by decide +kernel
theorem dX6_nextDay_156 : decode cX6_nextDay 156 = .ok (.iload_n 1, 1) := by decide +kernel
theorem dX6_nextDay_157 : decode cX6_nextDay 157 = .ok (.ireturn, 1) := by decide +kernel
theorem dX6_isStored_0 : decode cX6_isStored 0 = .ok (.iload_n 1, 1) := by decide +kernel
theorem dX6_isStored_1 : decode cX6_isStored 1 = .ok (.invokestatic 38, 3) := by decide +kernel
theorem dX6_isStored_4 : decode cX6_isStored 4 = .ok (.ifCond .eq 28, 3) := by decide +kernel
theorem dX6_isStored_7 : decode cX6_isStored 7 = .ok (.aload_n 0, 1) := by decide +kernel
theorem dX6_isStored_8 : decode cX6_isStored 8 = .ok (.iload_n 2, 1) := by decide +kernel
theorem dX6_isStored_9 : decode cX6_isStored 9 = .ok (.invokevirtual 88, 3) := by decide +kernel
theorem dX6_isStored_12 : decode cX6_isStored 12 = .ok (.ifCond .eq 20, 3) := by decide +kernel
theorem dX6_isStored_15 : decode cX6_isStored 15 = .ok (.aload_n 0, 1) := by decide +kernel
theorem dX6_isStored_16 : decode cX6_isStored 16 = .ok (.iload_n 1, 1) := by decide +kernel
theorem dX6_isStored_17 : decode cX6_isStored 17 = .ok (.iload_n 2, 1) := by decide +kernel
theorem dX6_isStored_18 : decode cX6_isStored 18 = .ok (.invokevirtual 65, 3) := by decide +kernel
theorem dX6_isStored_21 : decode cX6_isStored 21 = .ok (.ifCond .eq 7, 3) := by decide +kernel
theorem dX6_isStored_24 : decode cX6_isStored 24 = .ok (.iconst 1, 1) := by decide +kernel
theorem dX6_isStored_25 : decode cX6_isStored 25 = .ok (.goto 13, 3) := by decide +kernel
theorem dX6_isStored_28 : decode cX6_isStored 28 = .ok (.iconst 0, 1) := by decide +kernel
theorem dX6_isStored_29 : decode cX6_isStored 29 = .ok (.goto 9, 3) := by decide +kernel
theorem dX6_isStored_32 : decode cX6_isStored 32 = .ok (.aload_n 0, 1) := by decide +kernel
theorem dX6_isStored_33 : decode cX6_isStored 33 = .ok (.bipush (-2), 2) := by decide +kernel
theorem dX6_isStored_35 : decode cX6_isStored 35 = .ok (.invokevirtual 42, 3) := by decide +kernel
theorem dX6_isStored_38 : decode cX6_isStored 38 = .ok (.ireturn, 1) := by decide +kernel
theorem dX6_knownSince_0 : decode cX6_knownSince 0 = .ok (.iload_n 1, 1) := by decide +kernel
theorem dX6_knownSince_1 : decode cX6_knownSince 1 = .ok (.invokestatic 38, 3) := by decide +kernel
theorem dX6_knownSince_4 : decode cX6_knownSince 4 = .ok (.ifCond .eq 20, 3) := by decide +kernel
theorem dX6_knownSince_7 : decode cX6_knownSince 7 = .ok (.aload_n 0, 1) := by decide +kernel
theorem dX6_knownSince_8 : decode cX6_knownSince 8 = .ok (.iload_n 2, 1) := by decide +kernel
theorem dX6_knownSince_9 : decode cX6_knownSince 9 = .ok (.invokevirtual 88, 3) := by decide +kernel
theorem dX6_knownSince_12 : decode cX6_knownSince 12 = .ok (.ifCond .eq 12, 3) := by decide +kernel
theorem dX6_knownSince_15 : decode cX6_knownSince 15 = .ok (.aload_n 0, 1) := by decide +kernel
theorem dX6_knownSince_16 : decode cX6_knownSince 16 = .ok (.iload_n 1, 1) := by decide +kernel
theorem dX6_knownSince_17 : decode cX6_knownSince 17 = .ok (.iload_n 2, 1) := by decide +kernel
theorem dX6_knownSince_18 : decode cX6_knownSince 18 = .ok (.invokevirtual 69, 3) := by decide +kernel
theorem dX6_knownSince_21 : decode cX6_knownSince 21 = .ok (.goto 9, 3) := by decide +kernel
theorem dX6_knownSince_24 : decode cX6_knownSince 24 = .ok (.aload_n 0, 1) := by decide +kernel
theorem dX6_knownSince_25 : decode cX6_knownSince 25 = .ok (.bipush (-2), 2) := by decide +kernel
theorem dX6_knownSince_27 : decode cX6_knownSince 27 = .ok (.invokevirtual 42, 3) := by decide +kernel
theorem dX6_knownSince_30 : decode cX6_knownSince 30 = .ok (.ireturn, 1) := by decide +kernel
theorem dX6_pendingOf_0 : decode cX6_pendingOf 0 = .ok (.iconst 0, 1) := by decide +kernel
theorem dX6_pendingOf_1 : decode cX6_pendingOf 1 = .ok (.istore_n 2, 1) := by decide +kernel
theorem dX6_pendingOf_2 : decode cX6_pendingOf 2 = .ok (.iconst 0, 1) := by decide +kernel
theorem dX6_pendingOf_3 : decode cX6_pendingOf 3 = .ok (.istore_n 3, 1) := by decide +kernel
theorem dX6_pendingOf_4 : decode cX6_pendingOf 4 = .ok (.iload_n 3, 1) := by decide +kernel
theorem dX6_pendingOf_5 : decode cX6_pendingOf 5 = .ok (.bipush 30, 2) := by decide +kernel
theorem dX6_pendingOf_7 : decode cX6_pendingOf 7 = .ok (.if_icmp .ge 47, 3) := by decide +kernel
theorem dX6_pendingOf_10 : decode cX6_pendingOf 10 = .ok (.aload_n 0, 1) := by decide +kernel
theorem dX6_pendingOf_11 : decode cX6_pendingOf 11 = .ok (.getfield 7, 3) := by decide +kernel
theorem dX6_pendingOf_14 : decode cX6_pendingOf 14 = .ok (.sipush 386, 3) := by decide +kernel
theorem dX6_pendingOf_17 : decode cX6_pendingOf 17 = .ok (.bipush 30, 2) := by decide +kernel
theorem dX6_pendingOf_19 : decode cX6_pendingOf 19 = .ok (.iload_n 1, 1) := by decide +kernel
theorem dX6_pendingOf_20 : decode cX6_pendingOf 20 = .ok (.imul, 1) := by decide +kernel
theorem dX6_pendingOf_21 : decode cX6_pendingOf 21 = .ok (.iadd, 1) := by decide +kernel
theorem dX6_pendingOf_22 : decode cX6_pendingOf 22 = .ok (.iload_n 3, 1) := by decide +kernel
theorem dX6_pendingOf_23 : decode cX6_pendingOf 23 = .ok (.iadd, 1) := by decide +kernel
theorem dX6_pendingOf_24 : decode cX6_pendingOf 24 = .ok (.iaload, 1) := by decide +kernel
theorem dX6_pendingOf_25 : decode cX6_pendingOf 25 = .ok (.istore 4, 2) := by decide +kernel
theorem dX6_pendingOf_27 : decode cX6_pendingOf 27 = .ok (.iload 4, 2) := by decide +kernel
theorem dX6_pendingOf_29 : decode cX6_pendingOf 29 = .ok (.ifCond .le 19, 3) := by decide +kernel
theorem dX6_pendingOf_32 : decode cX6_pendingOf 32 = .ok (.iload_n 2, 1) := by decide +kernel
theorem dX6_pendingOf_33 : decode cX6_pendingOf 33 = .ok (.iload 4, 2) := by decide +kernel
theorem dX6_pendingOf_35 : decode cX6_pendingOf 35 = .ok (.iconst 1, 1) := by decide +kernel
theorem dX6_pendingOf_36 : decode cX6_pendingOf 36 = .ok (.iand, 1) := by decide +kernel
theorem dX6_pendingOf_37 : decode cX6_pendingOf 37 = .ok (.iadd, 1) := by decide +kernel
theorem dX6_pendingOf_38 : decode cX6_pendingOf 38 = .ok (.istore_n 2, 1) := by decide +kernel
theorem dX6_pendingOf_39 : decode cX6_pendingOf 39 = .ok (.iload 4, 2) := by decide +kernel
theorem dX6_pendingOf_41 : decode cX6_pendingOf 41 = .ok (.iconst 1, 1) := by decide +kernel
theorem dX6_pendingOf_42 : decode cX6_pendingOf 42 = .ok (.ishr, 1) := by decide +kernel
theorem dX6_pendingOf_43 : decode cX6_pendingOf 43 = .ok (.istore 4, 2) := by decide +kernel
theorem dX6_pendingOf_45 : decode cX6_pendingOf 45 = .ok (.goto (-18), 3) := by decide +kernel
theorem dX6_pendingOf_48 : decode cX6_pendingOf 48 = .ok (.iinc 3 1, 3) := by decide +kernel
theorem dX6_pendingOf_51 : decode cX6_pendingOf 51 = .ok (.goto (-47), 3) := by decide +kernel
theorem dX6_pendingOf_54 : decode cX6_pendingOf 54 = .ok (.iload_n 2, 1) := by decide +kernel
theorem dX6_pendingOf_55 : decode cX6_pendingOf 55 = .ok (.ireturn, 1) := by decide +kernel
theorem dX6_pendingCancels_0 : decode cX6_pendingCancels 0 = .ok (.iload_n 1, 1) := by decide +kernel
theorem dX6_pendingCancels_1 : decode cX6_pendingCancels 1 = .ok (.invokestatic 38, 3) := by decide +kernel
theorem dX6_pendingCancels_4 : decode cX6_pendingCancels 4 = .ok (.ifCond .eq 11, 3) := by decide +kernel
theorem dX6_pendingCancels_7 : decode cX6_pendingCancels 7 = .ok (.aload_n 0, 1) := by decide +kernel
theorem dX6_pendingCancels_8 : decode cX6_pendingCancels 8 = .ok (.iload_n 1, 1) := by decide +kernel
theorem dX6_pendingCancels_9 : decode cX6_pendingCancels 9 = .ok (.invokevirtual 98, 3) := by decide +kernel
theorem dX6_pendingCancels_12 : decode cX6_pendingCancels 12 = .ok (.goto 9, 3) := by decide +kernel
theorem dX6_pendingCancels_15 : decode cX6_pendingCancels 15 = .ok (.aload_n 0, 1) := by decide +kernel
theorem dX6_pendingCancels_16 : decode cX6_pendingCancels 16 = .ok (.bipush (-2), 2) := by decide +kernel
theorem dX6_pendingCancels_18 : decode cX6_pendingCancels 18 = .ok (.invokevirtual 42, 3) := by decide +kernel
theorem dX6_pendingCancels_21 : decode cX6_pendingCancels 21 = .ok (.ireturn, 1) := by decide +kernel
theorem dX6_holders_0 : decode cX6_holders 0 = .ok (.aload_n 0, 1) := by decide +kernel
theorem dX6_holders_1 : decode cX6_holders 1 = .ok (.iload_n 1, 1) := by decide +kernel
theorem dX6_holders_2 : decode cX6_holders 2 = .ok (.invokevirtual 88, 3) := by decide +kernel
theorem dX6_holders_5 : decode cX6_holders 5 = .ok (.ifCond .ne 10, 3) := by decide +kernel
theorem dX6_holders_8 : decode cX6_holders 8 = .ok (.aload_n 0, 1) := by decide +kernel
theorem dX6_holders_9 : decode cX6_holders 9 = .ok (.bipush (-2), 2) := by decide +kernel
theorem dX6_holders_11 : decode cX6_holders 11 = .ok (.invokevirtual 42, 3) := by decide +kernel
theorem dX6_holders_14 : decode cX6_holders 14 = .ok (.ireturn, 1) := by decide +kernel
theorem dX6_holders_15 : decode cX6_holders 15 = .ok (.iconst 0, 1) := by decide +kernel
theorem dX6_holders_16 : decode cX6_holders 16 = .ok (.istore_n 2, 1) := by decide +kernel
theorem dX6_holders_17 : decode cX6_holders 17 = .ok (.iconst 0, 1) := by decide +kernel
theorem dX6_holders_18 : decode cX6_holders 18 = .ok (.istore_n 3, 1) := by decide +kernel
theorem dX6_holders_19 : decode cX6_holders 19 = .ok (.iload_n 3, 1) := by decide +kernel
theorem dX6_holders_20 : decode cX6_holders 20 = .ok (.bipush 6, 2) := by decide +kernel
theorem dX6_holders_22 : decode cX6_holders 22 = .ok (.if_icmp .ge 28, 3) := by decide +kernel
theorem dX6_holders_25 : decode cX6_holders 25 = .ok (.iload_n 2, 1) := by decide +kernel
theorem dX6_holders_26 : decode cX6_holders 26 = .ok (.aload_n 0, 1) := by decide +kernel
theorem dX6_holders_27 : decode cX6_holders 27 = .ok (.iload_n 3, 1) := by decide +kernel
theorem dX6_holders_28 : decode cX6_holders 28 = .ok (.iload_n 1, 1) := by decide +kernel
theorem dX6_holders_29 : decode cX6_holders 29 = .ok (.invokevirtual 65, 3) := by decide +kernel
theorem dX6_holders_32 : decode cX6_holders 32 = .ok (.ifCond .eq 9, 3) := by decide +kernel
theorem dX6_holders_35 : decode cX6_holders 35 = .ok (.iconst 1, 1) := by decide +kernel
theorem dX6_holders_36 : decode cX6_holders 36 = .ok (.iload_n 3, 1) := by decide +kernel
theorem dX6_holders_37 : decode cX6_holders 37 = .ok (.ishl, 1) := by decide +kernel
theorem dX6_holders_38 : decode cX6_holders 38 = .ok (.goto 4, 3) := by decide +kernel
theorem dX6_holders_41 : decode cX6_holders 41 = .ok (.iconst 0, 1) := by decide +kernel
theorem dX6_holders_42 : decode cX6_holders 42 = .ok (.ior, 1) := by decide +kernel
theorem dX6_holders_43 : decode cX6_holders 43 = .ok (.istore_n 2, 1) := by decide +kernel
theorem dX6_holders_44 : decode cX6_holders 44 = .ok (.iinc 3 1, 3) := by decide +kernel
theorem dX6_holders_47 : decode cX6_holders 47 = .ok (.goto (-28), 3) := by decide +kernel
theorem dX6_holders_50 : decode cX6_holders 50 = .ok (.iload_n 2, 1) := by decide +kernel
theorem dX6_holders_51 : decode cX6_holders 51 = .ok (.ireturn, 1) := by decide +kernel
theorem dX6_storedInGroup_0 : decode cX6_storedInGroup 0 = .ok (.iload_n 1, 1) := by decide +kernel
theorem dX6_storedInGroup_1 : decode cX6_storedInGroup 1 = .ok (.invokestatic 38, 3) := by decide +kernel
theorem dX6_storedInGroup_4 : decode cX6_storedInGroup 4 = .ok (.ifCond .eq 10, 3) := by decide +kernel
theorem dX6_storedInGroup_7 : decode cX6_storedInGroup 7 = .ok (.iload_n 2, 1) := by decide +kernel
theorem dX6_storedInGroup_8 : decode cX6_storedInGroup 8 = .ok (.invokestatic 57, 3) := by decide +kernel
theorem dX6_storedInGroup_11 : decode cX6_storedInGroup 11 = .ok (.ifCond .ne 10, 3) := by decide +kernel
theorem dX6_storedInGroup_14 : decode cX6_storedInGroup 14 = .ok (.aload_n 0, 1) := by decide +kernel
theorem dX6_storedInGroup_15 : decode cX6_storedInGroup 15 = .ok (.bipush (-2), 2) := by decide +kernel
theorem dX6_storedInGroup_17 : decode cX6_storedInGroup 17 = .ok (.invokevirtual 42, 3) := by decide +kernel
theorem dX6_storedInGroup_20 : decode cX6_storedInGroup 20 = .ok (.ireturn, 1) := by decide +kernel
theorem dX6_storedInGroup_21 : decode cX6_storedInGroup 21 = .ok (.iconst 0, 1) := by decide +kernel
theorem dX6_storedInGroup_22 : decode cX6_storedInGroup 22 = .ok (.istore_n 3, 1) := by decide +kernel
theorem dX6_storedInGroup_23 : decode cX6_storedInGroup 23 = .ok (.iconst 0, 1) := by decide +kernel
theorem dX6_storedInGroup_24 : decode cX6_storedInGroup 24 = .ok (.istore 4, 2) := by decide +kernel
theorem dX6_storedInGroup_26 : decode cX6_storedInGroup 26 = .ok (.iload 4, 2) := by decide +kernel
theorem dX6_storedInGroup_28 : decode cX6_storedInGroup 28 = .ok (.aload_n 0, 1) := by decide +kernel
theorem dX6_storedInGroup_29 : decode cX6_storedInGroup 29 = .ok (.getfield 7, 3) := by decide +kernel
theorem dX6_storedInGroup_32 : decode cX6_storedInGroup 32 = .ok (.bipush 49, 2) := by decide +kernel
theorem dX6_storedInGroup_34 : decode cX6_storedInGroup 34 = .ok (.iaload, 1) := by decide +kernel
theorem dX6_storedInGroup_35 : decode cX6_storedInGroup 35 = .ok (.if_icmp .ge 38, 3) := by decide +kernel
theorem dX6_storedInGroup_38 : decode cX6_storedInGroup 38 = .ok (.iload_n 3, 1) := by decide +kernel
theorem dX6_storedInGroup_39 : decode cX6_storedInGroup 39 = .ok (.aload_n 0, 1) := by decide +kernel
theorem dX6_storedInGroup_40 : decode cX6_storedInGroup 40 = .ok (.iload_n 1, 1) := by decide +kernel
theorem dX6_storedInGroup_41 : decode cX6_storedInGroup 41 = .ok (.iload 4, 2) := by decide +kernel
theorem dX6_storedInGroup_43 : decode cX6_storedInGroup 43 = .ok (.invokevirtual 65, 3) := by decide +kernel
theorem dX6_storedInGroup_46 : decode cX6_storedInGroup 46 = .ok (.ifCond .eq 18, 3) := by decide +kernel
theorem dX6_storedInGroup_49 : decode cX6_storedInGroup 49 = .ok (.aload_n 0, 1) := by decide +kernel
theorem dX6_storedInGroup_50 : decode cX6_storedInGroup 50 = .ok (.iload 4, 2) := by decide +kernel
theorem dX6_storedInGroup_52 : decode cX6_storedInGroup 52 = .ok (.iconst 0, 1) := by decide +kernel
theorem dX6_storedInGroup_53 : decode cX6_storedInGroup 53 = .ok (.invokevirtual 62, 3) := by decide +kernel
theorem dX6_storedInGroup_56 : decode cX6_storedInGroup 56 = .ok (.iload_n 2, 1) := by decide +kernel
theorem dX6_storedInGroup_57 : decode cX6_storedInGroup 57 = .ok (.if_icmp .ne 7, 3) := by decide +kernel
theorem dX6_storedInGroup_60 : decode cX6_storedInGroup 60 = .ok (.iconst 1, 1) := by decide +kernel
theorem dX6_storedInGroup_61 : decode cX6_storedInGroup 61 = .ok (.goto 4, 3) := by decide +kernel
theorem dX6_storedInGroup_64 : decode cX6_storedInGroup 64 = .ok (.iconst 0, 1) := by decide +kernel
theorem dX6_storedInGroup_65 : decode cX6_storedInGroup 65 = .ok (.iadd, 1) := by decide +kernel
theorem dX6_storedInGroup_66 : decode cX6_storedInGroup 66 = .ok (.istore_n 3, 1) := by decide +kernel
theorem dX6_storedInGroup_67 : decode cX6_storedInGroup 67 = .ok (.iinc 4 1, 3) := by decide +kernel
theorem dX6_storedInGroup_70 : decode cX6_storedInGroup 70 = .ok (.goto (-44), 3) := by decide +kernel
theorem dX6_storedInGroup_73 : decode cX6_storedInGroup 73 = .ok (.iload_n 3, 1) := by decide +kernel
theorem dX6_storedInGroup_74 : decode cX6_storedInGroup 74 = .ok (.ireturn, 1) := by decide +kernel
theorem dX6_distance_0 : decode cX6_distance 0 = .ok (.iload_n 1, 1) := by decide +kernel
theorem dX6_distance_1 : decode cX6_distance 1 = .ok (.invokestatic 38, 3) := by decide +kernel
theorem dX6_distance_4 : decode cX6_distance 4 = .ok (.ifCond .eq 10, 3) := by decide +kernel
theorem dX6_distance_7 : decode cX6_distance 7 = .ok (.iload_n 2, 1) := by decide +kernel
theorem dX6_distance_8 : decode cX6_distance 8 = .ok (.invokestatic 38, 3) := by decide +kernel
theorem dX6_distance_11 : decode cX6_distance 11 = .ok (.ifCond .ne 10, 3) := by decide +kernel
theorem dX6_distance_14 : decode cX6_distance 14 = .ok (.aload_n 0, 1) := by decide +kernel
theorem dX6_distance_15 : decode cX6_distance 15 = .ok (.bipush (-2), 2) := by decide +kernel
theorem dX6_distance_17 : decode cX6_distance 17 = .ok (.invokevirtual 42, 3) := by decide +kernel
theorem dX6_distance_20 : decode cX6_distance 20 = .ok (.ireturn, 1) := by decide +kernel
theorem dX6_distance_21 : decode cX6_distance 21 = .ok (.iconst 1, 1) := by decide +kernel
theorem dX6_distance_22 : decode cX6_distance 22 = .ok (.iload_n 1, 1) := by decide +kernel
theorem dX6_distance_23 : decode cX6_distance 23 = .ok (.ishl, 1) := by decide +kernel
theorem dX6_distance_24 : decode cX6_distance 24 = .ok (.istore_n 3, 1) := by decide +kernel
theorem dX6_distance_25 : decode cX6_distance 25 = .ok (.iconst 0, 1) := by decide +kernel
theorem dX6_distance_26 : decode cX6_distance 26 = .ok (.istore 4, 2) := by decide +kernel
theorem dX6_distance_28 : decode cX6_distance 28 = .ok (.iload 4, 2) := by decide +kernel
theorem dX6_distance_30 : decode cX6_distance 30 = .ok (.bipush 6, 2) := by decide +kernel
theorem dX6_distance_32 : decode cX6_distance 32 = .ok (.if_icmp .ge 87, 3) := by decide +kernel
theorem dX6_distance_35 : decode cX6_distance 35 = .ok (.iload_n 3, 1) := by decide +kernel
theorem dX6_distance_36 : decode cX6_distance 36 = .ok (.iload_n 2, 1) := by decide +kernel
theorem dX6_distance_37 : decode cX6_distance 37 = .ok (.ishr, 1) := by decide +kernel
theorem dX6_distance_38 : decode cX6_distance 38 = .ok (.iconst 1, 1) := by decide +kernel
theorem dX6_distance_39 : decode cX6_distance 39 = .ok (.iand, 1) := by decide +kernel
theorem dX6_distance_40 : decode cX6_distance 40 = .ok (.iconst 1, 1) := by decide +kernel
theorem dX6_distance_41 : decode cX6_distance 41 = .ok (.if_icmp .ne 6, 3) := by decide +kernel
theorem dX6_distance_44 : decode cX6_distance 44 = .ok (.iload 4, 2) := by decide +kernel
theorem dX6_distance_46 : decode cX6_distance 46 = .ok (.ireturn, 1) := by decide +kernel
theorem dX6_distance_47 : decode cX6_distance 47 = .ok (.iload_n 3, 1) := by decide +kernel
theorem dX6_distance_48 : decode cX6_distance 48 = .ok (.istore 5, 2) := by decide +kernel
theorem dX6_distance_50 : decode cX6_distance 50 = .ok (.iconst 0, 1) := by decide +kernel
theorem dX6_distance_51 : decode cX6_distance 51 = .ok (.istore 6, 2) := by decide +kernel
theorem dX6_distance_53 : decode cX6_distance 53 = .ok (.iload 6, 2) := by decide +kernel
theorem dX6_distance_55 : decode cX6_distance 55 = .ok (.aload_n 0, 1) := by decide +kernel
theorem dX6_distance_56 : decode cX6_distance 56 = .ok (.getfield 7, 3) := by decide +kernel
theorem dX6_distance_59 : decode cX6_distance 59 = .ok (.bipush 6, 2) := by decide +kernel
theorem dX6_distance_61 : decode cX6_distance 61 = .ok (.iaload, 1) := by decide +kernel
theorem dX6_distance_62 : decode cX6_distance 62 = .ok (.if_icmp .ge 48, 3) := by decide +kernel
theorem dX6_distance_65 : decode cX6_distance 65 = .ok (.iconst 1, 1) := by decide +kernel
theorem dX6_distance_66 : decode cX6_distance 66 = .ok (.aload_n 0, 1) := by decide +kernel
theorem dX6_distance_67 : decode cX6_distance 67 = .ok (.iload 6, 2) := by decide +kernel
theorem dX6_distance_69 : decode cX6_distance 69 = .ok (.iconst 0, 1) := by decide +kernel
theorem dX6_distance_70 : decode cX6_distance 70 = .ok (.invokevirtual 34, 3) := by decide +kernel
theorem dX6_distance_73 : decode cX6_distance 73 = .ok (.ishl, 1) := by decide +kernel
theorem dX6_distance_74 : decode cX6_distance 74 = .ok (.iconst 1, 1) := by decide +kernel
theorem dX6_distance_75 : decode cX6_distance 75 = .ok (.aload_n 0, 1) := by decide +kernel
theorem dX6_distance_76 : decode cX6_distance 76 = .ok (.iload 6, 2) := by decide +kernel
theorem dX6_distance_78 : decode cX6_distance 78 = .ok (.iconst 1, 1) := by decide +kernel
theorem dX6_distance_79 : decode cX6_distance 79 = .ok (.invokevirtual 34, 3) := by decide +kernel
theorem dX6_distance_82 : decode cX6_distance 82 = .ok (.ishl, 1) := by decide +kernel
theorem dX6_distance_83 : decode cX6_distance 83 = .ok (.ior, 1) := by decide +kernel
theorem dX6_distance_84 : decode cX6_distance 84 = .ok (.istore 7, 2) := by decide +kernel
theorem dX6_distance_86 : decode cX6_distance 86 = .ok (.iload 5, 2) := by decide +kernel
theorem dX6_distance_88 : decode cX6_distance 88 = .ok (.iload_n 3, 1) := by decide +kernel
theorem dX6_distance_89 : decode cX6_distance 89 = .ok (.iload 7, 2) := by decide +kernel
theorem dX6_distance_91 : decode cX6_distance 91 = .ok (.iand, 1) := by decide +kernel
theorem dX6_distance_92 : decode cX6_distance 92 = .ok (.ifCond .eq 8, 3) := by decide +kernel
theorem dX6_distance_95 : decode cX6_distance 95 = .ok (.iload 7, 2) := by decide +kernel
theorem dX6_distance_97 : decode cX6_distance 97 = .ok (.goto 4, 3) := by decide +kernel
theorem dX6_distance_100 : decode cX6_distance 100 = .ok (.iconst 0, 1) := by decide +kernel
theorem dX6_distance_101 : decode cX6_distance 101 = .ok (.ior, 1) := by decide +kernel
theorem dX6_distance_102 : decode cX6_distance 102 = .ok (.istore 5, 2) := by decide +kernel
theorem dX6_distance_104 : decode cX6_distance 104 = .ok (.iinc 6 1, 3) := by decide +kernel
theorem dX6_distance_107 : decode cX6_distance 107 = .ok (.goto (-54), 3) := by decide +kernel
theorem dX6_distance_110 : decode cX6_distance 110 = .ok (.iload 5, 2) := by decide +kernel
theorem dX6_distance_112 : decode cX6_distance 112 = .ok (.istore_n 3, 1) := by decide +kernel
theorem dX6_distance_113 : decode cX6_distance 113 = .ok (.iinc 4 1, 3) := by decide +kernel
theorem dX6_distance_116 : decode cX6_distance 116 = .ok (.goto (-88), 3) := by decide +kernel
theorem dX6_distance_119 : decode cX6_distance 119 = .ok (.iconst (-1), 1) := by decide +kernel
theorem dX6_distance_120 : decode cX6_distance 120 = .ok (.ireturn, 1) := by decide +kernel
theorem dX6_waiting_0 : decode cX6_waiting 0 = .ok (.aload_n 0, 1) := by decide +kernel
theorem dX6_waiting_1 : decode cX6_waiting 1 = .ok (.getfield 7, 3) := by decide +kernel
theorem dX6_waiting_4 : decode cX6_waiting 4 = .ok (.sipush 572, 3) := by decide +kernel
theorem dX6_waiting_7 : decode cX6_waiting 7 = .ok (.iaload, 1) := by decide +kernel
theorem dX6_waiting_8 : decode cX6_waiting 8 = .ok (.ireturn, 1) := by decide +kernel
theorem dX6_total_0 : decode cX6_total 0 = .ok (.iload_n 1, 1) := by decide +kernel
theorem dX6_total_1 : decode cX6_total 1 = .ok (.i2l, 1) := by decide +kernel
theorem dX6_total_2 : decode cX6_total 2 = .ok (.lconst 0, 1) := by decide +kernel
theorem dX6_total_3 : decode cX6_total 3 = .ok (.ldc2_w 26, 3) := by decide +kernel
theorem dX6_total_6 : decode cX6_total 6 = .ok (.invokestatic 28, 3) := by decide +kernel
theorem dX6_total_9 : decode cX6_total 9 = .ok (.ifCond .eq 16, 3) := by decide +kernel
theorem dX6_total_12 : decode cX6_total 12 = .ok (.aload_n 0, 1) := by decide +kernel
theorem dX6_total_13 : decode cX6_total 13 = .ok (.getfield 7, 3) := by decide +kernel
theorem dX6_total_16 : decode cX6_total 16 = .ok (.sipush 566, 3) := by decide +kernel
theorem dX6_total_19 : decode cX6_total 19 = .ok (.iload_n 1, 1) := by decide +kernel
theorem dX6_total_20 : decode cX6_total 20 = .ok (.iadd, 1) := by decide +kernel
theorem dX6_total_21 : decode cX6_total 21 = .ok (.iaload, 1) := by decide +kernel
theorem dX6_total_22 : decode cX6_total 22 = .ok (.goto 9, 3) := by decide +kernel
theorem dX6_total_25 : decode cX6_total 25 = .ok (.aload_n 0, 1) := by decide +kernel
theorem dX6_total_26 : decode cX6_total 26 = .ok (.bipush (-2), 2) := by decide +kernel
theorem dX6_total_28 : decode cX6_total 28 = .ok (.invokevirtual 42, 3) := by decide +kernel
theorem dX6_total_31 : decode cX6_total 31 = .ok (.ireturn, 1) := by decide +kernel
theorem dX6_day_0 : decode cX6_day 0 = .ok (.aload_n 0, 1) := by decide +kernel
theorem dX6_day_1 : decode cX6_day 1 = .ok (.getfield 7, 3) := by decide +kernel
theorem dX6_day_4 : decode cX6_day 4 = .ok (.iconst 0, 1) := by decide +kernel
theorem dX6_day_5 : decode cX6_day 5 = .ok (.iaload, 1) := by decide +kernel
theorem dX6_day_6 : decode cX6_day 6 = .ok (.ireturn, 1) := by decide +kernel
theorem dX6_undo_0 : decode cX6_undo 0 = .ok (.aload_n 0, 1) := by decide +kernel
theorem dX6_undo_1 : decode cX6_undo 1 = .ok (.getfield 22, 3) := by decide +kernel
theorem dX6_undo_4 : decode cX6_undo 4 = .ok (.ifCond .ne 10, 3) := by decide +kernel
theorem dX6_undo_7 : decode cX6_undo 7 = .ok (.aload_n 0, 1) := by decide +kernel
theorem dX6_undo_8 : decode cX6_undo 8 = .ok (.bipush (-5), 2) := by decide +kernel
theorem dX6_undo_10 : decode cX6_undo 10 = .ok (.invokevirtual 42, 3) := by decide +kernel
theorem dX6_undo_13 : decode cX6_undo 13 = .ok (.ireturn, 1) := by decide +kernel
theorem dX6_undo_14 : decode cX6_undo 14 = .ok (.aload_n 0, 1) := by decide +kernel
theorem dX6_undo_15 : decode cX6_undo 15 = .ok (.dup, 1) := by decide +kernel
theorem dX6_undo_16 : decode cX6_undo 16 = .ok (.getfield 22, 3) := by decide +kernel
theorem dX6_undo_19 : decode cX6_undo 19 = .ok (.iconst 1, 1) := by decide +kernel
theorem dX6_undo_20 : decode cX6_undo 20 = .ok (.isub, 1) := by decide +kernel
theorem dX6_undo_21 : decode cX6_undo 21 = .ok (.putfield 22, 3) := by decide +kernel
theorem dX6_undo_24 : decode cX6_undo 24 = .ok (.iconst 0, 1) := by decide +kernel
theorem dX6_undo_25 : decode cX6_undo 25 = .ok (.istore_n 1, 1) := by decide +kernel
theorem dX6_undo_26 : decode cX6_undo 26 = .ok (.iload_n 1, 1) := by decide +kernel
theorem dX6_undo_27 : decode cX6_undo 27 = .ok (.sipush 1597, 3) := by decide +kernel
theorem dX6_undo_30 : decode cX6_undo 30 = .ok (.if_icmp .ge 30, 3) := by decide +kernel
theorem dX6_undo_33 : decode cX6_undo 33 = .ok (.aload_n 0, 1) := by decide +kernel
theorem dX6_undo_34 : decode cX6_undo 34 = .ok (.getfield 7, 3) := by decide +kernel
theorem dX6_undo_37 : decode cX6_undo 37 = .ok (.iload_n 1, 1) := by decide +kernel
theorem dX6_undo_38 : decode cX6_undo 38 = .ok (.aload_n 0, 1) := by decide +kernel
theorem dX6_undo_39 : decode cX6_undo 39 = .ok (.getfield 13, 3) := by decide +kernel
theorem dX6_undo_42 : decode cX6_undo 42 = .ok (.sipush 1597, 3) := by decide +kernel
theorem dX6_undo_45 : decode cX6_undo 45 = .ok (.aload_n 0, 1) := by decide +kernel
theorem dX6_undo_46 : decode cX6_undo 46 = .ok (.getfield 22, 3) := by decide +kernel
theorem dX6_undo_49 : decode cX6_undo 49 = .ok (.imul, 1) := by decide +kernel
theorem dX6_undo_50 : decode cX6_undo 50 = .ok (.iload_n 1, 1) := by decide +kernel
theorem dX6_undo_51 : decode cX6_undo 51 = .ok (.iadd, 1) := by decide +kernel
theorem dX6_undo_52 : decode cX6_undo 52 = .ok (.iaload, 1) := by decide +kernel
theorem dX6_undo_53 : decode cX6_undo 53 = .ok (.iastore, 1) := by decide +kernel
theorem dX6_undo_54 : decode cX6_undo 54 = .ok (.iinc 1 1, 3) := by decide +kernel
theorem dX6_undo_57 : decode cX6_undo 57 = .ok (.goto (-31), 3) := by decide +kernel
theorem dX6_undo_60 : decode cX6_undo 60 = .ok (.aload_n 0, 1) := by decide +kernel
theorem dX6_undo_61 : decode cX6_undo 61 = .ok (.getfield 22, 3) := by decide +kernel
theorem dX6_undo_64 : decode cX6_undo 64 = .ok (.ireturn, 1) := by decide +kernel
theorem dX6_errorCount_0 : decode cX6_errorCount 0 = .ok (.iload_n 1, 1) := by decide +kernel
theorem dX6_errorCount_1 : decode cX6_errorCount 1 = .ok (.i2l, 1) := by decide +kernel
theorem dX6_errorCount_2 : decode cX6_errorCount 2 = .ok (.ldc2_w 101, 3) := by decide +kernel
theorem dX6_errorCount_5 : decode cX6_errorCount 5 = .ok (.ldc2_w 103, 3) := by decide +kernel
theorem dX6_errorCount_8 : decode cX6_errorCount 8 = .ok (.invokestatic 28, 3) := by decide +kernel
theorem dX6_errorCount_11 : decode cX6_errorCount 11 = .ok (.ifCond .eq 15, 3) := by decide +kernel
theorem dX6_errorCount_14 : decode cX6_errorCount 14 = .ok (.aload_n 0, 1) := by decide +kernel
theorem dX6_errorCount_15 : decode cX6_errorCount 15 = .ok (.getfield 16, 3) := by decide +kernel
theorem dX6_errorCount_18 : decode cX6_errorCount 18 = .ok (.bipush (-2), 2) := by decide +kernel
theorem dX6_errorCount_20 : decode cX6_errorCount 20 = .ok (.iload_n 1, 1) := by decide +kernel
theorem dX6_errorCount_21 : decode cX6_errorCount 21 = .ok (.isub, 1) := by decide +kernel
theorem dX6_errorCount_22 : decode cX6_errorCount 22 = .ok (.iaload, 1) := by decide +kernel
theorem dX6_errorCount_23 : decode cX6_errorCount 23 = .ok (.goto 9, 3) := by decide +kernel
theorem dX6_errorCount_26 : decode cX6_errorCount 26 = .ok (.aload_n 0, 1) := by decide +kernel
theorem dX6_errorCount_27 : decode cX6_errorCount 27 = .ok (.bipush (-2), 2) := by decide +kernel
theorem dX6_errorCount_29 : decode cX6_errorCount 29 = .ok (.invokevirtual 42, 3) := by decide +kernel
theorem dX6_errorCount_32 : decode cX6_errorCount 32 = .ok (.ireturn, 1) := by decide +kernel
theorem dX6_digest_0 : decode cX6_digest 0 = .ok (.ldc2_w 105, 3) := by decide +kernel
theorem dX6_digest_3 : decode cX6_digest 3 = .ok (.lstore_n 1, 1) := by decide +kernel
theorem dX6_digest_4 : decode cX6_digest 4 = .ok (.iconst 0, 1) := by decide +kernel
theorem dX6_digest_5 : decode cX6_digest 5 = .ok (.istore_n 3, 1) := by decide +kernel
theorem dX6_digest_6 : decode cX6_digest 6 = .ok (.iload_n 3, 1) := by decide +kernel
theorem dX6_digest_7 : decode cX6_digest 7 = .ok (.iconst 4, 1) := by decide +kernel
theorem dX6_digest_8 : decode cX6_digest 8 = .ok (.if_icmp .ge 23, 3) := by decide +kernel
theorem dX6_digest_11 : decode cX6_digest 11 = .ok (.ldc2_w 107, 3) := by decide +kernel
theorem dX6_digest_14 : decode cX6_digest 14 = .ok (.lload_n 1, 1) := by decide +kernel
theorem dX6_digest_15 : decode cX6_digest 15 = .ok (.lmul, 1) := by decide +kernel
theorem dX6_digest_16 : decode cX6_digest 16 = .ok (.aload_n 0, 1) := by decide +kernel
theorem dX6_digest_17 : decode cX6_digest 17 = .ok (.getfield 16, 3) := by decide +kernel
theorem dX6_digest_20 : decode cX6_digest 20 = .ok (.iload_n 3, 1) := by decide +kernel
theorem dX6_digest_21 : decode cX6_digest 21 = .ok (.iaload, 1) := by decide +kernel
theorem dX6_digest_22 : decode cX6_digest 22 = .ok (.i2l, 1) := by decide +kernel
theorem dX6_digest_23 : decode cX6_digest 23 = .ok (.ladd, 1) := by decide +kernel
theorem dX6_digest_24 : decode cX6_digest 24 = .ok (.lstore_n 1, 1) := by decide +kernel
theorem dX6_digest_25 : decode cX6_digest 25 = .ok (.iinc 3 1, 3) := by decide +kernel
theorem dX6_digest_28 : decode cX6_digest 28 = .ok (.goto (-22), 3) := by decide +kernel
theorem dX6_digest_31 : decode cX6_digest 31 = .ok (.iconst 0, 1) := by decide +kernel
theorem dX6_digest_32 : decode cX6_digest 32 = .ok (.istore_n 3, 1) := by decide +kernel
theorem dX6_digest_33 : decode cX6_digest 33 = .ok (.iload_n 3, 1) := by decide +kernel
theorem dX6_digest_34 : decode cX6_digest 34 = .ok (.bipush 6, 2) := by decide +kernel
theorem dX6_digest_36 : decode cX6_digest 36 = .ok (.if_icmp .ge 23, 3) := by decide +kernel
theorem dX6_digest_39 : decode cX6_digest 39 = .ok (.ldc2_w 107, 3) := by decide +kernel
theorem dX6_digest_42 : decode cX6_digest 42 = .ok (.lload_n 1, 1) := by decide +kernel
theorem dX6_digest_43 : decode cX6_digest 43 = .ok (.lmul, 1) := by decide +kernel
theorem dX6_digest_44 : decode cX6_digest 44 = .ok (.aload_n 0, 1) := by decide +kernel
theorem dX6_digest_45 : decode cX6_digest 45 = .ok (.getfield 7, 3) := by decide +kernel
theorem dX6_digest_48 : decode cX6_digest 48 = .ok (.iload_n 3, 1) := by decide +kernel
theorem dX6_digest_49 : decode cX6_digest 49 = .ok (.iaload, 1) := by decide +kernel
theorem dX6_digest_50 : decode cX6_digest 50 = .ok (.i2l, 1) := by decide +kernel
theorem dX6_digest_51 : decode cX6_digest 51 = .ok (.ladd, 1) := by decide +kernel
theorem dX6_digest_52 : decode cX6_digest 52 = .ok (.lstore_n 1, 1) := by decide +kernel
theorem dX6_digest_53 : decode cX6_digest 53 = .ok (.iinc 3 1, 3) := by decide +kernel
theorem dX6_digest_56 : decode cX6_digest 56 = .ok (.goto (-23), 3) := by decide +kernel
theorem dX6_digest_59 : decode cX6_digest 59 = .ok (.iconst 0, 1) := by decide +kernel
theorem dX6_digest_60 : decode cX6_digest 60 = .ok (.istore_n 3, 1) := by decide +kernel
theorem dX6_digest_61 : decode cX6_digest 61 = .ok (.iload_n 3, 1) := by decide +kernel
theorem dX6_digest_62 : decode cX6_digest 62 = .ok (.iconst 3, 1) := by decide +kernel
theorem dX6_digest_63 : decode cX6_digest 63 = .ok (.aload_n 0, 1) := by decide +kernel
theorem dX6_digest_64 : decode cX6_digest 64 = .ok (.getfield 7, 3) := by decide +kernel
theorem dX6_digest_67 : decode cX6_digest 67 = .ok (.bipush 6, 2) := by decide +kernel
theorem dX6_digest_69 : decode cX6_digest 69 = .ok (.iaload, 1) := by decide +kernel
theorem dX6_digest_70 : decode cX6_digest 70 = .ok (.imul, 1) := by decide +kernel
theorem dX6_digest_71 : decode cX6_digest 71 = .ok (.if_icmp .ge 26, 3) := by decide +kernel
theorem dX6_digest_74 : decode cX6_digest 74 = .ok (.ldc2_w 107, 3) := by decide +kernel
theorem dX6_digest_77 : decode cX6_digest 77 = .ok (.lload_n 1, 1) := by decide +kernel
theorem dX6_digest_78 : decode cX6_digest 78 = .ok (.lmul, 1) := by decide +kernel
theorem dX6_digest_79 : decode cX6_digest 79 = .ok (.aload_n 0, 1) := by decide +kernel
theorem dX6_digest_80 : decode cX6_digest 80 = .ok (.getfield 7, 3) := by decide +kernel
theorem dX6_digest_83 : decode cX6_digest 83 = .ok (.bipush 7, 2) := by decide +kernel
theorem dX6_digest_85 : decode cX6_digest 85 = .ok (.iload_n 3, 1) := by decide +kernel
theorem dX6_digest_86 : decode cX6_digest 86 = .ok (.iadd, 1) := by decide +kernel
theorem dX6_digest_87 : decode cX6_digest 87 = .ok (.iaload, 1) := by decide +kernel
theorem dX6_digest_88 : decode cX6_digest 88 = .ok (.i2l, 1) := by decide +kernel
theorem dX6_digest_89 : decode cX6_digest 89 = .ok (.ladd, 1) := by decide +kernel
theorem dX6_digest_90 : decode cX6_digest 90 = .ok (.lstore_n 1, 1) := by decide +kernel
theorem dX6_digest_91 : decode cX6_digest 91 = .ok (.iinc 3 1, 3) := by decide +kernel
theorem dX6_digest_94 : decode cX6_digest 94 = .ok (.goto (-33), 3) := by decide +kernel
theorem dX6_digest_97 : decode cX6_digest 97 = .ok (.ldc2_w 107, 3) := by decide +kernel
theorem dX6_digest_100 : decode cX6_digest 100 = .ok (.lload_n 1, 1) := by decide +kernel
theorem dX6_digest_101 : decode cX6_digest 101 = .ok (.lmul, 1) := by decide +kernel
theorem dX6_digest_102 : decode cX6_digest 102 = .ok (.aload_n 0, 1) := by decide +kernel
theorem dX6_digest_103 : decode cX6_digest 103 = .ok (.getfield 7, 3) := by decide +kernel
theorem dX6_digest_106 : decode cX6_digest 106 = .ok (.bipush 49, 2) := by decide +kernel
theorem dX6_digest_108 : decode cX6_digest 108 = .ok (.iaload, 1) := by decide +kernel
theorem dX6_digest_109 : decode cX6_digest 109 = .ok (.i2l, 1) := by decide +kernel
theorem dX6_digest_110 : decode cX6_digest 110 = .ok (.ladd, 1) := by decide +kernel
theorem dX6_digest_111 : decode cX6_digest 111 = .ok (.lstore_n 1, 1) := by decide +kernel
theorem dX6_digest_112 : decode cX6_digest 112 = .ok (.iconst 0, 1) := by decide +kernel
theorem dX6_digest_113 : decode cX6_digest 113 = .ok (.istore_n 3, 1) := by decide +kernel
theorem dX6_digest_114 : decode cX6_digest 114 = .ok (.iload_n 3, 1) := by decide +kernel
theorem dX6_digest_115 : decode cX6_digest 115 = .ok (.iconst 5, 1) := by decide +kernel
theorem dX6_digest_116 : decode cX6_digest 116 = .ok (.aload_n 0, 1) := by decide +kernel
theorem dX6_digest_117 : decode cX6_digest 117 = .ok (.getfield 7, 3) := by decide +kernel
theorem dX6_digest_120 : decode cX6_digest 120 = .ok (.bipush 49, 2) := by decide +kernel
theorem dX6_digest_122 : decode cX6_digest 122 = .ok (.iaload, 1) := by decide +kernel
theorem dX6_digest_123 : decode cX6_digest 123 = .ok (.imul, 1) := by decide +kernel
theorem dX6_digest_124 : decode cX6_digest 124 = .ok (.if_icmp .ge 26, 3) := by decide +kernel
theorem dX6_digest_127 : decode cX6_digest 127 = .ok (.ldc2_w 107, 3) := by decide +kernel
theorem dX6_digest_130 : decode cX6_digest 130 = .ok (.lload_n 1, 1) := by decide +kernel
theorem dX6_digest_131 : decode cX6_digest 131 = .ok (.lmul, 1) := by decide +kernel
theorem dX6_digest_132 : decode cX6_digest 132 = .ok (.aload_n 0, 1) := by decide +kernel
theorem dX6_digest_133 : decode cX6_digest 133 = .ok (.getfield 7, 3) := by decide +kernel
theorem dX6_digest_136 : decode cX6_digest 136 = .ok (.bipush 50, 2) := by decide +kernel
theorem dX6_digest_138 : decode cX6_digest 138 = .ok (.iload_n 3, 1) := by decide +kernel
theorem dX6_digest_139 : decode cX6_digest 139 = .ok (.iadd, 1) := by decide +kernel
theorem dX6_digest_140 : decode cX6_digest 140 = .ok (.iaload, 1) := by decide +kernel
theorem dX6_digest_141 : decode cX6_digest 141 = .ok (.i2l, 1) := by decide +kernel
theorem dX6_digest_142 : decode cX6_digest 142 = .ok (.ladd, 1) := by decide +kernel
theorem dX6_digest_143 : decode cX6_digest 143 = .ok (.lstore_n 1, 1) := by decide +kernel
theorem dX6_digest_144 : decode cX6_digest 144 = .ok (.iinc 3 1, 3) := by decide +kernel
theorem dX6_digest_147 : decode cX6_digest 147 = .ok (.goto (-33), 3) := by decide +kernel
theorem dX6_digest_150 : decode cX6_digest 150 = .ok (.iconst 0, 1) := by decide +kernel
theorem dX6_digest_151 : decode cX6_digest 151 = .ok (.istore_n 3, 1) := by decide +kernel
theorem dX6_digest_152 : decode cX6_digest 152 = .ok (.iload_n 3, 1) := by decide +kernel
theorem dX6_digest_153 : decode cX6_digest 153 = .ok (.bipush 6, 2) := by decide +kernel
theorem dX6_digest_155 : decode cX6_digest 155 = .ok (.if_icmp .ge 94, 3) := by decide +kernel
theorem dX6_digest_158 : decode cX6_digest 158 = .ok (.ldc2_w 107, 3) := by decide +kernel
theorem dX6_digest_161 : decode cX6_digest 161 = .ok (.ldc2_w 107, 3) := by decide +kernel
theorem dX6_digest_164 : decode cX6_digest 164 = .ok (.lload_n 1, 1) := by decide +kernel
theorem dX6_digest_165 : decode cX6_digest 165 = .ok (.lmul, 1) := by decide +kernel
theorem dX6_digest_166 : decode cX6_digest 166 = .ok (.aload_n 0, 1) := by decide +kernel
theorem dX6_digest_167 : decode cX6_digest 167 = .ok (.getfield 7, 3) := by decide +kernel
theorem dX6_digest_170 : decode cX6_digest 170 = .ok (.bipush 43, 2) := by decide +kernel
theorem dX6_digest_172 : decode cX6_digest 172 = .ok (.iload_n 3, 1) := by decide +kernel
theorem dX6_digest_173 : decode cX6_digest 173 = .ok (.iadd, 1) := by decide +kernel
theorem dX6_digest_174 : decode cX6_digest 174 = .ok (.iaload, 1) := by decide +kernel
theorem dX6_digest_175 : decode cX6_digest 175 = .ok (.i2l, 1) := by decide +kernel
theorem dX6_digest_176 : decode cX6_digest 176 = .ok (.ladd, 1) := by decide +kernel
theorem dX6_digest_177 : decode cX6_digest 177 = .ok (.lmul, 1) := by decide +kernel
theorem dX6_digest_178 : decode cX6_digest 178 = .ok (.aload_n 0, 1) := by decide +kernel
theorem dX6_digest_179 : decode cX6_digest 179 = .ok (.iload_n 3, 1) := by decide +kernel
theorem dX6_digest_180 : decode cX6_digest 180 = .ok (.invokevirtual 98, 3) := by decide +kernel
theorem dX6_digest_183 : decode cX6_digest 183 = .ok (.i2l, 1) := by decide +kernel
theorem dX6_digest_184 : decode cX6_digest 184 = .ok (.ladd, 1) := by decide +kernel
theorem dX6_digest_185 : decode cX6_digest 185 = .ok (.lstore_n 1, 1) := by decide +kernel
theorem dX6_digest_186 : decode cX6_digest 186 = .ok (.iconst 0, 1) := by decide +kernel
theorem dX6_digest_187 : decode cX6_digest 187 = .ok (.istore 4, 2) := by decide +kernel
theorem dX6_digest_189 : decode cX6_digest 189 = .ok (.iload 4, 2) := by decide +kernel
theorem dX6_digest_191 : decode cX6_digest 191 = .ok (.aload_n 0, 1) := by decide +kernel
theorem dX6_digest_192 : decode cX6_digest 192 = .ok (.getfield 7, 3) := by decide +kernel
theorem dX6_digest_195 : decode cX6_digest 195 = .ok (.bipush 49, 2) := by decide +kernel
theorem dX6_digest_197 : decode cX6_digest 197 = .ok (.iaload, 1) := by decide +kernel
theorem dX6_digest_198 : decode cX6_digest 198 = .ok (.if_icmp .ge 45, 3) := by decide +kernel
theorem dX6_digest_201 : decode cX6_digest 201 = .ok (.ldc2_w 107, 3) := by decide +kernel
theorem dX6_digest_204 : decode cX6_digest 204 = .ok (.ldc2_w 107, 3) := by decide +kernel
theorem dX6_digest_207 : decode cX6_digest 207 = .ok (.lload_n 1, 1) := by decide +kernel
theorem dX6_digest_208 : decode cX6_digest 208 = .ok (.lmul, 1) := by decide +kernel
theorem dX6_digest_209 : decode cX6_digest 209 = .ok (.aload_n 0, 1) := by decide +kernel
theorem dX6_digest_210 : decode cX6_digest 210 = .ok (.iload_n 3, 1) := by decide +kernel
theorem dX6_digest_211 : decode cX6_digest 211 = .ok (.iload 4, 2) := by decide +kernel
theorem dX6_digest_213 : decode cX6_digest 213 = .ok (.invokevirtual 65, 3) := by decide +kernel
theorem dX6_digest_216 : decode cX6_digest 216 = .ok (.ifCond .eq 7, 3) := by decide +kernel
theorem dX6_digest_219 : decode cX6_digest 219 = .ok (.iconst 1, 1) := by decide +kernel
theorem dX6_digest_220 : decode cX6_digest 220 = .ok (.goto 4, 3) := by decide +kernel
theorem dX6_digest_223 : decode cX6_digest 223 = .ok (.iconst 0, 1) := by decide +kernel
theorem dX6_digest_224 : decode cX6_digest 224 = .ok (.i2l, 1) := by decide +kernel
theorem dX6_digest_225 : decode cX6_digest 225 = .ok (.ladd, 1) := by decide +kernel
theorem dX6_digest_226 : decode cX6_digest 226 = .ok (.lmul, 1) := by decide +kernel
theorem dX6_digest_227 : decode cX6_digest 227 = .ok (.aload_n 0, 1) := by decide +kernel
theorem dX6_digest_228 : decode cX6_digest 228 = .ok (.iload_n 3, 1) := by decide +kernel
theorem dX6_digest_229 : decode cX6_digest 229 = .ok (.iload 4, 2) := by decide +kernel
theorem dX6_digest_231 : decode cX6_digest 231 = .ok (.invokevirtual 69, 3) := by decide +kernel
theorem dX6_digest_234 : decode cX6_digest 234 = .ok (.i2l, 1) := by decide +kernel
theorem dX6_digest_235 : decode cX6_digest 235 = .ok (.ladd, 1) := by decide +kernel
theorem dX6_digest_236 : decode cX6_digest 236 = .ok (.lstore_n 1, 1) := by decide +kernel
theorem dX6_digest_237 : decode cX6_digest 237 = .ok (.iinc 4 1, 3) := by decide +kernel
theorem dX6_digest_240 : decode cX6_digest 240 = .ok (.goto (-51), 3) := by decide +kernel
theorem dX6_digest_243 : decode cX6_digest 243 = .ok (.iinc 3 1, 3) := by decide +kernel
theorem dX6_digest_246 : decode cX6_digest 246 = .ok (.goto (-94), 3) := by decide +kernel
theorem dX6_digest_249 : decode cX6_digest 249 = .ok (.iconst 0, 1) := by decide +kernel
theorem dX6_digest_250 : decode cX6_digest 250 = .ok (.istore_n 3, 1) := by decide +kernel
theorem dX6_digest_251 : decode cX6_digest 251 = .ok (.iload_n 3, 1) := by decide +kernel
theorem dX6_digest_252 : decode cX6_digest 252 = .ok (.bipush 6, 2) := by decide +kernel
theorem dX6_digest_254 : decode cX6_digest 254 = .ok (.if_icmp .ge 27, 3) := by decide +kernel
theorem dX6_digest_257 : decode cX6_digest 257 = .ok (.ldc2_w 107, 3) := by decide +kernel
theorem dX6_digest_260 : decode cX6_digest 260 = .ok (.lload_n 1, 1) := by decide +kernel
theorem dX6_digest_261 : decode cX6_digest 261 = .ok (.lmul, 1) := by decide +kernel
theorem dX6_digest_262 : decode cX6_digest 262 = .ok (.aload_n 0, 1) := by decide +kernel
theorem dX6_digest_263 : decode cX6_digest 263 = .ok (.getfield 7, 3) := by decide +kernel
theorem dX6_digest_266 : decode cX6_digest 266 = .ok (.sipush 566, 3) := by decide +kernel
theorem dX6_digest_269 : decode cX6_digest 269 = .ok (.iload_n 3, 1) := by decide +kernel
theorem dX6_digest_270 : decode cX6_digest 270 = .ok (.iadd, 1) := by decide +kernel
theorem dX6_digest_271 : decode cX6_digest 271 = .ok (.iaload, 1) := by decide +kernel
theorem dX6_digest_272 : decode cX6_digest 272 = .ok (.i2l, 1) := by decide +kernel
theorem dX6_digest_273 : decode cX6_digest 273 = .ok (.ladd, 1) := by decide +kernel
theorem dX6_digest_274 : decode cX6_digest 274 = .ok (.lstore_n 1, 1) := by decide +kernel
theorem dX6_digest_275 : decode cX6_digest 275 = .ok (.iinc 3 1, 3) := by decide +kernel
theorem dX6_digest_278 : decode cX6_digest 278 = .ok (.goto (-27), 3) := by decide +kernel
theorem dX6_digest_281 : decode cX6_digest 281 = .ok (.ldc2_w 107, 3) := by decide +kernel
theorem dX6_digest_284 : decode cX6_digest 284 = .ok (.ldc2_w 107, 3) := by decide +kernel
theorem dX6_digest_287 : decode cX6_digest 287 = .ok (.lload_n 1, 1) := by decide +kernel
theorem dX6_digest_288 : decode cX6_digest 288 = .ok (.lmul, 1) := by decide +kernel
theorem dX6_digest_289 : decode cX6_digest 289 = .ok (.aload_n 0, 1) := by decide +kernel
theorem dX6_digest_290 : decode cX6_digest 290 = .ok (.getfield 7, 3) := by decide +kernel
theorem dX6_digest_293 : decode cX6_digest 293 = .ok (.sipush 572, 3) := by decide +kernel
theorem dX6_digest_296 : decode cX6_digest 296 = .ok (.iaload, 1) := by decide +kernel
theorem dX6_digest_297 : decode cX6_digest 297 = .ok (.i2l, 1) := by decide +kernel
theorem dX6_digest_298 : decode cX6_digest 298 = .ok (.ladd, 1) := by decide +kernel
theorem dX6_digest_299 : decode cX6_digest 299 = .ok (.lmul, 1) := by decide +kernel
theorem dX6_digest_300 : decode cX6_digest 300 = .ok (.aload_n 0, 1) := by decide +kernel
theorem dX6_digest_301 : decode cX6_digest 301 = .ok (.getfield 22, 3) := by decide +kernel
theorem dX6_digest_304 : decode cX6_digest 304 = .ok (.i2l, 1) := by decide +kernel
theorem dX6_digest_305 : decode cX6_digest 305 = .ok (.ladd, 1) := by decide +kernel
theorem dX6_digest_306 : decode cX6_digest 306 = .ok (.lreturn, 1) := by decide +kernel
theorem dJ6_bitCount_0f7a4_0 : decode cJ6_bitCount_0f7a4 0 = .ok (.iload_n 0, 1) := by decide +kernel
theorem dJ6_bitCount_0f7a4_1 : decode cJ6_bitCount_0f7a4 1 = .ok (.iload_n 0, 1) := by decide +kernel
theorem dJ6_bitCount_0f7a4_2 : decode cJ6_bitCount_0f7a4 2 = .ok (.iconst 1, 1) := by decide +kernel
theorem dJ6_bitCount_0f7a4_3 : decode cJ6_bitCount_0f7a4 3 = .ok (.iushr, 1) := by decide +kernel
theorem dJ6_bitCount_0f7a4_4 : decode cJ6_bitCount_0f7a4 4 = .ok (.ldc_w 265, 3) := by decide +kernel
theorem dJ6_bitCount_0f7a4_7 : decode cJ6_bitCount_0f7a4 7 = .ok (.iand, 1) := by decide +kernel
theorem dJ6_bitCount_0f7a4_8 : decode cJ6_bitCount_0f7a4 8 = .ok (.isub, 1) := by decide +kernel
theorem dJ6_bitCount_0f7a4_9 : decode cJ6_bitCount_0f7a4 9 = .ok (.istore_n 0, 1) := by decide +kernel
theorem dJ6_bitCount_0f7a4_10 : decode cJ6_bitCount_0f7a4 10 = .ok (.iload_n 0, 1) := by decide +kernel
theorem dJ6_bitCount_0f7a4_11 : decode cJ6_bitCount_0f7a4 11 = .ok (.ldc_w 266, 3) := by decide +kernel
theorem dJ6_bitCount_0f7a4_14 : decode cJ6_bitCount_0f7a4 14 = .ok (.iand, 1) := by decide +kernel
theorem dJ6_bitCount_0f7a4_15 : decode cJ6_bitCount_0f7a4 15 = .ok (.iload_n 0, 1) := by decide +kernel
theorem dJ6_bitCount_0f7a4_16 : decode cJ6_bitCount_0f7a4 16 = .ok (.iconst 2, 1) := by decide +kernel
theorem dJ6_bitCount_0f7a4_17 : decode cJ6_bitCount_0f7a4 17 = .ok (.iushr, 1) := by decide +kernel
theorem dJ6_bitCount_0f7a4_18 : decode cJ6_bitCount_0f7a4 18 = .ok (.ldc_w 266, 3) := by decide +kernel
theorem dJ6_bitCount_0f7a4_21 : decode cJ6_bitCount_0f7a4 21 = .ok (.iand, 1) := by decide +kernel
theorem dJ6_bitCount_0f7a4_22 : decode cJ6_bitCount_0f7a4 22 = .ok (.iadd, 1) := by decide +kernel
theorem dJ6_bitCount_0f7a4_23 : decode cJ6_bitCount_0f7a4 23 = .ok (.istore_n 0, 1) := by decide +kernel
theorem dJ6_bitCount_0f7a4_24 : decode cJ6_bitCount_0f7a4 24 = .ok (.iload_n 0, 1) := by decide +kernel
theorem dJ6_bitCount_0f7a4_25 : decode cJ6_bitCount_0f7a4 25 = .ok (.iload_n 0, 1) := by decide +kernel
theorem dJ6_bitCount_0f7a4_26 : decode cJ6_bitCount_0f7a4 26 = .ok (.iconst 4, 1) := by decide +kernel
theorem dJ6_bitCount_0f7a4_27 : decode cJ6_bitCount_0f7a4 27 = .ok (.iushr, 1) := by decide +kernel
theorem dJ6_bitCount_0f7a4_28 : decode cJ6_bitCount_0f7a4 28 = .ok (.iadd, 1) := by decide +kernel
theorem dJ6_bitCount_0f7a4_29 : decode cJ6_bitCount_0f7a4 29 = .ok (.ldc_w 267, 3) := by decide +kernel
theorem dJ6_bitCount_0f7a4_32 : decode cJ6_bitCount_0f7a4 32 = .ok (.iand, 1) := by decide +kernel
theorem dJ6_bitCount_0f7a4_33 : decode cJ6_bitCount_0f7a4 33 = .ok (.istore_n 0, 1) := by decide +kernel
theorem dJ6_bitCount_0f7a4_34 : decode cJ6_bitCount_0f7a4 34 = .ok (.iload_n 0, 1) := by decide +kernel
theorem dJ6_bitCount_0f7a4_35 : decode cJ6_bitCount_0f7a4 35 = .ok (.iload_n 0, 1) := by decide +kernel
theorem dJ6_bitCount_0f7a4_36 : decode cJ6_bitCount_0f7a4 36 = .ok (.bipush 8, 2) := by decide +kernel
theorem dJ6_bitCount_0f7a4_38 : decode cJ6_bitCount_0f7a4 38 = .ok (.iushr, 1) := by decide +kernel
theorem dJ6_bitCount_0f7a4_39 : decode cJ6_bitCount_0f7a4 39 = .ok (.iadd, 1) := by decide +kernel
theorem dJ6_bitCount_0f7a4_40 : decode cJ6_bitCount_0f7a4 40 = .ok (.istore_n 0, 1) := by decide +kernel
theorem dJ6_bitCount_0f7a4_41 : decode cJ6_bitCount_0f7a4 41 = .ok (.iload_n 0, 1) := by decide +kernel
theorem dJ6_bitCount_0f7a4_42 : decode cJ6_bitCount_0f7a4 42 = .ok (.iload_n 0, 1) := by decide +kernel
theorem dJ6_bitCount_0f7a4_43 : decode cJ6_bitCount_0f7a4 43 = .ok (.bipush 16, 2) := by decide +kernel
theorem dJ6_bitCount_0f7a4_45 : decode cJ6_bitCount_0f7a4 45 = .ok (.iushr, 1) := by decide +kernel
theorem dJ6_bitCount_0f7a4_46 : decode cJ6_bitCount_0f7a4 46 = .ok (.iadd, 1) := by decide +kernel
theorem dJ6_bitCount_0f7a4_47 : decode cJ6_bitCount_0f7a4 47 = .ok (.istore_n 0, 1) := by decide +kernel
theorem dJ6_bitCount_0f7a4_48 : decode cJ6_bitCount_0f7a4 48 = .ok (.iload_n 0, 1) := by decide +kernel
theorem dJ6_bitCount_0f7a4_49 : decode cJ6_bitCount_0f7a4 49 = .ok (.bipush 63, 2) := by decide +kernel
theorem dJ6_bitCount_0f7a4_51 : decode cJ6_bitCount_0f7a4 51 = .ok (.iand, 1) := by decide +kernel
theorem dJ6_bitCount_0f7a4_52 : decode cJ6_bitCount_0f7a4 52 = .ok (.ireturn, 1) := by decide +kernel
theorem dJ7_fill_53178_0 : decode cJ7_fill_53178 0 = .ok (.iconst 0, 1) := by decide +kernel
theorem dJ7_fill_53178_1 : decode cJ7_fill_53178 1 = .ok (.istore_n 2, 1) := by decide +kernel
theorem dJ7_fill_53178_2 : decode cJ7_fill_53178 2 = .ok (.aload_n 0, 1) := by decide +kernel
theorem dJ7_fill_53178_3 : decode cJ7_fill_53178 3 = .ok (.arraylength, 1) := by decide +kernel
theorem dJ7_fill_53178_4 : decode cJ7_fill_53178 4 = .ok (.istore_n 3, 1) := by decide +kernel
theorem dJ7_fill_53178_5 : decode cJ7_fill_53178 5 = .ok (.iload_n 2, 1) := by decide +kernel
theorem dJ7_fill_53178_6 : decode cJ7_fill_53178 6 = .ok (.iload_n 3, 1) := by decide +kernel
theorem dJ7_fill_53178_7 : decode cJ7_fill_53178 7 = .ok (.if_icmp .ge 13, 3) := by decide +kernel
theorem dJ7_fill_53178_10 : decode cJ7_fill_53178 10 = .ok (.aload_n 0, 1) := by decide +kernel
theorem dJ7_fill_53178_11 : decode cJ7_fill_53178 11 = .ok (.iload_n 2, 1) := by decide +kernel
theorem dJ7_fill_53178_12 : decode cJ7_fill_53178 12 = .ok (.iload_n 1, 1) := by decide +kernel
theorem dJ7_fill_53178_13 : decode cJ7_fill_53178 13 = .ok (.iastore, 1) := by decide +kernel
theorem dJ7_fill_53178_14 : decode cJ7_fill_53178 14 = .ok (.iinc 2 1, 3) := by decide +kernel
theorem dJ7_fill_53178_17 : decode cJ7_fill_53178 17 = .ok (.goto (-12), 3) := by decide +kernel
theorem dJ7_fill_53178_20 : decode cJ7_fill_53178 20 = .ok (.return_, 1) := by decide +kernel
theorem dL_law_0 : decode cL_law 0 = .ok (.new 7, 3) := by decide +kernel
theorem dL_law_3 : decode cL_law 3 = .ok (.dup, 1) := by decide +kernel
theorem dL_law_4 : decode cL_law 4 = .ok (.invokespecial 9, 3) := by decide +kernel
theorem dL_law_7 : decode cL_law 7 = .ok (.astore_n 1, 1) := by decide +kernel
theorem dL_law_8 : decode cL_law 8 = .ok (.new 10, 3) := by decide +kernel
theorem dL_law_11 : decode cL_law 11 = .ok (.dup, 1) := by decide +kernel
theorem dL_law_12 : decode cL_law 12 = .ok (.invokespecial 12, 3) := by decide +kernel
theorem dL_law_15 : decode cL_law 15 = .ok (.astore_n 2, 1) := by decide +kernel
theorem dL_law_16 : decode cL_law 16 = .ok (.iconst 0, 1) := by decide +kernel
theorem dL_law_17 : decode cL_law 17 = .ok (.istore_n 3, 1) := by decide +kernel
theorem dL_law_18 : decode cL_law 18 = .ok (.iload_n 3, 1) := by decide +kernel
theorem dL_law_19 : decode cL_law 19 = .ok (.aload_n 0, 1) := by decide +kernel
theorem dL_law_20 : decode cL_law 20 = .ok (.arraylength, 1) := by decide +kernel
theorem dL_law_21 : decode cL_law 21 = .ok (.iconst 5, 1) := by decide +kernel
theorem dL_law_22 : decode cL_law 22 = .ok (.isub, 1) := by decide +kernel
theorem dL_law_23 : decode cL_law 23 = .ok (.if_icmp .gt 723, 3) := by decide +kernel
theorem dL_law_26 : decode cL_law 26 = .ok (.aload_n 0, 1) := by decide +kernel
theorem dL_law_27 : decode cL_law 27 = .ok (.iload_n 3, 1) := by decide +kernel
theorem dL_law_28 : decode cL_law 28 = .ok (.iaload, 1) := by decide +kernel
theorem dL_law_29 : decode cL_law 29 = .ok (.bipush 31, 2) := by decide +kernel
theorem dL_law_31 : decode cL_law 31 = .ok (.iand, 1) := by decide +kernel
theorem dL_law_32 : decode cL_law 32 = .ok (.tableswitch 708 0 22 #[108, 151, 174, 207, 240, 273, 296, 339, 392, 405, 418, 431, 464, 497, 520, 543, 576, 609, 622, 645, 658, 671, 694], 108) := by decide +kernel
theorem dL_law_140 : decode cL_law 140 = .ok (.aload_n 1, 1) := by decide +kernel
theorem dL_law_141 : decode cL_law 141 = .ok (.aload_n 0, 1) := by decide +kernel
theorem dL_law_142 : decode cL_law 142 = .ok (.iload_n 3, 1) := by decide +kernel
theorem dL_law_143 : decode cL_law 143 = .ok (.iconst 1, 1) := by decide +kernel
theorem dL_law_144 : decode cL_law 144 = .ok (.iadd, 1) := by decide +kernel
theorem dL_law_145 : decode cL_law 145 = .ok (.iaload, 1) := by decide +kernel
theorem dL_law_146 : decode cL_law 146 = .ok (.aload_n 0, 1) := by decide +kernel
theorem dL_law_147 : decode cL_law 147 = .ok (.iload_n 3, 1) := by decide +kernel
theorem dL_law_148 : decode cL_law 148 = .ok (.iconst 2, 1) := by decide +kernel
theorem dL_law_149 : decode cL_law 149 = .ok (.iadd, 1) := by decide +kernel
theorem dL_law_150 : decode cL_law 150 = .ok (.iaload, 1) := by decide +kernel
theorem dL_law_151 : decode cL_law 151 = .ok (.aload_n 0, 1) := by decide +kernel
theorem dL_law_152 : decode cL_law 152 = .ok (.iload_n 3, 1) := by decide +kernel
theorem dL_law_153 : decode cL_law 153 = .ok (.iconst 3, 1) := by decide +kernel
theorem dL_law_154 : decode cL_law 154 = .ok (.iadd, 1) := by decide +kernel
theorem dL_law_155 : decode cL_law 155 = .ok (.iaload, 1) := by decide +kernel
theorem dL_law_156 : decode cL_law 156 = .ok (.invokevirtual 13, 3) := by decide +kernel
theorem dL_law_159 : decode cL_law 159 = .ok (.aload_n 2, 1) := by decide +kernel
theorem dL_law_160 : decode cL_law 160 = .ok (.aload_n 0, 1) := by decide +kernel
theorem dL_law_161 : decode cL_law 161 = .ok (.iload_n 3, 1) := by decide +kernel
theorem dL_law_162 : decode cL_law 162 = .ok (.iconst 1, 1) := by decide +kernel
theorem dL_law_163 : decode cL_law 163 = .ok (.iadd, 1) := by decide +kernel
theorem dL_law_164 : decode cL_law 164 = .ok (.iaload, 1) := by decide +kernel
theorem dL_law_165 : decode cL_law 165 = .ok (.aload_n 0, 1) := by decide +kernel
theorem dL_law_166 : decode cL_law 166 = .ok (.iload_n 3, 1) := by decide +kernel
theorem dL_law_167 : decode cL_law 167 = .ok (.iconst 2, 1) := by decide +kernel
theorem dL_law_168 : decode cL_law 168 = .ok (.iadd, 1) := by decide +kernel
theorem dL_law_169 : decode cL_law 169 = .ok (.iaload, 1) := by decide +kernel
theorem dL_law_170 : decode cL_law 170 = .ok (.aload_n 0, 1) := by decide +kernel
theorem dL_law_171 : decode cL_law 171 = .ok (.iload_n 3, 1) := by decide +kernel
theorem dL_law_172 : decode cL_law 172 = .ok (.iconst 3, 1) := by decide +kernel
theorem dL_law_173 : decode cL_law 173 = .ok (.iadd, 1) := by decide +kernel
theorem dL_law_174 : decode cL_law 174 = .ok (.iaload, 1) := by decide +kernel
theorem dL_law_175 : decode cL_law 175 = .ok (.invokevirtual 17, 3) := by decide +kernel
theorem dL_law_178 : decode cL_law 178 = .ok (.if_icmp .eq 562, 3) := by decide +kernel
theorem dL_law_181 : decode cL_law 181 = .ok (.iconst 0, 1) := by decide +kernel
theorem dL_law_182 : decode cL_law 182 = .ok (.ireturn, 1) := by decide +kernel
theorem dL_law_183 : decode cL_law 183 = .ok (.aload_n 1, 1) := by decide +kernel
theorem dL_law_184 : decode cL_law 184 = .ok (.aload_n 0, 1) := by decide +kernel
theorem dL_law_185 : decode cL_law 185 = .ok (.iload_n 3, 1) := by decide +kernel
theorem dL_law_186 : decode cL_law 186 = .ok (.iconst 1, 1) := by decide +kernel
theorem dL_law_187 : decode cL_law 187 = .ok (.iadd, 1) := by decide +kernel
theorem dL_law_188 : decode cL_law 188 = .ok (.iaload, 1) := by decide +kernel
theorem dL_law_189 : decode cL_law 189 = .ok (.invokevirtual 18, 3) := by decide +kernel
theorem dL_law_192 : decode cL_law 192 = .ok (.aload_n 2, 1) := by decide +kernel
theorem dL_law_193 : decode cL_law 193 = .ok (.aload_n 0, 1) := by decide +kernel
theorem dL_law_194 : decode cL_law 194 = .ok (.iload_n 3, 1) := by decide +kernel
theorem dL_law_195 : decode cL_law 195 = .ok (.iconst 1, 1) := by decide +kernel
theorem dL_law_196 : decode cL_law 196 = .ok (.iadd, 1) := by decide +kernel
theorem dL_law_197 : decode cL_law 197 = .ok (.iaload, 1) := by decide +kernel
theorem dL_law_198 : decode cL_law 198 = .ok (.invokevirtual 22, 3) := by decide +kernel
theorem dL_law_201 : decode cL_law 201 = .ok (.if_icmp .eq 539, 3) := by decide +kernel
theorem dL_law_204 : decode cL_law 204 = .ok (.iconst 0, 1) := by decide +kernel
theorem dL_law_205 : decode cL_law 205 = .ok (.ireturn, 1) := by decide +kernel
theorem dL_law_206 : decode cL_law 206 = .ok (.aload_n 1, 1) := by decide +kernel
theorem dL_law_207 : decode cL_law 207 = .ok (.aload_n 0, 1) := by decide +kernel
theorem dL_law_208 : decode cL_law 208 = .ok (.iload_n 3, 1) := by decide +kernel
theorem dL_law_209 : decode cL_law 209 = .ok (.iconst 1, 1) := by decide +kernel
theorem dL_law_210 : decode cL_law 210 = .ok (.iadd, 1) := by decide +kernel
theorem dL_law_211 : decode cL_law 211 = .ok (.iaload, 1) := by decide +kernel
theorem dL_law_212 : decode cL_law 212 = .ok (.aload_n 0, 1) := by decide +kernel
theorem dL_law_213 : decode cL_law 213 = .ok (.iload_n 3, 1) := by decide +kernel
theorem dL_law_214 : decode cL_law 214 = .ok (.iconst 2, 1) := by decide +kernel
theorem dL_law_215 : decode cL_law 215 = .ok (.iadd, 1) := by decide +kernel
theorem dL_law_216 : decode cL_law 216 = .ok (.iaload, 1) := by decide +kernel
theorem dL_law_217 : decode cL_law 217 = .ok (.invokevirtual 23, 3) := by decide +kernel
theorem dL_law_220 : decode cL_law 220 = .ok (.aload_n 2, 1) := by decide +kernel
theorem dL_law_221 : decode cL_law 221 = .ok (.aload_n 0, 1) := by decide +kernel
theorem dL_law_222 : decode cL_law 222 = .ok (.iload_n 3, 1) := by decide +kernel
theorem dL_law_223 : decode cL_law 223 = .ok (.iconst 1, 1) := by decide +kernel
theorem dL_law_224 : decode cL_law 224 = .ok (.iadd, 1) := by decide +kernel
theorem dL_law_225 : decode cL_law 225 = .ok (.iaload, 1) := by decide +kernel
theorem dL_law_226 : decode cL_law 226 = .ok (.aload_n 0, 1) := by decide +kernel
theorem dL_law_227 : decode cL_law 227 = .ok (.iload_n 3, 1) := by decide +kernel
theorem dL_law_228 : decode cL_law 228 = .ok (.iconst 2, 1) := by decide +kernel
theorem dL_law_229 : decode cL_law 229 = .ok (.iadd, 1) := by decide +kernel
theorem dL_law_230 : decode cL_law 230 = .ok (.iaload, 1) := by decide +kernel
theorem dL_law_231 : decode cL_law 231 = .ok (.invokevirtual 27, 3) := by decide +kernel
theorem dL_law_234 : decode cL_law 234 = .ok (.if_icmp .eq 506, 3) := by decide +kernel
theorem dL_law_237 : decode cL_law 237 = .ok (.iconst 0, 1) := by decide +kernel
theorem dL_law_238 : decode cL_law 238 = .ok (.ireturn, 1) := by decide +kernel
theorem dL_law_239 : decode cL_law 239 = .ok (.aload_n 1, 1) := by decide +kernel
theorem dL_law_240 : decode cL_law 240 = .ok (.aload_n 0, 1) := by decide +kernel
theorem dL_law_241 : decode cL_law 241 = .ok (.iload_n 3, 1) := by decide +kernel
theorem dL_law_242 : decode cL_law 242 = .ok (.iconst 1, 1) := by decide +kernel
theorem dL_law_243 : decode cL_law 243 = .ok (.iadd, 1) := by decide +kernel
theorem dL_law_244 : decode cL_law 244 = .ok (.iaload, 1) := by decide +kernel
theorem dL_law_245 : decode cL_law 245 = .ok (.aload_n 0, 1) := by decide +kernel
theorem dL_law_246 : decode cL_law 246 = .ok (.iload_n 3, 1) := by decide +kernel
theorem dL_law_247 : decode cL_law 247 = .ok (.iconst 2, 1) := by decide +kernel
theorem dL_law_248 : decode cL_law 248 = .ok (.iadd, 1) := by decide +kernel
theorem dL_law_249 : decode cL_law 249 = .ok (.iaload, 1) := by decide +kernel
theorem dL_law_250 : decode cL_law 250 = .ok (.invokevirtual 28, 3) := by decide +kernel
theorem dL_law_253 : decode cL_law 253 = .ok (.aload_n 2, 1) := by decide +kernel
theorem dL_law_254 : decode cL_law 254 = .ok (.aload_n 0, 1) := by decide +kernel
theorem dL_law_255 : decode cL_law 255 = .ok (.iload_n 3, 1) := by decide +kernel
theorem dL_law_256 : decode cL_law 256 = .ok (.iconst 1, 1) := by decide +kernel
theorem dL_law_257 : decode cL_law 257 = .ok (.iadd, 1) := by decide +kernel
theorem dL_law_258 : decode cL_law 258 = .ok (.iaload, 1) := by decide +kernel
theorem dL_law_259 : decode cL_law 259 = .ok (.aload_n 0, 1) := by decide +kernel
theorem dL_law_260 : decode cL_law 260 = .ok (.iload_n 3, 1) := by decide +kernel
theorem dL_law_261 : decode cL_law 261 = .ok (.iconst 2, 1) := by decide +kernel
theorem dL_law_262 : decode cL_law 262 = .ok (.iadd, 1) := by decide +kernel
theorem dL_law_263 : decode cL_law 263 = .ok (.iaload, 1) := by decide +kernel
theorem dL_law_264 : decode cL_law 264 = .ok (.invokevirtual 31, 3) := by decide +kernel
theorem dL_law_267 : decode cL_law 267 = .ok (.if_icmp .eq 473, 3) := by decide +kernel
theorem dL_law_270 : decode cL_law 270 = .ok (.iconst 0, 1) := by decide +kernel
theorem dL_law_271 : decode cL_law 271 = .ok (.ireturn, 1) := by decide +kernel
theorem dL_law_272 : decode cL_law 272 = .ok (.aload_n 1, 1) := by decide +kernel
theorem dL_law_273 : decode cL_law 273 = .ok (.aload_n 0, 1) := by decide +kernel
theorem dL_law_274 : decode cL_law 274 = .ok (.iload_n 3, 1) := by decide +kernel
theorem dL_law_275 : decode cL_law 275 = .ok (.iconst 1, 1) := by decide +kernel
theorem dL_law_276 : decode cL_law 276 = .ok (.iadd, 1) := by decide +kernel
theorem dL_law_277 : decode cL_law 277 = .ok (.iaload, 1) := by decide +kernel
theorem dL_law_278 : decode cL_law 278 = .ok (.aload_n 0, 1) := by decide +kernel
theorem dL_law_279 : decode cL_law 279 = .ok (.iload_n 3, 1) := by decide +kernel
theorem dL_law_280 : decode cL_law 280 = .ok (.iconst 2, 1) := by decide +kernel
theorem dL_law_281 : decode cL_law 281 = .ok (.iadd, 1) := by decide +kernel
theorem dL_law_282 : decode cL_law 282 = .ok (.iaload, 1) := by decide +kernel
theorem dL_law_283 : decode cL_law 283 = .ok (.invokevirtual 32, 3) := by decide +kernel
theorem dL_law_286 : decode cL_law 286 = .ok (.aload_n 2, 1) := by decide +kernel
theorem dL_law_287 : decode cL_law 287 = .ok (.aload_n 0, 1) := by decide +kernel
theorem dL_law_288 : decode cL_law 288 = .ok (.iload_n 3, 1) := by decide +kernel
theorem dL_law_289 : decode cL_law 289 = .ok (.iconst 1, 1) := by decide +kernel
theorem dL_law_290 : decode cL_law 290 = .ok (.iadd, 1) := by decide +kernel
theorem dL_law_291 : decode cL_law 291 = .ok (.iaload, 1) := by decide +kernel
theorem dL_law_292 : decode cL_law 292 = .ok (.aload_n 0, 1) := by decide +kernel
theorem dL_law_293 : decode cL_law 293 = .ok (.iload_n 3, 1) := by decide +kernel
theorem dL_law_294 : decode cL_law 294 = .ok (.iconst 2, 1) := by decide +kernel
theorem dL_law_295 : decode cL_law 295 = .ok (.iadd, 1) := by decide +kernel
theorem dL_law_296 : decode cL_law 296 = .ok (.iaload, 1) := by decide +kernel
theorem dL_law_297 : decode cL_law 297 = .ok (.invokevirtual 35, 3) := by decide +kernel
theorem dL_law_300 : decode cL_law 300 = .ok (.if_icmp .eq 440, 3) := by decide +kernel
theorem dL_law_303 : decode cL_law 303 = .ok (.iconst 0, 1) := by decide +kernel
theorem dL_law_304 : decode cL_law 304 = .ok (.ireturn, 1) := by decide +kernel
theorem dL_law_305 : decode cL_law 305 = .ok (.aload_n 1, 1) := by decide +kernel
theorem dL_law_306 : decode cL_law 306 = .ok (.aload_n 0, 1) := by decide +kernel
theorem dL_law_307 : decode cL_law 307 = .ok (.iload_n 3, 1) := by decide +kernel
theorem dL_law_308 : decode cL_law 308 = .ok (.iconst 1, 1) := by decide +kernel
theorem dL_law_309 : decode cL_law 309 = .ok (.iadd, 1) := by decide +kernel
theorem dL_law_310 : decode cL_law 310 = .ok (.iaload, 1) := by decide +kernel
theorem dL_law_311 : decode cL_law 311 = .ok (.invokevirtual 36, 3) := by decide +kernel
theorem dL_law_314 : decode cL_law 314 = .ok (.aload_n 2, 1) := by decide +kernel
theorem dL_law_315 : decode cL_law 315 = .ok (.aload_n 0, 1) := by decide +kernel
theorem dL_law_316 : decode cL_law 316 = .ok (.iload_n 3, 1) := by decide +kernel
theorem dL_law_317 : decode cL_law 317 = .ok (.iconst 1, 1) := by decide +kernel
theorem dL_law_318 : decode cL_law 318 = .ok (.iadd, 1) := by decide +kernel
theorem dL_law_319 : decode cL_law 319 = .ok (.iaload, 1) := by decide +kernel
theorem dL_law_320 : decode cL_law 320 = .ok (.invokevirtual 39, 3) := by decide +kernel
theorem dL_law_323 : decode cL_law 323 = .ok (.if_icmp .eq 417, 3) := by decide +kernel
theorem dL_law_326 : decode cL_law 326 = .ok (.iconst 0, 1) := by decide +kernel
theorem dL_law_327 : decode cL_law 327 = .ok (.ireturn, 1) := by decide +kernel
theorem dL_law_328 : decode cL_law 328 = .ok (.aload_n 1, 1) := by decide +kernel
theorem dL_law_329 : decode cL_law 329 = .ok (.aload_n 0, 1) := by decide +kernel
theorem dL_law_330 : decode cL_law 330 = .ok (.iload_n 3, 1) := by decide +kernel
theorem dL_law_331 : decode cL_law 331 = .ok (.iconst 1, 1) := by decide +kernel
theorem dL_law_332 : decode cL_law 332 = .ok (.iadd, 1) := by decide +kernel
theorem dL_law_333 : decode cL_law 333 = .ok (.iaload, 1) := by decide +kernel
theorem dL_law_334 : decode cL_law 334 = .ok (.aload_n 0, 1) := by decide +kernel
theorem dL_law_335 : decode cL_law 335 = .ok (.iload_n 3, 1) := by decide +kernel
theorem dL_law_336 : decode cL_law 336 = .ok (.iconst 2, 1) := by decide +kernel
theorem dL_law_337 : decode cL_law 337 = .ok (.iadd, 1) := by decide +kernel
theorem dL_law_338 : decode cL_law 338 = .ok (.iaload, 1) := by decide +kernel
theorem dL_law_339 : decode cL_law 339 = .ok (.aload_n 0, 1) := by decide +kernel
theorem dL_law_340 : decode cL_law 340 = .ok (.iload_n 3, 1) := by decide +kernel
theorem dL_law_341 : decode cL_law 341 = .ok (.iconst 3, 1) := by decide +kernel
theorem dL_law_342 : decode cL_law 342 = .ok (.iadd, 1) := by decide +kernel
theorem dL_law_343 : decode cL_law 343 = .ok (.iaload, 1) := by decide +kernel
theorem dL_law_344 : decode cL_law 344 = .ok (.invokevirtual 40, 3) := by decide +kernel
theorem dL_law_347 : decode cL_law 347 = .ok (.aload_n 2, 1) := by decide +kernel
theorem dL_law_348 : decode cL_law 348 = .ok (.aload_n 0, 1) := by decide +kernel
theorem dL_law_349 : decode cL_law 349 = .ok (.iload_n 3, 1) := by decide +kernel
theorem dL_law_350 : decode cL_law 350 = .ok (.iconst 1, 1) := by decide +kernel
theorem dL_law_351 : decode cL_law 351 = .ok (.iadd, 1) := by decide +kernel
theorem dL_law_352 : decode cL_law 352 = .ok (.iaload, 1) := by decide +kernel
theorem dL_law_353 : decode cL_law 353 = .ok (.aload_n 0, 1) := by decide +kernel
theorem dL_law_354 : decode cL_law 354 = .ok (.iload_n 3, 1) := by decide +kernel
theorem dL_law_355 : decode cL_law 355 = .ok (.iconst 2, 1) := by decide +kernel
theorem dL_law_356 : decode cL_law 356 = .ok (.iadd, 1) := by decide +kernel
theorem dL_law_357 : decode cL_law 357 = .ok (.iaload, 1) := by decide +kernel
theorem dL_law_358 : decode cL_law 358 = .ok (.aload_n 0, 1) := by decide +kernel
theorem dL_law_359 : decode cL_law 359 = .ok (.iload_n 3, 1) := by decide +kernel
theorem dL_law_360 : decode cL_law 360 = .ok (.iconst 3, 1) := by decide +kernel
theorem dL_law_361 : decode cL_law 361 = .ok (.iadd, 1) := by decide +kernel
theorem dL_law_362 : decode cL_law 362 = .ok (.iaload, 1) := by decide +kernel
theorem dL_law_363 : decode cL_law 363 = .ok (.invokevirtual 43, 3) := by decide +kernel
theorem dL_law_366 : decode cL_law 366 = .ok (.if_icmp .eq 374, 3) := by decide +kernel
theorem dL_law_369 : decode cL_law 369 = .ok (.iconst 0, 1) := by decide +kernel
theorem dL_law_370 : decode cL_law 370 = .ok (.ireturn, 1) := by decide +kernel
theorem dL_law_371 : decode cL_law 371 = .ok (.aload_n 1, 1) := by decide +kernel
theorem dL_law_372 : decode cL_law 372 = .ok (.aload_n 0, 1) := by decide +kernel
theorem dL_law_373 : decode cL_law 373 = .ok (.iload_n 3, 1) := by decide +kernel
theorem dL_law_374 : decode cL_law 374 = .ok (.iconst 1, 1) := by decide +kernel
theorem dL_law_375 : decode cL_law 375 = .ok (.iadd, 1) := by decide +kernel
theorem dL_law_376 : decode cL_law 376 = .ok (.iaload, 1) := by decide +kernel
theorem dL_law_377 : decode cL_law 377 = .ok (.aload_n 0, 1) := by decide +kernel
theorem dL_law_378 : decode cL_law 378 = .ok (.iload_n 3, 1) := by decide +kernel
theorem dL_law_379 : decode cL_law 379 = .ok (.iconst 2, 1) := by decide +kernel
theorem dL_law_380 : decode cL_law 380 = .ok (.iadd, 1) := by decide +kernel
theorem dL_law_381 : decode cL_law 381 = .ok (.iaload, 1) := by decide +kernel
theorem dL_law_382 : decode cL_law 382 = .ok (.aload_n 0, 1) := by decide +kernel
theorem dL_law_383 : decode cL_law 383 = .ok (.iload_n 3, 1) := by decide +kernel
theorem dL_law_384 : decode cL_law 384 = .ok (.iconst 3, 1) := by decide +kernel
theorem dL_law_385 : decode cL_law 385 = .ok (.iadd, 1) := by decide +kernel
theorem dL_law_386 : decode cL_law 386 = .ok (.iaload, 1) := by decide +kernel
theorem dL_law_387 : decode cL_law 387 = .ok (.aload_n 0, 1) := by decide +kernel
theorem dL_law_388 : decode cL_law 388 = .ok (.iload_n 3, 1) := by decide +kernel
theorem dL_law_389 : decode cL_law 389 = .ok (.iconst 4, 1) := by decide +kernel
theorem dL_law_390 : decode cL_law 390 = .ok (.iadd, 1) := by decide +kernel
theorem dL_law_391 : decode cL_law 391 = .ok (.iaload, 1) := by decide +kernel
theorem dL_law_392 : decode cL_law 392 = .ok (.invokevirtual 44, 3) := by decide +kernel
theorem dL_law_395 : decode cL_law 395 = .ok (.aload_n 2, 1) := by decide +kernel
theorem dL_law_396 : decode cL_law 396 = .ok (.aload_n 0, 1) := by decide +kernel
theorem dL_law_397 : decode cL_law 397 = .ok (.iload_n 3, 1) := by decide +kernel
theorem dL_law_398 : decode cL_law 398 = .ok (.iconst 1, 1) := by decide +kernel
theorem dL_law_399 : decode cL_law 399 = .ok (.iadd, 1) := by decide +kernel
theorem dL_law_400 : decode cL_law 400 = .ok (.iaload, 1) := by decide +kernel
theorem dL_law_401 : decode cL_law 401 = .ok (.aload_n 0, 1) := by decide +kernel
theorem dL_law_402 : decode cL_law 402 = .ok (.iload_n 3, 1) := by decide +kernel
theorem dL_law_403 : decode cL_law 403 = .ok (.iconst 2, 1) := by decide +kernel
theorem dL_law_404 : decode cL_law 404 = .ok (.iadd, 1) := by decide +kernel
theorem dL_law_405 : decode cL_law 405 = .ok (.iaload, 1) := by decide +kernel
theorem dL_law_406 : decode cL_law 406 = .ok (.aload_n 0, 1) := by decide +kernel
theorem dL_law_407 : decode cL_law 407 = .ok (.iload_n 3, 1) := by decide +kernel
theorem dL_law_408 : decode cL_law 408 = .ok (.iconst 3, 1) := by decide +kernel
theorem dL_law_409 : decode cL_law 409 = .ok (.iadd, 1) := by decide +kernel
theorem dL_law_410 : decode cL_law 410 = .ok (.iaload, 1) := by decide +kernel
theorem dL_law_411 : decode cL_law 411 = .ok (.aload_n 0, 1) := by decide +kernel
theorem dL_law_412 : decode cL_law 412 = .ok (.iload_n 3, 1) := by decide +kernel
theorem dL_law_413 : decode cL_law 413 = .ok (.iconst 4, 1) := by decide +kernel
theorem dL_law_414 : decode cL_law 414 = .ok (.iadd, 1) := by decide +kernel
theorem dL_law_415 : decode cL_law 415 = .ok (.iaload, 1) := by decide +kernel
theorem dL_law_416 : decode cL_law 416 = .ok (.invokevirtual 48, 3) := by decide +kernel
theorem dL_law_419 : decode cL_law 419 = .ok (.if_icmp .eq 321, 3) := by decide +kernel
theorem dL_law_422 : decode cL_law 422 = .ok (.iconst 0, 1) := by decide +kernel
theorem dL_law_423 : decode cL_law 423 = .ok (.ireturn, 1) := by decide +kernel
theorem dL_law_424 : decode cL_law 424 = .ok (.aload_n 1, 1) := by decide +kernel
theorem dL_law_425 : decode cL_law 425 = .ok (.invokevirtual 49, 3) := by decide +kernel
theorem dL_law_428 : decode cL_law 428 = .ok (.aload_n 2, 1) := by decide +kernel
theorem dL_law_429 : decode cL_law 429 = .ok (.invokevirtual 53, 3) := by decide +kernel
theorem dL_law_432 : decode cL_law 432 = .ok (.if_icmp .eq 308, 3) := by decide +kernel
theorem dL_law_435 : decode cL_law 435 = .ok (.iconst 0, 1) := by decide +kernel
theorem dL_law_436 : decode cL_law 436 = .ok (.ireturn, 1) := by decide +kernel
theorem dL_law_437 : decode cL_law 437 = .ok (.aload_n 1, 1) := by decide +kernel
theorem dL_law_438 : decode cL_law 438 = .ok (.invokevirtual 54, 3) := by decide +kernel
theorem dL_law_441 : decode cL_law 441 = .ok (.aload_n 2, 1) := by decide +kernel
theorem dL_law_442 : decode cL_law 442 = .ok (.invokevirtual 57, 3) := by decide +kernel
theorem dL_law_445 : decode cL_law 445 = .ok (.if_icmp .eq 295, 3) := by decide +kernel
theorem dL_law_448 : decode cL_law 448 = .ok (.iconst 0, 1) := by decide +kernel
theorem dL_law_449 : decode cL_law 449 = .ok (.ireturn, 1) := by decide +kernel
theorem dL_law_450 : decode cL_law 450 = .ok (.aload_n 1, 1) := by decide +kernel
theorem dL_law_451 : decode cL_law 451 = .ok (.invokevirtual 58, 3) := by decide +kernel
theorem dL_law_454 : decode cL_law 454 = .ok (.aload_n 2, 1) := by decide +kernel
theorem dL_law_455 : decode cL_law 455 = .ok (.invokevirtual 61, 3) := by decide +kernel
theorem dL_law_458 : decode cL_law 458 = .ok (.if_icmp .eq 282, 3) := by decide +kernel
theorem dL_law_461 : decode cL_law 461 = .ok (.iconst 0, 1) := by decide +kernel
theorem dL_law_462 : decode cL_law 462 = .ok (.ireturn, 1) := by decide +kernel
theorem dL_law_463 : decode cL_law 463 = .ok (.aload_n 1, 1) := by decide +kernel
theorem dL_law_464 : decode cL_law 464 = .ok (.aload_n 0, 1) := by decide +kernel
theorem dL_law_465 : decode cL_law 465 = .ok (.iload_n 3, 1) := by decide +kernel
theorem dL_law_466 : decode cL_law 466 = .ok (.iconst 1, 1) := by decide +kernel
theorem dL_law_467 : decode cL_law 467 = .ok (.iadd, 1) := by decide +kernel
theorem dL_law_468 : decode cL_law 468 = .ok (.iaload, 1) := by decide +kernel
theorem dL_law_469 : decode cL_law 469 = .ok (.aload_n 0, 1) := by decide +kernel
theorem dL_law_470 : decode cL_law 470 = .ok (.iload_n 3, 1) := by decide +kernel
theorem dL_law_471 : decode cL_law 471 = .ok (.iconst 2, 1) := by decide +kernel
theorem dL_law_472 : decode cL_law 472 = .ok (.iadd, 1) := by decide +kernel
theorem dL_law_473 : decode cL_law 473 = .ok (.iaload, 1) := by decide +kernel
theorem dL_law_474 : decode cL_law 474 = .ok (.invokevirtual 62, 3) := by decide +kernel
theorem dL_law_477 : decode cL_law 477 = .ok (.aload_n 2, 1) := by decide +kernel
theorem dL_law_478 : decode cL_law 478 = .ok (.aload_n 0, 1) := by decide +kernel
theorem dL_law_479 : decode cL_law 479 = .ok (.iload_n 3, 1) := by decide +kernel
theorem dL_law_480 : decode cL_law 480 = .ok (.iconst 1, 1) := by decide +kernel
theorem dL_law_481 : decode cL_law 481 = .ok (.iadd, 1) := by decide +kernel
theorem dL_law_482 : decode cL_law 482 = .ok (.iaload, 1) := by decide +kernel
theorem dL_law_483 : decode cL_law 483 = .ok (.aload_n 0, 1) := by decide +kernel
theorem dL_law_484 : decode cL_law 484 = .ok (.iload_n 3, 1) := by decide +kernel
theorem dL_law_485 : decode cL_law 485 = .ok (.iconst 2, 1) := by decide +kernel
theorem dL_law_486 : decode cL_law 486 = .ok (.iadd, 1) := by decide +kernel
theorem dL_law_487 : decode cL_law 487 = .ok (.iaload, 1) := by decide +kernel
theorem dL_law_488 : decode cL_law 488 = .ok (.invokevirtual 65, 3) := by decide +kernel
theorem dL_law_491 : decode cL_law 491 = .ok (.if_icmp .eq 249, 3) := by decide +kernel
theorem dL_law_494 : decode cL_law 494 = .ok (.iconst 0, 1) := by decide +kernel
theorem dL_law_495 : decode cL_law 495 = .ok (.ireturn, 1) := by decide +kernel
theorem dL_law_496 : decode cL_law 496 = .ok (.aload_n 1, 1) := by decide +kernel
theorem dL_law_497 : decode cL_law 497 = .ok (.aload_n 0, 1) := by decide +kernel
theorem dL_law_498 : decode cL_law 498 = .ok (.iload_n 3, 1) := by decide +kernel
theorem dL_law_499 : decode cL_law 499 = .ok (.iconst 1, 1) := by decide +kernel
theorem dL_law_500 : decode cL_law 500 = .ok (.iadd, 1) := by decide +kernel
theorem dL_law_501 : decode cL_law 501 = .ok (.iaload, 1) := by decide +kernel
theorem dL_law_502 : decode cL_law 502 = .ok (.aload_n 0, 1) := by decide +kernel
theorem dL_law_503 : decode cL_law 503 = .ok (.iload_n 3, 1) := by decide +kernel
theorem dL_law_504 : decode cL_law 504 = .ok (.iconst 2, 1) := by decide +kernel
theorem dL_law_505 : decode cL_law 505 = .ok (.iadd, 1) := by decide +kernel
theorem dL_law_506 : decode cL_law 506 = .ok (.iaload, 1) := by decide +kernel
theorem dL_law_507 : decode cL_law 507 = .ok (.invokevirtual 66, 3) := by decide +kernel
theorem dL_law_510 : decode cL_law 510 = .ok (.aload_n 2, 1) := by decide +kernel
theorem dL_law_511 : decode cL_law 511 = .ok (.aload_n 0, 1) := by decide +kernel
theorem dL_law_512 : decode cL_law 512 = .ok (.iload_n 3, 1) := by decide +kernel
theorem dL_law_513 : decode cL_law 513 = .ok (.iconst 1, 1) := by decide +kernel
theorem dL_law_514 : decode cL_law 514 = .ok (.iadd, 1) := by decide +kernel
theorem dL_law_515 : decode cL_law 515 = .ok (.iaload, 1) := by decide +kernel
theorem dL_law_516 : decode cL_law 516 = .ok (.aload_n 0, 1) := by decide +kernel
theorem dL_law_517 : decode cL_law 517 = .ok (.iload_n 3, 1) := by decide +kernel
theorem dL_law_518 : decode cL_law 518 = .ok (.iconst 2, 1) := by decide +kernel
theorem dL_law_519 : decode cL_law 519 = .ok (.iadd, 1) := by decide +kernel
theorem dL_law_520 : decode cL_law 520 = .ok (.iaload, 1) := by decide +kernel
theorem dL_law_521 : decode cL_law 521 = .ok (.invokevirtual 69, 3) := by decide +kernel
theorem dL_law_524 : decode cL_law 524 = .ok (.if_icmp .eq 216, 3) := by decide +kernel
theorem dL_law_527 : decode cL_law 527 = .ok (.iconst 0, 1) := by decide +kernel
theorem dL_law_528 : decode cL_law 528 = .ok (.ireturn, 1) := by decide +kernel
theorem dL_law_529 : decode cL_law 529 = .ok (.aload_n 1, 1) := by decide +kernel
theorem dL_law_530 : decode cL_law 530 = .ok (.aload_n 0, 1) := by decide +kernel
theorem dL_law_531 : decode cL_law 531 = .ok (.iload_n 3, 1) := by decide +kernel
theorem dL_law_532 : decode cL_law 532 = .ok (.iconst 1, 1) := by decide +kernel
theorem dL_law_533 : decode cL_law 533 = .ok (.iadd, 1) := by decide +kernel
theorem dL_law_534 : decode cL_law 534 = .ok (.iaload, 1) := by decide +kernel
theorem dL_law_535 : decode cL_law 535 = .ok (.invokevirtual 70, 3) := by decide +kernel
theorem dL_law_538 : decode cL_law 538 = .ok (.aload_n 2, 1) := by decide +kernel
theorem dL_law_539 : decode cL_law 539 = .ok (.aload_n 0, 1) := by decide +kernel
theorem dL_law_540 : decode cL_law 540 = .ok (.iload_n 3, 1) := by decide +kernel
theorem dL_law_541 : decode cL_law 541 = .ok (.iconst 1, 1) := by decide +kernel
theorem dL_law_542 : decode cL_law 542 = .ok (.iadd, 1) := by decide +kernel
theorem dL_law_543 : decode cL_law 543 = .ok (.iaload, 1) := by decide +kernel
theorem dL_law_544 : decode cL_law 544 = .ok (.invokevirtual 73, 3) := by decide +kernel
theorem dL_law_547 : decode cL_law 547 = .ok (.if_icmp .eq 193, 3) := by decide +kernel
theorem dL_law_550 : decode cL_law 550 = .ok (.iconst 0, 1) := by decide +kernel
theorem dL_law_551 : decode cL_law 551 = .ok (.ireturn, 1) := by decide +kernel
theorem dL_law_552 : decode cL_law 552 = .ok (.aload_n 1, 1) := by decide +kernel
theorem dL_law_553 : decode cL_law 553 = .ok (.aload_n 0, 1) := by decide +kernel
theorem dL_law_554 : decode cL_law 554 = .ok (.iload_n 3, 1) := by decide +kernel
theorem dL_law_555 : decode cL_law 555 = .ok (.iconst 1, 1) := by decide +kernel
theorem dL_law_556 : decode cL_law 556 = .ok (.iadd, 1) := by decide +kernel
theorem dL_law_557 : decode cL_law 557 = .ok (.iaload, 1) := by decide +kernel
theorem dL_law_558 : decode cL_law 558 = .ok (.invokevirtual 74, 3) := by decide +kernel
theorem dL_law_561 : decode cL_law 561 = .ok (.aload_n 2, 1) := by decide +kernel
theorem dL_law_562 : decode cL_law 562 = .ok (.aload_n 0, 1) := by decide +kernel
theorem dL_law_563 : decode cL_law 563 = .ok (.iload_n 3, 1) := by decide +kernel
theorem dL_law_564 : decode cL_law 564 = .ok (.iconst 1, 1) := by decide +kernel
theorem dL_law_565 : decode cL_law 565 = .ok (.iadd, 1) := by decide +kernel
theorem dL_law_566 : decode cL_law 566 = .ok (.iaload, 1) := by decide +kernel
theorem dL_law_567 : decode cL_law 567 = .ok (.invokevirtual 77, 3) := by decide +kernel
theorem dL_law_570 : decode cL_law 570 = .ok (.if_icmp .eq 170, 3) := by decide +kernel
theorem dL_law_573 : decode cL_law 573 = .ok (.iconst 0, 1) := by decide +kernel
theorem dL_law_574 : decode cL_law 574 = .ok (.ireturn, 1) := by decide +kernel
theorem dL_law_575 : decode cL_law 575 = .ok (.aload_n 1, 1) := by decide +kernel
theorem dL_law_576 : decode cL_law 576 = .ok (.aload_n 0, 1) := by decide +kernel
theorem dL_law_577 : decode cL_law 577 = .ok (.iload_n 3, 1) := by decide +kernel
theorem dL_law_578 : decode cL_law 578 = .ok (.iconst 1, 1) := by decide +kernel
theorem dL_law_579 : decode cL_law 579 = .ok (.iadd, 1) := by decide +kernel
theorem dL_law_580 : decode cL_law 580 = .ok (.iaload, 1) := by decide +kernel
theorem dL_law_581 : decode cL_law 581 = .ok (.aload_n 0, 1) := by decide +kernel
theorem dL_law_582 : decode cL_law 582 = .ok (.iload_n 3, 1) := by decide +kernel
theorem dL_law_583 : decode cL_law 583 = .ok (.iconst 2, 1) := by decide +kernel
theorem dL_law_584 : decode cL_law 584 = .ok (.iadd, 1) := by decide +kernel
theorem dL_law_585 : decode cL_law 585 = .ok (.iaload, 1) := by decide +kernel
theorem dL_law_586 : decode cL_law 586 = .ok (.invokevirtual 78, 3) := by decide +kernel
theorem dL_law_589 : decode cL_law 589 = .ok (.aload_n 2, 1) := by decide +kernel
theorem dL_law_590 : decode cL_law 590 = .ok (.aload_n 0, 1) := by decide +kernel
theorem dL_law_591 : decode cL_law 591 = .ok (.iload_n 3, 1) := by decide +kernel
theorem dL_law_592 : decode cL_law 592 = .ok (.iconst 1, 1) := by decide +kernel
theorem dL_law_593 : decode cL_law 593 = .ok (.iadd, 1) := by decide +kernel
theorem dL_law_594 : decode cL_law 594 = .ok (.iaload, 1) := by decide +kernel
theorem dL_law_595 : decode cL_law 595 = .ok (.aload_n 0, 1) := by decide +kernel
theorem dL_law_596 : decode cL_law 596 = .ok (.iload_n 3, 1) := by decide +kernel
theorem dL_law_597 : decode cL_law 597 = .ok (.iconst 2, 1) := by decide +kernel
theorem dL_law_598 : decode cL_law 598 = .ok (.iadd, 1) := by decide +kernel
theorem dL_law_599 : decode cL_law 599 = .ok (.iaload, 1) := by decide +kernel
theorem dL_law_600 : decode cL_law 600 = .ok (.invokevirtual 81, 3) := by decide +kernel
theorem dL_law_603 : decode cL_law 603 = .ok (.if_icmp .eq 137, 3) := by decide +kernel
theorem dL_law_606 : decode cL_law 606 = .ok (.iconst 0, 1) := by decide +kernel
theorem dL_law_607 : decode cL_law 607 = .ok (.ireturn, 1) := by decide +kernel
theorem dL_law_608 : decode cL_law 608 = .ok (.aload_n 1, 1) := by decide +kernel
theorem dL_law_609 : decode cL_law 609 = .ok (.aload_n 0, 1) := by decide +kernel
theorem dL_law_610 : decode cL_law 610 = .ok (.iload_n 3, 1) := by decide +kernel
theorem dL_law_611 : decode cL_law 611 = .ok (.iconst 1, 1) := by decide +kernel
theorem dL_law_612 : decode cL_law 612 = .ok (.iadd, 1) := by decide +kernel
theorem dL_law_613 : decode cL_law 613 = .ok (.iaload, 1) := by decide +kernel
theorem dL_law_614 : decode cL_law 614 = .ok (.aload_n 0, 1) := by decide +kernel
theorem dL_law_615 : decode cL_law 615 = .ok (.iload_n 3, 1) := by decide +kernel
theorem dL_law_616 : decode cL_law 616 = .ok (.iconst 2, 1) := by decide +kernel
theorem dL_law_617 : decode cL_law 617 = .ok (.iadd, 1) := by decide +kernel
theorem dL_law_618 : decode cL_law 618 = .ok (.iaload, 1) := by decide +kernel
theorem dL_law_619 : decode cL_law 619 = .ok (.invokevirtual 82, 3) := by decide +kernel
theorem dL_law_622 : decode cL_law 622 = .ok (.aload_n 2, 1) := by decide +kernel
theorem dL_law_623 : decode cL_law 623 = .ok (.aload_n 0, 1) := by decide +kernel
theorem dL_law_624 : decode cL_law 624 = .ok (.iload_n 3, 1) := by decide +kernel
theorem dL_law_625 : decode cL_law 625 = .ok (.iconst 1, 1) := by decide +kernel
theorem dL_law_626 : decode cL_law 626 = .ok (.iadd, 1) := by decide +kernel
theorem dL_law_627 : decode cL_law 627 = .ok (.iaload, 1) := by decide +kernel
theorem dL_law_628 : decode cL_law 628 = .ok (.aload_n 0, 1) := by decide +kernel
theorem dL_law_629 : decode cL_law 629 = .ok (.iload_n 3, 1) := by decide +kernel
theorem dL_law_630 : decode cL_law 630 = .ok (.iconst 2, 1) := by decide +kernel
theorem dL_law_631 : decode cL_law 631 = .ok (.iadd, 1) := by decide +kernel
theorem dL_law_632 : decode cL_law 632 = .ok (.iaload, 1) := by decide +kernel
theorem dL_law_633 : decode cL_law 633 = .ok (.invokevirtual 85, 3) := by decide +kernel
theorem dL_law_636 : decode cL_law 636 = .ok (.if_icmp .eq 104, 3) := by decide +kernel
theorem dL_law_639 : decode cL_law 639 = .ok (.iconst 0, 1) := by decide +kernel
theorem dL_law_640 : decode cL_law 640 = .ok (.ireturn, 1) := by decide +kernel
theorem dL_law_641 : decode cL_law 641 = .ok (.aload_n 1, 1) := by decide +kernel
theorem dL_law_642 : decode cL_law 642 = .ok (.invokevirtual 86, 3) := by decide +kernel
theorem dL_law_645 : decode cL_law 645 = .ok (.aload_n 2, 1) := by decide +kernel
theorem dL_law_646 : decode cL_law 646 = .ok (.invokevirtual 89, 3) := by decide +kernel
theorem dL_law_649 : decode cL_law 649 = .ok (.if_icmp .eq 91, 3) := by decide +kernel
theorem dL_law_652 : decode cL_law 652 = .ok (.iconst 0, 1) := by decide +kernel
theorem dL_law_653 : decode cL_law 653 = .ok (.ireturn, 1) := by decide +kernel
theorem dL_law_654 : decode cL_law 654 = .ok (.aload_n 1, 1) := by decide +kernel
theorem dL_law_655 : decode cL_law 655 = .ok (.aload_n 0, 1) := by decide +kernel
theorem dL_law_656 : decode cL_law 656 = .ok (.iload_n 3, 1) := by decide +kernel
theorem dL_law_657 : decode cL_law 657 = .ok (.iconst 1, 1) := by decide +kernel
theorem dL_law_658 : decode cL_law 658 = .ok (.iadd, 1) := by decide +kernel
theorem dL_law_659 : decode cL_law 659 = .ok (.iaload, 1) := by decide +kernel
theorem dL_law_660 : decode cL_law 660 = .ok (.invokevirtual 90, 3) := by decide +kernel
theorem dL_law_663 : decode cL_law 663 = .ok (.aload_n 2, 1) := by decide +kernel
theorem dL_law_664 : decode cL_law 664 = .ok (.aload_n 0, 1) := by decide +kernel
theorem dL_law_665 : decode cL_law 665 = .ok (.iload_n 3, 1) := by decide +kernel
theorem dL_law_666 : decode cL_law 666 = .ok (.iconst 1, 1) := by decide +kernel
theorem dL_law_667 : decode cL_law 667 = .ok (.iadd, 1) := by decide +kernel
theorem dL_law_668 : decode cL_law 668 = .ok (.iaload, 1) := by decide +kernel
theorem dL_law_669 : decode cL_law 669 = .ok (.invokevirtual 93, 3) := by decide +kernel
theorem dL_law_672 : decode cL_law 672 = .ok (.if_icmp .eq 68, 3) := by decide +kernel
theorem dL_law_675 : decode cL_law 675 = .ok (.iconst 0, 1) := by decide +kernel
theorem dL_law_676 : decode cL_law 676 = .ok (.ireturn, 1) := by decide +kernel
theorem dL_law_677 : decode cL_law 677 = .ok (.aload_n 1, 1) := by decide +kernel
theorem dL_law_678 : decode cL_law 678 = .ok (.invokevirtual 94, 3) := by decide +kernel
theorem dL_law_681 : decode cL_law 681 = .ok (.aload_n 2, 1) := by decide +kernel
theorem dL_law_682 : decode cL_law 682 = .ok (.invokevirtual 97, 3) := by decide +kernel
theorem dL_law_685 : decode cL_law 685 = .ok (.if_icmp .eq 55, 3) := by decide +kernel
theorem dL_law_688 : decode cL_law 688 = .ok (.iconst 0, 1) := by decide +kernel
theorem dL_law_689 : decode cL_law 689 = .ok (.ireturn, 1) := by decide +kernel
theorem dL_law_690 : decode cL_law 690 = .ok (.aload_n 1, 1) := by decide +kernel
theorem dL_law_691 : decode cL_law 691 = .ok (.invokevirtual 98, 3) := by decide +kernel
theorem dL_law_694 : decode cL_law 694 = .ok (.aload_n 2, 1) := by decide +kernel
theorem dL_law_695 : decode cL_law 695 = .ok (.invokevirtual 101, 3) := by decide +kernel
theorem dL_law_698 : decode cL_law 698 = .ok (.if_icmp .eq 42, 3) := by decide +kernel
theorem dL_law_701 : decode cL_law 701 = .ok (.iconst 0, 1) := by decide +kernel
theorem dL_law_702 : decode cL_law 702 = .ok (.ireturn, 1) := by decide +kernel
theorem dL_law_703 : decode cL_law 703 = .ok (.aload_n 1, 1) := by decide +kernel
theorem dL_law_704 : decode cL_law 704 = .ok (.aload_n 0, 1) := by decide +kernel
theorem dL_law_705 : decode cL_law 705 = .ok (.iload_n 3, 1) := by decide +kernel
theorem dL_law_706 : decode cL_law 706 = .ok (.iconst 1, 1) := by decide +kernel
theorem dL_law_707 : decode cL_law 707 = .ok (.iadd, 1) := by decide +kernel
theorem dL_law_708 : decode cL_law 708 = .ok (.iaload, 1) := by decide +kernel
theorem dL_law_709 : decode cL_law 709 = .ok (.invokevirtual 102, 3) := by decide +kernel
theorem dL_law_712 : decode cL_law 712 = .ok (.aload_n 2, 1) := by decide +kernel
theorem dL_law_713 : decode cL_law 713 = .ok (.aload_n 0, 1) := by decide +kernel
theorem dL_law_714 : decode cL_law 714 = .ok (.iload_n 3, 1) := by decide +kernel
theorem dL_law_715 : decode cL_law 715 = .ok (.iconst 1, 1) := by decide +kernel
theorem dL_law_716 : decode cL_law 716 = .ok (.iadd, 1) := by decide +kernel
theorem dL_law_717 : decode cL_law 717 = .ok (.iaload, 1) := by decide +kernel
theorem dL_law_718 : decode cL_law 718 = .ok (.invokevirtual 105, 3) := by decide +kernel
theorem dL_law_721 : decode cL_law 721 = .ok (.if_icmp .eq 19, 3) := by decide +kernel
theorem dL_law_724 : decode cL_law 724 = .ok (.iconst 0, 1) := by decide +kernel
theorem dL_law_725 : decode cL_law 725 = .ok (.ireturn, 1) := by decide +kernel
theorem dL_law_726 : decode cL_law 726 = .ok (.aload_n 1, 1) := by decide +kernel
theorem dL_law_727 : decode cL_law 727 = .ok (.invokevirtual 106, 3) := by decide +kernel
theorem dL_law_730 : decode cL_law 730 = .ok (.aload_n 2, 1) := by decide +kernel
theorem dL_law_731 : decode cL_law 731 = .ok (.invokevirtual 110, 3) := by decide +kernel
theorem dL_law_734 : decode cL_law 734 = .ok (.lcmp, 1) := by decide +kernel
theorem dL_law_735 : decode cL_law 735 = .ok (.ifCond .eq 5, 3) := by decide +kernel
theorem dL_law_738 : decode cL_law 738 = .ok (.iconst 0, 1) := by decide +kernel
theorem dL_law_739 : decode cL_law 739 = .ok (.ireturn, 1) := by decide +kernel
theorem dL_law_740 : decode cL_law 740 = .ok (.iinc 3 5, 3) := by decide +kernel
theorem dL_law_743 : decode cL_law 743 = .ok (.goto (-725), 3) := by decide +kernel
theorem dL_law_746 : decode cL_law 746 = .ok (.iconst 1, 1) := by decide +kernel
theorem dL_law_747 : decode cL_law 747 = .ok (.ireturn, 1) := by decide +kernel
end
section
/-! The world of class, reference and law as ONE fixed layout: a place (kind, net, column, host) has an address; a state S is the ints and int arrays that change. -/
abbrev nf_Pos : Type := Nat × Nat × Nat × Nat
abbrev nf_L : Type := va_G × (ClassId × ClassId × ClassId) × (nf_Pos → Nat)
abbrev nf_S : Type := (Nat → Nat → Nat → Int32) × (Nat → Nat → Nat → Nat → Int32) × (Nat → Nat → Int32) × (Nat → Int32) × (Nat → Nat)
def nf_I (S : nf_S) (n c h : Nat) : Int32 := S.1 n c h
def nf_A (S : nf_S) (n c h : Nat) : Nat → Int32 := S.2.1 n c h
def nf_O (S : nf_S) (x : Nat) : Nat → Int32 := S.2.2.1 x
def nf_J (S : nf_S) (j : Nat) : Int32 := S.2.2.2.1 j
def nf_v (S : nf_S) : Nat → Nat := S.2.2.2.2
def nf_sI (S : nf_S) (n c h : Nat) (x : Int32) : nf_S := (fun n' c' h' => if n' = n ∧ c' = c ∧ h' = h then x else S.1 n' c' h', S.2)
def nf_sA (S : nf_S) (n c h : Nat) (f : Nat → Int32) : nf_S := (S.1, (fun n' c' h' => if n' = n ∧ c' = c ∧ h' = h then f else S.2.1 n' c' h'), S.2.2)
def nf_sO (S : nf_S) (x : Nat) (f : Nat → Int32) : nf_S := (S.1, S.2.1, (fun x' => if x' = x then f else S.2.2.1 x'), S.2.2.2)
def nf_sJ (S : nf_S) (j : Nat) (x : Int32) : nf_S := (S.1, S.2.1, S.2.2.1, (fun j' => if j' = j then x else S.2.2.2.1 j'), S.2.2.2.2)
def nf_sv (S : nf_S) (g : Nat → Nat) : nf_S := (S.1, S.2.1, S.2.2.1, S.2.2.2.1, g)
theorem nf_I_sI (S : nf_S) (n c h n' c' h' : Nat) (x : Int32) : nf_I (nf_sI S n c h x) n' c' h' = if n' = n ∧ c' = c ∧ h' = h then x else nf_I S n' c' h' := rfl
theorem nf_I_sA (S : nf_S) (n c h n' c' h' : Nat) (f : Nat → Int32) : nf_I (nf_sA S n c h f) n' c' h' = nf_I S n' c' h' := rfl
theorem nf_I_sO (S : nf_S) (x n' c' h' : Nat) (f : Nat → Int32) : nf_I (nf_sO S x f) n' c' h' = nf_I S n' c' h' := rfl
theorem nf_I_sJ (S : nf_S) (j n' c' h' : Nat) (x : Int32) : nf_I (nf_sJ S j x) n' c' h' = nf_I S n' c' h' := rfl
theorem nf_I_sv (S : nf_S) (n' c' h' : Nat) (g : Nat → Nat) : nf_I (nf_sv S g) n' c' h' = nf_I S n' c' h' := rfl
theorem nf_A_sA (S : nf_S) (n c h n' c' h' : Nat) (f : Nat → Int32) : nf_A (nf_sA S n c h f) n' c' h' = if n' = n ∧ c' = c ∧ h' = h then f else nf_A S n' c' h' := rfl
theorem nf_A_sI (S : nf_S) (n c h n' c' h' : Nat) (x : Int32) : nf_A (nf_sI S n c h x) n' c' h' = nf_A S n' c' h' := rfl
theorem nf_A_sO (S : nf_S) (x n' c' h' : Nat) (f : Nat → Int32) : nf_A (nf_sO S x f) n' c' h' = nf_A S n' c' h' := rfl
theorem nf_A_sJ (S : nf_S) (j n' c' h' : Nat) (x : Int32) : nf_A (nf_sJ S j x) n' c' h' = nf_A S n' c' h' := rfl
theorem nf_A_sv (S : nf_S) (n' c' h' : Nat) (g : Nat → Nat) : nf_A (nf_sv S g) n' c' h' = nf_A S n' c' h' := rfl
theorem nf_O_sO (S : nf_S) (x x' : Nat) (f : Nat → Int32) : nf_O (nf_sO S x f) x' = if x' = x then f else nf_O S x' := rfl
theorem nf_O_sI (S : nf_S) (n c h x' : Nat) (x : Int32) : nf_O (nf_sI S n c h x) x' = nf_O S x' := rfl
theorem nf_O_sA (S : nf_S) (n c h x' : Nat) (f : Nat → Int32) : nf_O (nf_sA S n c h f) x' = nf_O S x' := rfl
theorem nf_O_sJ (S : nf_S) (j x' : Nat) (x : Int32) : nf_O (nf_sJ S j x) x' = nf_O S x' := rfl
theorem nf_O_sv (S : nf_S) (x' : Nat) (g : Nat → Nat) : nf_O (nf_sv S g) x' = nf_O S x' := rfl
theorem nf_J_sJ (S : nf_S) (j j' : Nat) (x : Int32) : nf_J (nf_sJ S j x) j' = if j' = j then x else nf_J S j' := rfl
theorem nf_J_sI (S : nf_S) (n c h j' : Nat) (x : Int32) : nf_J (nf_sI S n c h x) j' = nf_J S j' := rfl
theorem nf_J_sA (S : nf_S) (n c h j' : Nat) (f : Nat → Int32) : nf_J (nf_sA S n c h f) j' = nf_J S j' := rfl
theorem nf_J_sO (S : nf_S) (x j' : Nat) (f : Nat → Int32) : nf_J (nf_sO S x f) j' = nf_J S j' := rfl
theorem nf_J_sv (S : nf_S) (j' : Nat) (g : Nat → Nat) : nf_J (nf_sv S g) j' = nf_J S j' := rfl
theorem nf_v_sv (S : nf_S) (g : Nat → Nat) : nf_v (nf_sv S g) = g := rfl
theorem nf_v_sI (S : nf_S) (n c h : Nat) (x : Int32) : nf_v (nf_sI S n c h x) = nf_v S := rfl
theorem nf_v_sA (S : nf_S) (n c h : Nat) (f : Nat → Int32) : nf_v (nf_sA S n c h f) = nf_v S := rfl
theorem nf_v_sO (S : nf_S) (x : Nat) (f : Nat → Int32) : nf_v (nf_sO S x f) = nf_v S := rfl
theorem nf_v_sJ (S : nf_S) (j : Nat) (x : Int32) : nf_v (nf_sJ S j x) = nf_v S := rfl
def nf_len (c : Nat) : Nat := match c with
  | 0 => 4
  | 1 => 6
  | 2 => 12
  | 3 => 12
  | 4 => 12
  | 10 => 180
  | 11 => 180
  | _ => 30
def nf_lenO (x : Nat) : Nat := match x with
  | 0 => 4
  | 1 => 1597
  | 2 => 6388
  | 3 => 4
  | _ => 1024
def nf_cell (L : nf_L) (S : nf_S) (q : nf_Pos) : va_E := match q.1 with
  | 0 => .inr (5, [.ref (L.2.2 (1, 0, 0, 0)), .ref (L.2.2 (5, 5, 0, 0)), .ref (L.2.2 (6, 0, 0, 0)), .int (nf_J S 0), .ref (L.2.2 (10, 0, 0, 0))])
  | 1 => .inr (3, [.int (nf_I S q.2.1 0 0), .int (nf_I S q.2.1 1 0), .ref (L.2.2 (9, q.2.1, 0, 0)), .ref (L.2.2 (2, q.2.1, 0, 0)), .ref (L.2.2 (3, q.2.1, 0, 0)), .ref (L.2.2 (7, q.2.1, 0, 0)), .ref (L.2.2 (5, q.2.1, 0, 0)), .ref (L.2.2 (9, q.2.1, 1, 0))])
  | 2 => .inr (2, [.int (nf_I S q.2.1 2 0), .ref (L.2.2 (9, q.2.1, 2, 0)), .ref (L.2.2 (9, q.2.1, 3, 0)), .ref (L.2.2 (9, q.2.1, 4, 0))])
  | 3 => .inr (0, [.int (nf_I S q.2.1 3 0), .ref (L.2.2 (9, q.2.1, 5, 0)), .ref (L.2.2 (9, q.2.1, 6, 0)), .ref (L.2.2 (9, q.2.1, 7, 0)), .ref (L.2.2 (9, q.2.1, 8, 0)), .ref (L.2.2 (9, q.2.1, 9, 0))])
  | 4 => .inr (1, [.int (nf_I S q.2.1 4 q.2.2.2), .int (nf_I S q.2.1 5 q.2.2.2), .ref (L.2.2 (9, q.2.1, 12, q.2.2.2)), .ref (L.2.2 (9, q.2.1, 13, q.2.2.2))])
  | 5 => .inr (4, [.ref (L.2.2 (9, q.2.1, 10, 0)), .ref (L.2.2 (9, q.2.1, 11, 0))])
  | 6 => .inl (L.2.1.2.2, 4, .inr (.inr (.inr (.inr (fun k => some (L.2.2 (1, nf_v S k, 0, 0)))))))
  | 7 => .inl (L.2.1.2.1, 6, .inr (.inr (.inr (.inr (fun k => some (L.2.2 (4, q.2.1, 0, k)))))))
  | 8 => .inr (6, [.ref (L.2.2 (10, 1, 0, 0)), .ref (L.2.2 (10, 2, 0, 0)), .int (nf_J S 1), .ref (L.2.2 (10, 3, 0, 0)), .ref (L.2.2 (10, 4, 0, 0))])
  | 9 => .inl (L.2.1.1, nf_len q.2.2.1, .inl (nf_A S q.2.1 q.2.2.1 q.2.2.2))
  | _ => .inl (L.2.1.1, nf_lenO q.2.1, .inl (nf_O S q.2.1))
def nf_ok (q : nf_Pos) : Prop := match q.1 with
  | 0 => q.2 = (0, 0, 0)
  | 1 => q.2.1 < 5 ∧ q.2.2 = (0, 0)
  | 2 => q.2.1 < 5 ∧ q.2.2 = (0, 0)
  | 3 => q.2.1 < 5 ∧ q.2.2 = (0, 0)
  | 4 => q.2.1 < 5 ∧ q.2.2.1 = 0 ∧ q.2.2.2 < 6
  | 5 => q.2.1 < 6 ∧ q.2.2 = (0, 0)
  | 6 => q.2 = (0, 0, 0)
  | 7 => q.2.1 < 5 ∧ q.2.2 = (0, 0)
  | 8 => q.2 = (0, 0, 0)
  | 9 => (q.2.1 < 5 ∧ ((q.2.2.1 < 12 ∧ q.2.2.2 = 0) ∨ ((q.2.2.1 = 12 ∨ q.2.2.1 = 13) ∧ q.2.2.2 < 6))) ∨ (q.2.1 = 5 ∧ (q.2.2.1 = 10 ∨ q.2.2.1 = 11) ∧ q.2.2.2 = 0)
  | 10 => q.2.1 < 5 ∧ q.2.2 = (0, 0)
  | _ => False
def nf_H (L : nf_L) (S : nf_S) (H : Heap) : Prop := ∀ q : nf_Pos, nf_ok q → va_at L.1 vwCl (L.2.2 q, nf_cell L S q) H
def nf_inj (L : nf_L) : Prop := ∀ p q : nf_Pos, nf_ok p → nf_ok q → L.2.2 p = L.2.2 q → p = q
def nf_Ad (L : nf_L) : Nat → Prop := fun a => ∃ q, nf_ok q ∧ a = L.2.2 q
def nf_tys (L : nf_L) : List (ClassId × FieldType) := [(L.2.1.1, .int), (L.2.1.2.1, .object RX1), (L.2.1.2.2, .object RX3)]
def nf_tbl : List Cond := lw_tbl.filter goodWord
def nf_nw : List Cond := [.methodLinkNest RX2 29 yX5_isBelow RX5, .methodLinkNest RX1 31 yX5_has RX5, .methodLinkNest RX2 25 yX5_has RX5, .methodLinkNest RX3 131 yX5_has RX5]
def nf_nest (U : State) : Prop := ∀ w ∈ nf_nw, va_Nw w U
theorem nf_nest.warm {s U : State} (hW : s.WarmedH U.vm) (h : nf_nest s) : nf_nest U := by
  intro w hw
  have h1 := h w hw
  simp only [nf_nw, List.mem_cons, List.not_mem_nil, or_false] at hw
  rcases hw with rfl | rfl | rfl | rfl <;> exact va_Nw.warmM hW h1
def nf_K (L : nf_L) (U : State) : Prop := va_K L.1 vwCl (nf_tys L) U ∧ nf_nest U
theorem nf_K.warm {L : nf_L} {s U : State} (hW : s.WarmedH U.vm) (h : nf_K L s) : nf_K L U := ⟨va_K.moved hW.alike h.1, nf_nest.warm hW h.2⟩
def nf_Pc (L : nf_L) (as : List Value) (S : nf_S) : Array Value → State → Prop := fun v U => v = as.toArray ∧ nf_inj L ∧ nf_H L S U.heap ∧ nf_K L U
def nf_Qc (L : nf_L) (r : Option Value) (S2 : nf_S) : Array Value → State → Outcome → State → Prop := fun _ st oc t => oc = .returned r ∧ nf_H L S2 t.heap ∧ va_F (nf_Ad L) st t
def nf_rm (d : Nat) : Room := { frames := d, cells := 0, slots := 0, locals := 40 * d }
def nf_ws (y : MethodName) (cc : ByteArray) (nL : Nat) (ret : Option FieldType) : List Cond := Cond.code y cc nL ret :: nf_tbl
/-- method y's contract: at S with these arguments it returns r, and leaves S2 -/
def nf_Sp (L : nf_L) (d : Nat) (y : MethodName) (cc : ByteArray) (nL : Nat) (ret : Option FieldType) (as : List Value) (S : nf_S) (r : Option Value) (S2 : nf_S) : Prop :=
  ∀ l : Launch, Met l y (nf_ws y cc nL ret) (nf_rm d) (nf_Pc L as S) (nf_Qc L r S2) 0 0 (nf_Ad L)
def nf_Cx (p : Program) (s : State) (m : MethodId) (args : Array Value) (meth : Method) (c : Code) (L : nf_L) (cc : ByteArray) (own : String) (nL : Nat) (ret : Option FieldType) : Prop :=
  p.tables.exec = Jvm.exec ∧ c.code = cc ∧ meth.sig.returnType = ret ∧ c.maxLocals = nL ∧ s.vm.findClass own = some m.cls ∧ (∀ w ∈ nf_tbl, w.before args s = true) ∧ meth.locks = false ∧ nf_inj L ∧ nf_K L s
def nf_Hp (L : nf_L) (S : nf_S) (s : State) (H : Heap) (locs : List Loc) : Prop := nf_H L S H ∧ va_S (nf_Ad L) s.heap H locs
def nf_prs : Nat → List (Option Value) → List (Nat × Value)
  | _, [] => []
  | i, none :: t => nf_prs (i + 1) t
  | i, some v :: t => (i, v) :: nf_prs (i + 1) t
theorem nf_prs_mem : ∀ (ls : List (Option Value)) (i : Nat) (q : Nat × Value), q ∈ nf_prs i ls ↔ ∃ j, q.1 = i + j ∧ ls[j]? = some (some q.2) := by
  intro ls
  induction ls with
  | nil => intro i q; simp [nf_prs]
  | cons a t ih =>
    intro i q
    cases a with
    | none =>
      simp only [nf_prs, ih]
      constructor
      · rintro ⟨j, h1, h2⟩
        exact ⟨j + 1, by omega, by simpa using h2⟩
      · rintro ⟨j, h1, h2⟩
        cases j with
        | zero => simp at h2
        | succ j => exact ⟨j, by omega, by simpa using h2⟩
    | some v =>
      simp only [nf_prs, List.mem_cons, ih]
      constructor
      · rintro (rfl | ⟨j, h1, h2⟩)
        · exact ⟨0, by simp, by simp⟩
        · exact ⟨j + 1, by omega, by simpa using h2⟩
      · rintro ⟨j, h1, h2⟩
        cases j with
        | zero =>
          left
          obtain ⟨a, b⟩ := q
          simp at h1 h2
          rw [h1, h2]
        | succ j => exact Or.inr ⟨j, by omega, by simpa using h2⟩
def nf_lh (la : Array Slot) (nL : Nat) (ls : List (Option Value)) : Prop := lv_has la nL (nf_prs 0 ls)
theorem nf_lh.at {la : Array Slot} {nL : Nat} {ls : List (Option Value)} (h : nf_lh la nL ls) {i : Nat} {v : Value} (hi : ls[i]? = some (some v)) : la[i]? = some (.val v) :=
  h.2.2 (i, v) ((nf_prs_mem ls 0 (i, v)).mpr ⟨i, by simp, hi⟩)
theorem nf_lh.of {la : Array Slot} {nL : Nat} {ls : List (Option Value)} {l : List (Nat × Value)} (h : lv_has la nL l) (hs : ∀ i v, ls[i]? = some (some v) → (i, v) ∈ l) : nf_lh la nL ls := by
  refine ⟨h.1, h.2.1, fun q hq => ?_⟩
  obtain ⟨j, h1, h2⟩ := (nf_prs_mem ls 0 q).mp hq
  have h3 : q.1 = j := by omega
  exact h.2.2 q (by have := hs j q.2 h2; rw [← h3] at this; exact this)
def nf_c1 (o : Option Value) : Bool := match o with
  | some v => v.category == 1
  | none => true
/-- behind a store of one word at i -/
theorem nf_lh.st1 {la : Array Slot} {nL i : Nat} {v : Value} {ls : List (Option Value)} (h2 : ∀ o, ls[i - 1]? = some o → 0 < i → nf_c1 o = true) (hl : i < ls.length)
    (h : lv_has la nL ((i, v) :: (nf_prs 0 ls).filter (fun q => !(q.1 == i) && !(q.1 + 1 == i && q.2.category == 2)))) : nf_lh la nL (ls.set i (some v)) := by
  refine nf_lh.of h ?_
  intro j u hj
  rw [List.getElem?_set] at hj
  by_cases hij : i = j
  · subst hij
    simp [hl] at hj
    subst hj
    exact List.mem_cons_self
  · rw [if_neg hij] at hj
    refine List.mem_cons_of_mem _ (List.mem_filter.mpr ⟨(nf_prs_mem ls 0 (j, u)).mpr ⟨j, by simp, hj⟩, ?_⟩)
    have h3 : ¬ (j = i) := fun e => hij e.symm
    simp only [Bool.and_eq_true, Bool.not_eq_true', beq_eq_false_iff_ne, ne_eq, h3, not_false_eq_true, true_and, Bool.and_eq_false_iff]
    by_cases h4 : j + 1 = i
    · have h5 := h2 (some u) (by rw [show i - 1 = j by omega]; exact hj) (by omega)
      right
      simp only [nf_c1, beq_iff_eq] at h5
      simp [h5]
    · left; exact h4
/-- behind a store of two words at i -/
theorem nf_lh.st2 {la : Array Slot} {nL i : Nat} {v : Value} {ls : List (Option Value)} (h2 : ∀ o, ls[i - 1]? = some o → 0 < i → nf_c1 o = true) (hl : i < ls.length)
    (h : lv_has la nL ((i, v) :: (nf_prs 0 ls).filter (fun q => !(q.1 == i) && (!(q.1 == i + 1) && !(q.1 + 1 == i && q.2.category == 2))))) : nf_lh la nL ((ls.set i (some v)).set (i + 1) none) := by
  refine nf_lh.of h ?_
  intro j u hj
  rw [List.getElem?_set, List.getElem?_set] at hj
  by_cases hij1 : i + 1 = j
  · rw [if_pos hij1] at hj
    split at hj <;> simp at hj
  rw [if_neg hij1] at hj
  by_cases hij : i = j
  · subst hij
    simp [hl] at hj
    subst hj
    exact List.mem_cons_self
  · rw [if_neg hij] at hj
    refine List.mem_cons_of_mem _ (List.mem_filter.mpr ⟨(nf_prs_mem ls 0 (j, u)).mpr ⟨j, by simp, hj⟩, ?_⟩)
    have h3 : ¬ (j = i) := fun e => hij e.symm
    have h3' : ¬ (j = i + 1) := fun e => hij1 e.symm
    simp only [Bool.and_eq_true, Bool.not_eq_true', beq_eq_false_iff_ne, ne_eq, h3, h3', not_false_eq_true, true_and, Bool.and_eq_false_iff]
    by_cases h4 : j + 1 = i
    · have h5 := h2 (some u) (by rw [show i - 1 = j by omega]; exact hj) (by omega)
      right
      simp only [nf_c1, beq_iff_eq] at h5
      simp [h5]
    · left; exact h4
/-- from here the method returns r, and leaves S2 -/
def nf_V (L : nf_L) (d : Nat) (cc : ByteArray) (own : String) (nL : Nat) (ret : Option FieldType) (r : Option Value) (S2 : nf_S) (pc : Nat) (ls : List (Option Value)) (st : List Value) (S : nf_S) : Prop :=
  ∀ (p : Program) (l : Launch) (e : Env) (s : State) (m : MethodId) (args : Array Value) (below : List Frame) (meth : Method) (c : Code) (H : Heap) (locs : List Loc) (la : Array Slot),
    nf_Cx p s m args meth c L cc own nL ret → nf_Hp L S s H locs → nf_lh la nL ls →
    W p l e (nf_rm d) s m args below meth c H locs 0 0 (MQ below (nf_Qc L r S2) args s 0 0 (nf_Ad L)) (F0 m pc la st)
section NfRows
variable {L : nf_L} {d : Nat} {cc : ByteArray} {own : String} {nL : Nat} {ret : Option FieldType} {r : Option Value} {S2 : nf_S} {pc : Nat} {ls : List (Option Value)} {st : List Value} {S : nf_S}
theorem nf_iconst {n : Int} {v : Int32} (dg : decode cc pc = .ok (.iconst n, 1)) (hv : Int32.ofInt n = v) (k : nf_V L d cc own nL ret r S2 (pc + 1) ls (.int v :: st) S) : nf_V L d cc own nL ret r S2 pc ls (st) S :=
  fun p l e s m args below meth c H locs la hC hH hl => lv_iconst hC.1 hC.2.1 dg hv (k p l e s m args below meth c H locs la hC hH hl)
theorem nf_bipush {n : Int} {v : Int32} (dg : decode cc pc = .ok (.bipush n, 2)) (hv : (Int8.ofInt n).toInt32 = v) (k : nf_V L d cc own nL ret r S2 (pc + 2) ls (.int v :: st) S) : nf_V L d cc own nL ret r S2 pc ls (st) S :=
  fun p l e s m args below meth c H locs la hC hH hl => lv_bipush hC.1 hC.2.1 dg hv (k p l e s m args below meth c H locs la hC hH hl)
theorem nf_sipush {n : Int} {v : Int32} (dg : decode cc pc = .ok (.sipush n, 3)) (hv : (Int16.ofInt n).toInt32 = v) (k : nf_V L d cc own nL ret r S2 (pc + 3) ls (.int v :: st) S) : nf_V L d cc own nL ret r S2 pc ls (st) S :=
  fun p l e s m args below meth c H locs la hC hH hl => lv_sipush hC.1 hC.2.1 dg hv (k p l e s m args below meth c H locs la hC hH hl)
theorem nf_lconst {n : Fin 2} {v : Int64} (dg : decode cc pc = .ok (.lconst n, 1)) (hv : Int64.ofNat (n : Nat) = v) (k : nf_V L d cc own nL ret r S2 (pc + 1) ls (.long v :: st) S) : nf_V L d cc own nL ret r S2 pc ls (st) S :=
  fun p l e s m args below meth c H locs la hC hH hl => lv_lconst hC.1 hC.2.1 dg hv (k p l e s m args below meth c H locs la hC hH hl)
theorem nf_ldcw {n : Nat} {v : Int32} (dg : decode cc pc = .ok (.ldc_w n, 3)) (hw : Cond.constant own n v ∈ nf_tbl) (k : nf_V L d cc own nL ret r S2 (pc + 3) ls (.int v :: st) S) : nf_V L d cc own nL ret r S2 pc ls (st) S :=
  fun p l e s m args below meth c H locs la hC hH hl => lv_ldcw hC.1 hC.2.1 hC.2.2.2.2.1 (hC.2.2.2.2.2.1 _ hw) dg (k p l e s m args below meth c H locs la hC hH hl)
theorem nf_ldc2 {n : Nat} {v : Int64} (dg : decode cc pc = .ok (.ldc2_w n, 3)) (hw : Cond.constantLong own n v ∈ nf_tbl) (k : nf_V L d cc own nL ret r S2 (pc + 3) ls (.long v :: st) S) : nf_V L d cc own nL ret r S2 pc ls (st) S :=
  fun p l e s m args below meth c H locs la hC hH hl => lv_ldc2 hC.1 hC.2.1 hC.2.2.2.2.1 (hC.2.2.2.2.2.1 _ hw) dg (k p l e s m args below meth c H locs la hC hH hl)
theorem nf_iln {k0 : Fin 4} {x : Int32} (dg : decode cc pc = .ok (.iload_n k0, 1)) (hx : ls[(k0 : Nat)]? = some (some (.int x))) (k : nf_V L d cc own nL ret r S2 (pc + 1) ls (.int x :: st) S) : nf_V L d cc own nL ret r S2 pc ls (st) S :=
  fun p l e s m args below meth c H locs la hC hH hl => lv_iload_n hC.1 hC.2.1 dg rfl (hl.at hx) (k p l e s m args below meth c H locs la hC hH hl)
theorem nf_il {i : Nat} {x : Int32} (dg : decode cc pc = .ok (.iload i, 2)) (hx : ls[i]? = some (some (.int x))) (k : nf_V L d cc own nL ret r S2 (pc + 2) ls (.int x :: st) S) : nf_V L d cc own nL ret r S2 pc ls (st) S :=
  fun p l e s m args below meth c H locs la hC hH hl => lv_iload hC.1 hC.2.1 dg (hl.at hx) (k p l e s m args below meth c H locs la hC hH hl)
theorem nf_lln {k0 : Fin 4} {x : Int64} (dg : decode cc pc = .ok (.lload_n k0, 1)) (hx : ls[(k0 : Nat)]? = some (some (.long x))) (k : nf_V L d cc own nL ret r S2 (pc + 1) ls (.long x :: st) S) : nf_V L d cc own nL ret r S2 pc ls (st) S :=
  fun p l e s m args below meth c H locs la hC hH hl => lv_lload_n hC.1 hC.2.1 dg rfl (hl.at hx) (k p l e s m args below meth c H locs la hC hH hl)
theorem nf_ll {i : Nat} {x : Int64} (dg : decode cc pc = .ok (.lload i, 2)) (hx : ls[i]? = some (some (.long x))) (k : nf_V L d cc own nL ret r S2 (pc + 2) ls (.long x :: st) S) : nf_V L d cc own nL ret r S2 pc ls (st) S :=
  fun p l e s m args below meth c H locs la hC hH hl => lv_lload hC.1 hC.2.1 dg (hl.at hx) (k p l e s m args below meth c H locs la hC hH hl)
theorem nf_aln {k0 : Fin 4} {x : Nat} (dg : decode cc pc = .ok (.aload_n k0, 1)) (hx : ls[(k0 : Nat)]? = some (some (.ref x))) (k : nf_V L d cc own nL ret r S2 (pc + 1) ls (.ref x :: st) S) : nf_V L d cc own nL ret r S2 pc ls (st) S :=
  fun p l e s m args below meth c H locs la hC hH hl => lv_aload_n hC.1 hC.2.1 dg rfl (hl.at hx) (k p l e s m args below meth c H locs la hC hH hl)
theorem nf_al {i : Nat} {x : Nat} (dg : decode cc pc = .ok (.aload i, 2)) (hx : ls[i]? = some (some (.ref x))) (k : nf_V L d cc own nL ret r S2 (pc + 2) ls (.ref x :: st) S) : nf_V L d cc own nL ret r S2 pc ls (st) S :=
  fun p l e s m args below meth c H locs la hC hH hl => lv_aload hC.1 hC.2.1 dg (hl.at hx) (k p l e s m args below meth c H locs la hC hH hl)
theorem nf_iadd {x y : Int32} (dg : decode cc pc = .ok (.iadd, 1)) (k : nf_V L d cc own nL ret r S2 (pc + 1) ls (.int (x + y) :: st) S) : nf_V L d cc own nL ret r S2 pc ls (.int y :: .int x :: st) S :=
  fun p l e s m args below meth c H locs la hC hH hl => lv_iadd hC.1 hC.2.1 dg (k p l e s m args below meth c H locs la hC hH hl)
theorem nf_isub {x y : Int32} (dg : decode cc pc = .ok (.isub, 1)) (k : nf_V L d cc own nL ret r S2 (pc + 1) ls (.int (x - y) :: st) S) : nf_V L d cc own nL ret r S2 pc ls (.int y :: .int x :: st) S :=
  fun p l e s m args below meth c H locs la hC hH hl => lv_isub hC.1 hC.2.1 dg (k p l e s m args below meth c H locs la hC hH hl)
theorem nf_imul {x y : Int32} (dg : decode cc pc = .ok (.imul, 1)) (k : nf_V L d cc own nL ret r S2 (pc + 1) ls (.int (x * y) :: st) S) : nf_V L d cc own nL ret r S2 pc ls (.int y :: .int x :: st) S :=
  fun p l e s m args below meth c H locs la hC hH hl => lv_imul hC.1 hC.2.1 dg (k p l e s m args below meth c H locs la hC hH hl)
theorem nf_iand {x y : Int32} (dg : decode cc pc = .ok (.iand, 1)) (k : nf_V L d cc own nL ret r S2 (pc + 1) ls (.int (x &&& y) :: st) S) : nf_V L d cc own nL ret r S2 pc ls (.int y :: .int x :: st) S :=
  fun p l e s m args below meth c H locs la hC hH hl => lv_iand hC.1 hC.2.1 dg (k p l e s m args below meth c H locs la hC hH hl)
theorem nf_ior {x y : Int32} (dg : decode cc pc = .ok (.ior, 1)) (k : nf_V L d cc own nL ret r S2 (pc + 1) ls (.int (x ||| y) :: st) S) : nf_V L d cc own nL ret r S2 pc ls (.int y :: .int x :: st) S :=
  fun p l e s m args below meth c H locs la hC hH hl => lv_ior hC.1 hC.2.1 dg (k p l e s m args below meth c H locs la hC hH hl)
theorem nf_ixor {x y : Int32} (dg : decode cc pc = .ok (.ixor, 1)) (k : nf_V L d cc own nL ret r S2 (pc + 1) ls (.int (x ^^^ y) :: st) S) : nf_V L d cc own nL ret r S2 pc ls (.int y :: .int x :: st) S :=
  fun p l e s m args below meth c H locs la hC hH hl => lv_ixor hC.1 hC.2.1 dg (k p l e s m args below meth c H locs la hC hH hl)
theorem nf_ishl {x y : Int32} (dg : decode cc pc = .ok (.ishl, 1)) (k : nf_V L d cc own nL ret r S2 (pc + 1) ls (.int (x <<< (y &&& 31)) :: st) S) : nf_V L d cc own nL ret r S2 pc ls (.int y :: .int x :: st) S :=
  fun p l e s m args below meth c H locs la hC hH hl => lv_ishl hC.1 hC.2.1 dg (k p l e s m args below meth c H locs la hC hH hl)
theorem nf_ishr {x y : Int32} (dg : decode cc pc = .ok (.ishr, 1)) (k : nf_V L d cc own nL ret r S2 (pc + 1) ls (.int (x >>> (y &&& 31)) :: st) S) : nf_V L d cc own nL ret r S2 pc ls (.int y :: .int x :: st) S :=
  fun p l e s m args below meth c H locs la hC hH hl => lv_ishr hC.1 hC.2.1 dg (k p l e s m args below meth c H locs la hC hH hl)
theorem nf_iushr {x y v : Int32} (dg : decode cc pc = .ok (.iushr, 1)) (hv : (x.toUInt32 >>> (y.toUInt32 &&& Int32.toUInt32 31)).toInt32 = v) (k : nf_V L d cc own nL ret r S2 (pc + 1) ls (.int v :: st) S) : nf_V L d cc own nL ret r S2 pc ls (.int y :: .int x :: st) S :=
  fun p l e s m args below meth c H locs la hC hH hl => lv_iushr hC.1 hC.2.1 dg hv (k p l e s m args below meth c H locs la hC hH hl)
theorem nf_idiv {x y : Int32} (dg : decode cc pc = .ok (.idiv, 1)) (hne : ¬ y = 0) (k : nf_V L d cc own nL ret r S2 (pc + 1) ls (.int (x / y) :: st) S) : nf_V L d cc own nL ret r S2 pc ls (.int y :: .int x :: st) S :=
  fun p l e s m args below meth c H locs la hC hH hl => lv_idiv hC.1 hC.2.1 dg hne (k p l e s m args below meth c H locs la hC hH hl)
theorem nf_irem {x y : Int32} (dg : decode cc pc = .ok (.irem, 1)) (hne : ¬ y = 0) (k : nf_V L d cc own nL ret r S2 (pc + 1) ls (.int (x - x / y * y) :: st) S) : nf_V L d cc own nL ret r S2 pc ls (.int y :: .int x :: st) S :=
  fun p l e s m args below meth c H locs la hC hH hl => lv_irem hC.1 hC.2.1 dg hne (k p l e s m args below meth c H locs la hC hH hl)
theorem nf_ladd {x y : Int64} (dg : decode cc pc = .ok (.ladd, 1)) (k : nf_V L d cc own nL ret r S2 (pc + 1) ls (.long (x + y) :: st) S) : nf_V L d cc own nL ret r S2 pc ls (.long y :: .long x :: st) S :=
  fun p l e s m args below meth c H locs la hC hH hl => lv_ladd hC.1 hC.2.1 dg (k p l e s m args below meth c H locs la hC hH hl)
theorem nf_lmul {x y : Int64} (dg : decode cc pc = .ok (.lmul, 1)) (k : nf_V L d cc own nL ret r S2 (pc + 1) ls (.long (x * y) :: st) S) : nf_V L d cc own nL ret r S2 pc ls (.long y :: .long x :: st) S :=
  fun p l e s m args below meth c H locs la hC hH hl => lv_lmul hC.1 hC.2.1 dg (k p l e s m args below meth c H locs la hC hH hl)
theorem nf_i2l {x : Int32} (dg : decode cc pc = .ok (.i2l, 1)) (k : nf_V L d cc own nL ret r S2 (pc + 1) ls (.long x.toInt64 :: st) S) : nf_V L d cc own nL ret r S2 pc ls (.int x :: st) S :=
  fun p l e s m args below meth c H locs la hC hH hl => lv_i2l hC.1 hC.2.1 dg rfl (k p l e s m args below meth c H locs la hC hH hl)
theorem nf_lcmp {x y : Int64} (dg : decode cc pc = .ok (.lcmp, 1)) (k : nf_V L d cc own nL ret r S2 (pc + 1) ls (.int (lg_cmp x y) :: st) S) : nf_V L d cc own nL ret r S2 pc ls (.long y :: .long x :: st) S :=
  fun p l e s m args below meth c H locs la hC hH hl => W.lcmp hC.1 hC.2.1 dg (k p l e s m args below meth c H locs la hC hH hl)
theorem nf_dup {va : Value} (dg : decode cc pc = .ok (.dup, 1)) (hva : va.category = 1) (k : nf_V L d cc own nL ret r S2 (pc + 1) ls (va :: va :: st) S) : nf_V L d cc own nL ret r S2 pc ls (va :: st) S :=
  fun p l e s m args below meth c H locs la hC hH hl => lv_dup hC.1 hC.2.1 dg hva (k p l e s m args below meth c H locs la hC hH hl)
theorem nf_dup2 {va vb : Value} (dg : decode cc pc = .ok (.dup2, 1)) (hva : va.category = 1) (hvb : vb.category = 1) (k : nf_V L d cc own nL ret r S2 (pc + 1) ls (va :: vb :: va :: vb :: st) S) : nf_V L d cc own nL ret r S2 pc ls (va :: vb :: st) S :=
  fun p l e s m args below meth c H locs la hC hH hl => lv_dup2_11 hC.1 hC.2.1 dg hva hvb (k p l e s m args below meth c H locs la hC hH hl)
theorem nf_pop {va : Value} (dg : decode cc pc = .ok (.pop, 1)) (hva : va.category = 1) (k : nf_V L d cc own nL ret r S2 (pc + 1) ls (st) S) : nf_V L d cc own nL ret r S2 pc ls (va :: st) S :=
  fun p l e s m args below meth c H locs la hC hH hl => lv_pop hC.1 hC.2.1 dg hva (k p l e s m args below meth c H locs la hC hH hl)
theorem nf_goto {off : Int} (tgt : Nat) (dg : decode cc pc = .ok (.goto off, 3)) (ht : (pc : Int) + off = (tgt : Int)) (k : nf_V L d cc own nL ret r S2 tgt ls st S) : nf_V L d cc own nL ret r S2 pc ls st S :=
  fun p l e s m args below meth c H locs la hC hH hl => lv_goto hC.1 hC.2.1 dg ht (k p l e s m args below meth c H locs la hC hH hl)
theorem nf_if_eq {off : Int} {x : Int32} (tgt : Nat) (dg : decode cc pc = .ok (.ifCond .eq off, 3)) (ht : (pc : Int) + off = (tgt : Int)) (kt : x = 0 → nf_V L d cc own nL ret r S2 tgt ls st S) (kf : ¬ (x = 0) → nf_V L d cc own nL ret r S2 (pc + 3) ls st S) : nf_V L d cc own nL ret r S2 pc ls (.int x :: st) S :=
  fun p l e s m args below meth c H locs la hC hH hl => lv_if_eq hC.1 hC.2.1 dg ht (fun h => kt h p l e s m args below meth c H locs la hC hH hl) (fun h => kf h p l e s m args below meth c H locs la hC hH hl)
theorem nf_if_ne {off : Int} {x : Int32} (tgt : Nat) (dg : decode cc pc = .ok (.ifCond .ne off, 3)) (ht : (pc : Int) + off = (tgt : Int)) (kt : ¬ x = 0 → nf_V L d cc own nL ret r S2 tgt ls st S) (kf : x = 0 → nf_V L d cc own nL ret r S2 (pc + 3) ls st S) : nf_V L d cc own nL ret r S2 pc ls (.int x :: st) S :=
  fun p l e s m args below meth c H locs la hC hH hl => lv_if_ne hC.1 hC.2.1 dg ht (fun h => kt h p l e s m args below meth c H locs la hC hH hl) (fun h => kf h p l e s m args below meth c H locs la hC hH hl)
theorem nf_if_lt {off : Int} {x : Int32} (tgt : Nat) (dg : decode cc pc = .ok (.ifCond .lt off, 3)) (ht : (pc : Int) + off = (tgt : Int)) (kt : x < 0 → nf_V L d cc own nL ret r S2 tgt ls st S) (kf : ¬ (x < 0) → nf_V L d cc own nL ret r S2 (pc + 3) ls st S) : nf_V L d cc own nL ret r S2 pc ls (.int x :: st) S :=
  fun p l e s m args below meth c H locs la hC hH hl => lv_if_lt hC.1 hC.2.1 dg ht (fun h => kt h p l e s m args below meth c H locs la hC hH hl) (fun h => kf h p l e s m args below meth c H locs la hC hH hl)
theorem nf_if_ge {off : Int} {x : Int32} (tgt : Nat) (dg : decode cc pc = .ok (.ifCond .ge off, 3)) (ht : (pc : Int) + off = (tgt : Int)) (kt : 0 ≤ x → nf_V L d cc own nL ret r S2 tgt ls st S) (kf : ¬ (0 ≤ x) → nf_V L d cc own nL ret r S2 (pc + 3) ls st S) : nf_V L d cc own nL ret r S2 pc ls (.int x :: st) S :=
  fun p l e s m args below meth c H locs la hC hH hl => lv_if_ge hC.1 hC.2.1 dg ht (fun h => kt h p l e s m args below meth c H locs la hC hH hl) (fun h => kf h p l e s m args below meth c H locs la hC hH hl)
theorem nf_if_gt {off : Int} {x : Int32} (tgt : Nat) (dg : decode cc pc = .ok (.ifCond .gt off, 3)) (ht : (pc : Int) + off = (tgt : Int)) (kt : 0 < x → nf_V L d cc own nL ret r S2 tgt ls st S) (kf : ¬ (0 < x) → nf_V L d cc own nL ret r S2 (pc + 3) ls st S) : nf_V L d cc own nL ret r S2 pc ls (.int x :: st) S :=
  fun p l e s m args below meth c H locs la hC hH hl => lv_if_gt hC.1 hC.2.1 dg ht (fun h => kt h p l e s m args below meth c H locs la hC hH hl) (fun h => kf h p l e s m args below meth c H locs la hC hH hl)
theorem nf_if_le {off : Int} {x : Int32} (tgt : Nat) (dg : decode cc pc = .ok (.ifCond .le off, 3)) (ht : (pc : Int) + off = (tgt : Int)) (kt : x ≤ 0 → nf_V L d cc own nL ret r S2 tgt ls st S) (kf : ¬ (x ≤ 0) → nf_V L d cc own nL ret r S2 (pc + 3) ls st S) : nf_V L d cc own nL ret r S2 pc ls (.int x :: st) S :=
  fun p l e s m args below meth c H locs la hC hH hl => lv_if_le hC.1 hC.2.1 dg ht (fun h => kt h p l e s m args below meth c H locs la hC hH hl) (fun h => kf h p l e s m args below meth c H locs la hC hH hl)
theorem nf_ic_eq {off : Int} {x y : Int32} (tgt : Nat) (dg : decode cc pc = .ok (.if_icmp .eq off, 3)) (ht : (pc : Int) + off = (tgt : Int)) (kt : x = y → nf_V L d cc own nL ret r S2 tgt ls st S) (kf : ¬ (x = y) → nf_V L d cc own nL ret r S2 (pc + 3) ls st S) : nf_V L d cc own nL ret r S2 pc ls (.int y :: .int x :: st) S :=
  fun p l e s m args below meth c H locs la hC hH hl => lv_icmp_eq hC.1 hC.2.1 dg ht (fun h => kt h p l e s m args below meth c H locs la hC hH hl) (fun h => kf h p l e s m args below meth c H locs la hC hH hl)
theorem nf_ic_ne {off : Int} {x y : Int32} (tgt : Nat) (dg : decode cc pc = .ok (.if_icmp .ne off, 3)) (ht : (pc : Int) + off = (tgt : Int)) (kt : ¬ x = y → nf_V L d cc own nL ret r S2 tgt ls st S) (kf : x = y → nf_V L d cc own nL ret r S2 (pc + 3) ls st S) : nf_V L d cc own nL ret r S2 pc ls (.int y :: .int x :: st) S :=
  fun p l e s m args below meth c H locs la hC hH hl => lv_icmp_ne hC.1 hC.2.1 dg ht (fun h => kt h p l e s m args below meth c H locs la hC hH hl) (fun h => kf h p l e s m args below meth c H locs la hC hH hl)
theorem nf_ic_lt {off : Int} {x y : Int32} (tgt : Nat) (dg : decode cc pc = .ok (.if_icmp .lt off, 3)) (ht : (pc : Int) + off = (tgt : Int)) (kt : x < y → nf_V L d cc own nL ret r S2 tgt ls st S) (kf : ¬ (x < y) → nf_V L d cc own nL ret r S2 (pc + 3) ls st S) : nf_V L d cc own nL ret r S2 pc ls (.int y :: .int x :: st) S :=
  fun p l e s m args below meth c H locs la hC hH hl => lv_icmp_lt hC.1 hC.2.1 dg ht (fun h => kt h p l e s m args below meth c H locs la hC hH hl) (fun h => kf h p l e s m args below meth c H locs la hC hH hl)
theorem nf_ic_ge {off : Int} {x y : Int32} (tgt : Nat) (dg : decode cc pc = .ok (.if_icmp .ge off, 3)) (ht : (pc : Int) + off = (tgt : Int)) (kt : y ≤ x → nf_V L d cc own nL ret r S2 tgt ls st S) (kf : ¬ (y ≤ x) → nf_V L d cc own nL ret r S2 (pc + 3) ls st S) : nf_V L d cc own nL ret r S2 pc ls (.int y :: .int x :: st) S :=
  fun p l e s m args below meth c H locs la hC hH hl => lv_icmp_ge hC.1 hC.2.1 dg ht (fun h => kt h p l e s m args below meth c H locs la hC hH hl) (fun h => kf h p l e s m args below meth c H locs la hC hH hl)
theorem nf_ic_gt {off : Int} {x y : Int32} (tgt : Nat) (dg : decode cc pc = .ok (.if_icmp .gt off, 3)) (ht : (pc : Int) + off = (tgt : Int)) (kt : y < x → nf_V L d cc own nL ret r S2 tgt ls st S) (kf : ¬ (y < x) → nf_V L d cc own nL ret r S2 (pc + 3) ls st S) : nf_V L d cc own nL ret r S2 pc ls (.int y :: .int x :: st) S :=
  fun p l e s m args below meth c H locs la hC hH hl => lv_icmp_gt hC.1 hC.2.1 dg ht (fun h => kt h p l e s m args below meth c H locs la hC hH hl) (fun h => kf h p l e s m args below meth c H locs la hC hH hl)
theorem nf_ic_le {off : Int} {x y : Int32} (tgt : Nat) (dg : decode cc pc = .ok (.if_icmp .le off, 3)) (ht : (pc : Int) + off = (tgt : Int)) (kt : x ≤ y → nf_V L d cc own nL ret r S2 tgt ls st S) (kf : ¬ (x ≤ y) → nf_V L d cc own nL ret r S2 (pc + 3) ls st S) : nf_V L d cc own nL ret r S2 pc ls (.int y :: .int x :: st) S :=
  fun p l e s m args below meth c H locs la hC hH hl => lv_icmp_le hC.1 hC.2.1 dg ht (fun h => kt h p l e s m args below meth c H locs la hC hH hl) (fun h => kf h p l e s m args below meth c H locs la hC hH hl)
theorem nf_isn {k0 : Fin 4} {x : Int32} (dg : decode cc pc = .ok (.istore_n k0, 1)) (h2 : ∀ o, ls[(k0 : Nat) - 1]? = some o → 0 < (k0 : Nat) → nf_c1 o = true) (hn : (k0 : Nat) < nL) (hll : (k0 : Nat) < ls.length) (k : nf_V L d cc own nL ret r S2 (pc + 1) (ls.set (k0 : Nat) (some (.int x))) st S) : nf_V L d cc own nL ret r S2 pc ls (.int x :: st) S :=
  fun p l e s m args below meth c H locs la hC hH hl => lv_istore_n hC.1 hC.2.1 dg rfl hl hn rfl (fun la2 hl2 => k p l e s m args below meth c H locs la2 hC hH (nf_lh.st1 h2 hll hl2))
theorem nf_isg {i : Nat} {x : Int32} (dg : decode cc pc = .ok (.istore i, 2)) (h2 : ∀ o, ls[i - 1]? = some o → 0 < i → nf_c1 o = true) (hn : i < nL) (hll : i < ls.length) (k : nf_V L d cc own nL ret r S2 (pc + 2) (ls.set i (some (.int x))) st S) : nf_V L d cc own nL ret r S2 pc ls (.int x :: st) S :=
  fun p l e s m args below meth c H locs la hC hH hl => lv_istore hC.1 hC.2.1 dg hl hn rfl (fun la2 hl2 => k p l e s m args below meth c H locs la2 hC hH (nf_lh.st1 h2 hll hl2))
theorem nf_asn {k0 : Fin 4} {x : Nat} (dg : decode cc pc = .ok (.astore_n k0, 1)) (h2 : ∀ o, ls[(k0 : Nat) - 1]? = some o → 0 < (k0 : Nat) → nf_c1 o = true) (hn : (k0 : Nat) < nL) (hll : (k0 : Nat) < ls.length) (k : nf_V L d cc own nL ret r S2 (pc + 1) (ls.set (k0 : Nat) (some (.ref x))) st S) : nf_V L d cc own nL ret r S2 pc ls (.ref x :: st) S :=
  fun p l e s m args below meth c H locs la hC hH hl => lv_astore_n hC.1 hC.2.1 dg rfl hl hn rfl (fun la2 hl2 => k p l e s m args below meth c H locs la2 hC hH (nf_lh.st1 h2 hll hl2))
theorem nf_asg {i : Nat} {x : Nat} (dg : decode cc pc = .ok (.astore i, 2)) (h2 : ∀ o, ls[i - 1]? = some o → 0 < i → nf_c1 o = true) (hn : i < nL) (hll : i < ls.length) (k : nf_V L d cc own nL ret r S2 (pc + 2) (ls.set i (some (.ref x))) st S) : nf_V L d cc own nL ret r S2 pc ls (.ref x :: st) S :=
  fun p l e s m args below meth c H locs la hC hH hl => lv_astore hC.1 hC.2.1 dg hl hn rfl (fun la2 hl2 => k p l e s m args below meth c H locs la2 hC hH (nf_lh.st1 h2 hll hl2))
theorem nf_lsn {k0 : Fin 4} {x : Int64} (dg : decode cc pc = .ok (.lstore_n k0, 1)) (h2 : ∀ o, ls[(k0 : Nat) - 1]? = some o → 0 < (k0 : Nat) → nf_c1 o = true) (hn : (k0 : Nat) + 1 < nL) (hll : (k0 : Nat) < ls.length) (k : nf_V L d cc own nL ret r S2 (pc + 1) ((ls.set (k0 : Nat) (some (.long x))).set ((k0 : Nat) + 1) none) st S) : nf_V L d cc own nL ret r S2 pc ls (.long x :: st) S :=
  fun p l e s m args below meth c H locs la hC hH hl => lv_lstore_n hC.1 hC.2.1 dg rfl hl hn rfl (fun la2 hl2 => k p l e s m args below meth c H locs la2 hC hH (nf_lh.st2 h2 hll hl2))
theorem nf_lsg {i : Nat} {x : Int64} (dg : decode cc pc = .ok (.lstore i, 2)) (h2 : ∀ o, ls[i - 1]? = some o → 0 < i → nf_c1 o = true) (hn : i + 1 < nL) (hll : i < ls.length) (k : nf_V L d cc own nL ret r S2 (pc + 2) ((ls.set i (some (.long x))).set (i + 1) none) st S) : nf_V L d cc own nL ret r S2 pc ls (.long x :: st) S :=
  fun p l e s m args below meth c H locs la hC hH hl => lv_lstore hC.1 hC.2.1 dg hl hn rfl (fun la2 hl2 => k p l e s m args below meth c H locs la2 hC hH (nf_lh.st2 h2 hll hl2))
theorem nf_iincg {i : Nat} {n : Int} {x v : Int32} (dg : decode cc pc = .ok (.iinc i n, 3)) (hx : ls[i]? = some (some (.int x))) (hv : x + Int32.ofInt n = v) (h2 : ∀ o, ls[i - 1]? = some o → 0 < i → nf_c1 o = true) (hn : i < nL) (hll : i < ls.length) (k : nf_V L d cc own nL ret r S2 (pc + 3) (ls.set i (some (.int v))) st S) : nf_V L d cc own nL ret r S2 pc ls st S := by
  intro p l e s m args below meth c H locs la hC hH hl
  obtain ⟨j, hj⟩ := List.getElem?_of_mem ((nf_prs_mem ls 0 (i, .int x)).mpr ⟨i, by simp, hx⟩)
  exact lv_iinc hC.1 hC.2.1 dg hl hj hv hn rfl (fun la2 hl2 => k p l e s m args below meth c H locs la2 hC hH (nf_lh.st1 h2 hll hl2))
theorem nf_is0 {o : Option Value} {tl : List (Option Value)} {x : Int32} (dg : decode cc pc = .ok (.istore_n 0, 1)) (hn : 0 < nL) (k : nf_V L d cc own nL ret r S2 (pc + 1) (some (.int x) :: tl) st S) : nf_V L d cc own nL ret r S2 pc (o :: tl) (.int x :: st) S :=
  nf_isn (k0 := 0) (ls := o :: tl) dg (fun o _ h => absurd h (Nat.lt_irrefl 0)) hn (by show (0 : Nat) < (o :: tl).length; simp) k
theorem nf_is1 {o0 o : Option Value} {tl : List (Option Value)} {x : Int32} (dg : decode cc pc = .ok (.istore_n 1, 1)) (hc1 : nf_c1 o0 = true) (hn : 1 < nL) (k : nf_V L d cc own nL ret r S2 (pc + 1) (o0 :: some (.int x) :: tl) st S) : nf_V L d cc own nL ret r S2 pc (o0 :: o :: tl) (.int x :: st) S :=
  nf_isn (k0 := 1) (ls := o0 :: o :: tl) dg (fun o h _ => by have h9 := Option.some.inj h; rw [← h9]; exact hc1) hn (by show (1 : Nat) < (o0 :: o :: tl).length; simp) k
theorem nf_is2 {o0 o1 o : Option Value} {tl : List (Option Value)} {x : Int32} (dg : decode cc pc = .ok (.istore_n 2, 1)) (hc1 : nf_c1 o1 = true) (hn : 2 < nL) (k : nf_V L d cc own nL ret r S2 (pc + 1) (o0 :: o1 :: some (.int x) :: tl) st S) : nf_V L d cc own nL ret r S2 pc (o0 :: o1 :: o :: tl) (.int x :: st) S :=
  nf_isn (k0 := 2) (ls := o0 :: o1 :: o :: tl) dg (fun o h _ => by have h9 := Option.some.inj h; rw [← h9]; exact hc1) hn (by show (2 : Nat) < (o0 :: o1 :: o :: tl).length; simp) k
theorem nf_is3 {o0 o1 o2 o : Option Value} {tl : List (Option Value)} {x : Int32} (dg : decode cc pc = .ok (.istore_n 3, 1)) (hc1 : nf_c1 o2 = true) (hn : 3 < nL) (k : nf_V L d cc own nL ret r S2 (pc + 1) (o0 :: o1 :: o2 :: some (.int x) :: tl) st S) : nf_V L d cc own nL ret r S2 pc (o0 :: o1 :: o2 :: o :: tl) (.int x :: st) S :=
  nf_isn (k0 := 3) (ls := o0 :: o1 :: o2 :: o :: tl) dg (fun o h _ => by have h9 := Option.some.inj h; rw [← h9]; exact hc1) hn (by show (3 : Nat) < (o0 :: o1 :: o2 :: o :: tl).length; simp) k
theorem nf_is4 {o0 o1 o2 o3 o : Option Value} {tl : List (Option Value)} {x : Int32} (dg : decode cc pc = .ok (.istore 4, 2)) (hc1 : nf_c1 o3 = true) (hn : 4 < nL) (k : nf_V L d cc own nL ret r S2 (pc + 2) (o0 :: o1 :: o2 :: o3 :: some (.int x) :: tl) st S) : nf_V L d cc own nL ret r S2 pc (o0 :: o1 :: o2 :: o3 :: o :: tl) (.int x :: st) S :=
  nf_isg (ls := o0 :: o1 :: o2 :: o3 :: o :: tl) dg (fun o h _ => by have h9 := Option.some.inj h; rw [← h9]; exact hc1) hn (by show (4 : Nat) < (o0 :: o1 :: o2 :: o3 :: o :: tl).length; simp) k
theorem nf_is5 {o0 o1 o2 o3 o4 o : Option Value} {tl : List (Option Value)} {x : Int32} (dg : decode cc pc = .ok (.istore 5, 2)) (hc1 : nf_c1 o4 = true) (hn : 5 < nL) (k : nf_V L d cc own nL ret r S2 (pc + 2) (o0 :: o1 :: o2 :: o3 :: o4 :: some (.int x) :: tl) st S) : nf_V L d cc own nL ret r S2 pc (o0 :: o1 :: o2 :: o3 :: o4 :: o :: tl) (.int x :: st) S :=
  nf_isg (ls := o0 :: o1 :: o2 :: o3 :: o4 :: o :: tl) dg (fun o h _ => by have h9 := Option.some.inj h; rw [← h9]; exact hc1) hn (by show (5 : Nat) < (o0 :: o1 :: o2 :: o3 :: o4 :: o :: tl).length; simp) k
theorem nf_is6 {o0 o1 o2 o3 o4 o5 o : Option Value} {tl : List (Option Value)} {x : Int32} (dg : decode cc pc = .ok (.istore 6, 2)) (hc1 : nf_c1 o5 = true) (hn : 6 < nL) (k : nf_V L d cc own nL ret r S2 (pc + 2) (o0 :: o1 :: o2 :: o3 :: o4 :: o5 :: some (.int x) :: tl) st S) : nf_V L d cc own nL ret r S2 pc (o0 :: o1 :: o2 :: o3 :: o4 :: o5 :: o :: tl) (.int x :: st) S :=
  nf_isg (ls := o0 :: o1 :: o2 :: o3 :: o4 :: o5 :: o :: tl) dg (fun o h _ => by have h9 := Option.some.inj h; rw [← h9]; exact hc1) hn (by show (6 : Nat) < (o0 :: o1 :: o2 :: o3 :: o4 :: o5 :: o :: tl).length; simp) k
theorem nf_is7 {o0 o1 o2 o3 o4 o5 o6 o : Option Value} {tl : List (Option Value)} {x : Int32} (dg : decode cc pc = .ok (.istore 7, 2)) (hc1 : nf_c1 o6 = true) (hn : 7 < nL) (k : nf_V L d cc own nL ret r S2 (pc + 2) (o0 :: o1 :: o2 :: o3 :: o4 :: o5 :: o6 :: some (.int x) :: tl) st S) : nf_V L d cc own nL ret r S2 pc (o0 :: o1 :: o2 :: o3 :: o4 :: o5 :: o6 :: o :: tl) (.int x :: st) S :=
  nf_isg (ls := o0 :: o1 :: o2 :: o3 :: o4 :: o5 :: o6 :: o :: tl) dg (fun o h _ => by have h9 := Option.some.inj h; rw [← h9]; exact hc1) hn (by show (7 : Nat) < (o0 :: o1 :: o2 :: o3 :: o4 :: o5 :: o6 :: o :: tl).length; simp) k
theorem nf_is8 {o0 o1 o2 o3 o4 o5 o6 o7 o : Option Value} {tl : List (Option Value)} {x : Int32} (dg : decode cc pc = .ok (.istore 8, 2)) (hc1 : nf_c1 o7 = true) (hn : 8 < nL) (k : nf_V L d cc own nL ret r S2 (pc + 2) (o0 :: o1 :: o2 :: o3 :: o4 :: o5 :: o6 :: o7 :: some (.int x) :: tl) st S) : nf_V L d cc own nL ret r S2 pc (o0 :: o1 :: o2 :: o3 :: o4 :: o5 :: o6 :: o7 :: o :: tl) (.int x :: st) S :=
  nf_isg (ls := o0 :: o1 :: o2 :: o3 :: o4 :: o5 :: o6 :: o7 :: o :: tl) dg (fun o h _ => by have h9 := Option.some.inj h; rw [← h9]; exact hc1) hn (by show (8 : Nat) < (o0 :: o1 :: o2 :: o3 :: o4 :: o5 :: o6 :: o7 :: o :: tl).length; simp) k
theorem nf_is9 {o0 o1 o2 o3 o4 o5 o6 o7 o8 o : Option Value} {tl : List (Option Value)} {x : Int32} (dg : decode cc pc = .ok (.istore 9, 2)) (hc1 : nf_c1 o8 = true) (hn : 9 < nL) (k : nf_V L d cc own nL ret r S2 (pc + 2) (o0 :: o1 :: o2 :: o3 :: o4 :: o5 :: o6 :: o7 :: o8 :: some (.int x) :: tl) st S) : nf_V L d cc own nL ret r S2 pc (o0 :: o1 :: o2 :: o3 :: o4 :: o5 :: o6 :: o7 :: o8 :: o :: tl) (.int x :: st) S :=
  nf_isg (ls := o0 :: o1 :: o2 :: o3 :: o4 :: o5 :: o6 :: o7 :: o8 :: o :: tl) dg (fun o h _ => by have h9 := Option.some.inj h; rw [← h9]; exact hc1) hn (by show (9 : Nat) < (o0 :: o1 :: o2 :: o3 :: o4 :: o5 :: o6 :: o7 :: o8 :: o :: tl).length; simp) k
theorem nf_as0 {o : Option Value} {tl : List (Option Value)} {x : Nat} (dg : decode cc pc = .ok (.astore_n 0, 1)) (hn : 0 < nL) (k : nf_V L d cc own nL ret r S2 (pc + 1) (some (.ref x) :: tl) st S) : nf_V L d cc own nL ret r S2 pc (o :: tl) (.ref x :: st) S :=
  nf_asn (k0 := 0) (ls := o :: tl) dg (fun o _ h => absurd h (Nat.lt_irrefl 0)) hn (by show (0 : Nat) < (o :: tl).length; simp) k
theorem nf_as1 {o0 o : Option Value} {tl : List (Option Value)} {x : Nat} (dg : decode cc pc = .ok (.astore_n 1, 1)) (hc1 : nf_c1 o0 = true) (hn : 1 < nL) (k : nf_V L d cc own nL ret r S2 (pc + 1) (o0 :: some (.ref x) :: tl) st S) : nf_V L d cc own nL ret r S2 pc (o0 :: o :: tl) (.ref x :: st) S :=
  nf_asn (k0 := 1) (ls := o0 :: o :: tl) dg (fun o h _ => by have h9 := Option.some.inj h; rw [← h9]; exact hc1) hn (by show (1 : Nat) < (o0 :: o :: tl).length; simp) k
theorem nf_as2 {o0 o1 o : Option Value} {tl : List (Option Value)} {x : Nat} (dg : decode cc pc = .ok (.astore_n 2, 1)) (hc1 : nf_c1 o1 = true) (hn : 2 < nL) (k : nf_V L d cc own nL ret r S2 (pc + 1) (o0 :: o1 :: some (.ref x) :: tl) st S) : nf_V L d cc own nL ret r S2 pc (o0 :: o1 :: o :: tl) (.ref x :: st) S :=
  nf_asn (k0 := 2) (ls := o0 :: o1 :: o :: tl) dg (fun o h _ => by have h9 := Option.some.inj h; rw [← h9]; exact hc1) hn (by show (2 : Nat) < (o0 :: o1 :: o :: tl).length; simp) k
theorem nf_as3 {o0 o1 o2 o : Option Value} {tl : List (Option Value)} {x : Nat} (dg : decode cc pc = .ok (.astore_n 3, 1)) (hc1 : nf_c1 o2 = true) (hn : 3 < nL) (k : nf_V L d cc own nL ret r S2 (pc + 1) (o0 :: o1 :: o2 :: some (.ref x) :: tl) st S) : nf_V L d cc own nL ret r S2 pc (o0 :: o1 :: o2 :: o :: tl) (.ref x :: st) S :=
  nf_asn (k0 := 3) (ls := o0 :: o1 :: o2 :: o :: tl) dg (fun o h _ => by have h9 := Option.some.inj h; rw [← h9]; exact hc1) hn (by show (3 : Nat) < (o0 :: o1 :: o2 :: o :: tl).length; simp) k
theorem nf_as4 {o0 o1 o2 o3 o : Option Value} {tl : List (Option Value)} {x : Nat} (dg : decode cc pc = .ok (.astore 4, 2)) (hc1 : nf_c1 o3 = true) (hn : 4 < nL) (k : nf_V L d cc own nL ret r S2 (pc + 2) (o0 :: o1 :: o2 :: o3 :: some (.ref x) :: tl) st S) : nf_V L d cc own nL ret r S2 pc (o0 :: o1 :: o2 :: o3 :: o :: tl) (.ref x :: st) S :=
  nf_asg (ls := o0 :: o1 :: o2 :: o3 :: o :: tl) dg (fun o h _ => by have h9 := Option.some.inj h; rw [← h9]; exact hc1) hn (by show (4 : Nat) < (o0 :: o1 :: o2 :: o3 :: o :: tl).length; simp) k
theorem nf_as5 {o0 o1 o2 o3 o4 o : Option Value} {tl : List (Option Value)} {x : Nat} (dg : decode cc pc = .ok (.astore 5, 2)) (hc1 : nf_c1 o4 = true) (hn : 5 < nL) (k : nf_V L d cc own nL ret r S2 (pc + 2) (o0 :: o1 :: o2 :: o3 :: o4 :: some (.ref x) :: tl) st S) : nf_V L d cc own nL ret r S2 pc (o0 :: o1 :: o2 :: o3 :: o4 :: o :: tl) (.ref x :: st) S :=
  nf_asg (ls := o0 :: o1 :: o2 :: o3 :: o4 :: o :: tl) dg (fun o h _ => by have h9 := Option.some.inj h; rw [← h9]; exact hc1) hn (by show (5 : Nat) < (o0 :: o1 :: o2 :: o3 :: o4 :: o :: tl).length; simp) k
theorem nf_as6 {o0 o1 o2 o3 o4 o5 o : Option Value} {tl : List (Option Value)} {x : Nat} (dg : decode cc pc = .ok (.astore 6, 2)) (hc1 : nf_c1 o5 = true) (hn : 6 < nL) (k : nf_V L d cc own nL ret r S2 (pc + 2) (o0 :: o1 :: o2 :: o3 :: o4 :: o5 :: some (.ref x) :: tl) st S) : nf_V L d cc own nL ret r S2 pc (o0 :: o1 :: o2 :: o3 :: o4 :: o5 :: o :: tl) (.ref x :: st) S :=
  nf_asg (ls := o0 :: o1 :: o2 :: o3 :: o4 :: o5 :: o :: tl) dg (fun o h _ => by have h9 := Option.some.inj h; rw [← h9]; exact hc1) hn (by show (6 : Nat) < (o0 :: o1 :: o2 :: o3 :: o4 :: o5 :: o :: tl).length; simp) k
theorem nf_as7 {o0 o1 o2 o3 o4 o5 o6 o : Option Value} {tl : List (Option Value)} {x : Nat} (dg : decode cc pc = .ok (.astore 7, 2)) (hc1 : nf_c1 o6 = true) (hn : 7 < nL) (k : nf_V L d cc own nL ret r S2 (pc + 2) (o0 :: o1 :: o2 :: o3 :: o4 :: o5 :: o6 :: some (.ref x) :: tl) st S) : nf_V L d cc own nL ret r S2 pc (o0 :: o1 :: o2 :: o3 :: o4 :: o5 :: o6 :: o :: tl) (.ref x :: st) S :=
  nf_asg (ls := o0 :: o1 :: o2 :: o3 :: o4 :: o5 :: o6 :: o :: tl) dg (fun o h _ => by have h9 := Option.some.inj h; rw [← h9]; exact hc1) hn (by show (7 : Nat) < (o0 :: o1 :: o2 :: o3 :: o4 :: o5 :: o6 :: o :: tl).length; simp) k
theorem nf_as8 {o0 o1 o2 o3 o4 o5 o6 o7 o : Option Value} {tl : List (Option Value)} {x : Nat} (dg : decode cc pc = .ok (.astore 8, 2)) (hc1 : nf_c1 o7 = true) (hn : 8 < nL) (k : nf_V L d cc own nL ret r S2 (pc + 2) (o0 :: o1 :: o2 :: o3 :: o4 :: o5 :: o6 :: o7 :: some (.ref x) :: tl) st S) : nf_V L d cc own nL ret r S2 pc (o0 :: o1 :: o2 :: o3 :: o4 :: o5 :: o6 :: o7 :: o :: tl) (.ref x :: st) S :=
  nf_asg (ls := o0 :: o1 :: o2 :: o3 :: o4 :: o5 :: o6 :: o7 :: o :: tl) dg (fun o h _ => by have h9 := Option.some.inj h; rw [← h9]; exact hc1) hn (by show (8 : Nat) < (o0 :: o1 :: o2 :: o3 :: o4 :: o5 :: o6 :: o7 :: o :: tl).length; simp) k
theorem nf_as9 {o0 o1 o2 o3 o4 o5 o6 o7 o8 o : Option Value} {tl : List (Option Value)} {x : Nat} (dg : decode cc pc = .ok (.astore 9, 2)) (hc1 : nf_c1 o8 = true) (hn : 9 < nL) (k : nf_V L d cc own nL ret r S2 (pc + 2) (o0 :: o1 :: o2 :: o3 :: o4 :: o5 :: o6 :: o7 :: o8 :: some (.ref x) :: tl) st S) : nf_V L d cc own nL ret r S2 pc (o0 :: o1 :: o2 :: o3 :: o4 :: o5 :: o6 :: o7 :: o8 :: o :: tl) (.ref x :: st) S :=
  nf_asg (ls := o0 :: o1 :: o2 :: o3 :: o4 :: o5 :: o6 :: o7 :: o8 :: o :: tl) dg (fun o h _ => by have h9 := Option.some.inj h; rw [← h9]; exact hc1) hn (by show (9 : Nat) < (o0 :: o1 :: o2 :: o3 :: o4 :: o5 :: o6 :: o7 :: o8 :: o :: tl).length; simp) k
theorem nf_ls0 {o oo : Option Value} {tl : List (Option Value)} {x : Int64} (dg : decode cc pc = .ok (.lstore_n 0, 1)) (hn : 0 + 1 < nL) (k : nf_V L d cc own nL ret r S2 (pc + 1) (some (.long x) :: none :: tl) st S) : nf_V L d cc own nL ret r S2 pc (o :: oo :: tl) (.long x :: st) S :=
  nf_lsn (k0 := 0) (ls := o :: oo :: tl) dg (fun o _ h => absurd h (Nat.lt_irrefl 0)) hn (by show (0 : Nat) < (o :: oo :: tl).length; simp) k
theorem nf_ls1 {o0 o oo : Option Value} {tl : List (Option Value)} {x : Int64} (dg : decode cc pc = .ok (.lstore_n 1, 1)) (hc1 : nf_c1 o0 = true) (hn : 1 + 1 < nL) (k : nf_V L d cc own nL ret r S2 (pc + 1) (o0 :: some (.long x) :: none :: tl) st S) : nf_V L d cc own nL ret r S2 pc (o0 :: o :: oo :: tl) (.long x :: st) S :=
  nf_lsn (k0 := 1) (ls := o0 :: o :: oo :: tl) dg (fun o h _ => by have h9 := Option.some.inj h; rw [← h9]; exact hc1) hn (by show (1 : Nat) < (o0 :: o :: oo :: tl).length; simp) k
theorem nf_ls2 {o0 o1 o oo : Option Value} {tl : List (Option Value)} {x : Int64} (dg : decode cc pc = .ok (.lstore_n 2, 1)) (hc1 : nf_c1 o1 = true) (hn : 2 + 1 < nL) (k : nf_V L d cc own nL ret r S2 (pc + 1) (o0 :: o1 :: some (.long x) :: none :: tl) st S) : nf_V L d cc own nL ret r S2 pc (o0 :: o1 :: o :: oo :: tl) (.long x :: st) S :=
  nf_lsn (k0 := 2) (ls := o0 :: o1 :: o :: oo :: tl) dg (fun o h _ => by have h9 := Option.some.inj h; rw [← h9]; exact hc1) hn (by show (2 : Nat) < (o0 :: o1 :: o :: oo :: tl).length; simp) k
theorem nf_ls3 {o0 o1 o2 o oo : Option Value} {tl : List (Option Value)} {x : Int64} (dg : decode cc pc = .ok (.lstore_n 3, 1)) (hc1 : nf_c1 o2 = true) (hn : 3 + 1 < nL) (k : nf_V L d cc own nL ret r S2 (pc + 1) (o0 :: o1 :: o2 :: some (.long x) :: none :: tl) st S) : nf_V L d cc own nL ret r S2 pc (o0 :: o1 :: o2 :: o :: oo :: tl) (.long x :: st) S :=
  nf_lsn (k0 := 3) (ls := o0 :: o1 :: o2 :: o :: oo :: tl) dg (fun o h _ => by have h9 := Option.some.inj h; rw [← h9]; exact hc1) hn (by show (3 : Nat) < (o0 :: o1 :: o2 :: o :: oo :: tl).length; simp) k
theorem nf_ls4 {o0 o1 o2 o3 o oo : Option Value} {tl : List (Option Value)} {x : Int64} (dg : decode cc pc = .ok (.lstore 4, 2)) (hc1 : nf_c1 o3 = true) (hn : 4 + 1 < nL) (k : nf_V L d cc own nL ret r S2 (pc + 2) (o0 :: o1 :: o2 :: o3 :: some (.long x) :: none :: tl) st S) : nf_V L d cc own nL ret r S2 pc (o0 :: o1 :: o2 :: o3 :: o :: oo :: tl) (.long x :: st) S :=
  nf_lsg (ls := o0 :: o1 :: o2 :: o3 :: o :: oo :: tl) dg (fun o h _ => by have h9 := Option.some.inj h; rw [← h9]; exact hc1) hn (by show (4 : Nat) < (o0 :: o1 :: o2 :: o3 :: o :: oo :: tl).length; simp) k
theorem nf_ls5 {o0 o1 o2 o3 o4 o oo : Option Value} {tl : List (Option Value)} {x : Int64} (dg : decode cc pc = .ok (.lstore 5, 2)) (hc1 : nf_c1 o4 = true) (hn : 5 + 1 < nL) (k : nf_V L d cc own nL ret r S2 (pc + 2) (o0 :: o1 :: o2 :: o3 :: o4 :: some (.long x) :: none :: tl) st S) : nf_V L d cc own nL ret r S2 pc (o0 :: o1 :: o2 :: o3 :: o4 :: o :: oo :: tl) (.long x :: st) S :=
  nf_lsg (ls := o0 :: o1 :: o2 :: o3 :: o4 :: o :: oo :: tl) dg (fun o h _ => by have h9 := Option.some.inj h; rw [← h9]; exact hc1) hn (by show (5 : Nat) < (o0 :: o1 :: o2 :: o3 :: o4 :: o :: oo :: tl).length; simp) k
theorem nf_ls6 {o0 o1 o2 o3 o4 o5 o oo : Option Value} {tl : List (Option Value)} {x : Int64} (dg : decode cc pc = .ok (.lstore 6, 2)) (hc1 : nf_c1 o5 = true) (hn : 6 + 1 < nL) (k : nf_V L d cc own nL ret r S2 (pc + 2) (o0 :: o1 :: o2 :: o3 :: o4 :: o5 :: some (.long x) :: none :: tl) st S) : nf_V L d cc own nL ret r S2 pc (o0 :: o1 :: o2 :: o3 :: o4 :: o5 :: o :: oo :: tl) (.long x :: st) S :=
  nf_lsg (ls := o0 :: o1 :: o2 :: o3 :: o4 :: o5 :: o :: oo :: tl) dg (fun o h _ => by have h9 := Option.some.inj h; rw [← h9]; exact hc1) hn (by show (6 : Nat) < (o0 :: o1 :: o2 :: o3 :: o4 :: o5 :: o :: oo :: tl).length; simp) k
theorem nf_ls7 {o0 o1 o2 o3 o4 o5 o6 o oo : Option Value} {tl : List (Option Value)} {x : Int64} (dg : decode cc pc = .ok (.lstore 7, 2)) (hc1 : nf_c1 o6 = true) (hn : 7 + 1 < nL) (k : nf_V L d cc own nL ret r S2 (pc + 2) (o0 :: o1 :: o2 :: o3 :: o4 :: o5 :: o6 :: some (.long x) :: none :: tl) st S) : nf_V L d cc own nL ret r S2 pc (o0 :: o1 :: o2 :: o3 :: o4 :: o5 :: o6 :: o :: oo :: tl) (.long x :: st) S :=
  nf_lsg (ls := o0 :: o1 :: o2 :: o3 :: o4 :: o5 :: o6 :: o :: oo :: tl) dg (fun o h _ => by have h9 := Option.some.inj h; rw [← h9]; exact hc1) hn (by show (7 : Nat) < (o0 :: o1 :: o2 :: o3 :: o4 :: o5 :: o6 :: o :: oo :: tl).length; simp) k
theorem nf_ls8 {o0 o1 o2 o3 o4 o5 o6 o7 o oo : Option Value} {tl : List (Option Value)} {x : Int64} (dg : decode cc pc = .ok (.lstore 8, 2)) (hc1 : nf_c1 o7 = true) (hn : 8 + 1 < nL) (k : nf_V L d cc own nL ret r S2 (pc + 2) (o0 :: o1 :: o2 :: o3 :: o4 :: o5 :: o6 :: o7 :: some (.long x) :: none :: tl) st S) : nf_V L d cc own nL ret r S2 pc (o0 :: o1 :: o2 :: o3 :: o4 :: o5 :: o6 :: o7 :: o :: oo :: tl) (.long x :: st) S :=
  nf_lsg (ls := o0 :: o1 :: o2 :: o3 :: o4 :: o5 :: o6 :: o7 :: o :: oo :: tl) dg (fun o h _ => by have h9 := Option.some.inj h; rw [← h9]; exact hc1) hn (by show (8 : Nat) < (o0 :: o1 :: o2 :: o3 :: o4 :: o5 :: o6 :: o7 :: o :: oo :: tl).length; simp) k
theorem nf_ls9 {o0 o1 o2 o3 o4 o5 o6 o7 o8 o oo : Option Value} {tl : List (Option Value)} {x : Int64} (dg : decode cc pc = .ok (.lstore 9, 2)) (hc1 : nf_c1 o8 = true) (hn : 9 + 1 < nL) (k : nf_V L d cc own nL ret r S2 (pc + 2) (o0 :: o1 :: o2 :: o3 :: o4 :: o5 :: o6 :: o7 :: o8 :: some (.long x) :: none :: tl) st S) : nf_V L d cc own nL ret r S2 pc (o0 :: o1 :: o2 :: o3 :: o4 :: o5 :: o6 :: o7 :: o8 :: o :: oo :: tl) (.long x :: st) S :=
  nf_lsg (ls := o0 :: o1 :: o2 :: o3 :: o4 :: o5 :: o6 :: o7 :: o8 :: o :: oo :: tl) dg (fun o h _ => by have h9 := Option.some.inj h; rw [← h9]; exact hc1) hn (by show (9 : Nat) < (o0 :: o1 :: o2 :: o3 :: o4 :: o5 :: o6 :: o7 :: o8 :: o :: oo :: tl).length; simp) k
theorem nf_iinc0 {tl : List (Option Value)} {x v : Int32} {n : Int} (dg : decode cc pc = .ok (.iinc 0 n, 3)) (hv : x + Int32.ofInt n = v) (hn : 0 < nL) (k : nf_V L d cc own nL ret r S2 (pc + 3) (some (.int v) :: tl) st S) : nf_V L d cc own nL ret r S2 pc (some (.int x) :: tl) st S :=
  nf_iincg (ls := some (.int x) :: tl) dg rfl hv (fun o _ h => absurd h (Nat.lt_irrefl 0)) hn (by simp) k
theorem nf_iinc1 {o0 : Option Value} {tl : List (Option Value)} {x v : Int32} {n : Int} (dg : decode cc pc = .ok (.iinc 1 n, 3)) (hv : x + Int32.ofInt n = v) (hc1 : nf_c1 o0 = true) (hn : 1 < nL) (k : nf_V L d cc own nL ret r S2 (pc + 3) (o0 :: some (.int v) :: tl) st S) : nf_V L d cc own nL ret r S2 pc (o0 :: some (.int x) :: tl) st S :=
  nf_iincg (ls := o0 :: some (.int x) :: tl) dg rfl hv (fun o h _ => by have h9 := Option.some.inj h; rw [← h9]; exact hc1) hn (by simp) k
theorem nf_iinc2 {o0 o1 : Option Value} {tl : List (Option Value)} {x v : Int32} {n : Int} (dg : decode cc pc = .ok (.iinc 2 n, 3)) (hv : x + Int32.ofInt n = v) (hc1 : nf_c1 o1 = true) (hn : 2 < nL) (k : nf_V L d cc own nL ret r S2 (pc + 3) (o0 :: o1 :: some (.int v) :: tl) st S) : nf_V L d cc own nL ret r S2 pc (o0 :: o1 :: some (.int x) :: tl) st S :=
  nf_iincg (ls := o0 :: o1 :: some (.int x) :: tl) dg rfl hv (fun o h _ => by have h9 := Option.some.inj h; rw [← h9]; exact hc1) hn (by simp) k
theorem nf_iinc3 {o0 o1 o2 : Option Value} {tl : List (Option Value)} {x v : Int32} {n : Int} (dg : decode cc pc = .ok (.iinc 3 n, 3)) (hv : x + Int32.ofInt n = v) (hc1 : nf_c1 o2 = true) (hn : 3 < nL) (k : nf_V L d cc own nL ret r S2 (pc + 3) (o0 :: o1 :: o2 :: some (.int v) :: tl) st S) : nf_V L d cc own nL ret r S2 pc (o0 :: o1 :: o2 :: some (.int x) :: tl) st S :=
  nf_iincg (ls := o0 :: o1 :: o2 :: some (.int x) :: tl) dg rfl hv (fun o h _ => by have h9 := Option.some.inj h; rw [← h9]; exact hc1) hn (by simp) k
theorem nf_iinc4 {o0 o1 o2 o3 : Option Value} {tl : List (Option Value)} {x v : Int32} {n : Int} (dg : decode cc pc = .ok (.iinc 4 n, 3)) (hv : x + Int32.ofInt n = v) (hc1 : nf_c1 o3 = true) (hn : 4 < nL) (k : nf_V L d cc own nL ret r S2 (pc + 3) (o0 :: o1 :: o2 :: o3 :: some (.int v) :: tl) st S) : nf_V L d cc own nL ret r S2 pc (o0 :: o1 :: o2 :: o3 :: some (.int x) :: tl) st S :=
  nf_iincg (ls := o0 :: o1 :: o2 :: o3 :: some (.int x) :: tl) dg rfl hv (fun o h _ => by have h9 := Option.some.inj h; rw [← h9]; exact hc1) hn (by simp) k
theorem nf_iinc5 {o0 o1 o2 o3 o4 : Option Value} {tl : List (Option Value)} {x v : Int32} {n : Int} (dg : decode cc pc = .ok (.iinc 5 n, 3)) (hv : x + Int32.ofInt n = v) (hc1 : nf_c1 o4 = true) (hn : 5 < nL) (k : nf_V L d cc own nL ret r S2 (pc + 3) (o0 :: o1 :: o2 :: o3 :: o4 :: some (.int v) :: tl) st S) : nf_V L d cc own nL ret r S2 pc (o0 :: o1 :: o2 :: o3 :: o4 :: some (.int x) :: tl) st S :=
  nf_iincg (ls := o0 :: o1 :: o2 :: o3 :: o4 :: some (.int x) :: tl) dg rfl hv (fun o h _ => by have h9 := Option.some.inj h; rw [← h9]; exact hc1) hn (by simp) k
theorem nf_iinc6 {o0 o1 o2 o3 o4 o5 : Option Value} {tl : List (Option Value)} {x v : Int32} {n : Int} (dg : decode cc pc = .ok (.iinc 6 n, 3)) (hv : x + Int32.ofInt n = v) (hc1 : nf_c1 o5 = true) (hn : 6 < nL) (k : nf_V L d cc own nL ret r S2 (pc + 3) (o0 :: o1 :: o2 :: o3 :: o4 :: o5 :: some (.int v) :: tl) st S) : nf_V L d cc own nL ret r S2 pc (o0 :: o1 :: o2 :: o3 :: o4 :: o5 :: some (.int x) :: tl) st S :=
  nf_iincg (ls := o0 :: o1 :: o2 :: o3 :: o4 :: o5 :: some (.int x) :: tl) dg rfl hv (fun o h _ => by have h9 := Option.some.inj h; rw [← h9]; exact hc1) hn (by simp) k
theorem nf_iinc7 {o0 o1 o2 o3 o4 o5 o6 : Option Value} {tl : List (Option Value)} {x v : Int32} {n : Int} (dg : decode cc pc = .ok (.iinc 7 n, 3)) (hv : x + Int32.ofInt n = v) (hc1 : nf_c1 o6 = true) (hn : 7 < nL) (k : nf_V L d cc own nL ret r S2 (pc + 3) (o0 :: o1 :: o2 :: o3 :: o4 :: o5 :: o6 :: some (.int v) :: tl) st S) : nf_V L d cc own nL ret r S2 pc (o0 :: o1 :: o2 :: o3 :: o4 :: o5 :: o6 :: some (.int x) :: tl) st S :=
  nf_iincg (ls := o0 :: o1 :: o2 :: o3 :: o4 :: o5 :: o6 :: some (.int x) :: tl) dg rfl hv (fun o h _ => by have h9 := Option.some.inj h; rw [← h9]; exact hc1) hn (by simp) k
theorem nf_iinc8 {o0 o1 o2 o3 o4 o5 o6 o7 : Option Value} {tl : List (Option Value)} {x v : Int32} {n : Int} (dg : decode cc pc = .ok (.iinc 8 n, 3)) (hv : x + Int32.ofInt n = v) (hc1 : nf_c1 o7 = true) (hn : 8 < nL) (k : nf_V L d cc own nL ret r S2 (pc + 3) (o0 :: o1 :: o2 :: o3 :: o4 :: o5 :: o6 :: o7 :: some (.int v) :: tl) st S) : nf_V L d cc own nL ret r S2 pc (o0 :: o1 :: o2 :: o3 :: o4 :: o5 :: o6 :: o7 :: some (.int x) :: tl) st S :=
  nf_iincg (ls := o0 :: o1 :: o2 :: o3 :: o4 :: o5 :: o6 :: o7 :: some (.int x) :: tl) dg rfl hv (fun o h _ => by have h9 := Option.some.inj h; rw [← h9]; exact hc1) hn (by simp) k
theorem nf_iinc9 {o0 o1 o2 o3 o4 o5 o6 o7 o8 : Option Value} {tl : List (Option Value)} {x v : Int32} {n : Int} (dg : decode cc pc = .ok (.iinc 9 n, 3)) (hv : x + Int32.ofInt n = v) (hc1 : nf_c1 o8 = true) (hn : 9 < nL) (k : nf_V L d cc own nL ret r S2 (pc + 3) (o0 :: o1 :: o2 :: o3 :: o4 :: o5 :: o6 :: o7 :: o8 :: some (.int v) :: tl) st S) : nf_V L d cc own nL ret r S2 pc (o0 :: o1 :: o2 :: o3 :: o4 :: o5 :: o6 :: o7 :: o8 :: some (.int x) :: tl) st S :=
  nf_iincg (ls := o0 :: o1 :: o2 :: o3 :: o4 :: o5 :: o6 :: o7 :: o8 :: some (.int x) :: tl) dg rfl hv (fun o h _ => by have h9 := Option.some.inj h; rw [← h9]; exact hc1) hn (by simp) k
theorem nf_q {s t : State} {H : Heap} {locs : List Loc} {args : Array Value} (hH : nf_Hp L S s H locs) (ht : t.heap = H) : nf_Qc L r S args s (.returned r) t :=
  ⟨rfl, by rw [ht]; exact hH.1, hH.2.F ht⟩
theorem nf_iret {v : Int32} (dg : decode cc pc = .ok (.ireturn, 1)) : nf_V L d cc own nL (some .int) (some (.int v)) S pc ls [.int v] S :=
  fun p l e s m args below meth c H locs la hC hH hl => W.iret hC.1 hC.2.1 hC.2.2.1 (fun t ht _ => nf_q hH ht) hH.2.2.2 dg hC.2.2.2.2.2.2.1
theorem nf_lret {v : Int64} (dg : decode cc pc = .ok (.lreturn, 1)) : nf_V L d cc own nL (some .long) (some (.long v)) S pc ls [.long v] S :=
  fun p l e s m args below meth c H locs la hC hH hl => W.lret hC.1 hC.2.1 hC.2.2.1 (fun t ht _ => nf_q hH ht) hH.2.2.2 dg hC.2.2.2.2.2.2.1
theorem nf_vret (dg : decode cc pc = .ok (.return_, 1)) : nf_V L d cc own nL none none S pc ls [] S :=
  fun p l e s m args below meth c H locs la hC hH hl => W.vret hC.1 hC.2.1 hC.2.2.1 (fun t ht _ => nf_q hH ht) hH.2.2.2 dg hC.2.2.2.2.2.2.1
def nf_b (b : Bool) : Int32 := if b then 1 else 0
theorem nf_zret0 (dg : decode cc pc = .ok (.ireturn, 1)) : nf_V L d cc own nL (some .boolean) (some (.int 0)) S pc ls [.int 0] S :=
  fun p l e s m args below meth c H locs la hC hH hl => W.zret hC.1 hC.2.1 hC.2.2.1 (by decide) (fun t ht _ => nf_q hH ht) hH.2.2.2 dg hC.2.2.2.2.2.2.1
theorem nf_zret1 (dg : decode cc pc = .ok (.ireturn, 1)) : nf_V L d cc own nL (some .boolean) (some (.int 1)) S pc ls [.int 1] S :=
  fun p l e s m args below meth c H locs la hC hH hl => W.zret hC.1 hC.2.1 hC.2.2.1 (by decide) (fun t ht _ => nf_q hH ht) hH.2.2.2 dg hC.2.2.2.2.2.2.1
theorem nf_zretb {b : Bool} (dg : decode cc pc = .ok (.ireturn, 1)) : nf_V L d cc own nL (some .boolean) (some (.int (nf_b b))) S pc ls [.int (nf_b b)] S := by
  cases b
  · exact nf_zret0 dg
  · exact nf_zret1 dg
/-- what is to be shown may be said otherwise -/
theorem nf_to {r' : Option Value} {S2' : nf_S} (e1 : r = r') (e2 : S2 = S2') (k : nf_V L d cc own nL ret r' S2' pc ls st S) : nf_V L d cc own nL ret r S2 pc ls st S := by rw [e1, e2]; exact k
end NfRows
end
section
def nf_all : List nf_Pos := [(0, 0, 0, 0), (6, 0, 0, 0), (8, 0, 0, 0)] ++ ((List.range 5).flatMap (fun n => [(1, n, 0, 0), (2, n, 0, 0), (3, n, 0, 0), (7, n, 0, 0)] ++ ((List.range 6).flatMap (fun h => [(4, n, 0, h), (9, n, 12, h), (9, n, 13, h)]) ++ (List.range 12).map (fun c => (9, n, c, 0)))) ++ ((List.range 6).map (fun n => (5, n, 0, 0)) ++ ([(9, 5, 10, 0), (9, 5, 11, 0)] ++ (List.range 5).map (fun x => (10, x, 0, 0)))))
set_option maxRecDepth 100000 in
theorem nf_all_nodup : nf_all.Nodup := by decide +kernel
theorem nf_all_in {q : nf_Pos} (h : nf_ok q) : q ∈ nf_all := by
  obtain ⟨k, n, c, x⟩ := q
  unfold nf_all
  match k, h with
  | 0, h => cases h; simp
  | 1, h => obtain ⟨h1, h2⟩ := h; cases h2; simp at h1; simp [h1]
  | 2, h => obtain ⟨h1, h2⟩ := h; cases h2; simp at h1; simp [h1]
  | 3, h => obtain ⟨h1, h2⟩ := h; cases h2; simp at h1; simp [h1]
  | 4, h => obtain ⟨h1, h2, h3⟩ := h; simp at h1 h2 h3; subst h2; simp [h1, h3]
  | 5, h => obtain ⟨h1, h2⟩ := h; cases h2; simp at h1; simp [h1]
  | 6, h => cases h; simp
  | 7, h => obtain ⟨h1, h2⟩ := h; cases h2; simp at h1; simp [h1]
  | 8, h => cases h; simp
  | 9, h =>
    rcases h with ⟨h1, (⟨h2, h3⟩ | ⟨h2, h3⟩)⟩ | ⟨h1, h2, h3⟩
    · simp at h1 h2 h3; subst h3; simp [h1, h2]; exact Or.inl ⟨n, h1, Or.inr rfl⟩
    · simp at h1 h2 h3; rcases h2 with rfl | rfl <;> simp [h1, h3] <;> exact ⟨n, h1, Or.inl rfl⟩
    · simp at h1 h2 h3; subst h1; subst h3; rcases h2 with rfl | rfl <;> simp
  | 10, h => obtain ⟨h1, h2⟩ := h; cases h2; simp at h1; simp [h1]
  | k + 11, h => exact absurd h (by simp [nf_ok])
theorem nf_all_ok {q : nf_Pos} (h : q ∈ nf_all) : nf_ok q := by
  unfold nf_all at h
  simp only [List.mem_append, List.mem_cons, List.not_mem_nil, or_false, List.mem_flatMap, List.mem_map, List.mem_range] at h
  rcases h with (rfl | rfl | rfl) | ⟨n, hn, (rfl | rfl | rfl | rfl) | ⟨x, hx, rfl | rfl | rfl⟩ | ⟨c, hc, rfl⟩⟩ | ⟨n, hn, rfl⟩ | (rfl | rfl) | ⟨n, hn, rfl⟩
  all_goals simp_all [nf_ok]
def nf_cs (L : nf_L) (S : nf_S) : va_W := nf_all.map (fun q => (L.2.2 q, nf_cell L S q))
theorem nf_cs_at {L : nf_L} {S : nf_S} {k : Nat} {q : nf_Pos} (h : nf_all[k]? = some q) : (nf_cs L S)[k]? = some (L.2.2 q, nf_cell L S q) := by
  unfold nf_cs; rw [List.getElem?_map, h]; rfl
theorem nf_place {q : nf_Pos} (h : nf_ok q) : ∃ k : Nat, nf_all[k]? = some q := List.getElem?_of_mem (nf_all_in h)
theorem nf_cs_of {L : nf_L} {S : nf_S} {k : Nat} {e : Nat × va_E} (h : (nf_cs L S)[k]? = some e) : ∃ q, nf_all[k]? = some q ∧ nf_ok q ∧ e = (L.2.2 q, nf_cell L S q) := by
  unfold nf_cs at h
  rw [List.getElem?_map] at h
  cases hq : nf_all[k]? with
  | none => rw [hq] at h; cases h
  | some q =>
    rw [hq] at h
    exact ⟨q, rfl, nf_all_ok (List.mem_of_getElem? hq), (Option.some.inj h).symm⟩
theorem nf_idx {i j : Nat} {q : nf_Pos} (h1 : nf_all[i]? = some q) (h2 : nf_all[j]? = some q) : i = j := by
  obtain ⟨a1, b1⟩ := List.getElem?_eq_some_iff.mp h1
  obtain ⟨a2, b2⟩ := List.getElem?_eq_some_iff.mp h2
  have hp := List.pairwise_iff_getElem.mp nf_all_nodup
  rcases Nat.lt_trichotomy i j with h | h | h
  · exact absurd (b1.trans b2.symm) (hp i j a1 a2 h)
  · exact h
  · exact absurd (b2.trans b1.symm) (hp j i a2 a1 h)
theorem nf_H.P {L : nf_L} {S : nf_S} {H : Heap} (h : nf_H L S H) : va_P L.1 vwCl (nf_cs L S) H := by
  intro k e he
  obtain ⟨q, _, hq, rfl⟩ := nf_cs_of he
  exact h q hq
theorem nf_D {L : nf_L} {S : nf_S} (hj : nf_inj L) : va_D (nf_Ad L) (nf_cs L S) := by
  refine ⟨fun i j p q hp hq h => ?_, fun k e he => ?_⟩
  · obtain ⟨p1, a1, b1, rfl⟩ := nf_cs_of hp
    obtain ⟨q1, a2, b2, rfl⟩ := nf_cs_of hq
    have e := hj _ _ b1 b2 h
    subst e
    exact nf_idx a1 a2
  · obtain ⟨q, _, hq, rfl⟩ := nf_cs_of he
    exact ⟨q, hq, rfl⟩
theorem nf_H.back {L : nf_L} {S S1 : nf_S} {H1 : Heap} {k : Nat} {q : nf_Pos} {E : va_E} (hk : nf_all[k]? = some q) (hP : va_P L.1 vwCl ((nf_cs L S).set k (L.2.2 q, E)) H1) (hE : va_at L.1 vwCl (L.2.2 q, E) H1 → va_at L.1 vwCl (L.2.2 q, nf_cell L S1 q) H1) (hc : ∀ q', nf_ok q' → q' ≠ q → nf_cell L S1 q' = nf_cell L S q') : nf_H L S1 H1 := by
  intro q' hq'
  obtain ⟨j, hj⟩ := nf_place hq'
  by_cases e : q' = q
  · subst e
    have e2 := nf_idx hj hk
    subst e2
    have hlen : j < (nf_cs L S).length := (List.getElem?_eq_some_iff.mp (nf_cs_at (L := L) (S := S) hk)).1
    exact hE (hP j _ (by rw [List.getElem?_set_self hlen]))
  · have hne : k ≠ j := fun e2 => by subst e2; exact e (Option.some.inj (hj.symm.trans hk))
    rw [hc q' hq' e]
    exact hP j _ (by rw [List.getElem?_set_ne hne]; exact nf_cs_at hj)
section NfHeap
variable {L : nf_L} {d : Nat} {cc : ByteArray} {own : String} {nL : Nat} {ret : Option FieldType} {r : Option Value} {S2 : nf_S} {pc : Nat} {ls : List (Option Value)} {st : List Value} {S : nf_S}
theorem nf_getf {q : nf_Pos} {ci : Nat} {fs : List Value} {C : String} {T : u_T} {N k idx : Nat} {v : Value} (hq : nf_ok q) (he : nf_cell L S q = .inr (ci, fs)) (hc : vwCl[ci]? = some (C, T, N)) (hin : ∀ w ∈ u_ws C T N, w ∈ nf_tbl) (hk : k < N) (hl : Cond.fieldLink own idx (T k).1 (T k).2.1 (T k).2.2.1 ∈ nf_tbl) (hv : fs[k]? = some v) (dg : decode cc pc = .ok (.getfield idx, 3))
    (kk : nf_V L d cc own nL ret r S2 (pc + 3) ls (v :: st) S) : nf_V L d cc own nL ret r S2 pc ls (.ref (L.2.2 q) :: st) S := by
  intro p l e s m args below meth c H locs la hC hH hl2
  obtain ⟨j, hj⟩ := nf_place hq
  have h0 := nf_cs_at (L := L) (S := S) hj
  rw [he] at h0
  exact va_get hC.1 hC.2.1 hC.2.2.2.2.2.1 hin hC.2.2.2.2.1 hC.2.2.2.2.2.2.2.2.1 hH.1.P j h0 hc k hk (hC.2.2.2.2.2.1 _ hl) (fun _ h => h) hv dg (kk p l e s m args below meth c H locs la hC hH hl2)
theorem nf_putf {S1 : nf_S} {q : nf_Pos} {ci : Nat} {fs : List Value} {C : String} {T : u_T} {N k idx : Nat} {v : Value} {ty : FieldType} (ty0 : Nat → FieldType) (hq : nf_ok q) (he : nf_cell L S q = .inr (ci, fs)) (hc : vwCl[ci]? = some (C, T, N)) (hin : ∀ w ∈ u_ws C T N, w ∈ nf_tbl) (hty : ∀ k, k < N → parseFieldDescriptor (T k).2.2.1 = some (ty0 k)) (hnm : ∀ a, a < N → ∀ b, b < N → a ≠ b → (T a).2.1 ≠ (T b).2.1) (hk : k < N) (hl : Cond.fieldLink own idx (T k).1 (T k).2.1 (T k).2.2.1 ∈ nf_tbl)
    (hfin : (T k).2.2.2 = false) (hd : parseFieldDescriptor (T k).2.2.1 = some ty) (hn : narrow ty v = v) (hfit : fits ty v = true) (hlen : k < fs.length) (h1 : nf_cell L S1 q = .inr (ci, fs.set k v)) (h2 : ∀ q', nf_ok q' → q' ≠ q → nf_cell L S1 q' = nf_cell L S q') (dg : decode cc pc = .ok (.putfield idx, 3))
    (kk : nf_V L d cc own nL ret r S2 (pc + 3) ls st S1) : nf_V L d cc own nL ret r S2 pc ls (v :: .ref (L.2.2 q) :: st) S := by
  intro p l e s m args below meth c H locs la hC hH hl2
  obtain ⟨j, hj⟩ := nf_place hq
  have h0 := nf_cs_at (L := L) (S := S) hj
  rw [he] at h0
  exact va_put hC.1 hC.2.1 hC.2.2.2.2.2.1 hin ty0 hty hnm hC.2.2.2.2.1 hC.2.2.2.2.2.2.2.2.1 hH.1.P (nf_D hC.2.2.2.2.2.2.2.1) hH.2 j h0 hc k hk (hC.2.2.2.2.2.1 _ hl) (fun _ h => h) hfin hd hn hfit hlen dg
    (fun H1 locs1 hP hD hS => kk p l e s m args below meth c H1 locs1 la hC ⟨nf_H.back hj hP (fun h => by rw [h1]; exact h) h2, hS⟩ hl2)
/-- reading an int array of a net -/
theorem nf_iald {n c h : Nat} {i : Int32} (hq : nf_ok (9, n, c, h)) (hi : vp_in i (nf_len c)) (dg : decode cc pc = .ok (.iaload, 1)) (kk : nf_V L d cc own nL ret r S2 (pc + 1) ls (.int (nf_A S n c h i.toNatClampNeg) :: st) S) : nf_V L d cc own nL ret r S2 pc ls (.int i :: .ref (L.2.2 (9, n, c, h)) :: st) S := by
  intro p l e s m args below meth c H locs la hC hH hl2
  obtain ⟨j, hj⟩ := nf_place hq
  exact va_iald hC.1 hC.2.1 hC.2.2.2.2.2.2.2.2.1 hH.1.P j 0 (nf_cs_at hj) rfl hi dg (kk p l e s m args below meth c H locs la hC hH hl2)
theorem nf_ialdO {x : Nat} {i : Int32} (hq : nf_ok (10, x, 0, 0)) (hi : vp_in i (nf_lenO x)) (dg : decode cc pc = .ok (.iaload, 1)) (kk : nf_V L d cc own nL ret r S2 (pc + 1) ls (.int (nf_O S x i.toNatClampNeg) :: st) S) : nf_V L d cc own nL ret r S2 pc ls (.int i :: .ref (L.2.2 (10, x, 0, 0)) :: st) S := by
  intro p l e s m args below meth c H locs la hC hH hl2
  obtain ⟨j, hj⟩ := nf_place hq
  exact va_iald hC.1 hC.2.1 hC.2.2.2.2.2.2.2.2.1 hH.1.P j 0 (nf_cs_at hj) rfl hi dg (kk p l e s m args below meth c H locs la hC hH hl2)
theorem nf_alen {n c h : Nat} {v : Int32} (hq : nf_ok (9, n, c, h)) (hv : Int32.ofNat (nf_len c) = v) (dg : decode cc pc = .ok (.arraylength, 1)) (kk : nf_V L d cc own nL ret r S2 (pc + 1) ls (.int v :: st) S) : nf_V L d cc own nL ret r S2 pc ls (.ref (L.2.2 (9, n, c, h)) :: st) S := by
  intro p l e s m args below meth c H locs la hC hH hl2
  obtain ⟨j, hj⟩ := nf_place hq
  exact va_alen hC.1 hC.2.1 hC.2.2.2.2.2.2.2.2.1 hH.1.P j 0 (nf_cs_at hj) rfl hv dg (kk p l e s m args below meth c H locs la hC hH hl2)
theorem nf_alenO {x : Nat} {v : Int32} (hq : nf_ok (10, x, 0, 0)) (hv : Int32.ofNat (nf_lenO x) = v) (dg : decode cc pc = .ok (.arraylength, 1)) (kk : nf_V L d cc own nL ret r S2 (pc + 1) ls (.int v :: st) S) : nf_V L d cc own nL ret r S2 pc ls (.ref (L.2.2 (10, x, 0, 0)) :: st) S := by
  intro p l e s m args below meth c H locs la hC hH hl2
  obtain ⟨j, hj⟩ := nf_place hq
  exact va_alen hC.1 hC.2.1 hC.2.2.2.2.2.2.2.2.1 hH.1.P j 0 (nf_cs_at hj) rfl hv dg (kk p l e s m args below meth c H locs la hC hH hl2)
theorem nf_cell_sA {n c h : Nat} {f : Nat → Int32} (q : nf_Pos) (hq : q ≠ (9, n, c, h)) : nf_cell L (nf_sA S n c h f) q = nf_cell L S q := by
  obtain ⟨k, n', c', h'⟩ := q
  match k with
  | 0 => rfl
  | 1 => rfl
  | 2 => rfl
  | 3 => rfl
  | 4 => rfl
  | 5 => rfl
  | 6 => rfl
  | 7 => rfl
  | 8 => rfl
  | 9 =>
    have : ¬ (n' = n ∧ c' = c ∧ h' = h) := fun e => hq (by rw [e.1, e.2.1, e.2.2])
    simp only [nf_cell, nf_A_sA, if_neg this]
  | k + 10 => rfl
theorem nf_cell_sO {x : Nat} {f : Nat → Int32} (q : nf_Pos) (h0 : nf_ok q) (hq : q ≠ (10, x, 0, 0)) : nf_cell L (nf_sO S x f) q = nf_cell L S q := by
  obtain ⟨k, n', c', h'⟩ := q
  match k, h0 with
  | 0, _ => rfl
  | 1, _ => rfl
  | 2, _ => rfl
  | 3, _ => rfl
  | 4, _ => rfl
  | 5, _ => rfl
  | 6, _ => rfl
  | 7, _ => rfl
  | 8, _ => rfl
  | 9, _ => rfl
  | 10, h0 =>
    have : ¬ n' = x := fun e => hq (by have := h0.2; simp at this; rw [e, this.1, this.2])
    simp only [nf_cell, nf_O_sO, if_neg this]
  | k + 11, h0 => exact absurd h0 (by simp [nf_ok])
theorem nf_iast {n c h : Nat} {i x : Int32} (hq : nf_ok (9, n, c, h)) (hi : vp_in i (nf_len c)) (dg : decode cc pc = .ok (.iastore, 1)) (kk : nf_V L d cc own nL ret r S2 (pc + 1) ls st (nf_sA S n c h (upd (nf_A S n c h) i.toNatClampNeg x))) : nf_V L d cc own nL ret r S2 pc ls (.int x :: .int i :: .ref (L.2.2 (9, n, c, h)) :: st) S := by
  intro p l e s m args below meth c H locs la hC hH hl2
  obtain ⟨j, hj⟩ := nf_place hq
  refine va_iast hC.1 hC.2.1 hC.2.2.2.2.2.2.2.2.1 hH.1.P (nf_D hC.2.2.2.2.2.2.2.1) hH.2 j 0 (nf_cs_at hj) rfl hi dg (fun H1 locs1 hP hD hS => kk p l e s m args below meth c H1 locs1 la hC ⟨nf_H.back hj hP (fun h => ?_) (fun q' _ hne => nf_cell_sA q' hne), hS⟩ hl2)
  simp only [nf_cell, nf_A_sA, and_self, if_true]
  exact h
theorem nf_iastO {x0 : Nat} {i x : Int32} (hq : nf_ok (10, x0, 0, 0)) (hi : vp_in i (nf_lenO x0)) (dg : decode cc pc = .ok (.iastore, 1)) (kk : nf_V L d cc own nL ret r S2 (pc + 1) ls st (nf_sO S x0 (upd (nf_O S x0) i.toNatClampNeg x))) : nf_V L d cc own nL ret r S2 pc ls (.int x :: .int i :: .ref (L.2.2 (10, x0, 0, 0)) :: st) S := by
  intro p l e s m args below meth c H locs la hC hH hl2
  obtain ⟨j, hj⟩ := nf_place hq
  refine va_iast hC.1 hC.2.1 hC.2.2.2.2.2.2.2.2.1 hH.1.P (nf_D hC.2.2.2.2.2.2.2.1) hH.2 j 0 (nf_cs_at hj) rfl hi dg (fun H1 locs1 hP hD hS => kk p l e s m args below meth c H1 locs1 la hC ⟨nf_H.back hj hP (fun h => ?_) (fun q' h0 hne => nf_cell_sO q' h0 hne), hS⟩ hl2)
  simp only [nf_cell, nf_O_sO, if_true]
  exact h
/-- hosts[i] -/
theorem nf_hald {n : Nat} {i : Int32} (hn : n < 5) (hi : vp_in i 6) (dg : decode cc pc = .ok (.aaload, 1)) (kk : nf_V L d cc own nL ret r S2 (pc + 1) ls (.ref (L.2.2 (4, n, 0, i.toNatClampNeg)) :: st) S) : nf_V L d cc own nL ret r S2 pc ls (.int i :: .ref (L.2.2 (7, n, 0, 0)) :: st) S := by
  intro p l e s m args below meth c H locs la hC hH hl2
  obtain ⟨j, hj⟩ := nf_place (q := (7, n, 0, 0)) ⟨hn, rfl⟩
  exact va_aldq hC.1 hC.2.1 hC.2.2.2.2.2.2.2.2.1 hH.1.P j 1 (nf_cs_at hj) rfl hi dg (kk p l e s m args below meth c H locs la hC hH hl2)
/-- saved[i] -/
theorem nf_sald {i : Int32} (hi : vp_in i 4) (dg : decode cc pc = .ok (.aaload, 1)) (kk : nf_V L d cc own nL ret r S2 (pc + 1) ls (.ref (L.2.2 (1, nf_v S i.toNatClampNeg, 0, 0)) :: st) S) : nf_V L d cc own nL ret r S2 pc ls (.int i :: .ref (L.2.2 (6, 0, 0, 0)) :: st) S := by
  intro p l e s m args below meth c H locs la hC hH hl2
  obtain ⟨j, hj⟩ := nf_place (q := (6, 0, 0, 0)) rfl
  exact va_aldq hC.1 hC.2.1 hC.2.2.2.2.2.2.2.2.1 hH.1.P j 2 (nf_cs_at hj) rfl hi dg (kk p l e s m args below meth c H locs la hC hH hl2)
theorem nf_cell_sv {g : Nat → Nat} (q : nf_Pos) (hq : nf_ok q) (hne : q ≠ (6, 0, 0, 0)) : nf_cell L (nf_sv S g) q = nf_cell L S q := by
  obtain ⟨k, n', c', h'⟩ := q
  match k, hq with
  | 0, _ => rfl
  | 1, _ => rfl
  | 2, _ => rfl
  | 3, _ => rfl
  | 4, _ => rfl
  | 5, _ => rfl
  | 6, h0 => exact absurd (by have h1 : (n', c', h') = (0, 0, 0) := h0; rw [h1]) hne
  | 7, _ => rfl
  | 8, _ => rfl
  | 9, _ => rfl
  | k + 10, _ => rfl
/-- saved[i] = net n -/
theorem nf_sast {i : Int32} {n : Nat} (hn : n < 5) (hi : vp_in i 4) (dg : decode cc pc = .ok (.aastore, 1)) (kk : nf_V L d cc own nL ret r S2 (pc + 1) ls st (nf_sv S (va_up (nf_v S) i.toNatClampNeg n))) : nf_V L d cc own nL ret r S2 pc ls (.ref (L.2.2 (1, n, 0, 0)) :: .int i :: .ref (L.2.2 (6, 0, 0, 0)) :: st) S := by
  intro p l e s m args below meth c H locs la hC hH hl2
  obtain ⟨j, hj⟩ := nf_place (q := (6, 0, 0, 0)) rfl
  obtain ⟨j2, hj2⟩ := nf_place (q := (1, n, 0, 0)) ⟨hn, rfl⟩
  refine va_astq hC.1 hC.2.1 hC.2.2.2.2.2.2.2.2.1 hH.1.P (nf_D hC.2.2.2.2.2.2.2.1) hH.2 j 2 j2 3 (r := (RX3, TX3, 8)) (nf_cs_at hj) rfl (nf_cs_at hj2) rfl hi dg (fun H1 locs1 hP hD hS => kk p l e s m args below meth c H1 locs1 la hC ⟨nf_H.back hj hP (fun h => ?_) (fun q' h0 hne => nf_cell_sv q' h0 hne), hS⟩ hl2)
  have e : (fun k => some (L.2.2 (1, nf_v (nf_sv S (va_up (nf_v S) i.toNatClampNeg n)) k, 0, 0))) = va_up (fun k => some (L.2.2 (1, nf_v S k, 0, 0))) i.toNatClampNeg (some (L.2.2 (1, n, 0, 0))) := by
    funext k
    rw [nf_v_sv]
    simp only [va_up]
    by_cases hk : k = i.toNatClampNeg <;> simp [hk]
  simp only [nf_cell]
  rw [e]
  exact h
/-- System.arraycopy of a whole row into a row of the same length -/
theorem nf_copy {n1 n2 c h1 h2 idx : Nat} {N : Int32} (hq1 : nf_ok (9, n1, c, h1)) (hq2 : nf_ok (9, n2, c, h2)) (hN : N.toNatClampNeg = nf_len c) (hN0 : ¬ N < 0) (hlink : Cond.methodLink own idx arraycopyName ∈ nf_tbl) (hnat : Cond.native arraycopyName ∈ nf_tbl) (hstat : Cond.static arraycopyName ∈ nf_tbl) (hini : Cond.initialized "java/lang/System" ∈ nf_tbl)
    (hd : 1 ≤ d) (hlo : (st.map fun v => v.category).sum + (nativeFrameWords "java/lang/System" "arraycopy" 5 + 11) ≤ 40 * d) (dg : decode cc pc = .ok (.invokestatic idx, 3))
    (kk : nf_V L d cc own nL ret r S2 (pc + 3) ls st (nf_sA S n2 c h2 (nf_A S n1 c h1))) : nf_V L d cc own nL ret r S2 pc ls (.int N :: .int 0 :: .ref (L.2.2 (9, n2, c, h2)) :: .int 0 :: .ref (L.2.2 (9, n1, c, h1)) :: st) S := by
  intro p l e s m args below meth c H locs la hC hH hl2
  obtain ⟨j1, hj1⟩ := nf_place hq1
  obtain ⟨j2, hj2⟩ := nf_place hq2
  have hts := hC.2.2.2.2.2.1
  refine va_copyi (ty := .int) hC.1 hC.2.1 (by rw [hC.2.2.2.1]; exact hl2.1.symm) hC.2.2.2.2.1 (hts _ hlink) (hts _ hnat) (hts _ hstat) (hts _ hini) hC.2.2.2.2.2.2.2.2.1 hH.1.P (nf_D hC.2.2.2.2.2.2.2.1) hH.2 j1 j2 0 0 (nf_cs_at hj1) (nf_cs_at hj2) rfl rfl rfl (by decide) (by decide) hN0 (by rw [hN]; simp) (by rw [hN]; simp) (fun _ _ => rfl) hd hlo dg
    (fun H1 locs1 hP hD hS => kk p l e s m args below meth c H1 locs1 la hC ⟨nf_H.back hj2 hP (fun h => ?_) (fun q' _ hne => nf_cell_sA q' hne), hS⟩ hl2)
  simp only [nf_cell, nf_A_sA, and_self, if_true]
  refine (show H1[_]? = some (vp_cell _ _) from h).trans ?_
  congr 1
  simp only [vp_cell, arrV]
  congr 1
  apply congrArg Array.ofFn
  funext x
  have hx : x.val < N.toNatClampNeg := by rw [hN]; exact x.isLt
  simp [va_cpy, hx]

theorem nf_good (y : MethodName) (cc : ByteArray) (nL : Nat) (ret : Option FieldType) (hc : Cond.code y cc nL ret ∈ nf_tbl) : GoodIn nf_tbl (nf_ws y cc nL ret) := by
  intro w hw
  have h1 : w ∈ nf_tbl := by
    rcases List.mem_cons.mp hw with rfl | h
    · exact hc
    · exact h
  exact ⟨h1, good_of_word (List.mem_filter.mp h1).2⟩
theorem nf_blind {as : List Value} : FrameBlind (nf_Pc L as S) := by
  intro a U g mk h
  obtain ⟨h1, h2, h3, h4, h5⟩ := h
  exact ⟨h1, h2, h3, va_K.moved (u := U) (U := U.calling g mk a) (Vm.Alike.refl U.vm) h4, fun w hw => va_Nw.same (u := U) (U := U.calling g mk a) (by simp only [nf_nw, List.mem_cons, List.not_mem_nil, or_false] at hw; rcases hw with rfl | rfl | rfl | rfl <;> rfl) rfl (h5 w hw)⟩
theorem nf_pre {s : State} {H : Heap} {as : List Value} (hj : nf_inj L) (hK : nf_K L s) (hH : nf_H L S H) (U : State) (hU : U.heap = H) (hW : s.WarmedH U.vm) : nf_Pc L as S as.toArray U :=
  ⟨rfl, hj, by rw [hU]; exact hH, hK.warm hW⟩
/-- behind a call -/
theorem nf_after {p : Program} {l : Launch} {e : Env} {R : Room} {s : State} {m : MethodId} {args : Array Value} {below : List Frame} {meth : Method} {c : Code} {H : Heap} {locs : List Loc} {cells slots : Nat} {Q : State → Prop} {la : Array Slot} {st0 rest : List Value} {a : Array Value} {v : Option Value} {S1 : nf_S}
    (hr : CallRun p l e R s m args below meth c H locs cells slots 0 0 (F0 m pc la st0) rest (nf_Qc L v S1 a) (nf_Ad L)) (hS : va_S (nf_Ad L) s.heap H locs)
    (kk : ∀ (H1 : Heap) (locs1 : List Loc), nf_Hp L S1 s H1 locs1 → W p l e R s m args below meth c H1 locs1 cells slots Q (F0 m (pc + 3) la (v.toList ++ rest))) : W p l e R s m args below meth c H locs cells slots Q (F0 m pc la st0) := by
  intro T hT X
  obtain ⟨v', st₀, t, T', Lc, h0, X', hL, e1, ⟨hv, hh, hF⟩, hst⟩ := hr T hT X
  cases hv
  have hS1 : va_S (nf_Ad L) s.heap t.heap (locs ++ Lc) := by
    obtain ⟨z1, z2⟩ := hF
    rw [h0] at z1 z2
    refine ⟨Nat.le_trans hS.1 z1, fun q hq hA => ?_, fun x hx => ?_⟩
    · rw [z2 q (Nat.lt_of_lt_of_le hq hS.1) hA]
      exact hS.2.1 q hq hA
    · rcases List.mem_append.mp hx with h | h
      · exact hS.2.2 x h
      · exact hL x h
  obtain ⟨t2, a1, b1⟩ := kk t.heap (locs ++ Lc) ⟨hh, hS1⟩ T' e1 X'
  exact ⟨t2, hst t2 a1, b1⟩
theorem nf_recv {q : nf_Pos} {ci : Nat} {fs : List Value} {t : vw_C} {s : State} {H : Heap} (hK : nf_K L s) (hH : nf_H L S H) (hq : nf_ok q) (he : nf_cell L S q = .inr (ci, fs)) (hc : vwCl[ci]? = some t) : ∃ cell : Cell, H[L.2.2 q]? = some cell ∧ cell.vm.isStatics = false ∧ s.vm.findClass t.1 = some cell.cls := by
  obtain ⟨j, hj⟩ := nf_place hq
  have h0 := nf_cs_at (L := L) (S := S) hj
  rw [he] at h0
  exact va_recv hK.1 hH.P hc h0
/-- what a call of y needs of the tables: its link, its code, its holder made ready -/
def nf_lk (own : String) (idx : Nat) (y : MethodName) (bytes : ByteArray) (mL : Nat) (rt : Option FieldType) : Prop := Cond.methodLink own idx y ∈ nf_tbl ∧ Cond.code y bytes mL rt ∈ nf_tbl ∧ Cond.initialized y.cls ∈ nf_tbl
def nf_nm (y : MethodName) (n : Nat) : Prop := (y.cls ≠ "java/lang/invoke/MethodHandle" ∧ y.cls ≠ "java/lang/invoke/VarHandle") ∧ (parseMethodDescriptor y.desc).map (fun d => d.parameters.length) = some n
theorem nf_cb {s : State} {args : Array Value} {R : Room} {d1 idx mL n : Nat} {y : MethodName} {bytes : ByteArray} {rt : Option FieldType} (hts : ∀ w ∈ nf_tbl, w.before args s = true) (hk : nf_lk own idx y bytes mL rt) (hn : nf_nm y n) (hR : d1 + 1 ≤ R.frames ∧ 8 + (mL + 11) + 40 * d1 ≤ R.locals) : CallB R s args own idx y bytes mL rt (nf_ws y bytes mL rt) (nf_rm d1) 0 0 n :=
  callB_of n hts (nf_good y bytes mL rt hk.2.1) rfl rfl rfl (hts _ hk.2.2) (hts _ hk.1) ⟨hn.1.1, hn.1.2, hn.2⟩ hR
theorem nf_callS {d1 idx mL n : Nat} {y : MethodName} {bytes : ByteArray} {rt : Option FieldType} {as st : List Value} {v : Option Value} {S1 : nf_S} (hs : nf_Sp L d1 y bytes mL rt as S v S1) (hk : nf_lk own idx y bytes mL rt) (hst : Cond.static y ∈ nf_tbl) (hn : nf_nm y n) (ha : as.length = n) (hR : d1 + 1 ≤ d ∧ 8 + (mL + 11) + 40 * d1 ≤ 40 * d) (hW : (st.map fun v => v.category).sum ≤ 8) (dg : decode cc pc = .ok (.invokestatic idx, 3))
    (kk : nf_V L d cc own nL ret r S2 (pc + 3) ls (v.toList ++ st) S1) : nf_V L d cc own nL ret r S2 pc ls (as.reverse ++ st) S := by
  intro p l e s m args below meth c H locs la hC hH hl2
  exact nf_after (W.runS (n := n) ⟨hC.1, hC.2.1, hC.2.2.2.1, hC.2.2.2.2.1, hC.2.2.2.2.2.1⟩ (hs l) ⟨nf_cb hC.2.2.2.2.2.1 hk hn hR, hC.2.2.2.2.2.1 _ hst⟩ ⟨nf_blind, nf_pre hC.2.2.2.2.2.2.2.1 hC.2.2.2.2.2.2.2.2 hH.1⟩ rfl ha hl2.1 rfl (lv_room hW) dg ⟨Nat.zero_le _, Nat.zero_le _⟩) hH.2
    (fun H1 locs1 hH1 => kk p l e s m args below meth c H1 locs1 la hC hH1 hl2)
theorem nf_callV {q : nf_Pos} {ci : Nat} {fs : List Value} {t : vw_C} {d1 idx mL n : Nat} {y : MethodName} {bytes : ByteArray} {rt : Option FieldType} {as st : List Value} {v : Option Value} {S1 : nf_S} (hs : nf_Sp L d1 y bytes mL rt (.ref (L.2.2 q) :: as) S v S1) (hq : nf_ok q) (he : nf_cell L S q = .inr (ci, fs)) (hc : vwCl[ci]? = some t) (hk : nf_lk own idx y bytes mL rt) (hin : Cond.instanceMethod y ∈ nf_tbl) (hse : Cond.selects t.1 y y ∈ nf_tbl) (hn : nf_nm y n) (ha : as.length = n) (hR : d1 + 1 ≤ d ∧ 8 + (mL + 11) + 40 * d1 ≤ 40 * d) (hW : (st.map fun v => v.category).sum ≤ 8) (dg : decode cc pc = .ok (.invokevirtual idx, 3))
    (kk : nf_V L d cc own nL ret r S2 (pc + 3) ls (v.toList ++ st) S1) : nf_V L d cc own nL ret r S2 pc ls (as.reverse ++ .ref (L.2.2 q) :: st) S := by
  intro p l e s m args below meth c H locs la hC hH hl2
  exact nf_after (W.runV (n := n) ⟨hC.1, hC.2.1, hC.2.2.2.1, hC.2.2.2.2.1, hC.2.2.2.2.2.1⟩ (hs l) ⟨nf_cb hC.2.2.2.2.2.1 hk hn hR, hC.2.2.2.2.2.1 _ hin, hC.2.2.2.2.2.1 _ hse⟩ ⟨nf_blind, nf_recv hC.2.2.2.2.2.2.2.2 hH.1 hq he hc, nf_pre hC.2.2.2.2.2.2.2.1 hC.2.2.2.2.2.2.2.2 hH.1⟩ rfl ha hl2.1 rfl (lv_room hW) dg ⟨Nat.zero_le _, Nat.zero_le _⟩) hH.2
    (fun H1 locs1 hH1 => kk p l e s m args below meth c H1 locs1 la hC hH1 hl2)
/-- a static method of a nest mate -/
theorem nf_callN {host : String} {d1 idx mL n : Nat} {y : MethodName} {bytes : ByteArray} {rt : Option FieldType} {as st : List Value} {v : Option Value} {S1 : nf_S} (hs : nf_Sp L d1 y bytes mL rt as S v S1) (hk : Cond.methodLinkNest own idx y host ∈ nf_nw ∧ Cond.code y bytes mL rt ∈ nf_tbl ∧ Cond.initialized y.cls ∈ nf_tbl) (hst : Cond.static y ∈ nf_tbl) (hn : nf_nm y n) (ha : as.length = n) (hR : d1 + 1 ≤ d ∧ 8 + (mL + 11) + 40 * d1 ≤ 40 * d) (hW : (st.map fun v => v.category).sum ≤ 8) (dg : decode cc pc = .ok (.invokestatic idx, 3))
    (kk : nf_V L d cc own nL ret r S2 (pc + 3) ls (v.toList ++ st) S1) : nf_V L d cc own nL ret r S2 pc ls (as.reverse ++ st) S := by
  intro p l e s m args below meth c H locs la hC hH hl2
  have hr := va_runSN (n := n) (host := host) ⟨hC.1, hC.2.1, hC.2.2.2.1, hC.2.2.2.2.1, hC.2.2.2.2.2.1⟩ (hs l) ⟨va_cnB n hC.2.2.2.2.2.1 (nf_good y bytes mL rt hk.2.1) rfl rfl rfl (hC.2.2.2.2.2.2.2.2.2 _ hk.1) (hC.2.2.2.2.2.1 _ hk.2.2) ⟨hn.1.1, hn.1.2, hn.2⟩ hR, hC.2.2.2.2.2.1 _ hst, trivial⟩ ⟨nf_blind, nf_pre hC.2.2.2.2.2.2.2.1 hC.2.2.2.2.2.2.2.2 hH.1⟩ (g := F0 m pc la (as.reverse ++ st)) (locs := locs) (cells := 0) (slots := 0) (p := p) (e := e) (below := below) (meth := meth) (R := nf_rm d) (rest := st) rfl ha hl2.1 rfl (lv_room hW) dg ⟨Nat.zero_le _, Nat.zero_le _⟩
  refine nf_after (v := v) (S1 := S1) (a := as.toArray) (rest := st) ?_ hH.2 (fun H1 locs1 hH1 => kk p l e s m args below meth c H1 locs1 la hC hH1 hl2)
  intro T hT X
  obtain ⟨v', st₀, t, T', Lc, h0, X', hL, e1, e2, hQ, hstp⟩ := hr T hT X
  exact ⟨v', st₀, t, T', Lc, h0, X', hL, e1, hQ, hstp⟩
/-- a contract's start -/
theorem nf_start {y : MethodName} {as : List Value} (hy : plainName y.cls = true) (hl : (lg_sl as).length ≤ nL) (ho : y.cls = own) {ls0 : List (Option Value)} (hls : lv_args 0 as = nf_prs 0 ls0) (k : nf_V L d cc own nL ret r S2 0 ls0 [] S) : nf_Sp L d y cc nL ret as S r S2 := by
  intro l
  refine Met.ofW (cc := cc) (maxL := nL) (ret := ret) hy rfl ?_
  intro p e s m args below meth c s₁ B hml hv
  obtain ⟨rfl, hj, hH, hK⟩ := hv
  have hts := atoms_spec (ws := nf_ws y cc nL ret) B.pre
  have hown : s.vm.findClass own = some m.cls := by rw [← ho]; exact findClass_of_methodNamed B.named
  have hle := lv_entry as (n := nL) hl
  rw [hls] at hle
  rw [lg_entry_eq]
  exact k p l e s m as.toArray below meth c s.heap [] _ ⟨B.exec, B.bytes, B.returns, hml, hown, fun w hw => hts w (List.mem_cons_of_mem _ hw), B.notSynchronized, hj, hK⟩ ⟨hH, va_S.rf⟩ hle
end NfHeap
end
section
theorem se_X5_fail : Cond.selects RX5 yX5_fail yX5_fail ∈ nf_tbl := List.mem_filter.mpr ⟨List.mem_of_getElem? (i := 0) (by decide +kernel), by decide +kernel⟩
theorem se_X5_save : Cond.selects RX5 yX5_save yX5_save ∈ nf_tbl := List.mem_filter.mpr ⟨List.mem_of_getElem? (i := 1) (by decide +kernel), by decide +kernel⟩
theorem se_X5_publish : Cond.selects RX5 yX5_publish yX5_publish ∈ nf_tbl := List.mem_filter.mpr ⟨List.mem_of_getElem? (i := 2) (by decide +kernel), by decide +kernel⟩
theorem se_X5_isArticle : Cond.selects RX5 yX5_isArticle yX5_isArticle ∈ nf_tbl := List.mem_filter.mpr ⟨List.mem_of_getElem? (i := 3) (by decide +kernel), by decide +kernel⟩
theorem se_X6_error : Cond.selects RX6 yX6_error yX6_error ∈ nf_tbl := List.mem_filter.mpr ⟨List.mem_of_getElem? (i := 4) (by decide +kernel), by decide +kernel⟩
theorem se_X6_linkOf : Cond.selects RX6 yX6_linkOf yX6_linkOf ∈ nf_tbl := List.mem_filter.mpr ⟨List.mem_of_getElem? (i := 5) (by decide +kernel), by decide +kernel⟩
theorem se_X6_link : Cond.selects RX6 yX6_link yX6_link ∈ nf_tbl := List.mem_filter.mpr ⟨List.mem_of_getElem? (i := 6) (by decide +kernel), by decide +kernel⟩
theorem se_X6_save : Cond.selects RX6 yX6_save yX6_save ∈ nf_tbl := List.mem_filter.mpr ⟨List.mem_of_getElem? (i := 7) (by decide +kernel), by decide +kernel⟩
theorem se_X6_isLink : Cond.selects RX6 yX6_isLink yX6_isLink ∈ nf_tbl := List.mem_filter.mpr ⟨List.mem_of_getElem? (i := 8) (by decide +kernel), by decide +kernel⟩
theorem se_X6_posts : Cond.selects RX6 yX6_posts yX6_posts ∈ nf_tbl := List.mem_filter.mpr ⟨List.mem_of_getElem? (i := 9) (by decide +kernel), by decide +kernel⟩
theorem se_X6_arrives : Cond.selects RX6 yX6_arrives yX6_arrives ∈ nf_tbl := List.mem_filter.mpr ⟨List.mem_of_getElem? (i := 10) (by decide +kernel), by decide +kernel⟩
theorem se_X6_known : Cond.selects RX6 yX6_known yX6_known ∈ nf_tbl := List.mem_filter.mpr ⟨List.mem_of_getElem? (i := 11) (by decide +kernel), by decide +kernel⟩
theorem se_X6_of : Cond.selects RX6 yX6_of yX6_of ∈ nf_tbl := List.mem_filter.mpr ⟨List.mem_of_getElem? (i := 12) (by decide +kernel), by decide +kernel⟩
theorem se_X6_acts : Cond.selects RX6 yX6_acts yX6_acts ∈ nf_tbl := List.mem_filter.mpr ⟨List.mem_of_getElem? (i := 13) (by decide +kernel), by decide +kernel⟩
theorem se_X6_isIn : Cond.selects RX6 yX6_isIn yX6_isIn ∈ nf_tbl := List.mem_filter.mpr ⟨List.mem_of_getElem? (i := 14) (by decide +kernel), by decide +kernel⟩
theorem se_X6_isArticle : Cond.selects RX6 yX6_isArticle yX6_isArticle ∈ nf_tbl := List.mem_filter.mpr ⟨List.mem_of_getElem? (i := 15) (by decide +kernel), by decide +kernel⟩
theorem se_X6_goesRound : Cond.selects RX6 yX6_goesRound yX6_goesRound ∈ nf_tbl := List.mem_filter.mpr ⟨List.mem_of_getElem? (i := 16) (by decide +kernel), by decide +kernel⟩
theorem se_X6_takes : Cond.selects RX6 yX6_takes yX6_takes ∈ nf_tbl := List.mem_filter.mpr ⟨List.mem_of_getElem? (i := 17) (by decide +kernel), by decide +kernel⟩
theorem se_X6_pendingOf : Cond.selects RX6 yX6_pendingOf yX6_pendingOf ∈ nf_tbl := List.mem_filter.mpr ⟨List.mem_of_getElem? (i := 18) (by decide +kernel), by decide +kernel⟩
theorem ini_L : Cond.initialized RL ∈ nf_tbl := List.mem_filter.mpr ⟨List.mem_of_getElem? (i := 19) (by decide +kernel), by decide +kernel⟩
theorem ini_X5 : Cond.initialized RX5 ∈ nf_tbl := List.mem_filter.mpr ⟨List.mem_of_getElem? (i := 20) (by decide +kernel), by decide +kernel⟩
theorem ini_X3 : Cond.initialized RX3 ∈ nf_tbl := List.mem_filter.mpr ⟨List.mem_of_getElem? (i := 21) (by decide +kernel), by decide +kernel⟩
theorem ini_X2 : Cond.initialized RX2 ∈ nf_tbl := List.mem_filter.mpr ⟨List.mem_of_getElem? (i := 22) (by decide +kernel), by decide +kernel⟩
theorem ini_X0 : Cond.initialized RX0 ∈ nf_tbl := List.mem_filter.mpr ⟨List.mem_of_getElem? (i := 23) (by decide +kernel), by decide +kernel⟩
theorem ini_X4 : Cond.initialized RX4 ∈ nf_tbl := List.mem_filter.mpr ⟨List.mem_of_getElem? (i := 24) (by decide +kernel), by decide +kernel⟩
theorem ini_J7 : Cond.initialized RJ7 ∈ nf_tbl := List.mem_filter.mpr ⟨List.mem_of_getElem? (i := 25) (by decide +kernel), by decide +kernel⟩
theorem ini_X1 : Cond.initialized RX1 ∈ nf_tbl := List.mem_filter.mpr ⟨List.mem_of_getElem? (i := 26) (by decide +kernel), by decide +kernel⟩
theorem ini_X6 : Cond.initialized RX6 ∈ nf_tbl := List.mem_filter.mpr ⟨List.mem_of_getElem? (i := 27) (by decide +kernel), by decide +kernel⟩
theorem ini_J10 : Cond.initialized RJ10 ∈ nf_tbl := List.mem_filter.mpr ⟨List.mem_of_getElem? (i := 28) (by decide +kernel), by decide +kernel⟩
theorem ini_J6 : Cond.initialized RJ6 ∈ nf_tbl := List.mem_filter.mpr ⟨List.mem_of_getElem? (i := 29) (by decide +kernel), by decide +kernel⟩
theorem ml_L_9 : Cond.methodLink RL 9 yX5_init ∈ nf_tbl := List.mem_filter.mpr ⟨List.mem_of_getElem? (i := 32) (by decide +kernel), by decide +kernel⟩
theorem im_X5_init : Cond.instanceMethod yX5_init ∈ nf_tbl := List.mem_filter.mpr ⟨List.mem_of_getElem? (i := 33) (by decide +kernel), by decide +kernel⟩
theorem cd_X5_init : Cond.code yX5_init cX5_init 2 none ∈ nf_tbl := List.mem_filter.mpr ⟨List.mem_of_getElem? (i := 34) (by decide +kernel), by decide +kernel⟩
theorem ml_X5_11 : Cond.methodLink RX5 11 yX3_init ∈ nf_tbl := List.mem_filter.mpr ⟨List.mem_of_getElem? (i := 40) (by decide +kernel), by decide +kernel⟩
theorem im_X3_init : Cond.instanceMethod yX3_init ∈ nf_tbl := List.mem_filter.mpr ⟨List.mem_of_getElem? (i := 41) (by decide +kernel), by decide +kernel⟩
theorem cd_X3_init : Cond.code yX3_init cX3_init 2 none ∈ nf_tbl := List.mem_filter.mpr ⟨List.mem_of_getElem? (i := 42) (by decide +kernel), by decide +kernel⟩
theorem im_X2_init : Cond.instanceMethod yX2_init ∈ nf_tbl := List.mem_filter.mpr ⟨List.mem_of_getElem? (i := 47) (by decide +kernel), by decide +kernel⟩
theorem cd_X2_init : Cond.code yX2_init cX2_init 1 none ∈ nf_tbl := List.mem_filter.mpr ⟨List.mem_of_getElem? (i := 48) (by decide +kernel), by decide +kernel⟩
theorem lk_X2_9 : Cond.fieldLink RX2 9 "NewsFlood$Links" "count" "I" ∈ nf_tbl := List.mem_filter.mpr ⟨List.mem_of_getElem? (i := 50) (by decide +kernel), by decide +kernel⟩
theorem lk_X5_53 : Cond.fieldLink RX5 53 "NewsFlood$Links" "count" "I" ∈ nf_tbl := List.mem_filter.mpr ⟨List.mem_of_getElem? (i := 51) (by decide +kernel), by decide +kernel⟩
theorem lk_X2_15 : Cond.fieldLink RX2 15 "NewsFlood$Links" "first" "[I" ∈ nf_tbl := List.mem_filter.mpr ⟨List.mem_of_getElem? (i := 52) (by decide +kernel), by decide +kernel⟩
theorem lk_X5_178 : Cond.fieldLink RX5 178 "NewsFlood$Links" "first" "[I" ∈ nf_tbl := List.mem_filter.mpr ⟨List.mem_of_getElem? (i := 53) (by decide +kernel), by decide +kernel⟩
theorem lk_X2_19 : Cond.fieldLink RX2 19 "NewsFlood$Links" "second" "[I" ∈ nf_tbl := List.mem_filter.mpr ⟨List.mem_of_getElem? (i := 54) (by decide +kernel), by decide +kernel⟩
theorem lk_X5_181 : Cond.fieldLink RX5 181 "NewsFlood$Links" "second" "[I" ∈ nf_tbl := List.mem_filter.mpr ⟨List.mem_of_getElem? (i := 55) (by decide +kernel), by decide +kernel⟩
theorem lk_X2_22 : Cond.fieldLink RX2 22 "NewsFlood$Links" "kind" "[I" ∈ nf_tbl := List.mem_filter.mpr ⟨List.mem_of_getElem? (i := 56) (by decide +kernel), by decide +kernel⟩
theorem lk_X5_67 : Cond.fieldLink RX5 67 "NewsFlood$Links" "kind" "[I" ∈ nf_tbl := List.mem_filter.mpr ⟨List.mem_of_getElem? (i := 57) (by decide +kernel), by decide +kernel⟩
theorem lk_X3_144 : Cond.fieldLink RX3 144 "NewsFlood$Links" "kind" "[I" ∈ nf_tbl := List.mem_filter.mpr ⟨List.mem_of_getElem? (i := 58) (by decide +kernel), by decide +kernel⟩
theorem im_X0_init : Cond.instanceMethod yX0_init ∈ nf_tbl := List.mem_filter.mpr ⟨List.mem_of_getElem? (i := 72) (by decide +kernel), by decide +kernel⟩
theorem cd_X0_init : Cond.code yX0_init cX0_init 1 none ∈ nf_tbl := List.mem_filter.mpr ⟨List.mem_of_getElem? (i := 73) (by decide +kernel), by decide +kernel⟩
theorem lk_X0_9 : Cond.fieldLink RX0 9 "NewsFlood$Articles" "count" "I" ∈ nf_tbl := List.mem_filter.mpr ⟨List.mem_of_getElem? (i := 75) (by decide +kernel), by decide +kernel⟩
theorem lk_X3_121 : Cond.fieldLink RX3 121 "NewsFlood$Articles" "count" "I" ∈ nf_tbl := List.mem_filter.mpr ⟨List.mem_of_getElem? (i := 76) (by decide +kernel), by decide +kernel⟩
theorem lk_X5_128 : Cond.fieldLink RX5 128 "NewsFlood$Articles" "count" "I" ∈ nf_tbl := List.mem_filter.mpr ⟨List.mem_of_getElem? (i := 77) (by decide +kernel), by decide +kernel⟩
theorem lk_X0_15 : Cond.fieldLink RX0 15 "NewsFlood$Articles" "group" "[I" ∈ nf_tbl := List.mem_filter.mpr ⟨List.mem_of_getElem? (i := 78) (by decide +kernel), by decide +kernel⟩
theorem lk_X3_76 : Cond.fieldLink RX3 76 "NewsFlood$Articles" "group" "[I" ∈ nf_tbl := List.mem_filter.mpr ⟨List.mem_of_getElem? (i := 79) (by decide +kernel), by decide +kernel⟩
theorem lk_X5_100 : Cond.fieldLink RX5 100 "NewsFlood$Articles" "group" "[I" ∈ nf_tbl := List.mem_filter.mpr ⟨List.mem_of_getElem? (i := 80) (by decide +kernel), by decide +kernel⟩
theorem lk_X0_19 : Cond.fieldLink RX0 19 "NewsFlood$Articles" "author" "[I" ∈ nf_tbl := List.mem_filter.mpr ⟨List.mem_of_getElem? (i := 81) (by decide +kernel), by decide +kernel⟩
theorem lk_X3_69 : Cond.fieldLink RX3 69 "NewsFlood$Articles" "author" "[I" ∈ nf_tbl := List.mem_filter.mpr ⟨List.mem_of_getElem? (i := 82) (by decide +kernel), by decide +kernel⟩
theorem lk_X5_184 : Cond.fieldLink RX5 184 "NewsFlood$Articles" "author" "[I" ∈ nf_tbl := List.mem_filter.mpr ⟨List.mem_of_getElem? (i := 83) (by decide +kernel), by decide +kernel⟩
theorem lk_X0_22 : Cond.fieldLink RX0 22 "NewsFlood$Articles" "postedOn" "[I" ∈ nf_tbl := List.mem_filter.mpr ⟨List.mem_of_getElem? (i := 84) (by decide +kernel), by decide +kernel⟩
theorem lk_X3_63 : Cond.fieldLink RX3 63 "NewsFlood$Articles" "postedOn" "[I" ∈ nf_tbl := List.mem_filter.mpr ⟨List.mem_of_getElem? (i := 85) (by decide +kernel), by decide +kernel⟩
theorem lk_X5_187 : Cond.fieldLink RX5 187 "NewsFlood$Articles" "postedOn" "[I" ∈ nf_tbl := List.mem_filter.mpr ⟨List.mem_of_getElem? (i := 86) (by decide +kernel), by decide +kernel⟩
theorem lk_X0_25 : Cond.fieldLink RX0 25 "NewsFlood$Articles" "action" "[I" ∈ nf_tbl := List.mem_filter.mpr ⟨List.mem_of_getElem? (i := 87) (by decide +kernel), by decide +kernel⟩
theorem lk_X3_86 : Cond.fieldLink RX3 86 "NewsFlood$Articles" "action" "[I" ∈ nf_tbl := List.mem_filter.mpr ⟨List.mem_of_getElem? (i := 88) (by decide +kernel), by decide +kernel⟩
theorem lk_X5_190 : Cond.fieldLink RX5 190 "NewsFlood$Articles" "action" "[I" ∈ nf_tbl := List.mem_filter.mpr ⟨List.mem_of_getElem? (i := 89) (by decide +kernel), by decide +kernel⟩
theorem lk_X0_28 : Cond.fieldLink RX0 28 "NewsFlood$Articles" "target" "[I" ∈ nf_tbl := List.mem_filter.mpr ⟨List.mem_of_getElem? (i := 90) (by decide +kernel), by decide +kernel⟩
theorem lk_X3_101 : Cond.fieldLink RX3 101 "NewsFlood$Articles" "target" "[I" ∈ nf_tbl := List.mem_filter.mpr ⟨List.mem_of_getElem? (i := 91) (by decide +kernel), by decide +kernel⟩
theorem lk_X5_193 : Cond.fieldLink RX5 193 "NewsFlood$Articles" "target" "[I" ∈ nf_tbl := List.mem_filter.mpr ⟨List.mem_of_getElem? (i := 92) (by decide +kernel), by decide +kernel⟩
theorem im_X4_init : Cond.instanceMethod yX4_init ∈ nf_tbl := List.mem_filter.mpr ⟨List.mem_of_getElem? (i := 111) (by decide +kernel), by decide +kernel⟩
theorem cd_X4_init : Cond.code yX4_init cX4_init 1 none ∈ nf_tbl := List.mem_filter.mpr ⟨List.mem_of_getElem? (i := 112) (by decide +kernel), by decide +kernel⟩
theorem lk_X4_9 : Cond.fieldLink RX4 9 "NewsFlood$Queue" "receivers" "[I" ∈ nf_tbl := List.mem_filter.mpr ⟨List.mem_of_getElem? (i := 114) (by decide +kernel), by decide +kernel⟩
theorem lk_X3_128 : Cond.fieldLink RX3 128 "NewsFlood$Queue" "receivers" "[I" ∈ nf_tbl := List.mem_filter.mpr ⟨List.mem_of_getElem? (i := 115) (by decide +kernel), by decide +kernel⟩
theorem lk_X4_15 : Cond.fieldLink RX4 15 "NewsFlood$Queue" "path" "[I" ∈ nf_tbl := List.mem_filter.mpr ⟨List.mem_of_getElem? (i := 116) (by decide +kernel), by decide +kernel⟩
theorem lk_X3_134 : Cond.fieldLink RX3 134 "NewsFlood$Queue" "path" "[I" ∈ nf_tbl := List.mem_filter.mpr ⟨List.mem_of_getElem? (i := 117) (by decide +kernel), by decide +kernel⟩
theorem ml_X3_52 : Cond.methodLink RX3 52 yJ7_fill_53178 ∈ nf_tbl := List.mem_filter.mpr ⟨List.mem_of_getElem? (i := 123) (by decide +kernel), by decide +kernel⟩
theorem st_J7_fill_53178 : Cond.static yJ7_fill_53178 ∈ nf_tbl := List.mem_filter.mpr ⟨List.mem_of_getElem? (i := 124) (by decide +kernel), by decide +kernel⟩
theorem cd_J7_fill_53178 : Cond.code yJ7_fill_53178 cJ7_fill_53178 4 none ∈ nf_tbl := List.mem_filter.mpr ⟨List.mem_of_getElem? (i := 125) (by decide +kernel), by decide +kernel⟩
theorem ml_X3_58 : Cond.methodLink RX3 58 yX1_init ∈ nf_tbl := List.mem_filter.mpr ⟨List.mem_of_getElem? (i := 127) (by decide +kernel), by decide +kernel⟩
theorem im_X1_init : Cond.instanceMethod yX1_init ∈ nf_tbl := List.mem_filter.mpr ⟨List.mem_of_getElem? (i := 128) (by decide +kernel), by decide +kernel⟩
theorem cd_X1_init : Cond.code yX1_init cX1_init 1 none ∈ nf_tbl := List.mem_filter.mpr ⟨List.mem_of_getElem? (i := 129) (by decide +kernel), by decide +kernel⟩
theorem ml_X1_25 : Cond.methodLink RX1 25 yJ7_fill_53178 ∈ nf_tbl := List.mem_filter.mpr ⟨List.mem_of_getElem? (i := 131) (by decide +kernel), by decide +kernel⟩
theorem lk_X1_9 : Cond.fieldLink RX1 9 "NewsFlood$Host" "groups" "I" ∈ nf_tbl := List.mem_filter.mpr ⟨List.mem_of_getElem? (i := 132) (by decide +kernel), by decide +kernel⟩
theorem lk_X5_74 : Cond.fieldLink RX5 74 "NewsFlood$Host" "groups" "I" ∈ nf_tbl := List.mem_filter.mpr ⟨List.mem_of_getElem? (i := 133) (by decide +kernel), by decide +kernel⟩
theorem lk_X1_15 : Cond.fieldLink RX1 15 "NewsFlood$Host" "store" "I" ∈ nf_tbl := List.mem_filter.mpr ⟨List.mem_of_getElem? (i := 134) (by decide +kernel), by decide +kernel⟩
theorem lk_X1_18 : Cond.fieldLink RX1 18 "NewsFlood$Host" "historyDay" "[I" ∈ nf_tbl := List.mem_filter.mpr ⟨List.mem_of_getElem? (i := 135) (by decide +kernel), by decide +kernel⟩
theorem lk_X3_66 : Cond.fieldLink RX3 66 "NewsFlood$Host" "historyDay" "[I" ∈ nf_tbl := List.mem_filter.mpr ⟨List.mem_of_getElem? (i := 136) (by decide +kernel), by decide +kernel⟩
theorem lk_X5_122 : Cond.fieldLink RX5 122 "NewsFlood$Host" "historyDay" "[I" ∈ nf_tbl := List.mem_filter.mpr ⟨List.mem_of_getElem? (i := 137) (by decide +kernel), by decide +kernel⟩
theorem lk_X1_22 : Cond.fieldLink RX1 22 "NewsFlood$Host" "cancelAuthors" "[I" ∈ nf_tbl := List.mem_filter.mpr ⟨List.mem_of_getElem? (i := 138) (by decide +kernel), by decide +kernel⟩
theorem lk_X3_9 : Cond.fieldLink RX3 9 "NewsFlood$Network" "today" "I" ∈ nf_tbl := List.mem_filter.mpr ⟨List.mem_of_getElem? (i := 148) (by decide +kernel), by decide +kernel⟩
theorem lk_X5_138 : Cond.fieldLink RX5 138 "NewsFlood$Network" "today" "I" ∈ nf_tbl := List.mem_filter.mpr ⟨List.mem_of_getElem? (i := 149) (by decide +kernel), by decide +kernel⟩
theorem lk_X3_15 : Cond.fieldLink RX3 15 "NewsFlood$Network" "historyLimit" "I" ∈ nf_tbl := List.mem_filter.mpr ⟨List.mem_of_getElem? (i := 150) (by decide +kernel), by decide +kernel⟩
theorem lk_X5_86 : Cond.fieldLink RX5 86 "NewsFlood$Network" "historyLimit" "I" ∈ nf_tbl := List.mem_filter.mpr ⟨List.mem_of_getElem? (i := 151) (by decide +kernel), by decide +kernel⟩
theorem lk_X3_18 : Cond.fieldLink RX3 18 "NewsFlood$Network" "expiry" "[I" ∈ nf_tbl := List.mem_filter.mpr ⟨List.mem_of_getElem? (i := 152) (by decide +kernel), by decide +kernel⟩
theorem lk_X5_83 : Cond.fieldLink RX5 83 "NewsFlood$Network" "expiry" "[I" ∈ nf_tbl := List.mem_filter.mpr ⟨List.mem_of_getElem? (i := 153) (by decide +kernel), by decide +kernel⟩
theorem lk_X3_25 : Cond.fieldLink RX3 25 "NewsFlood$Network" "links" "LNewsFlood$Links;" ∈ nf_tbl := List.mem_filter.mpr ⟨List.mem_of_getElem? (i := 154) (by decide +kernel), by decide +kernel⟩
theorem lk_X5_43 : Cond.fieldLink RX5 43 "NewsFlood$Network" "links" "LNewsFlood$Links;" ∈ nf_tbl := List.mem_filter.mpr ⟨List.mem_of_getElem? (i := 155) (by decide +kernel), by decide +kernel⟩
theorem lk_X3_32 : Cond.fieldLink RX3 32 "NewsFlood$Network" "articles" "LNewsFlood$Articles;" ∈ nf_tbl := List.mem_filter.mpr ⟨List.mem_of_getElem? (i := 156) (by decide +kernel), by decide +kernel⟩
theorem lk_X5_96 : Cond.fieldLink RX5 96 "NewsFlood$Network" "articles" "LNewsFlood$Articles;" ∈ nf_tbl := List.mem_filter.mpr ⟨List.mem_of_getElem? (i := 157) (by decide +kernel), by decide +kernel⟩
theorem lk_X3_38 : Cond.fieldLink RX3 38 "NewsFlood$Network" "hosts" "[LNewsFlood$Host;" ∈ nf_tbl := List.mem_filter.mpr ⟨List.mem_of_getElem? (i := 158) (by decide +kernel), by decide +kernel⟩
theorem lk_X5_70 : Cond.fieldLink RX5 70 "NewsFlood$Network" "hosts" "[LNewsFlood$Host;" ∈ nf_tbl := List.mem_filter.mpr ⟨List.mem_of_getElem? (i := 159) (by decide +kernel), by decide +kernel⟩
theorem lk_X3_45 : Cond.fieldLink RX3 45 "NewsFlood$Network" "queue" "LNewsFlood$Queue;" ∈ nf_tbl := List.mem_filter.mpr ⟨List.mem_of_getElem? (i := 160) (by decide +kernel), by decide +kernel⟩
theorem lk_X5_109 : Cond.fieldLink RX5 109 "NewsFlood$Network" "queue" "LNewsFlood$Queue;" ∈ nf_tbl := List.mem_filter.mpr ⟨List.mem_of_getElem? (i := 161) (by decide +kernel), by decide +kernel⟩
theorem lk_X3_49 : Cond.fieldLink RX3 49 "NewsFlood$Network" "counts" "[I" ∈ nf_tbl := List.mem_filter.mpr ⟨List.mem_of_getElem? (i := 162) (by decide +kernel), by decide +kernel⟩
theorem lk_X5_135 : Cond.fieldLink RX5 135 "NewsFlood$Network" "counts" "[I" ∈ nf_tbl := List.mem_filter.mpr ⟨List.mem_of_getElem? (i := 163) (by decide +kernel), by decide +kernel⟩
theorem lk_X5_12 : Cond.fieldLink RX5 12 "NewsFlood" "network" "LNewsFlood$Network;" ∈ nf_tbl := List.mem_filter.mpr ⟨List.mem_of_getElem? (i := 184) (by decide +kernel), by decide +kernel⟩
theorem lk_X5_19 : Cond.fieldLink RX5 19 "NewsFlood" "taken" "LNewsFlood$Queue;" ∈ nf_tbl := List.mem_filter.mpr ⟨List.mem_of_getElem? (i := 185) (by decide +kernel), by decide +kernel⟩
theorem lk_X5_23 : Cond.fieldLink RX5 23 "NewsFlood" "saved" "[LNewsFlood$Network;" ∈ nf_tbl := List.mem_filter.mpr ⟨List.mem_of_getElem? (i := 186) (by decide +kernel), by decide +kernel⟩
theorem lk_X5_27 : Cond.fieldLink RX5 27 "NewsFlood" "savedCount" "I" ∈ nf_tbl := List.mem_filter.mpr ⟨List.mem_of_getElem? (i := 187) (by decide +kernel), by decide +kernel⟩
theorem lk_X5_31 : Cond.fieldLink RX5 31 "NewsFlood" "errors" "[I" ∈ nf_tbl := List.mem_filter.mpr ⟨List.mem_of_getElem? (i := 188) (by decide +kernel), by decide +kernel⟩
theorem ml_L_13 : Cond.methodLink RL 13 yX5_addLink ∈ nf_tbl := List.mem_filter.mpr ⟨List.mem_of_getElem? (i := 200) (by decide +kernel), by decide +kernel⟩
theorem im_X5_addLink : Cond.instanceMethod yX5_addLink ∈ nf_tbl := List.mem_filter.mpr ⟨List.mem_of_getElem? (i := 201) (by decide +kernel), by decide +kernel⟩
theorem se_X5_addLink : Cond.selects RX5 yX5_addLink yX5_addLink ∈ nf_tbl := List.mem_filter.mpr ⟨List.mem_of_getElem? (i := 202) (by decide +kernel), by decide +kernel⟩
theorem cd_X5_addLink : Cond.code yX5_addLink cX5_addLink 4 (some .int) ∈ nf_tbl := List.mem_filter.mpr ⟨List.mem_of_getElem? (i := 203) (by decide +kernel), by decide +kernel⟩
theorem ml_X5_35 : Cond.methodLink RX5 35 yX5_isBelow ∈ nf_tbl := List.mem_filter.mpr ⟨List.mem_of_getElem? (i := 204) (by decide +kernel), by decide +kernel⟩
theorem st_X5_isBelow : Cond.static yX5_isBelow ∈ nf_tbl := List.mem_filter.mpr ⟨List.mem_of_getElem? (i := 205) (by decide +kernel), by decide +kernel⟩
theorem cd_X5_isBelow : Cond.code yX5_isBelow cX5_isBelow 2 (some .boolean) ∈ nf_tbl := List.mem_filter.mpr ⟨List.mem_of_getElem? (i := 206) (by decide +kernel), by decide +kernel⟩
theorem ml_X5_39 : Cond.methodLink RX5 39 yX5_fail ∈ nf_tbl := List.mem_filter.mpr ⟨List.mem_of_getElem? (i := 207) (by decide +kernel), by decide +kernel⟩
theorem im_X5_fail : Cond.instanceMethod yX5_fail ∈ nf_tbl := List.mem_filter.mpr ⟨List.mem_of_getElem? (i := 209) (by decide +kernel), by decide +kernel⟩
theorem cd_X5_fail : Cond.code yX5_fail cX5_fail 3 (some .int) ∈ nf_tbl := List.mem_filter.mpr ⟨List.mem_of_getElem? (i := 210) (by decide +kernel), by decide +kernel⟩
theorem ml_X5_145 : Cond.methodLink RX5 145 yX5_errorSlot ∈ nf_tbl := List.mem_filter.mpr ⟨List.mem_of_getElem? (i := 211) (by decide +kernel), by decide +kernel⟩
theorem st_X5_errorSlot : Cond.static yX5_errorSlot ∈ nf_tbl := List.mem_filter.mpr ⟨List.mem_of_getElem? (i := 212) (by decide +kernel), by decide +kernel⟩
theorem cd_X5_errorSlot : Cond.code yX5_errorSlot cX5_errorSlot 1 (some .int) ∈ nf_tbl := List.mem_filter.mpr ⟨List.mem_of_getElem? (i := 213) (by decide +kernel), by decide +kernel⟩
theorem ml_X5_47 : Cond.methodLink RX5 47 yX2_between ∈ nf_tbl := List.mem_filter.mpr ⟨List.mem_of_getElem? (i := 214) (by decide +kernel), by decide +kernel⟩
theorem im_X2_between : Cond.instanceMethod yX2_between ∈ nf_tbl := List.mem_filter.mpr ⟨List.mem_of_getElem? (i := 215) (by decide +kernel), by decide +kernel⟩
theorem se_X2_between : Cond.selects RX2 yX2_between yX2_between ∈ nf_tbl := List.mem_filter.mpr ⟨List.mem_of_getElem? (i := 216) (by decide +kernel), by decide +kernel⟩
theorem cd_X2_between : Cond.code yX2_between cX2_between 6 (some .int) ∈ nf_tbl := List.mem_filter.mpr ⟨List.mem_of_getElem? (i := 217) (by decide +kernel), by decide +kernel⟩
theorem ml_X5_56 : Cond.methodLink RX5 56 yX5_save ∈ nf_tbl := List.mem_filter.mpr ⟨List.mem_of_getElem? (i := 218) (by decide +kernel), by decide +kernel⟩
theorem im_X5_save : Cond.instanceMethod yX5_save ∈ nf_tbl := List.mem_filter.mpr ⟨List.mem_of_getElem? (i := 220) (by decide +kernel), by decide +kernel⟩
theorem cd_X5_save : Cond.code yX5_save cX5_save 3 none ∈ nf_tbl := List.mem_filter.mpr ⟨List.mem_of_getElem? (i := 221) (by decide +kernel), by decide +kernel⟩
theorem ml_X5_141 : Cond.methodLink RX5 141 yX3_copyFrom ∈ nf_tbl := List.mem_filter.mpr ⟨List.mem_of_getElem? (i := 222) (by decide +kernel), by decide +kernel⟩
theorem im_X3_copyFrom : Cond.instanceMethod yX3_copyFrom ∈ nf_tbl := List.mem_filter.mpr ⟨List.mem_of_getElem? (i := 223) (by decide +kernel), by decide +kernel⟩
theorem se_X3_copyFrom : Cond.selects RX3 yX3_copyFrom yX3_copyFrom ∈ nf_tbl := List.mem_filter.mpr ⟨List.mem_of_getElem? (i := 224) (by decide +kernel), by decide +kernel⟩
theorem cd_X3_copyFrom : Cond.code yX3_copyFrom cX3_copyFrom 3 none ∈ nf_tbl := List.mem_filter.mpr ⟨List.mem_of_getElem? (i := 225) (by decide +kernel), by decide +kernel⟩
theorem ac_X3_159 : Cond.methodLink RX3 159 arraycopyName ∈ nf_tbl := List.mem_filter.mpr ⟨List.mem_of_getElem? (i := 226) (by decide +kernel), by decide +kernel⟩
theorem ac_static : Cond.static arraycopyName ∈ nf_tbl := List.mem_filter.mpr ⟨List.mem_of_getElem? (i := 227) (by decide +kernel), by decide +kernel⟩
theorem ac_native : Cond.native arraycopyName ∈ nf_tbl := List.mem_filter.mpr ⟨List.mem_of_getElem? (i := 228) (by decide +kernel), by decide +kernel⟩
theorem ml_X3_165 : Cond.methodLink RX3 165 yX2_copyFrom ∈ nf_tbl := List.mem_filter.mpr ⟨List.mem_of_getElem? (i := 229) (by decide +kernel), by decide +kernel⟩
theorem im_X2_copyFrom : Cond.instanceMethod yX2_copyFrom ∈ nf_tbl := List.mem_filter.mpr ⟨List.mem_of_getElem? (i := 230) (by decide +kernel), by decide +kernel⟩
theorem se_X2_copyFrom : Cond.selects RX2 yX2_copyFrom yX2_copyFrom ∈ nf_tbl := List.mem_filter.mpr ⟨List.mem_of_getElem? (i := 231) (by decide +kernel), by decide +kernel⟩
theorem cd_X2_copyFrom : Cond.code yX2_copyFrom cX2_copyFrom 2 none ∈ nf_tbl := List.mem_filter.mpr ⟨List.mem_of_getElem? (i := 232) (by decide +kernel), by decide +kernel⟩
theorem ac_X2_32 : Cond.methodLink RX2 32 arraycopyName ∈ nf_tbl := List.mem_filter.mpr ⟨List.mem_of_getElem? (i := 233) (by decide +kernel), by decide +kernel⟩
theorem ml_X3_168 : Cond.methodLink RX3 168 yX0_copyFrom ∈ nf_tbl := List.mem_filter.mpr ⟨List.mem_of_getElem? (i := 234) (by decide +kernel), by decide +kernel⟩
theorem im_X0_copyFrom : Cond.instanceMethod yX0_copyFrom ∈ nf_tbl := List.mem_filter.mpr ⟨List.mem_of_getElem? (i := 235) (by decide +kernel), by decide +kernel⟩
theorem se_X0_copyFrom : Cond.selects RX0 yX0_copyFrom yX0_copyFrom ∈ nf_tbl := List.mem_filter.mpr ⟨List.mem_of_getElem? (i := 236) (by decide +kernel), by decide +kernel⟩
theorem cd_X0_copyFrom : Cond.code yX0_copyFrom cX0_copyFrom 2 none ∈ nf_tbl := List.mem_filter.mpr ⟨List.mem_of_getElem? (i := 237) (by decide +kernel), by decide +kernel⟩
theorem ac_X0_31 : Cond.methodLink RX0 31 arraycopyName ∈ nf_tbl := List.mem_filter.mpr ⟨List.mem_of_getElem? (i := 238) (by decide +kernel), by decide +kernel⟩
theorem ml_X3_171 : Cond.methodLink RX3 171 yX1_copyFrom ∈ nf_tbl := List.mem_filter.mpr ⟨List.mem_of_getElem? (i := 239) (by decide +kernel), by decide +kernel⟩
theorem im_X1_copyFrom : Cond.instanceMethod yX1_copyFrom ∈ nf_tbl := List.mem_filter.mpr ⟨List.mem_of_getElem? (i := 240) (by decide +kernel), by decide +kernel⟩
theorem se_X1_copyFrom : Cond.selects RX1 yX1_copyFrom yX1_copyFrom ∈ nf_tbl := List.mem_filter.mpr ⟨List.mem_of_getElem? (i := 241) (by decide +kernel), by decide +kernel⟩
theorem cd_X1_copyFrom : Cond.code yX1_copyFrom cX1_copyFrom 2 none ∈ nf_tbl := List.mem_filter.mpr ⟨List.mem_of_getElem? (i := 242) (by decide +kernel), by decide +kernel⟩
theorem ac_X1_41 : Cond.methodLink RX1 41 arraycopyName ∈ nf_tbl := List.mem_filter.mpr ⟨List.mem_of_getElem? (i := 243) (by decide +kernel), by decide +kernel⟩
theorem ml_X3_114 : Cond.methodLink RX3 114 yX4_copyFrom ∈ nf_tbl := List.mem_filter.mpr ⟨List.mem_of_getElem? (i := 244) (by decide +kernel), by decide +kernel⟩
theorem im_X4_copyFrom : Cond.instanceMethod yX4_copyFrom ∈ nf_tbl := List.mem_filter.mpr ⟨List.mem_of_getElem? (i := 245) (by decide +kernel), by decide +kernel⟩
theorem se_X4_copyFrom : Cond.selects RX4 yX4_copyFrom yX4_copyFrom ∈ nf_tbl := List.mem_filter.mpr ⟨List.mem_of_getElem? (i := 246) (by decide +kernel), by decide +kernel⟩
theorem cd_X4_copyFrom : Cond.code yX4_copyFrom cX4_copyFrom 2 none ∈ nf_tbl := List.mem_filter.mpr ⟨List.mem_of_getElem? (i := 247) (by decide +kernel), by decide +kernel⟩
theorem ac_X4_34 : Cond.methodLink RX4 34 arraycopyName ∈ nf_tbl := List.mem_filter.mpr ⟨List.mem_of_getElem? (i := 248) (by decide +kernel), by decide +kernel⟩
theorem ml_X5_59 : Cond.methodLink RX5 59 yX2_append ∈ nf_tbl := List.mem_filter.mpr ⟨List.mem_of_getElem? (i := 249) (by decide +kernel), by decide +kernel⟩
theorem im_X2_append : Cond.instanceMethod yX2_append ∈ nf_tbl := List.mem_filter.mpr ⟨List.mem_of_getElem? (i := 250) (by decide +kernel), by decide +kernel⟩
theorem se_X2_append : Cond.selects RX2 yX2_append yX2_append ∈ nf_tbl := List.mem_filter.mpr ⟨List.mem_of_getElem? (i := 251) (by decide +kernel), by decide +kernel⟩
theorem cd_X2_append : Cond.code yX2_append cX2_append 4 (some .int) ∈ nf_tbl := List.mem_filter.mpr ⟨List.mem_of_getElem? (i := 252) (by decide +kernel), by decide +kernel⟩
theorem ml_L_18 : Cond.methodLink RL 18 yX5_removeLink ∈ nf_tbl := List.mem_filter.mpr ⟨List.mem_of_getElem? (i := 253) (by decide +kernel), by decide +kernel⟩
theorem im_X5_removeLink : Cond.instanceMethod yX5_removeLink ∈ nf_tbl := List.mem_filter.mpr ⟨List.mem_of_getElem? (i := 254) (by decide +kernel), by decide +kernel⟩
theorem se_X5_removeLink : Cond.selects RX5 yX5_removeLink yX5_removeLink ∈ nf_tbl := List.mem_filter.mpr ⟨List.mem_of_getElem? (i := 255) (by decide +kernel), by decide +kernel⟩
theorem cd_X5_removeLink : Cond.code yX5_removeLink cX5_removeLink 2 (some .int) ∈ nf_tbl := List.mem_filter.mpr ⟨List.mem_of_getElem? (i := 256) (by decide +kernel), by decide +kernel⟩
theorem ml_X5_63 : Cond.methodLink RX5 63 yX2_delete ∈ nf_tbl := List.mem_filter.mpr ⟨List.mem_of_getElem? (i := 257) (by decide +kernel), by decide +kernel⟩
theorem im_X2_delete : Cond.instanceMethod yX2_delete ∈ nf_tbl := List.mem_filter.mpr ⟨List.mem_of_getElem? (i := 258) (by decide +kernel), by decide +kernel⟩
theorem se_X2_delete : Cond.selects RX2 yX2_delete yX2_delete ∈ nf_tbl := List.mem_filter.mpr ⟨List.mem_of_getElem? (i := 259) (by decide +kernel), by decide +kernel⟩
theorem cd_X2_delete : Cond.code yX2_delete cX2_delete 3 none ∈ nf_tbl := List.mem_filter.mpr ⟨List.mem_of_getElem? (i := 260) (by decide +kernel), by decide +kernel⟩
theorem ml_L_23 : Cond.methodLink RL 23 yX5_setKind ∈ nf_tbl := List.mem_filter.mpr ⟨List.mem_of_getElem? (i := 262) (by decide +kernel), by decide +kernel⟩
theorem im_X5_setKind : Cond.instanceMethod yX5_setKind ∈ nf_tbl := List.mem_filter.mpr ⟨List.mem_of_getElem? (i := 263) (by decide +kernel), by decide +kernel⟩
theorem se_X5_setKind : Cond.selects RX5 yX5_setKind yX5_setKind ∈ nf_tbl := List.mem_filter.mpr ⟨List.mem_of_getElem? (i := 264) (by decide +kernel), by decide +kernel⟩
theorem cd_X5_setKind : Cond.code yX5_setKind cX5_setKind 4 (some .int) ∈ nf_tbl := List.mem_filter.mpr ⟨List.mem_of_getElem? (i := 265) (by decide +kernel), by decide +kernel⟩
theorem ml_L_28 : Cond.methodLink RL 28 yX5_setGroups ∈ nf_tbl := List.mem_filter.mpr ⟨List.mem_of_getElem? (i := 266) (by decide +kernel), by decide +kernel⟩
theorem im_X5_setGroups : Cond.instanceMethod yX5_setGroups ∈ nf_tbl := List.mem_filter.mpr ⟨List.mem_of_getElem? (i := 267) (by decide +kernel), by decide +kernel⟩
theorem se_X5_setGroups : Cond.selects RX5 yX5_setGroups yX5_setGroups ∈ nf_tbl := List.mem_filter.mpr ⟨List.mem_of_getElem? (i := 268) (by decide +kernel), by decide +kernel⟩
theorem cd_X5_setGroups : Cond.code yX5_setGroups cX5_setGroups 4 (some .int) ∈ nf_tbl := List.mem_filter.mpr ⟨List.mem_of_getElem? (i := 269) (by decide +kernel), by decide +kernel⟩
theorem ml_L_32 : Cond.methodLink RL 32 yX5_setExpiry ∈ nf_tbl := List.mem_filter.mpr ⟨List.mem_of_getElem? (i := 270) (by decide +kernel), by decide +kernel⟩
theorem im_X5_setExpiry : Cond.instanceMethod yX5_setExpiry ∈ nf_tbl := List.mem_filter.mpr ⟨List.mem_of_getElem? (i := 271) (by decide +kernel), by decide +kernel⟩
theorem se_X5_setExpiry : Cond.selects RX5 yX5_setExpiry yX5_setExpiry ∈ nf_tbl := List.mem_filter.mpr ⟨List.mem_of_getElem? (i := 272) (by decide +kernel), by decide +kernel⟩
theorem cd_X5_setExpiry : Cond.code yX5_setExpiry cX5_setExpiry 4 (some .int) ∈ nf_tbl := List.mem_filter.mpr ⟨List.mem_of_getElem? (i := 273) (by decide +kernel), by decide +kernel⟩
theorem ml_X5_79 : Cond.methodLink RX5 79 yX5_isLimit ∈ nf_tbl := List.mem_filter.mpr ⟨List.mem_of_getElem? (i := 274) (by decide +kernel), by decide +kernel⟩
theorem st_X5_isLimit : Cond.static yX5_isLimit ∈ nf_tbl := List.mem_filter.mpr ⟨List.mem_of_getElem? (i := 275) (by decide +kernel), by decide +kernel⟩
theorem cd_X5_isLimit : Cond.code yX5_isLimit cX5_isLimit 1 (some .boolean) ∈ nf_tbl := List.mem_filter.mpr ⟨List.mem_of_getElem? (i := 276) (by decide +kernel), by decide +kernel⟩
theorem ml_L_36 : Cond.methodLink RL 36 yX5_setHistoryLimit ∈ nf_tbl := List.mem_filter.mpr ⟨List.mem_of_getElem? (i := 277) (by decide +kernel), by decide +kernel⟩
theorem im_X5_setHistoryLimit : Cond.instanceMethod yX5_setHistoryLimit ∈ nf_tbl := List.mem_filter.mpr ⟨List.mem_of_getElem? (i := 278) (by decide +kernel), by decide +kernel⟩
theorem se_X5_setHistoryLimit : Cond.selects RX5 yX5_setHistoryLimit yX5_setHistoryLimit ∈ nf_tbl := List.mem_filter.mpr ⟨List.mem_of_getElem? (i := 279) (by decide +kernel), by decide +kernel⟩
theorem cd_X5_setHistoryLimit : Cond.code yX5_setHistoryLimit cX5_setHistoryLimit 3 (some .int) ∈ nf_tbl := List.mem_filter.mpr ⟨List.mem_of_getElem? (i := 280) (by decide +kernel), by decide +kernel⟩
theorem ml_L_40 : Cond.methodLink RL 40 yX5_post ∈ nf_tbl := List.mem_filter.mpr ⟨List.mem_of_getElem? (i := 281) (by decide +kernel), by decide +kernel⟩
theorem im_X5_post : Cond.instanceMethod yX5_post ∈ nf_tbl := List.mem_filter.mpr ⟨List.mem_of_getElem? (i := 282) (by decide +kernel), by decide +kernel⟩
theorem se_X5_post : Cond.selects RX5 yX5_post yX5_post ∈ nf_tbl := List.mem_filter.mpr ⟨List.mem_of_getElem? (i := 283) (by decide +kernel), by decide +kernel⟩
theorem cd_X5_post : Cond.code yX5_post cX5_post 4 (some .int) ∈ nf_tbl := List.mem_filter.mpr ⟨List.mem_of_getElem? (i := 284) (by decide +kernel), by decide +kernel⟩
theorem ml_X5_89 : Cond.methodLink RX5 89 yX5_publish ∈ nf_tbl := List.mem_filter.mpr ⟨List.mem_of_getElem? (i := 285) (by decide +kernel), by decide +kernel⟩
theorem im_X5_publish : Cond.instanceMethod yX5_publish ∈ nf_tbl := List.mem_filter.mpr ⟨List.mem_of_getElem? (i := 287) (by decide +kernel), by decide +kernel⟩
theorem cd_X5_publish : Cond.code yX5_publish cX5_publish 7 (some .int) ∈ nf_tbl := List.mem_filter.mpr ⟨List.mem_of_getElem? (i := 288) (by decide +kernel), by decide +kernel⟩
theorem ml_X5_170 : Cond.methodLink RX5 170 yX0_append ∈ nf_tbl := List.mem_filter.mpr ⟨List.mem_of_getElem? (i := 289) (by decide +kernel), by decide +kernel⟩
theorem im_X0_append : Cond.instanceMethod yX0_append ∈ nf_tbl := List.mem_filter.mpr ⟨List.mem_of_getElem? (i := 290) (by decide +kernel), by decide +kernel⟩
theorem se_X0_append : Cond.selects RX0 yX0_append yX0_append ∈ nf_tbl := List.mem_filter.mpr ⟨List.mem_of_getElem? (i := 291) (by decide +kernel), by decide +kernel⟩
theorem cd_X0_append : Cond.code yX0_append cX0_append 6 (some .int) ∈ nf_tbl := List.mem_filter.mpr ⟨List.mem_of_getElem? (i := 292) (by decide +kernel), by decide +kernel⟩
theorem ml_X5_172 : Cond.methodLink RX5 172 yX3_arrive ∈ nf_tbl := List.mem_filter.mpr ⟨List.mem_of_getElem? (i := 293) (by decide +kernel), by decide +kernel⟩
theorem im_X3_arrive : Cond.instanceMethod yX3_arrive ∈ nf_tbl := List.mem_filter.mpr ⟨List.mem_of_getElem? (i := 294) (by decide +kernel), by decide +kernel⟩
theorem se_X3_arrive : Cond.selects RX3 yX3_arrive yX3_arrive ∈ nf_tbl := List.mem_filter.mpr ⟨List.mem_of_getElem? (i := 295) (by decide +kernel), by decide +kernel⟩
theorem cd_X3_arrive : Cond.code yX3_arrive cX3_arrive 6 (some .boolean) ∈ nf_tbl := List.mem_filter.mpr ⟨List.mem_of_getElem? (i := 296) (by decide +kernel), by decide +kernel⟩
theorem ml_X3_59 : Cond.methodLink RX3 59 yX1_knows ∈ nf_tbl := List.mem_filter.mpr ⟨List.mem_of_getElem? (i := 297) (by decide +kernel), by decide +kernel⟩
theorem im_X1_knows : Cond.instanceMethod yX1_knows ∈ nf_tbl := List.mem_filter.mpr ⟨List.mem_of_getElem? (i := 298) (by decide +kernel), by decide +kernel⟩
theorem se_X1_knows : Cond.selects RX1 yX1_knows yX1_knows ∈ nf_tbl := List.mem_filter.mpr ⟨List.mem_of_getElem? (i := 299) (by decide +kernel), by decide +kernel⟩
theorem cd_X1_knows : Cond.code yX1_knows cX1_knows 2 (some .boolean) ∈ nf_tbl := List.mem_filter.mpr ⟨List.mem_of_getElem? (i := 300) (by decide +kernel), by decide +kernel⟩
theorem ml_X3_72 : Cond.methodLink RX3 72 yX1_takeCancel ∈ nf_tbl := List.mem_filter.mpr ⟨List.mem_of_getElem? (i := 301) (by decide +kernel), by decide +kernel⟩
theorem im_X1_takeCancel : Cond.instanceMethod yX1_takeCancel ∈ nf_tbl := List.mem_filter.mpr ⟨List.mem_of_getElem? (i := 302) (by decide +kernel), by decide +kernel⟩
theorem se_X1_takeCancel : Cond.selects RX1 yX1_takeCancel yX1_takeCancel ∈ nf_tbl := List.mem_filter.mpr ⟨List.mem_of_getElem? (i := 303) (by decide +kernel), by decide +kernel⟩
theorem cd_X1_takeCancel : Cond.code yX1_takeCancel cX1_takeCancel 4 (some .boolean) ∈ nf_tbl := List.mem_filter.mpr ⟨List.mem_of_getElem? (i := 304) (by decide +kernel), by decide +kernel⟩
theorem st_X5_has : Cond.static yX5_has ∈ nf_tbl := List.mem_filter.mpr ⟨List.mem_of_getElem? (i := 306) (by decide +kernel), by decide +kernel⟩
theorem cd_X5_has : Cond.code yX5_has cX5_has 2 (some .boolean) ∈ nf_tbl := List.mem_filter.mpr ⟨List.mem_of_getElem? (i := 307) (by decide +kernel), by decide +kernel⟩
theorem ml_X3_79 : Cond.methodLink RX3 79 yX1_carries ∈ nf_tbl := List.mem_filter.mpr ⟨List.mem_of_getElem? (i := 308) (by decide +kernel), by decide +kernel⟩
theorem im_X1_carries : Cond.instanceMethod yX1_carries ∈ nf_tbl := List.mem_filter.mpr ⟨List.mem_of_getElem? (i := 309) (by decide +kernel), by decide +kernel⟩
theorem se_X1_carries : Cond.selects RX1 yX1_carries yX1_carries ∈ nf_tbl := List.mem_filter.mpr ⟨List.mem_of_getElem? (i := 310) (by decide +kernel), by decide +kernel⟩
theorem cd_X1_carries : Cond.code yX1_carries cX1_carries 2 (some .boolean) ∈ nf_tbl := List.mem_filter.mpr ⟨List.mem_of_getElem? (i := 311) (by decide +kernel), by decide +kernel⟩
theorem ml_X3_82 : Cond.methodLink RX3 82 yX1_keep ∈ nf_tbl := List.mem_filter.mpr ⟨List.mem_of_getElem? (i := 312) (by decide +kernel), by decide +kernel⟩
theorem im_X1_keep : Cond.instanceMethod yX1_keep ∈ nf_tbl := List.mem_filter.mpr ⟨List.mem_of_getElem? (i := 313) (by decide +kernel), by decide +kernel⟩
theorem se_X1_keep : Cond.selects RX1 yX1_keep yX1_keep ∈ nf_tbl := List.mem_filter.mpr ⟨List.mem_of_getElem? (i := 314) (by decide +kernel), by decide +kernel⟩
theorem cd_X1_keep : Cond.code yX1_keep cX1_keep 2 none ∈ nf_tbl := List.mem_filter.mpr ⟨List.mem_of_getElem? (i := 315) (by decide +kernel), by decide +kernel⟩
theorem ml_X3_89 : Cond.methodLink RX3 89 yX3_actOnTarget ∈ nf_tbl := List.mem_filter.mpr ⟨List.mem_of_getElem? (i := 316) (by decide +kernel), by decide +kernel⟩
theorem im_X3_actOnTarget : Cond.instanceMethod yX3_actOnTarget ∈ nf_tbl := List.mem_filter.mpr ⟨List.mem_of_getElem? (i := 317) (by decide +kernel), by decide +kernel⟩
theorem se_X3_actOnTarget : Cond.selects RX3 yX3_actOnTarget yX3_actOnTarget ∈ nf_tbl := List.mem_filter.mpr ⟨List.mem_of_getElem? (i := 318) (by decide +kernel), by decide +kernel⟩
theorem cd_X3_actOnTarget : Cond.code yX3_actOnTarget cX3_actOnTarget 5 none ∈ nf_tbl := List.mem_filter.mpr ⟨List.mem_of_getElem? (i := 319) (by decide +kernel), by decide +kernel⟩
theorem ml_X3_104 : Cond.methodLink RX3 104 yX1_stores ∈ nf_tbl := List.mem_filter.mpr ⟨List.mem_of_getElem? (i := 320) (by decide +kernel), by decide +kernel⟩
theorem im_X1_stores : Cond.instanceMethod yX1_stores ∈ nf_tbl := List.mem_filter.mpr ⟨List.mem_of_getElem? (i := 321) (by decide +kernel), by decide +kernel⟩
theorem se_X1_stores : Cond.selects RX1 yX1_stores yX1_stores ∈ nf_tbl := List.mem_filter.mpr ⟨List.mem_of_getElem? (i := 322) (by decide +kernel), by decide +kernel⟩
theorem cd_X1_stores : Cond.code yX1_stores cX1_stores 2 (some .boolean) ∈ nf_tbl := List.mem_filter.mpr ⟨List.mem_of_getElem? (i := 323) (by decide +kernel), by decide +kernel⟩
theorem ml_X3_107 : Cond.methodLink RX3 107 yX1_drop ∈ nf_tbl := List.mem_filter.mpr ⟨List.mem_of_getElem? (i := 324) (by decide +kernel), by decide +kernel⟩
theorem im_X1_drop : Cond.instanceMethod yX1_drop ∈ nf_tbl := List.mem_filter.mpr ⟨List.mem_of_getElem? (i := 325) (by decide +kernel), by decide +kernel⟩
theorem se_X1_drop : Cond.selects RX1 yX1_drop yX1_drop ∈ nf_tbl := List.mem_filter.mpr ⟨List.mem_of_getElem? (i := 326) (by decide +kernel), by decide +kernel⟩
theorem cd_X1_drop : Cond.code yX1_drop cX1_drop 2 none ∈ nf_tbl := List.mem_filter.mpr ⟨List.mem_of_getElem? (i := 327) (by decide +kernel), by decide +kernel⟩
theorem ml_X3_110 : Cond.methodLink RX3 110 yX1_addCancel ∈ nf_tbl := List.mem_filter.mpr ⟨List.mem_of_getElem? (i := 328) (by decide +kernel), by decide +kernel⟩
theorem im_X1_addCancel : Cond.instanceMethod yX1_addCancel ∈ nf_tbl := List.mem_filter.mpr ⟨List.mem_of_getElem? (i := 329) (by decide +kernel), by decide +kernel⟩
theorem se_X1_addCancel : Cond.selects RX1 yX1_addCancel yX1_addCancel ∈ nf_tbl := List.mem_filter.mpr ⟨List.mem_of_getElem? (i := 330) (by decide +kernel), by decide +kernel⟩
theorem cd_X1_addCancel : Cond.code yX1_addCancel cX1_addCancel 3 none ∈ nf_tbl := List.mem_filter.mpr ⟨List.mem_of_getElem? (i := 331) (by decide +kernel), by decide +kernel⟩
theorem ml_X3_93 : Cond.methodLink RX3 93 yX2_neighboursOf ∈ nf_tbl := List.mem_filter.mpr ⟨List.mem_of_getElem? (i := 332) (by decide +kernel), by decide +kernel⟩
theorem im_X2_neighboursOf : Cond.instanceMethod yX2_neighboursOf ∈ nf_tbl := List.mem_filter.mpr ⟨List.mem_of_getElem? (i := 333) (by decide +kernel), by decide +kernel⟩
theorem se_X2_neighboursOf : Cond.selects RX2 yX2_neighboursOf yX2_neighboursOf ∈ nf_tbl := List.mem_filter.mpr ⟨List.mem_of_getElem? (i := 334) (by decide +kernel), by decide +kernel⟩
theorem cd_X2_neighboursOf : Cond.code yX2_neighboursOf cX2_neighboursOf 4 (some .int) ∈ nf_tbl := List.mem_filter.mpr ⟨List.mem_of_getElem? (i := 335) (by decide +kernel), by decide +kernel⟩
theorem ml_X3_97 : Cond.methodLink RX3 97 yX4_put ∈ nf_tbl := List.mem_filter.mpr ⟨List.mem_of_getElem? (i := 337) (by decide +kernel), by decide +kernel⟩
theorem im_X4_put : Cond.instanceMethod yX4_put ∈ nf_tbl := List.mem_filter.mpr ⟨List.mem_of_getElem? (i := 338) (by decide +kernel), by decide +kernel⟩
theorem se_X4_put : Cond.selects RX4 yX4_put yX4_put ∈ nf_tbl := List.mem_filter.mpr ⟨List.mem_of_getElem? (i := 339) (by decide +kernel), by decide +kernel⟩
theorem cd_X4_put : Cond.code yX4_put cX4_put 5 none ∈ nf_tbl := List.mem_filter.mpr ⟨List.mem_of_getElem? (i := 340) (by decide +kernel), by decide +kernel⟩
theorem ml_X4_18 : Cond.methodLink RX4 18 yX4_slot ∈ nf_tbl := List.mem_filter.mpr ⟨List.mem_of_getElem? (i := 341) (by decide +kernel), by decide +kernel⟩
theorem st_X4_slot : Cond.static yX4_slot ∈ nf_tbl := List.mem_filter.mpr ⟨List.mem_of_getElem? (i := 342) (by decide +kernel), by decide +kernel⟩
theorem cd_X4_slot : Cond.code yX4_slot cX4_slot 2 (some .int) ∈ nf_tbl := List.mem_filter.mpr ⟨List.mem_of_getElem? (i := 343) (by decide +kernel), by decide +kernel⟩
theorem ml_L_44 : Cond.methodLink RL 44 yX5_postAction ∈ nf_tbl := List.mem_filter.mpr ⟨List.mem_of_getElem? (i := 344) (by decide +kernel), by decide +kernel⟩
theorem im_X5_postAction : Cond.instanceMethod yX5_postAction ∈ nf_tbl := List.mem_filter.mpr ⟨List.mem_of_getElem? (i := 345) (by decide +kernel), by decide +kernel⟩
theorem se_X5_postAction : Cond.selects RX5 yX5_postAction yX5_postAction ∈ nf_tbl := List.mem_filter.mpr ⟨List.mem_of_getElem? (i := 346) (by decide +kernel), by decide +kernel⟩
theorem cd_X5_postAction : Cond.code yX5_postAction cX5_postAction 5 (some .int) ∈ nf_tbl := List.mem_filter.mpr ⟨List.mem_of_getElem? (i := 347) (by decide +kernel), by decide +kernel⟩
theorem ml_X5_93 : Cond.methodLink RX5 93 yX5_isArticle ∈ nf_tbl := List.mem_filter.mpr ⟨List.mem_of_getElem? (i := 348) (by decide +kernel), by decide +kernel⟩
theorem im_X5_isArticle : Cond.instanceMethod yX5_isArticle ∈ nf_tbl := List.mem_filter.mpr ⟨List.mem_of_getElem? (i := 350) (by decide +kernel), by decide +kernel⟩
theorem cd_X5_isArticle : Cond.code yX5_isArticle cX5_isArticle 2 (some .boolean) ∈ nf_tbl := List.mem_filter.mpr ⟨List.mem_of_getElem? (i := 351) (by decide +kernel), by decide +kernel⟩
theorem ml_L_49 : Cond.methodLink RL 49 yX5_round ∈ nf_tbl := List.mem_filter.mpr ⟨List.mem_of_getElem? (i := 352) (by decide +kernel), by decide +kernel⟩
theorem im_X5_round : Cond.instanceMethod yX5_round ∈ nf_tbl := List.mem_filter.mpr ⟨List.mem_of_getElem? (i := 353) (by decide +kernel), by decide +kernel⟩
theorem se_X5_round : Cond.selects RX5 yX5_round yX5_round ∈ nf_tbl := List.mem_filter.mpr ⟨List.mem_of_getElem? (i := 354) (by decide +kernel), by decide +kernel⟩
theorem cd_X5_round : Cond.code yX5_round cX5_round 1 (some .int) ∈ nf_tbl := List.mem_filter.mpr ⟨List.mem_of_getElem? (i := 355) (by decide +kernel), by decide +kernel⟩
theorem ml_X5_105 : Cond.methodLink RX5 105 yX3_performRound ∈ nf_tbl := List.mem_filter.mpr ⟨List.mem_of_getElem? (i := 356) (by decide +kernel), by decide +kernel⟩
theorem im_X3_performRound : Cond.instanceMethod yX3_performRound ∈ nf_tbl := List.mem_filter.mpr ⟨List.mem_of_getElem? (i := 357) (by decide +kernel), by decide +kernel⟩
theorem se_X3_performRound : Cond.selects RX3 yX3_performRound yX3_performRound ∈ nf_tbl := List.mem_filter.mpr ⟨List.mem_of_getElem? (i := 358) (by decide +kernel), by decide +kernel⟩
theorem cd_X3_performRound : Cond.code yX3_performRound cX3_performRound 7 (some .int) ∈ nf_tbl := List.mem_filter.mpr ⟨List.mem_of_getElem? (i := 359) (by decide +kernel), by decide +kernel⟩
theorem ml_X3_118 : Cond.methodLink RX3 118 yX4_makeEmpty ∈ nf_tbl := List.mem_filter.mpr ⟨List.mem_of_getElem? (i := 360) (by decide +kernel), by decide +kernel⟩
theorem im_X4_makeEmpty : Cond.instanceMethod yX4_makeEmpty ∈ nf_tbl := List.mem_filter.mpr ⟨List.mem_of_getElem? (i := 361) (by decide +kernel), by decide +kernel⟩
theorem se_X4_makeEmpty : Cond.selects RX4 yX4_makeEmpty yX4_makeEmpty ∈ nf_tbl := List.mem_filter.mpr ⟨List.mem_of_getElem? (i := 362) (by decide +kernel), by decide +kernel⟩
theorem cd_X4_makeEmpty : Cond.code yX4_makeEmpty cX4_makeEmpty 1 none ∈ nf_tbl := List.mem_filter.mpr ⟨List.mem_of_getElem? (i := 363) (by decide +kernel), by decide +kernel⟩
theorem ml_X4_28 : Cond.methodLink RX4 28 yJ7_fill_53178 ∈ nf_tbl := List.mem_filter.mpr ⟨List.mem_of_getElem? (i := 364) (by decide +kernel), by decide +kernel⟩
theorem ml_X3_124 : Cond.methodLink RX3 124 yX4_slot ∈ nf_tbl := List.mem_filter.mpr ⟨List.mem_of_getElem? (i := 365) (by decide +kernel), by decide +kernel⟩
theorem ml_X3_137 : Cond.methodLink RX3 137 yX3_sendTo ∈ nf_tbl := List.mem_filter.mpr ⟨List.mem_of_getElem? (i := 367) (by decide +kernel), by decide +kernel⟩
theorem im_X3_sendTo : Cond.instanceMethod yX3_sendTo ∈ nf_tbl := List.mem_filter.mpr ⟨List.mem_of_getElem? (i := 368) (by decide +kernel), by decide +kernel⟩
theorem se_X3_sendTo : Cond.selects RX3 yX3_sendTo yX3_sendTo ∈ nf_tbl := List.mem_filter.mpr ⟨List.mem_of_getElem? (i := 369) (by decide +kernel), by decide +kernel⟩
theorem cd_X3_sendTo : Cond.code yX3_sendTo cX3_sendTo 6 (some .boolean) ∈ nf_tbl := List.mem_filter.mpr ⟨List.mem_of_getElem? (i := 370) (by decide +kernel), by decide +kernel⟩
theorem ml_X3_141 : Cond.methodLink RX3 141 yX2_between ∈ nf_tbl := List.mem_filter.mpr ⟨List.mem_of_getElem? (i := 371) (by decide +kernel), by decide +kernel⟩
theorem ml_X3_147 : Cond.methodLink RX3 147 yX3_arrive ∈ nf_tbl := List.mem_filter.mpr ⟨List.mem_of_getElem? (i := 372) (by decide +kernel), by decide +kernel⟩
theorem ml_L_54 : Cond.methodLink RL 54 yX5_settle ∈ nf_tbl := List.mem_filter.mpr ⟨List.mem_of_getElem? (i := 373) (by decide +kernel), by decide +kernel⟩
theorem im_X5_settle : Cond.instanceMethod yX5_settle ∈ nf_tbl := List.mem_filter.mpr ⟨List.mem_of_getElem? (i := 374) (by decide +kernel), by decide +kernel⟩
theorem se_X5_settle : Cond.selects RX5 yX5_settle yX5_settle ∈ nf_tbl := List.mem_filter.mpr ⟨List.mem_of_getElem? (i := 375) (by decide +kernel), by decide +kernel⟩
theorem cd_X5_settle : Cond.code yX5_settle cX5_settle 2 (some .int) ∈ nf_tbl := List.mem_filter.mpr ⟨List.mem_of_getElem? (i := 376) (by decide +kernel), by decide +kernel⟩
theorem ml_X5_112 : Cond.methodLink RX5 112 yX4_size ∈ nf_tbl := List.mem_filter.mpr ⟨List.mem_of_getElem? (i := 377) (by decide +kernel), by decide +kernel⟩
theorem im_X4_size : Cond.instanceMethod yX4_size ∈ nf_tbl := List.mem_filter.mpr ⟨List.mem_of_getElem? (i := 378) (by decide +kernel), by decide +kernel⟩
theorem se_X4_size : Cond.selects RX4 yX4_size yX4_size ∈ nf_tbl := List.mem_filter.mpr ⟨List.mem_of_getElem? (i := 379) (by decide +kernel), by decide +kernel⟩
theorem cd_X4_size : Cond.code yX4_size cX4_size 6 (some .int) ∈ nf_tbl := List.mem_filter.mpr ⟨List.mem_of_getElem? (i := 380) (by decide +kernel), by decide +kernel⟩
theorem ml_X4_22 : Cond.methodLink RX4 22 yJ6_bitCount_0f7a4 ∈ nf_tbl := List.mem_filter.mpr ⟨List.mem_of_getElem? (i := 381) (by decide +kernel), by decide +kernel⟩
theorem st_J6_bitCount_0f7a4 : Cond.static yJ6_bitCount_0f7a4 ∈ nf_tbl := List.mem_filter.mpr ⟨List.mem_of_getElem? (i := 382) (by decide +kernel), by decide +kernel⟩
theorem cd_J6_bitCount_0f7a4 : Cond.code yJ6_bitCount_0f7a4 cJ6_bitCount_0f7a4 1 (some .int) ∈ nf_tbl := List.mem_filter.mpr ⟨List.mem_of_getElem? (i := 383) (by decide +kernel), by decide +kernel⟩
theorem kc_J6_265 : Cond.constant RJ6 265 1431655765 ∈ nf_tbl := List.mem_filter.mpr ⟨List.mem_of_getElem? (i := 384) (by decide +kernel), by decide +kernel⟩
theorem kc_J6_266 : Cond.constant RJ6 266 858993459 ∈ nf_tbl := List.mem_filter.mpr ⟨List.mem_of_getElem? (i := 385) (by decide +kernel), by decide +kernel⟩
theorem kc_J6_267 : Cond.constant RJ6 267 252645135 ∈ nf_tbl := List.mem_filter.mpr ⟨List.mem_of_getElem? (i := 386) (by decide +kernel), by decide +kernel⟩
theorem ml_L_58 : Cond.methodLink RL 58 yX5_nextDay ∈ nf_tbl := List.mem_filter.mpr ⟨List.mem_of_getElem? (i := 387) (by decide +kernel), by decide +kernel⟩
theorem im_X5_nextDay : Cond.instanceMethod yX5_nextDay ∈ nf_tbl := List.mem_filter.mpr ⟨List.mem_of_getElem? (i := 388) (by decide +kernel), by decide +kernel⟩
theorem se_X5_nextDay : Cond.selects RX5 yX5_nextDay yX5_nextDay ∈ nf_tbl := List.mem_filter.mpr ⟨List.mem_of_getElem? (i := 389) (by decide +kernel), by decide +kernel⟩
theorem cd_X5_nextDay : Cond.code yX5_nextDay cX5_nextDay 1 (some .int) ∈ nf_tbl := List.mem_filter.mpr ⟨List.mem_of_getElem? (i := 390) (by decide +kernel), by decide +kernel⟩
theorem ml_X5_116 : Cond.methodLink RX5 116 yX3_beginDay ∈ nf_tbl := List.mem_filter.mpr ⟨List.mem_of_getElem? (i := 391) (by decide +kernel), by decide +kernel⟩
theorem im_X3_beginDay : Cond.instanceMethod yX3_beginDay ∈ nf_tbl := List.mem_filter.mpr ⟨List.mem_of_getElem? (i := 392) (by decide +kernel), by decide +kernel⟩
theorem se_X3_beginDay : Cond.selects RX3 yX3_beginDay yX3_beginDay ∈ nf_tbl := List.mem_filter.mpr ⟨List.mem_of_getElem? (i := 393) (by decide +kernel), by decide +kernel⟩
theorem cd_X3_beginDay : Cond.code yX3_beginDay cX3_beginDay 3 (some .int) ∈ nf_tbl := List.mem_filter.mpr ⟨List.mem_of_getElem? (i := 394) (by decide +kernel), by decide +kernel⟩
theorem ml_X3_151 : Cond.methodLink RX3 151 yX3_expireStore ∈ nf_tbl := List.mem_filter.mpr ⟨List.mem_of_getElem? (i := 395) (by decide +kernel), by decide +kernel⟩
theorem im_X3_expireStore : Cond.instanceMethod yX3_expireStore ∈ nf_tbl := List.mem_filter.mpr ⟨List.mem_of_getElem? (i := 396) (by decide +kernel), by decide +kernel⟩
theorem se_X3_expireStore : Cond.selects RX3 yX3_expireStore yX3_expireStore ∈ nf_tbl := List.mem_filter.mpr ⟨List.mem_of_getElem? (i := 397) (by decide +kernel), by decide +kernel⟩
theorem cd_X3_expireStore : Cond.code yX3_expireStore cX3_expireStore 5 (some .int) ∈ nf_tbl := List.mem_filter.mpr ⟨List.mem_of_getElem? (i := 398) (by decide +kernel), by decide +kernel⟩
theorem ml_X3_155 : Cond.methodLink RX3 155 yX3_forgetOld ∈ nf_tbl := List.mem_filter.mpr ⟨List.mem_of_getElem? (i := 399) (by decide +kernel), by decide +kernel⟩
theorem im_X3_forgetOld : Cond.instanceMethod yX3_forgetOld ∈ nf_tbl := List.mem_filter.mpr ⟨List.mem_of_getElem? (i := 400) (by decide +kernel), by decide +kernel⟩
theorem se_X3_forgetOld : Cond.selects RX3 yX3_forgetOld yX3_forgetOld ∈ nf_tbl := List.mem_filter.mpr ⟨List.mem_of_getElem? (i := 401) (by decide +kernel), by decide +kernel⟩
theorem cd_X3_forgetOld : Cond.code yX3_forgetOld cX3_forgetOld 3 none ∈ nf_tbl := List.mem_filter.mpr ⟨List.mem_of_getElem? (i := 402) (by decide +kernel), by decide +kernel⟩
theorem ml_L_62 : Cond.methodLink RL 62 yX5_isStored ∈ nf_tbl := List.mem_filter.mpr ⟨List.mem_of_getElem? (i := 403) (by decide +kernel), by decide +kernel⟩
theorem im_X5_isStored : Cond.instanceMethod yX5_isStored ∈ nf_tbl := List.mem_filter.mpr ⟨List.mem_of_getElem? (i := 404) (by decide +kernel), by decide +kernel⟩
theorem se_X5_isStored : Cond.selects RX5 yX5_isStored yX5_isStored ∈ nf_tbl := List.mem_filter.mpr ⟨List.mem_of_getElem? (i := 405) (by decide +kernel), by decide +kernel⟩
theorem cd_X5_isStored : Cond.code yX5_isStored cX5_isStored 3 (some .int) ∈ nf_tbl := List.mem_filter.mpr ⟨List.mem_of_getElem? (i := 406) (by decide +kernel), by decide +kernel⟩
theorem ml_X5_119 : Cond.methodLink RX5 119 yX1_stores ∈ nf_tbl := List.mem_filter.mpr ⟨List.mem_of_getElem? (i := 407) (by decide +kernel), by decide +kernel⟩
theorem ml_L_66 : Cond.methodLink RL 66 yX5_knownSince ∈ nf_tbl := List.mem_filter.mpr ⟨List.mem_of_getElem? (i := 408) (by decide +kernel), by decide +kernel⟩
theorem im_X5_knownSince : Cond.instanceMethod yX5_knownSince ∈ nf_tbl := List.mem_filter.mpr ⟨List.mem_of_getElem? (i := 409) (by decide +kernel), by decide +kernel⟩
theorem se_X5_knownSince : Cond.selects RX5 yX5_knownSince yX5_knownSince ∈ nf_tbl := List.mem_filter.mpr ⟨List.mem_of_getElem? (i := 410) (by decide +kernel), by decide +kernel⟩
theorem cd_X5_knownSince : Cond.code yX5_knownSince cX5_knownSince 3 (some .int) ∈ nf_tbl := List.mem_filter.mpr ⟨List.mem_of_getElem? (i := 411) (by decide +kernel), by decide +kernel⟩
theorem ml_L_70 : Cond.methodLink RL 70 yX5_pendingCancels ∈ nf_tbl := List.mem_filter.mpr ⟨List.mem_of_getElem? (i := 412) (by decide +kernel), by decide +kernel⟩
theorem im_X5_pendingCancels : Cond.instanceMethod yX5_pendingCancels ∈ nf_tbl := List.mem_filter.mpr ⟨List.mem_of_getElem? (i := 413) (by decide +kernel), by decide +kernel⟩
theorem se_X5_pendingCancels : Cond.selects RX5 yX5_pendingCancels yX5_pendingCancels ∈ nf_tbl := List.mem_filter.mpr ⟨List.mem_of_getElem? (i := 414) (by decide +kernel), by decide +kernel⟩
theorem cd_X5_pendingCancels : Cond.code yX5_pendingCancels cX5_pendingCancels 2 (some .int) ∈ nf_tbl := List.mem_filter.mpr ⟨List.mem_of_getElem? (i := 415) (by decide +kernel), by decide +kernel⟩
theorem ml_X5_125 : Cond.methodLink RX5 125 yX1_countCancels ∈ nf_tbl := List.mem_filter.mpr ⟨List.mem_of_getElem? (i := 416) (by decide +kernel), by decide +kernel⟩
theorem im_X1_countCancels : Cond.instanceMethod yX1_countCancels ∈ nf_tbl := List.mem_filter.mpr ⟨List.mem_of_getElem? (i := 417) (by decide +kernel), by decide +kernel⟩
theorem se_X1_countCancels : Cond.selects RX1 yX1_countCancels yX1_countCancels ∈ nf_tbl := List.mem_filter.mpr ⟨List.mem_of_getElem? (i := 418) (by decide +kernel), by decide +kernel⟩
theorem cd_X1_countCancels : Cond.code yX1_countCancels cX1_countCancels 6 (some .int) ∈ nf_tbl := List.mem_filter.mpr ⟨List.mem_of_getElem? (i := 419) (by decide +kernel), by decide +kernel⟩
theorem ml_X1_35 : Cond.methodLink RX1 35 yJ6_bitCount_0f7a4 ∈ nf_tbl := List.mem_filter.mpr ⟨List.mem_of_getElem? (i := 420) (by decide +kernel), by decide +kernel⟩
theorem ml_L_74 : Cond.methodLink RL 74 yX5_holders ∈ nf_tbl := List.mem_filter.mpr ⟨List.mem_of_getElem? (i := 421) (by decide +kernel), by decide +kernel⟩
theorem im_X5_holders : Cond.instanceMethod yX5_holders ∈ nf_tbl := List.mem_filter.mpr ⟨List.mem_of_getElem? (i := 422) (by decide +kernel), by decide +kernel⟩
theorem se_X5_holders : Cond.selects RX5 yX5_holders yX5_holders ∈ nf_tbl := List.mem_filter.mpr ⟨List.mem_of_getElem? (i := 423) (by decide +kernel), by decide +kernel⟩
theorem cd_X5_holders : Cond.code yX5_holders cX5_holders 4 (some .int) ∈ nf_tbl := List.mem_filter.mpr ⟨List.mem_of_getElem? (i := 424) (by decide +kernel), by decide +kernel⟩
theorem ml_L_78 : Cond.methodLink RL 78 yX5_storedInGroup ∈ nf_tbl := List.mem_filter.mpr ⟨List.mem_of_getElem? (i := 425) (by decide +kernel), by decide +kernel⟩
theorem im_X5_storedInGroup : Cond.instanceMethod yX5_storedInGroup ∈ nf_tbl := List.mem_filter.mpr ⟨List.mem_of_getElem? (i := 426) (by decide +kernel), by decide +kernel⟩
theorem se_X5_storedInGroup : Cond.selects RX5 yX5_storedInGroup yX5_storedInGroup ∈ nf_tbl := List.mem_filter.mpr ⟨List.mem_of_getElem? (i := 427) (by decide +kernel), by decide +kernel⟩
theorem cd_X5_storedInGroup : Cond.code yX5_storedInGroup cX5_storedInGroup 5 (some .int) ∈ nf_tbl := List.mem_filter.mpr ⟨List.mem_of_getElem? (i := 428) (by decide +kernel), by decide +kernel⟩
theorem ml_L_82 : Cond.methodLink RL 82 yX5_distance ∈ nf_tbl := List.mem_filter.mpr ⟨List.mem_of_getElem? (i := 429) (by decide +kernel), by decide +kernel⟩
theorem im_X5_distance : Cond.instanceMethod yX5_distance ∈ nf_tbl := List.mem_filter.mpr ⟨List.mem_of_getElem? (i := 430) (by decide +kernel), by decide +kernel⟩
theorem se_X5_distance : Cond.selects RX5 yX5_distance yX5_distance ∈ nf_tbl := List.mem_filter.mpr ⟨List.mem_of_getElem? (i := 431) (by decide +kernel), by decide +kernel⟩
theorem cd_X5_distance : Cond.code yX5_distance cX5_distance 5 (some .int) ∈ nf_tbl := List.mem_filter.mpr ⟨List.mem_of_getElem? (i := 432) (by decide +kernel), by decide +kernel⟩
theorem ml_X5_129 : Cond.methodLink RX5 129 yX5_has ∈ nf_tbl := List.mem_filter.mpr ⟨List.mem_of_getElem? (i := 433) (by decide +kernel), by decide +kernel⟩
theorem ml_X5_132 : Cond.methodLink RX5 132 yX2_neighboursOf ∈ nf_tbl := List.mem_filter.mpr ⟨List.mem_of_getElem? (i := 434) (by decide +kernel), by decide +kernel⟩
theorem ml_L_86 : Cond.methodLink RL 86 yX5_waiting ∈ nf_tbl := List.mem_filter.mpr ⟨List.mem_of_getElem? (i := 435) (by decide +kernel), by decide +kernel⟩
theorem im_X5_waiting : Cond.instanceMethod yX5_waiting ∈ nf_tbl := List.mem_filter.mpr ⟨List.mem_of_getElem? (i := 436) (by decide +kernel), by decide +kernel⟩
theorem se_X5_waiting : Cond.selects RX5 yX5_waiting yX5_waiting ∈ nf_tbl := List.mem_filter.mpr ⟨List.mem_of_getElem? (i := 437) (by decide +kernel), by decide +kernel⟩
theorem cd_X5_waiting : Cond.code yX5_waiting cX5_waiting 1 (some .int) ∈ nf_tbl := List.mem_filter.mpr ⟨List.mem_of_getElem? (i := 438) (by decide +kernel), by decide +kernel⟩
theorem ml_L_90 : Cond.methodLink RL 90 yX5_total ∈ nf_tbl := List.mem_filter.mpr ⟨List.mem_of_getElem? (i := 439) (by decide +kernel), by decide +kernel⟩
theorem im_X5_total : Cond.instanceMethod yX5_total ∈ nf_tbl := List.mem_filter.mpr ⟨List.mem_of_getElem? (i := 440) (by decide +kernel), by decide +kernel⟩
theorem se_X5_total : Cond.selects RX5 yX5_total yX5_total ∈ nf_tbl := List.mem_filter.mpr ⟨List.mem_of_getElem? (i := 441) (by decide +kernel), by decide +kernel⟩
theorem cd_X5_total : Cond.code yX5_total cX5_total 2 (some .int) ∈ nf_tbl := List.mem_filter.mpr ⟨List.mem_of_getElem? (i := 442) (by decide +kernel), by decide +kernel⟩
theorem ml_L_94 : Cond.methodLink RL 94 yX5_day ∈ nf_tbl := List.mem_filter.mpr ⟨List.mem_of_getElem? (i := 443) (by decide +kernel), by decide +kernel⟩
theorem im_X5_day : Cond.instanceMethod yX5_day ∈ nf_tbl := List.mem_filter.mpr ⟨List.mem_of_getElem? (i := 444) (by decide +kernel), by decide +kernel⟩
theorem se_X5_day : Cond.selects RX5 yX5_day yX5_day ∈ nf_tbl := List.mem_filter.mpr ⟨List.mem_of_getElem? (i := 445) (by decide +kernel), by decide +kernel⟩
theorem cd_X5_day : Cond.code yX5_day cX5_day 1 (some .int) ∈ nf_tbl := List.mem_filter.mpr ⟨List.mem_of_getElem? (i := 446) (by decide +kernel), by decide +kernel⟩
theorem ml_L_98 : Cond.methodLink RL 98 yX5_undo ∈ nf_tbl := List.mem_filter.mpr ⟨List.mem_of_getElem? (i := 447) (by decide +kernel), by decide +kernel⟩
theorem im_X5_undo : Cond.instanceMethod yX5_undo ∈ nf_tbl := List.mem_filter.mpr ⟨List.mem_of_getElem? (i := 448) (by decide +kernel), by decide +kernel⟩
theorem se_X5_undo : Cond.selects RX5 yX5_undo yX5_undo ∈ nf_tbl := List.mem_filter.mpr ⟨List.mem_of_getElem? (i := 449) (by decide +kernel), by decide +kernel⟩
theorem cd_X5_undo : Cond.code yX5_undo cX5_undo 1 (some .int) ∈ nf_tbl := List.mem_filter.mpr ⟨List.mem_of_getElem? (i := 450) (by decide +kernel), by decide +kernel⟩
theorem ml_L_102 : Cond.methodLink RL 102 yX5_errorCount ∈ nf_tbl := List.mem_filter.mpr ⟨List.mem_of_getElem? (i := 451) (by decide +kernel), by decide +kernel⟩
theorem im_X5_errorCount : Cond.instanceMethod yX5_errorCount ∈ nf_tbl := List.mem_filter.mpr ⟨List.mem_of_getElem? (i := 452) (by decide +kernel), by decide +kernel⟩
theorem se_X5_errorCount : Cond.selects RX5 yX5_errorCount yX5_errorCount ∈ nf_tbl := List.mem_filter.mpr ⟨List.mem_of_getElem? (i := 453) (by decide +kernel), by decide +kernel⟩
theorem cd_X5_errorCount : Cond.code yX5_errorCount cX5_errorCount 3 (some .int) ∈ nf_tbl := List.mem_filter.mpr ⟨List.mem_of_getElem? (i := 454) (by decide +kernel), by decide +kernel⟩
theorem ml_L_106 : Cond.methodLink RL 106 yX5_digest ∈ nf_tbl := List.mem_filter.mpr ⟨List.mem_of_getElem? (i := 455) (by decide +kernel), by decide +kernel⟩
theorem im_X5_digest : Cond.instanceMethod yX5_digest ∈ nf_tbl := List.mem_filter.mpr ⟨List.mem_of_getElem? (i := 456) (by decide +kernel), by decide +kernel⟩
theorem se_X5_digest : Cond.selects RX5 yX5_digest yX5_digest ∈ nf_tbl := List.mem_filter.mpr ⟨List.mem_of_getElem? (i := 457) (by decide +kernel), by decide +kernel⟩
theorem cd_X5_digest : Cond.code yX5_digest cX5_digest 4 (some .long) ∈ nf_tbl := List.mem_filter.mpr ⟨List.mem_of_getElem? (i := 458) (by decide +kernel), by decide +kernel⟩
theorem kc_X5_148 : Cond.constantLong RX5 148 2659 ∈ nf_tbl := List.mem_filter.mpr ⟨List.mem_of_getElem? (i := 459) (by decide +kernel), by decide +kernel⟩
theorem ml_X5_150 : Cond.methodLink RX5 150 yX5_mixAll ∈ nf_tbl := List.mem_filter.mpr ⟨List.mem_of_getElem? (i := 460) (by decide +kernel), by decide +kernel⟩
theorem st_X5_mixAll : Cond.static yX5_mixAll ∈ nf_tbl := List.mem_filter.mpr ⟨List.mem_of_getElem? (i := 461) (by decide +kernel), by decide +kernel⟩
theorem cd_X5_mixAll : Cond.code yX5_mixAll cX5_mixAll 9 (some .long) ∈ nf_tbl := List.mem_filter.mpr ⟨List.mem_of_getElem? (i := 462) (by decide +kernel), by decide +kernel⟩
theorem ml_X5_154 : Cond.methodLink RX5 154 yX5_mix ∈ nf_tbl := List.mem_filter.mpr ⟨List.mem_of_getElem? (i := 463) (by decide +kernel), by decide +kernel⟩
theorem st_X5_mix : Cond.static yX5_mix ∈ nf_tbl := List.mem_filter.mpr ⟨List.mem_of_getElem? (i := 464) (by decide +kernel), by decide +kernel⟩
theorem cd_X5_mix : Cond.code yX5_mix cX5_mix 3 (some .long) ∈ nf_tbl := List.mem_filter.mpr ⟨List.mem_of_getElem? (i := 465) (by decide +kernel), by decide +kernel⟩
theorem kc_X5_176 : Cond.constantLong RX5 176 31 ∈ nf_tbl := List.mem_filter.mpr ⟨List.mem_of_getElem? (i := 466) (by decide +kernel), by decide +kernel⟩
theorem ml_X5_158 : Cond.methodLink RX5 158 yX5_mixLinks ∈ nf_tbl := List.mem_filter.mpr ⟨List.mem_of_getElem? (i := 467) (by decide +kernel), by decide +kernel⟩
theorem st_X5_mixLinks : Cond.static yX5_mixLinks ∈ nf_tbl := List.mem_filter.mpr ⟨List.mem_of_getElem? (i := 468) (by decide +kernel), by decide +kernel⟩
theorem cd_X5_mixLinks : Cond.code yX5_mixLinks cX5_mixLinks 6 (some .long) ∈ nf_tbl := List.mem_filter.mpr ⟨List.mem_of_getElem? (i := 469) (by decide +kernel), by decide +kernel⟩
theorem ml_X5_162 : Cond.methodLink RX5 162 yX5_mixArticles ∈ nf_tbl := List.mem_filter.mpr ⟨List.mem_of_getElem? (i := 470) (by decide +kernel), by decide +kernel⟩
theorem st_X5_mixArticles : Cond.static yX5_mixArticles ∈ nf_tbl := List.mem_filter.mpr ⟨List.mem_of_getElem? (i := 471) (by decide +kernel), by decide +kernel⟩
theorem cd_X5_mixArticles : Cond.code yX5_mixArticles cX5_mixArticles 6 (some .long) ∈ nf_tbl := List.mem_filter.mpr ⟨List.mem_of_getElem? (i := 472) (by decide +kernel), by decide +kernel⟩
theorem ml_X5_166 : Cond.methodLink RX5 166 yX5_mixHost ∈ nf_tbl := List.mem_filter.mpr ⟨List.mem_of_getElem? (i := 473) (by decide +kernel), by decide +kernel⟩
theorem st_X5_mixHost : Cond.static yX5_mixHost ∈ nf_tbl := List.mem_filter.mpr ⟨List.mem_of_getElem? (i := 474) (by decide +kernel), by decide +kernel⟩
theorem cd_X5_mixHost : Cond.code yX5_mixHost cX5_mixHost 7 (some .long) ∈ nf_tbl := List.mem_filter.mpr ⟨List.mem_of_getElem? (i := 475) (by decide +kernel), by decide +kernel⟩
theorem ml_L_12 : Cond.methodLink RL 12 yX6_init ∈ nf_tbl := List.mem_filter.mpr ⟨List.mem_of_getElem? (i := 478) (by decide +kernel), by decide +kernel⟩
theorem im_X6_init : Cond.instanceMethod yX6_init ∈ nf_tbl := List.mem_filter.mpr ⟨List.mem_of_getElem? (i := 479) (by decide +kernel), by decide +kernel⟩
theorem cd_X6_init : Cond.code yX6_init cX6_init 2 none ∈ nf_tbl := List.mem_filter.mpr ⟨List.mem_of_getElem? (i := 480) (by decide +kernel), by decide +kernel⟩
theorem lk_X6_7 : Cond.fieldLink RX6 7 "NewsFloodModel" "all" "[I" ∈ nf_tbl := List.mem_filter.mpr ⟨List.mem_of_getElem? (i := 482) (by decide +kernel), by decide +kernel⟩
theorem lk_X6_13 : Cond.fieldLink RX6 13 "NewsFloodModel" "saved" "[I" ∈ nf_tbl := List.mem_filter.mpr ⟨List.mem_of_getElem? (i := 483) (by decide +kernel), by decide +kernel⟩
theorem lk_X6_22 : Cond.fieldLink RX6 22 "NewsFloodModel" "savedMany" "I" ∈ nf_tbl := List.mem_filter.mpr ⟨List.mem_of_getElem? (i := 484) (by decide +kernel), by decide +kernel⟩
theorem lk_X6_16 : Cond.fieldLink RX6 16 "NewsFloodModel" "errors" "[I" ∈ nf_tbl := List.mem_filter.mpr ⟨List.mem_of_getElem? (i := 485) (by decide +kernel), by decide +kernel⟩
theorem lk_X6_19 : Cond.fieldLink RX6 19 "NewsFloodModel" "work" "[I" ∈ nf_tbl := List.mem_filter.mpr ⟨List.mem_of_getElem? (i := 486) (by decide +kernel), by decide +kernel⟩
theorem ml_L_17 : Cond.methodLink RL 17 yX6_addLink ∈ nf_tbl := List.mem_filter.mpr ⟨List.mem_of_getElem? (i := 498) (by decide +kernel), by decide +kernel⟩
theorem im_X6_addLink : Cond.instanceMethod yX6_addLink ∈ nf_tbl := List.mem_filter.mpr ⟨List.mem_of_getElem? (i := 499) (by decide +kernel), by decide +kernel⟩
theorem se_X6_addLink : Cond.selects RX6 yX6_addLink yX6_addLink ∈ nf_tbl := List.mem_filter.mpr ⟨List.mem_of_getElem? (i := 500) (by decide +kernel), by decide +kernel⟩
theorem cd_X6_addLink : Cond.code yX6_addLink cX6_addLink 5 (some .int) ∈ nf_tbl := List.mem_filter.mpr ⟨List.mem_of_getElem? (i := 501) (by decide +kernel), by decide +kernel⟩
theorem ml_X6_38 : Cond.methodLink RX6 38 yX6_isHost ∈ nf_tbl := List.mem_filter.mpr ⟨List.mem_of_getElem? (i := 502) (by decide +kernel), by decide +kernel⟩
theorem st_X6_isHost : Cond.static yX6_isHost ∈ nf_tbl := List.mem_filter.mpr ⟨List.mem_of_getElem? (i := 503) (by decide +kernel), by decide +kernel⟩
theorem cd_X6_isHost : Cond.code yX6_isHost cX6_isHost 1 (some .boolean) ∈ nf_tbl := List.mem_filter.mpr ⟨List.mem_of_getElem? (i := 504) (by decide +kernel), by decide +kernel⟩
theorem kc_X6_26 : Cond.constantLong RX6 26 5 ∈ nf_tbl := List.mem_filter.mpr ⟨List.mem_of_getElem? (i := 505) (by decide +kernel), by decide +kernel⟩
theorem ml_X6_28 : Cond.methodLink RX6 28 yX6_in ∈ nf_tbl := List.mem_filter.mpr ⟨List.mem_of_getElem? (i := 506) (by decide +kernel), by decide +kernel⟩
theorem st_X6_in : Cond.static yX6_in ∈ nf_tbl := List.mem_filter.mpr ⟨List.mem_of_getElem? (i := 507) (by decide +kernel), by decide +kernel⟩
theorem cd_X6_in : Cond.code yX6_in cX6_in 6 (some .boolean) ∈ nf_tbl := List.mem_filter.mpr ⟨List.mem_of_getElem? (i := 508) (by decide +kernel), by decide +kernel⟩
theorem ml_X6_42 : Cond.methodLink RX6 42 yX6_error ∈ nf_tbl := List.mem_filter.mpr ⟨List.mem_of_getElem? (i := 509) (by decide +kernel), by decide +kernel⟩
theorem im_X6_error : Cond.instanceMethod yX6_error ∈ nf_tbl := List.mem_filter.mpr ⟨List.mem_of_getElem? (i := 511) (by decide +kernel), by decide +kernel⟩
theorem cd_X6_error : Cond.code yX6_error cX6_error 2 (some .int) ∈ nf_tbl := List.mem_filter.mpr ⟨List.mem_of_getElem? (i := 512) (by decide +kernel), by decide +kernel⟩
theorem ml_X6_46 : Cond.methodLink RX6 46 yX6_linkOf ∈ nf_tbl := List.mem_filter.mpr ⟨List.mem_of_getElem? (i := 513) (by decide +kernel), by decide +kernel⟩
theorem im_X6_linkOf : Cond.instanceMethod yX6_linkOf ∈ nf_tbl := List.mem_filter.mpr ⟨List.mem_of_getElem? (i := 515) (by decide +kernel), by decide +kernel⟩
theorem cd_X6_linkOf : Cond.code yX6_linkOf cX6_linkOf 4 (some .int) ∈ nf_tbl := List.mem_filter.mpr ⟨List.mem_of_getElem? (i := 516) (by decide +kernel), by decide +kernel⟩
theorem ml_X6_34 : Cond.methodLink RX6 34 yX6_link ∈ nf_tbl := List.mem_filter.mpr ⟨List.mem_of_getElem? (i := 517) (by decide +kernel), by decide +kernel⟩
theorem im_X6_link : Cond.instanceMethod yX6_link ∈ nf_tbl := List.mem_filter.mpr ⟨List.mem_of_getElem? (i := 519) (by decide +kernel), by decide +kernel⟩
theorem cd_X6_link : Cond.code yX6_link cX6_link 3 (some .int) ∈ nf_tbl := List.mem_filter.mpr ⟨List.mem_of_getElem? (i := 520) (by decide +kernel), by decide +kernel⟩
theorem ml_X6_49 : Cond.methodLink RX6 49 yX6_save ∈ nf_tbl := List.mem_filter.mpr ⟨List.mem_of_getElem? (i := 521) (by decide +kernel), by decide +kernel⟩
theorem im_X6_save : Cond.instanceMethod yX6_save ∈ nf_tbl := List.mem_filter.mpr ⟨List.mem_of_getElem? (i := 523) (by decide +kernel), by decide +kernel⟩
theorem cd_X6_save : Cond.code yX6_save cX6_save 2 none ∈ nf_tbl := List.mem_filter.mpr ⟨List.mem_of_getElem? (i := 524) (by decide +kernel), by decide +kernel⟩
theorem ml_L_22 : Cond.methodLink RL 22 yX6_removeLink ∈ nf_tbl := List.mem_filter.mpr ⟨List.mem_of_getElem? (i := 525) (by decide +kernel), by decide +kernel⟩
theorem im_X6_removeLink : Cond.instanceMethod yX6_removeLink ∈ nf_tbl := List.mem_filter.mpr ⟨List.mem_of_getElem? (i := 526) (by decide +kernel), by decide +kernel⟩
theorem se_X6_removeLink : Cond.selects RX6 yX6_removeLink yX6_removeLink ∈ nf_tbl := List.mem_filter.mpr ⟨List.mem_of_getElem? (i := 527) (by decide +kernel), by decide +kernel⟩
theorem cd_X6_removeLink : Cond.code yX6_removeLink cX6_removeLink 3 (some .int) ∈ nf_tbl := List.mem_filter.mpr ⟨List.mem_of_getElem? (i := 528) (by decide +kernel), by decide +kernel⟩
theorem ml_X6_52 : Cond.methodLink RX6 52 yX6_isLink ∈ nf_tbl := List.mem_filter.mpr ⟨List.mem_of_getElem? (i := 529) (by decide +kernel), by decide +kernel⟩
theorem im_X6_isLink : Cond.instanceMethod yX6_isLink ∈ nf_tbl := List.mem_filter.mpr ⟨List.mem_of_getElem? (i := 531) (by decide +kernel), by decide +kernel⟩
theorem cd_X6_isLink : Cond.code yX6_isLink cX6_isLink 2 (some .boolean) ∈ nf_tbl := List.mem_filter.mpr ⟨List.mem_of_getElem? (i := 532) (by decide +kernel), by decide +kernel⟩
theorem ml_L_27 : Cond.methodLink RL 27 yX6_setKind ∈ nf_tbl := List.mem_filter.mpr ⟨List.mem_of_getElem? (i := 533) (by decide +kernel), by decide +kernel⟩
theorem im_X6_setKind : Cond.instanceMethod yX6_setKind ∈ nf_tbl := List.mem_filter.mpr ⟨List.mem_of_getElem? (i := 534) (by decide +kernel), by decide +kernel⟩
theorem se_X6_setKind : Cond.selects RX6 yX6_setKind yX6_setKind ∈ nf_tbl := List.mem_filter.mpr ⟨List.mem_of_getElem? (i := 535) (by decide +kernel), by decide +kernel⟩
theorem cd_X6_setKind : Cond.code yX6_setKind cX6_setKind 4 (some .int) ∈ nf_tbl := List.mem_filter.mpr ⟨List.mem_of_getElem? (i := 536) (by decide +kernel), by decide +kernel⟩
theorem ml_L_31 : Cond.methodLink RL 31 yX6_setGroups ∈ nf_tbl := List.mem_filter.mpr ⟨List.mem_of_getElem? (i := 537) (by decide +kernel), by decide +kernel⟩
theorem im_X6_setGroups : Cond.instanceMethod yX6_setGroups ∈ nf_tbl := List.mem_filter.mpr ⟨List.mem_of_getElem? (i := 538) (by decide +kernel), by decide +kernel⟩
theorem se_X6_setGroups : Cond.selects RX6 yX6_setGroups yX6_setGroups ∈ nf_tbl := List.mem_filter.mpr ⟨List.mem_of_getElem? (i := 539) (by decide +kernel), by decide +kernel⟩
theorem cd_X6_setGroups : Cond.code yX6_setGroups cX6_setGroups 4 (some .int) ∈ nf_tbl := List.mem_filter.mpr ⟨List.mem_of_getElem? (i := 540) (by decide +kernel), by decide +kernel⟩
theorem kc_X6_55 : Cond.constantLong RX6 55 15 ∈ nf_tbl := List.mem_filter.mpr ⟨List.mem_of_getElem? (i := 541) (by decide +kernel), by decide +kernel⟩
theorem ml_L_35 : Cond.methodLink RL 35 yX6_setExpiry ∈ nf_tbl := List.mem_filter.mpr ⟨List.mem_of_getElem? (i := 542) (by decide +kernel), by decide +kernel⟩
theorem im_X6_setExpiry : Cond.instanceMethod yX6_setExpiry ∈ nf_tbl := List.mem_filter.mpr ⟨List.mem_of_getElem? (i := 543) (by decide +kernel), by decide +kernel⟩
theorem se_X6_setExpiry : Cond.selects RX6 yX6_setExpiry yX6_setExpiry ∈ nf_tbl := List.mem_filter.mpr ⟨List.mem_of_getElem? (i := 544) (by decide +kernel), by decide +kernel⟩
theorem cd_X6_setExpiry : Cond.code yX6_setExpiry cX6_setExpiry 4 (some .int) ∈ nf_tbl := List.mem_filter.mpr ⟨List.mem_of_getElem? (i := 545) (by decide +kernel), by decide +kernel⟩
theorem ml_X6_57 : Cond.methodLink RX6 57 yX6_isGroup ∈ nf_tbl := List.mem_filter.mpr ⟨List.mem_of_getElem? (i := 546) (by decide +kernel), by decide +kernel⟩
theorem st_X6_isGroup : Cond.static yX6_isGroup ∈ nf_tbl := List.mem_filter.mpr ⟨List.mem_of_getElem? (i := 547) (by decide +kernel), by decide +kernel⟩
theorem cd_X6_isGroup : Cond.code yX6_isGroup cX6_isGroup 1 (some .boolean) ∈ nf_tbl := List.mem_filter.mpr ⟨List.mem_of_getElem? (i := 548) (by decide +kernel), by decide +kernel⟩
theorem kc_X6_32 : Cond.constantLong RX6 32 3 ∈ nf_tbl := List.mem_filter.mpr ⟨List.mem_of_getElem? (i := 549) (by decide +kernel), by decide +kernel⟩
theorem kc_X6_60 : Cond.constantLong RX6 60 30 ∈ nf_tbl := List.mem_filter.mpr ⟨List.mem_of_getElem? (i := 550) (by decide +kernel), by decide +kernel⟩
theorem ml_L_39 : Cond.methodLink RL 39 yX6_setHistoryLimit ∈ nf_tbl := List.mem_filter.mpr ⟨List.mem_of_getElem? (i := 551) (by decide +kernel), by decide +kernel⟩
theorem im_X6_setHistoryLimit : Cond.instanceMethod yX6_setHistoryLimit ∈ nf_tbl := List.mem_filter.mpr ⟨List.mem_of_getElem? (i := 552) (by decide +kernel), by decide +kernel⟩
theorem se_X6_setHistoryLimit : Cond.selects RX6 yX6_setHistoryLimit yX6_setHistoryLimit ∈ nf_tbl := List.mem_filter.mpr ⟨List.mem_of_getElem? (i := 553) (by decide +kernel), by decide +kernel⟩
theorem cd_X6_setHistoryLimit : Cond.code yX6_setHistoryLimit cX6_setHistoryLimit 3 (some .int) ∈ nf_tbl := List.mem_filter.mpr ⟨List.mem_of_getElem? (i := 554) (by decide +kernel), by decide +kernel⟩
theorem ml_L_43 : Cond.methodLink RL 43 yX6_post ∈ nf_tbl := List.mem_filter.mpr ⟨List.mem_of_getElem? (i := 555) (by decide +kernel), by decide +kernel⟩
theorem im_X6_post : Cond.instanceMethod yX6_post ∈ nf_tbl := List.mem_filter.mpr ⟨List.mem_of_getElem? (i := 556) (by decide +kernel), by decide +kernel⟩
theorem se_X6_post : Cond.selects RX6 yX6_post yX6_post ∈ nf_tbl := List.mem_filter.mpr ⟨List.mem_of_getElem? (i := 557) (by decide +kernel), by decide +kernel⟩
theorem cd_X6_post : Cond.code yX6_post cX6_post 4 (some .int) ∈ nf_tbl := List.mem_filter.mpr ⟨List.mem_of_getElem? (i := 558) (by decide +kernel), by decide +kernel⟩
theorem kc_X6_80 : Cond.constantLong RX6 80 9 ∈ nf_tbl := List.mem_filter.mpr ⟨List.mem_of_getElem? (i := 559) (by decide +kernel), by decide +kernel⟩
theorem ml_X6_82 : Cond.methodLink RX6 82 yX6_posts ∈ nf_tbl := List.mem_filter.mpr ⟨List.mem_of_getElem? (i := 560) (by decide +kernel), by decide +kernel⟩
theorem im_X6_posts : Cond.instanceMethod yX6_posts ∈ nf_tbl := List.mem_filter.mpr ⟨List.mem_of_getElem? (i := 562) (by decide +kernel), by decide +kernel⟩
theorem cd_X6_posts : Cond.code yX6_posts cX6_posts 9 (some .int) ∈ nf_tbl := List.mem_filter.mpr ⟨List.mem_of_getElem? (i := 563) (by decide +kernel), by decide +kernel⟩
theorem ml_X6_76 : Cond.methodLink RX6 76 yX6_arrives ∈ nf_tbl := List.mem_filter.mpr ⟨List.mem_of_getElem? (i := 564) (by decide +kernel), by decide +kernel⟩
theorem im_X6_arrives : Cond.instanceMethod yX6_arrives ∈ nf_tbl := List.mem_filter.mpr ⟨List.mem_of_getElem? (i := 566) (by decide +kernel), by decide +kernel⟩
theorem cd_X6_arrives : Cond.code yX6_arrives cX6_arrives 8 (some .int) ∈ nf_tbl := List.mem_filter.mpr ⟨List.mem_of_getElem? (i := 567) (by decide +kernel), by decide +kernel⟩
theorem ml_X6_69 : Cond.methodLink RX6 69 yX6_known ∈ nf_tbl := List.mem_filter.mpr ⟨List.mem_of_getElem? (i := 568) (by decide +kernel), by decide +kernel⟩
theorem im_X6_known : Cond.instanceMethod yX6_known ∈ nf_tbl := List.mem_filter.mpr ⟨List.mem_of_getElem? (i := 570) (by decide +kernel), by decide +kernel⟩
theorem cd_X6_known : Cond.code yX6_known cX6_known 3 (some .int) ∈ nf_tbl := List.mem_filter.mpr ⟨List.mem_of_getElem? (i := 571) (by decide +kernel), by decide +kernel⟩
theorem ml_X6_62 : Cond.methodLink RX6 62 yX6_of ∈ nf_tbl := List.mem_filter.mpr ⟨List.mem_of_getElem? (i := 572) (by decide +kernel), by decide +kernel⟩
theorem im_X6_of : Cond.instanceMethod yX6_of ∈ nf_tbl := List.mem_filter.mpr ⟨List.mem_of_getElem? (i := 574) (by decide +kernel), by decide +kernel⟩
theorem cd_X6_of : Cond.code yX6_of cX6_of 3 (some .int) ∈ nf_tbl := List.mem_filter.mpr ⟨List.mem_of_getElem? (i := 575) (by decide +kernel), by decide +kernel⟩
theorem ml_X6_72 : Cond.methodLink RX6 72 yX6_acts ∈ nf_tbl := List.mem_filter.mpr ⟨List.mem_of_getElem? (i := 576) (by decide +kernel), by decide +kernel⟩
theorem im_X6_acts : Cond.instanceMethod yX6_acts ∈ nf_tbl := List.mem_filter.mpr ⟨List.mem_of_getElem? (i := 578) (by decide +kernel), by decide +kernel⟩
theorem cd_X6_acts : Cond.code yX6_acts cX6_acts 6 none ∈ nf_tbl := List.mem_filter.mpr ⟨List.mem_of_getElem? (i := 579) (by decide +kernel), by decide +kernel⟩
theorem ml_X6_65 : Cond.methodLink RX6 65 yX6_isIn ∈ nf_tbl := List.mem_filter.mpr ⟨List.mem_of_getElem? (i := 580) (by decide +kernel), by decide +kernel⟩
theorem im_X6_isIn : Cond.instanceMethod yX6_isIn ∈ nf_tbl := List.mem_filter.mpr ⟨List.mem_of_getElem? (i := 582) (by decide +kernel), by decide +kernel⟩
theorem cd_X6_isIn : Cond.code yX6_isIn cX6_isIn 3 (some .boolean) ∈ nf_tbl := List.mem_filter.mpr ⟨List.mem_of_getElem? (i := 583) (by decide +kernel), by decide +kernel⟩
theorem ml_L_48 : Cond.methodLink RL 48 yX6_postAction ∈ nf_tbl := List.mem_filter.mpr ⟨List.mem_of_getElem? (i := 584) (by decide +kernel), by decide +kernel⟩
theorem im_X6_postAction : Cond.instanceMethod yX6_postAction ∈ nf_tbl := List.mem_filter.mpr ⟨List.mem_of_getElem? (i := 585) (by decide +kernel), by decide +kernel⟩
theorem se_X6_postAction : Cond.selects RX6 yX6_postAction yX6_postAction ∈ nf_tbl := List.mem_filter.mpr ⟨List.mem_of_getElem? (i := 586) (by decide +kernel), by decide +kernel⟩
theorem cd_X6_postAction : Cond.code yX6_postAction cX6_postAction 5 (some .int) ∈ nf_tbl := List.mem_filter.mpr ⟨List.mem_of_getElem? (i := 587) (by decide +kernel), by decide +kernel⟩
theorem kc_X6_86 : Cond.constantLong RX6 86 2 ∈ nf_tbl := List.mem_filter.mpr ⟨List.mem_of_getElem? (i := 588) (by decide +kernel), by decide +kernel⟩
theorem ml_X6_88 : Cond.methodLink RX6 88 yX6_isArticle ∈ nf_tbl := List.mem_filter.mpr ⟨List.mem_of_getElem? (i := 589) (by decide +kernel), by decide +kernel⟩
theorem im_X6_isArticle : Cond.instanceMethod yX6_isArticle ∈ nf_tbl := List.mem_filter.mpr ⟨List.mem_of_getElem? (i := 591) (by decide +kernel), by decide +kernel⟩
theorem cd_X6_isArticle : Cond.code yX6_isArticle cX6_isArticle 2 (some .boolean) ∈ nf_tbl := List.mem_filter.mpr ⟨List.mem_of_getElem? (i := 592) (by decide +kernel), by decide +kernel⟩
theorem ml_L_53 : Cond.methodLink RL 53 yX6_round ∈ nf_tbl := List.mem_filter.mpr ⟨List.mem_of_getElem? (i := 593) (by decide +kernel), by decide +kernel⟩
theorem im_X6_round : Cond.instanceMethod yX6_round ∈ nf_tbl := List.mem_filter.mpr ⟨List.mem_of_getElem? (i := 594) (by decide +kernel), by decide +kernel⟩
theorem se_X6_round : Cond.selects RX6 yX6_round yX6_round ∈ nf_tbl := List.mem_filter.mpr ⟨List.mem_of_getElem? (i := 595) (by decide +kernel), by decide +kernel⟩
theorem cd_X6_round : Cond.code yX6_round cX6_round 1 (some .int) ∈ nf_tbl := List.mem_filter.mpr ⟨List.mem_of_getElem? (i := 596) (by decide +kernel), by decide +kernel⟩
theorem ml_X6_95 : Cond.methodLink RX6 95 yX6_goesRound ∈ nf_tbl := List.mem_filter.mpr ⟨List.mem_of_getElem? (i := 597) (by decide +kernel), by decide +kernel⟩
theorem im_X6_goesRound : Cond.instanceMethod yX6_goesRound ∈ nf_tbl := List.mem_filter.mpr ⟨List.mem_of_getElem? (i := 599) (by decide +kernel), by decide +kernel⟩
theorem cd_X6_goesRound : Cond.code yX6_goesRound cX6_goesRound 8 (some .int) ∈ nf_tbl := List.mem_filter.mpr ⟨List.mem_of_getElem? (i := 600) (by decide +kernel), by decide +kernel⟩
theorem ml_X6_91 : Cond.methodLink RX6 91 yX6_takes ∈ nf_tbl := List.mem_filter.mpr ⟨List.mem_of_getElem? (i := 601) (by decide +kernel), by decide +kernel⟩
theorem im_X6_takes : Cond.instanceMethod yX6_takes ∈ nf_tbl := List.mem_filter.mpr ⟨List.mem_of_getElem? (i := 603) (by decide +kernel), by decide +kernel⟩
theorem cd_X6_takes : Cond.code yX6_takes cX6_takes 5 (some .int) ∈ nf_tbl := List.mem_filter.mpr ⟨List.mem_of_getElem? (i := 604) (by decide +kernel), by decide +kernel⟩
theorem ml_L_57 : Cond.methodLink RL 57 yX6_settle ∈ nf_tbl := List.mem_filter.mpr ⟨List.mem_of_getElem? (i := 605) (by decide +kernel), by decide +kernel⟩
theorem im_X6_settle : Cond.instanceMethod yX6_settle ∈ nf_tbl := List.mem_filter.mpr ⟨List.mem_of_getElem? (i := 606) (by decide +kernel), by decide +kernel⟩
theorem se_X6_settle : Cond.selects RX6 yX6_settle yX6_settle ∈ nf_tbl := List.mem_filter.mpr ⟨List.mem_of_getElem? (i := 607) (by decide +kernel), by decide +kernel⟩
theorem cd_X6_settle : Cond.code yX6_settle cX6_settle 3 (some .int) ∈ nf_tbl := List.mem_filter.mpr ⟨List.mem_of_getElem? (i := 608) (by decide +kernel), by decide +kernel⟩
theorem ml_L_61 : Cond.methodLink RL 61 yX6_nextDay ∈ nf_tbl := List.mem_filter.mpr ⟨List.mem_of_getElem? (i := 609) (by decide +kernel), by decide +kernel⟩
theorem im_X6_nextDay : Cond.instanceMethod yX6_nextDay ∈ nf_tbl := List.mem_filter.mpr ⟨List.mem_of_getElem? (i := 610) (by decide +kernel), by decide +kernel⟩
theorem se_X6_nextDay : Cond.selects RX6 yX6_nextDay yX6_nextDay ∈ nf_tbl := List.mem_filter.mpr ⟨List.mem_of_getElem? (i := 611) (by decide +kernel), by decide +kernel⟩
theorem cd_X6_nextDay : Cond.code yX6_nextDay cX6_nextDay 5 (some .int) ∈ nf_tbl := List.mem_filter.mpr ⟨List.mem_of_getElem? (i := 612) (by decide +kernel), by decide +kernel⟩
theorem ml_L_65 : Cond.methodLink RL 65 yX6_isStored ∈ nf_tbl := List.mem_filter.mpr ⟨List.mem_of_getElem? (i := 613) (by decide +kernel), by decide +kernel⟩
theorem im_X6_isStored : Cond.instanceMethod yX6_isStored ∈ nf_tbl := List.mem_filter.mpr ⟨List.mem_of_getElem? (i := 614) (by decide +kernel), by decide +kernel⟩
theorem se_X6_isStored : Cond.selects RX6 yX6_isStored yX6_isStored ∈ nf_tbl := List.mem_filter.mpr ⟨List.mem_of_getElem? (i := 615) (by decide +kernel), by decide +kernel⟩
theorem cd_X6_isStored : Cond.code yX6_isStored cX6_isStored 3 (some .int) ∈ nf_tbl := List.mem_filter.mpr ⟨List.mem_of_getElem? (i := 616) (by decide +kernel), by decide +kernel⟩
theorem ml_L_69 : Cond.methodLink RL 69 yX6_knownSince ∈ nf_tbl := List.mem_filter.mpr ⟨List.mem_of_getElem? (i := 617) (by decide +kernel), by decide +kernel⟩
theorem im_X6_knownSince : Cond.instanceMethod yX6_knownSince ∈ nf_tbl := List.mem_filter.mpr ⟨List.mem_of_getElem? (i := 618) (by decide +kernel), by decide +kernel⟩
theorem se_X6_knownSince : Cond.selects RX6 yX6_knownSince yX6_knownSince ∈ nf_tbl := List.mem_filter.mpr ⟨List.mem_of_getElem? (i := 619) (by decide +kernel), by decide +kernel⟩
theorem cd_X6_knownSince : Cond.code yX6_knownSince cX6_knownSince 3 (some .int) ∈ nf_tbl := List.mem_filter.mpr ⟨List.mem_of_getElem? (i := 620) (by decide +kernel), by decide +kernel⟩
theorem ml_L_73 : Cond.methodLink RL 73 yX6_pendingCancels ∈ nf_tbl := List.mem_filter.mpr ⟨List.mem_of_getElem? (i := 621) (by decide +kernel), by decide +kernel⟩
theorem im_X6_pendingCancels : Cond.instanceMethod yX6_pendingCancels ∈ nf_tbl := List.mem_filter.mpr ⟨List.mem_of_getElem? (i := 622) (by decide +kernel), by decide +kernel⟩
theorem se_X6_pendingCancels : Cond.selects RX6 yX6_pendingCancels yX6_pendingCancels ∈ nf_tbl := List.mem_filter.mpr ⟨List.mem_of_getElem? (i := 623) (by decide +kernel), by decide +kernel⟩
theorem cd_X6_pendingCancels : Cond.code yX6_pendingCancels cX6_pendingCancels 2 (some .int) ∈ nf_tbl := List.mem_filter.mpr ⟨List.mem_of_getElem? (i := 624) (by decide +kernel), by decide +kernel⟩
theorem ml_X6_98 : Cond.methodLink RX6 98 yX6_pendingOf ∈ nf_tbl := List.mem_filter.mpr ⟨List.mem_of_getElem? (i := 625) (by decide +kernel), by decide +kernel⟩
theorem im_X6_pendingOf : Cond.instanceMethod yX6_pendingOf ∈ nf_tbl := List.mem_filter.mpr ⟨List.mem_of_getElem? (i := 627) (by decide +kernel), by decide +kernel⟩
theorem cd_X6_pendingOf : Cond.code yX6_pendingOf cX6_pendingOf 5 (some .int) ∈ nf_tbl := List.mem_filter.mpr ⟨List.mem_of_getElem? (i := 628) (by decide +kernel), by decide +kernel⟩
theorem ml_L_77 : Cond.methodLink RL 77 yX6_holders ∈ nf_tbl := List.mem_filter.mpr ⟨List.mem_of_getElem? (i := 629) (by decide +kernel), by decide +kernel⟩
theorem im_X6_holders : Cond.instanceMethod yX6_holders ∈ nf_tbl := List.mem_filter.mpr ⟨List.mem_of_getElem? (i := 630) (by decide +kernel), by decide +kernel⟩
theorem se_X6_holders : Cond.selects RX6 yX6_holders yX6_holders ∈ nf_tbl := List.mem_filter.mpr ⟨List.mem_of_getElem? (i := 631) (by decide +kernel), by decide +kernel⟩
theorem cd_X6_holders : Cond.code yX6_holders cX6_holders 4 (some .int) ∈ nf_tbl := List.mem_filter.mpr ⟨List.mem_of_getElem? (i := 632) (by decide +kernel), by decide +kernel⟩
theorem ml_L_81 : Cond.methodLink RL 81 yX6_storedInGroup ∈ nf_tbl := List.mem_filter.mpr ⟨List.mem_of_getElem? (i := 633) (by decide +kernel), by decide +kernel⟩
theorem im_X6_storedInGroup : Cond.instanceMethod yX6_storedInGroup ∈ nf_tbl := List.mem_filter.mpr ⟨List.mem_of_getElem? (i := 634) (by decide +kernel), by decide +kernel⟩
theorem se_X6_storedInGroup : Cond.selects RX6 yX6_storedInGroup yX6_storedInGroup ∈ nf_tbl := List.mem_filter.mpr ⟨List.mem_of_getElem? (i := 635) (by decide +kernel), by decide +kernel⟩
theorem cd_X6_storedInGroup : Cond.code yX6_storedInGroup cX6_storedInGroup 5 (some .int) ∈ nf_tbl := List.mem_filter.mpr ⟨List.mem_of_getElem? (i := 636) (by decide +kernel), by decide +kernel⟩
theorem ml_L_85 : Cond.methodLink RL 85 yX6_distance ∈ nf_tbl := List.mem_filter.mpr ⟨List.mem_of_getElem? (i := 637) (by decide +kernel), by decide +kernel⟩
theorem im_X6_distance : Cond.instanceMethod yX6_distance ∈ nf_tbl := List.mem_filter.mpr ⟨List.mem_of_getElem? (i := 638) (by decide +kernel), by decide +kernel⟩
theorem se_X6_distance : Cond.selects RX6 yX6_distance yX6_distance ∈ nf_tbl := List.mem_filter.mpr ⟨List.mem_of_getElem? (i := 639) (by decide +kernel), by decide +kernel⟩
theorem cd_X6_distance : Cond.code yX6_distance cX6_distance 8 (some .int) ∈ nf_tbl := List.mem_filter.mpr ⟨List.mem_of_getElem? (i := 640) (by decide +kernel), by decide +kernel⟩
theorem ml_L_89 : Cond.methodLink RL 89 yX6_waiting ∈ nf_tbl := List.mem_filter.mpr ⟨List.mem_of_getElem? (i := 641) (by decide +kernel), by decide +kernel⟩
theorem im_X6_waiting : Cond.instanceMethod yX6_waiting ∈ nf_tbl := List.mem_filter.mpr ⟨List.mem_of_getElem? (i := 642) (by decide +kernel), by decide +kernel⟩
theorem se_X6_waiting : Cond.selects RX6 yX6_waiting yX6_waiting ∈ nf_tbl := List.mem_filter.mpr ⟨List.mem_of_getElem? (i := 643) (by decide +kernel), by decide +kernel⟩
theorem cd_X6_waiting : Cond.code yX6_waiting cX6_waiting 1 (some .int) ∈ nf_tbl := List.mem_filter.mpr ⟨List.mem_of_getElem? (i := 644) (by decide +kernel), by decide +kernel⟩
theorem ml_L_93 : Cond.methodLink RL 93 yX6_total ∈ nf_tbl := List.mem_filter.mpr ⟨List.mem_of_getElem? (i := 645) (by decide +kernel), by decide +kernel⟩
theorem im_X6_total : Cond.instanceMethod yX6_total ∈ nf_tbl := List.mem_filter.mpr ⟨List.mem_of_getElem? (i := 646) (by decide +kernel), by decide +kernel⟩
theorem se_X6_total : Cond.selects RX6 yX6_total yX6_total ∈ nf_tbl := List.mem_filter.mpr ⟨List.mem_of_getElem? (i := 647) (by decide +kernel), by decide +kernel⟩
theorem cd_X6_total : Cond.code yX6_total cX6_total 2 (some .int) ∈ nf_tbl := List.mem_filter.mpr ⟨List.mem_of_getElem? (i := 648) (by decide +kernel), by decide +kernel⟩
theorem ml_L_97 : Cond.methodLink RL 97 yX6_day ∈ nf_tbl := List.mem_filter.mpr ⟨List.mem_of_getElem? (i := 649) (by decide +kernel), by decide +kernel⟩
theorem im_X6_day : Cond.instanceMethod yX6_day ∈ nf_tbl := List.mem_filter.mpr ⟨List.mem_of_getElem? (i := 650) (by decide +kernel), by decide +kernel⟩
theorem se_X6_day : Cond.selects RX6 yX6_day yX6_day ∈ nf_tbl := List.mem_filter.mpr ⟨List.mem_of_getElem? (i := 651) (by decide +kernel), by decide +kernel⟩
theorem cd_X6_day : Cond.code yX6_day cX6_day 1 (some .int) ∈ nf_tbl := List.mem_filter.mpr ⟨List.mem_of_getElem? (i := 652) (by decide +kernel), by decide +kernel⟩
theorem ml_L_101 : Cond.methodLink RL 101 yX6_undo ∈ nf_tbl := List.mem_filter.mpr ⟨List.mem_of_getElem? (i := 653) (by decide +kernel), by decide +kernel⟩
theorem im_X6_undo : Cond.instanceMethod yX6_undo ∈ nf_tbl := List.mem_filter.mpr ⟨List.mem_of_getElem? (i := 654) (by decide +kernel), by decide +kernel⟩
theorem se_X6_undo : Cond.selects RX6 yX6_undo yX6_undo ∈ nf_tbl := List.mem_filter.mpr ⟨List.mem_of_getElem? (i := 655) (by decide +kernel), by decide +kernel⟩
theorem cd_X6_undo : Cond.code yX6_undo cX6_undo 2 (some .int) ∈ nf_tbl := List.mem_filter.mpr ⟨List.mem_of_getElem? (i := 656) (by decide +kernel), by decide +kernel⟩
theorem ml_L_105 : Cond.methodLink RL 105 yX6_errorCount ∈ nf_tbl := List.mem_filter.mpr ⟨List.mem_of_getElem? (i := 657) (by decide +kernel), by decide +kernel⟩
theorem im_X6_errorCount : Cond.instanceMethod yX6_errorCount ∈ nf_tbl := List.mem_filter.mpr ⟨List.mem_of_getElem? (i := 658) (by decide +kernel), by decide +kernel⟩
theorem se_X6_errorCount : Cond.selects RX6 yX6_errorCount yX6_errorCount ∈ nf_tbl := List.mem_filter.mpr ⟨List.mem_of_getElem? (i := 659) (by decide +kernel), by decide +kernel⟩
theorem cd_X6_errorCount : Cond.code yX6_errorCount cX6_errorCount 2 (some .int) ∈ nf_tbl := List.mem_filter.mpr ⟨List.mem_of_getElem? (i := 660) (by decide +kernel), by decide +kernel⟩
theorem kc_X6_101 : Cond.constantLong RX6 101 (-5) ∈ nf_tbl := List.mem_filter.mpr ⟨List.mem_of_getElem? (i := 661) (by decide +kernel), by decide +kernel⟩
theorem kc_X6_103 : Cond.constantLong RX6 103 (-2) ∈ nf_tbl := List.mem_filter.mpr ⟨List.mem_of_getElem? (i := 662) (by decide +kernel), by decide +kernel⟩
theorem ml_L_110 : Cond.methodLink RL 110 yX6_digest ∈ nf_tbl := List.mem_filter.mpr ⟨List.mem_of_getElem? (i := 663) (by decide +kernel), by decide +kernel⟩
theorem im_X6_digest : Cond.instanceMethod yX6_digest ∈ nf_tbl := List.mem_filter.mpr ⟨List.mem_of_getElem? (i := 664) (by decide +kernel), by decide +kernel⟩
theorem se_X6_digest : Cond.selects RX6 yX6_digest yX6_digest ∈ nf_tbl := List.mem_filter.mpr ⟨List.mem_of_getElem? (i := 665) (by decide +kernel), by decide +kernel⟩
theorem cd_X6_digest : Cond.code yX6_digest cX6_digest 5 (some .long) ∈ nf_tbl := List.mem_filter.mpr ⟨List.mem_of_getElem? (i := 666) (by decide +kernel), by decide +kernel⟩
theorem kc_X6_105 : Cond.constantLong RX6 105 2659 ∈ nf_tbl := List.mem_filter.mpr ⟨List.mem_of_getElem? (i := 667) (by decide +kernel), by decide +kernel⟩
theorem kc_X6_107 : Cond.constantLong RX6 107 31 ∈ nf_tbl := List.mem_filter.mpr ⟨List.mem_of_getElem? (i := 668) (by decide +kernel), by decide +kernel⟩
theorem nm_X5_init : nf_nm yX5_init 0 := ⟨⟨by decide +kernel, by decide +kernel⟩, by decide +kernel⟩
theorem nm_X3_init : nf_nm yX3_init 0 := ⟨⟨by decide +kernel, by decide +kernel⟩, by decide +kernel⟩
theorem nm_X2_init : nf_nm yX2_init 0 := ⟨⟨by decide +kernel, by decide +kernel⟩, by decide +kernel⟩
theorem nm_X0_init : nf_nm yX0_init 0 := ⟨⟨by decide +kernel, by decide +kernel⟩, by decide +kernel⟩
theorem nm_X4_init : nf_nm yX4_init 0 := ⟨⟨by decide +kernel, by decide +kernel⟩, by decide +kernel⟩
theorem nm_J7_fill_53178 : nf_nm yJ7_fill_53178 2 := ⟨⟨by decide +kernel, by decide +kernel⟩, by decide +kernel⟩
theorem nm_X1_init : nf_nm yX1_init 0 := ⟨⟨by decide +kernel, by decide +kernel⟩, by decide +kernel⟩
theorem nm_X5_addLink : nf_nm yX5_addLink 3 := ⟨⟨by decide +kernel, by decide +kernel⟩, by decide +kernel⟩
theorem nm_X5_isBelow : nf_nm yX5_isBelow 2 := ⟨⟨by decide +kernel, by decide +kernel⟩, by decide +kernel⟩
theorem nm_X5_fail : nf_nm yX5_fail 1 := ⟨⟨by decide +kernel, by decide +kernel⟩, by decide +kernel⟩
theorem nm_X5_errorSlot : nf_nm yX5_errorSlot 1 := ⟨⟨by decide +kernel, by decide +kernel⟩, by decide +kernel⟩
theorem nm_X2_between : nf_nm yX2_between 2 := ⟨⟨by decide +kernel, by decide +kernel⟩, by decide +kernel⟩
theorem nm_X5_save : nf_nm yX5_save 0 := ⟨⟨by decide +kernel, by decide +kernel⟩, by decide +kernel⟩
theorem nm_X3_copyFrom : nf_nm yX3_copyFrom 1 := ⟨⟨by decide +kernel, by decide +kernel⟩, by decide +kernel⟩
theorem nm_X2_copyFrom : nf_nm yX2_copyFrom 1 := ⟨⟨by decide +kernel, by decide +kernel⟩, by decide +kernel⟩
theorem nm_X0_copyFrom : nf_nm yX0_copyFrom 1 := ⟨⟨by decide +kernel, by decide +kernel⟩, by decide +kernel⟩
theorem nm_X1_copyFrom : nf_nm yX1_copyFrom 1 := ⟨⟨by decide +kernel, by decide +kernel⟩, by decide +kernel⟩
theorem nm_X4_copyFrom : nf_nm yX4_copyFrom 1 := ⟨⟨by decide +kernel, by decide +kernel⟩, by decide +kernel⟩
theorem nm_X2_append : nf_nm yX2_append 3 := ⟨⟨by decide +kernel, by decide +kernel⟩, by decide +kernel⟩
theorem nm_X5_removeLink : nf_nm yX5_removeLink 1 := ⟨⟨by decide +kernel, by decide +kernel⟩, by decide +kernel⟩
theorem nm_X2_delete : nf_nm yX2_delete 1 := ⟨⟨by decide +kernel, by decide +kernel⟩, by decide +kernel⟩
theorem nm_X5_setKind : nf_nm yX5_setKind 2 := ⟨⟨by decide +kernel, by decide +kernel⟩, by decide +kernel⟩
theorem nm_X5_setGroups : nf_nm yX5_setGroups 2 := ⟨⟨by decide +kernel, by decide +kernel⟩, by decide +kernel⟩
theorem nm_X5_setExpiry : nf_nm yX5_setExpiry 2 := ⟨⟨by decide +kernel, by decide +kernel⟩, by decide +kernel⟩
theorem nm_X5_isLimit : nf_nm yX5_isLimit 1 := ⟨⟨by decide +kernel, by decide +kernel⟩, by decide +kernel⟩
theorem nm_X5_setHistoryLimit : nf_nm yX5_setHistoryLimit 1 := ⟨⟨by decide +kernel, by decide +kernel⟩, by decide +kernel⟩
theorem nm_X5_post : nf_nm yX5_post 3 := ⟨⟨by decide +kernel, by decide +kernel⟩, by decide +kernel⟩
theorem nm_X5_publish : nf_nm yX5_publish 5 := ⟨⟨by decide +kernel, by decide +kernel⟩, by decide +kernel⟩
theorem nm_X0_append : nf_nm yX0_append 5 := ⟨⟨by decide +kernel, by decide +kernel⟩, by decide +kernel⟩
theorem nm_X3_arrive : nf_nm yX3_arrive 3 := ⟨⟨by decide +kernel, by decide +kernel⟩, by decide +kernel⟩
theorem nm_X1_knows : nf_nm yX1_knows 1 := ⟨⟨by decide +kernel, by decide +kernel⟩, by decide +kernel⟩
theorem nm_X1_takeCancel : nf_nm yX1_takeCancel 2 := ⟨⟨by decide +kernel, by decide +kernel⟩, by decide +kernel⟩
theorem nm_X5_has : nf_nm yX5_has 2 := ⟨⟨by decide +kernel, by decide +kernel⟩, by decide +kernel⟩
theorem nm_X1_carries : nf_nm yX1_carries 1 := ⟨⟨by decide +kernel, by decide +kernel⟩, by decide +kernel⟩
theorem nm_X1_keep : nf_nm yX1_keep 1 := ⟨⟨by decide +kernel, by decide +kernel⟩, by decide +kernel⟩
theorem nm_X3_actOnTarget : nf_nm yX3_actOnTarget 2 := ⟨⟨by decide +kernel, by decide +kernel⟩, by decide +kernel⟩
theorem nm_X1_stores : nf_nm yX1_stores 1 := ⟨⟨by decide +kernel, by decide +kernel⟩, by decide +kernel⟩
theorem nm_X1_drop : nf_nm yX1_drop 1 := ⟨⟨by decide +kernel, by decide +kernel⟩, by decide +kernel⟩
theorem nm_X1_addCancel : nf_nm yX1_addCancel 2 := ⟨⟨by decide +kernel, by decide +kernel⟩, by decide +kernel⟩
theorem nm_X2_neighboursOf : nf_nm yX2_neighboursOf 1 := ⟨⟨by decide +kernel, by decide +kernel⟩, by decide +kernel⟩
theorem nm_X4_put : nf_nm yX4_put 4 := ⟨⟨by decide +kernel, by decide +kernel⟩, by decide +kernel⟩
theorem nm_X4_slot : nf_nm yX4_slot 2 := ⟨⟨by decide +kernel, by decide +kernel⟩, by decide +kernel⟩
theorem nm_X5_postAction : nf_nm yX5_postAction 4 := ⟨⟨by decide +kernel, by decide +kernel⟩, by decide +kernel⟩
theorem nm_X5_isArticle : nf_nm yX5_isArticle 1 := ⟨⟨by decide +kernel, by decide +kernel⟩, by decide +kernel⟩
theorem nm_X5_round : nf_nm yX5_round 0 := ⟨⟨by decide +kernel, by decide +kernel⟩, by decide +kernel⟩
theorem nm_X3_performRound : nf_nm yX3_performRound 1 := ⟨⟨by decide +kernel, by decide +kernel⟩, by decide +kernel⟩
theorem nm_X4_makeEmpty : nf_nm yX4_makeEmpty 0 := ⟨⟨by decide +kernel, by decide +kernel⟩, by decide +kernel⟩
theorem nm_X3_sendTo : nf_nm yX3_sendTo 4 := ⟨⟨by decide +kernel, by decide +kernel⟩, by decide +kernel⟩
theorem nm_X5_settle : nf_nm yX5_settle 0 := ⟨⟨by decide +kernel, by decide +kernel⟩, by decide +kernel⟩
theorem nm_X4_size : nf_nm yX4_size 0 := ⟨⟨by decide +kernel, by decide +kernel⟩, by decide +kernel⟩
theorem nm_J6_bitCount_0f7a4 : nf_nm yJ6_bitCount_0f7a4 1 := ⟨⟨by decide +kernel, by decide +kernel⟩, by decide +kernel⟩
theorem nm_X5_nextDay : nf_nm yX5_nextDay 0 := ⟨⟨by decide +kernel, by decide +kernel⟩, by decide +kernel⟩
theorem nm_X3_beginDay : nf_nm yX3_beginDay 0 := ⟨⟨by decide +kernel, by decide +kernel⟩, by decide +kernel⟩
theorem nm_X3_expireStore : nf_nm yX3_expireStore 1 := ⟨⟨by decide +kernel, by decide +kernel⟩, by decide +kernel⟩
theorem nm_X3_forgetOld : nf_nm yX3_forgetOld 1 := ⟨⟨by decide +kernel, by decide +kernel⟩, by decide +kernel⟩
theorem nm_X5_isStored : nf_nm yX5_isStored 2 := ⟨⟨by decide +kernel, by decide +kernel⟩, by decide +kernel⟩
theorem nm_X5_knownSince : nf_nm yX5_knownSince 2 := ⟨⟨by decide +kernel, by decide +kernel⟩, by decide +kernel⟩
theorem nm_X5_pendingCancels : nf_nm yX5_pendingCancels 1 := ⟨⟨by decide +kernel, by decide +kernel⟩, by decide +kernel⟩
theorem nm_X1_countCancels : nf_nm yX1_countCancels 0 := ⟨⟨by decide +kernel, by decide +kernel⟩, by decide +kernel⟩
theorem nm_X5_holders : nf_nm yX5_holders 1 := ⟨⟨by decide +kernel, by decide +kernel⟩, by decide +kernel⟩
theorem nm_X5_storedInGroup : nf_nm yX5_storedInGroup 2 := ⟨⟨by decide +kernel, by decide +kernel⟩, by decide +kernel⟩
theorem nm_X5_distance : nf_nm yX5_distance 2 := ⟨⟨by decide +kernel, by decide +kernel⟩, by decide +kernel⟩
theorem nm_X5_waiting : nf_nm yX5_waiting 0 := ⟨⟨by decide +kernel, by decide +kernel⟩, by decide +kernel⟩
theorem nm_X5_total : nf_nm yX5_total 1 := ⟨⟨by decide +kernel, by decide +kernel⟩, by decide +kernel⟩
theorem nm_X5_day : nf_nm yX5_day 0 := ⟨⟨by decide +kernel, by decide +kernel⟩, by decide +kernel⟩
theorem nm_X5_undo : nf_nm yX5_undo 0 := ⟨⟨by decide +kernel, by decide +kernel⟩, by decide +kernel⟩
theorem nm_X5_errorCount : nf_nm yX5_errorCount 1 := ⟨⟨by decide +kernel, by decide +kernel⟩, by decide +kernel⟩
theorem nm_X5_digest : nf_nm yX5_digest 0 := ⟨⟨by decide +kernel, by decide +kernel⟩, by decide +kernel⟩
theorem nm_X5_mixAll : nf_nm yX5_mixAll 2 := ⟨⟨by decide +kernel, by decide +kernel⟩, by decide +kernel⟩
theorem nm_X5_mix : nf_nm yX5_mix 2 := ⟨⟨by decide +kernel, by decide +kernel⟩, by decide +kernel⟩
theorem nm_X5_mixLinks : nf_nm yX5_mixLinks 2 := ⟨⟨by decide +kernel, by decide +kernel⟩, by decide +kernel⟩
theorem nm_X5_mixArticles : nf_nm yX5_mixArticles 2 := ⟨⟨by decide +kernel, by decide +kernel⟩, by decide +kernel⟩
theorem nm_X5_mixHost : nf_nm yX5_mixHost 3 := ⟨⟨by decide +kernel, by decide +kernel⟩, by decide +kernel⟩
theorem nm_X6_init : nf_nm yX6_init 0 := ⟨⟨by decide +kernel, by decide +kernel⟩, by decide +kernel⟩
theorem nm_X6_addLink : nf_nm yX6_addLink 3 := ⟨⟨by decide +kernel, by decide +kernel⟩, by decide +kernel⟩
theorem nm_X6_isHost : nf_nm yX6_isHost 1 := ⟨⟨by decide +kernel, by decide +kernel⟩, by decide +kernel⟩
theorem nm_X6_in : nf_nm yX6_in 3 := ⟨⟨by decide +kernel, by decide +kernel⟩, by decide +kernel⟩
theorem nm_X6_error : nf_nm yX6_error 1 := ⟨⟨by decide +kernel, by decide +kernel⟩, by decide +kernel⟩
theorem nm_X6_linkOf : nf_nm yX6_linkOf 2 := ⟨⟨by decide +kernel, by decide +kernel⟩, by decide +kernel⟩
theorem nm_X6_link : nf_nm yX6_link 2 := ⟨⟨by decide +kernel, by decide +kernel⟩, by decide +kernel⟩
theorem nm_X6_save : nf_nm yX6_save 0 := ⟨⟨by decide +kernel, by decide +kernel⟩, by decide +kernel⟩
theorem nm_X6_removeLink : nf_nm yX6_removeLink 1 := ⟨⟨by decide +kernel, by decide +kernel⟩, by decide +kernel⟩
theorem nm_X6_isLink : nf_nm yX6_isLink 1 := ⟨⟨by decide +kernel, by decide +kernel⟩, by decide +kernel⟩
theorem nm_X6_setKind : nf_nm yX6_setKind 2 := ⟨⟨by decide +kernel, by decide +kernel⟩, by decide +kernel⟩
theorem nm_X6_setGroups : nf_nm yX6_setGroups 2 := ⟨⟨by decide +kernel, by decide +kernel⟩, by decide +kernel⟩
theorem nm_X6_setExpiry : nf_nm yX6_setExpiry 2 := ⟨⟨by decide +kernel, by decide +kernel⟩, by decide +kernel⟩
theorem nm_X6_isGroup : nf_nm yX6_isGroup 1 := ⟨⟨by decide +kernel, by decide +kernel⟩, by decide +kernel⟩
theorem nm_X6_setHistoryLimit : nf_nm yX6_setHistoryLimit 1 := ⟨⟨by decide +kernel, by decide +kernel⟩, by decide +kernel⟩
theorem nm_X6_post : nf_nm yX6_post 3 := ⟨⟨by decide +kernel, by decide +kernel⟩, by decide +kernel⟩
theorem nm_X6_posts : nf_nm yX6_posts 5 := ⟨⟨by decide +kernel, by decide +kernel⟩, by decide +kernel⟩
theorem nm_X6_arrives : nf_nm yX6_arrives 3 := ⟨⟨by decide +kernel, by decide +kernel⟩, by decide +kernel⟩
theorem nm_X6_known : nf_nm yX6_known 2 := ⟨⟨by decide +kernel, by decide +kernel⟩, by decide +kernel⟩
theorem nm_X6_of : nf_nm yX6_of 2 := ⟨⟨by decide +kernel, by decide +kernel⟩, by decide +kernel⟩
theorem nm_X6_acts : nf_nm yX6_acts 2 := ⟨⟨by decide +kernel, by decide +kernel⟩, by decide +kernel⟩
theorem nm_X6_isIn : nf_nm yX6_isIn 2 := ⟨⟨by decide +kernel, by decide +kernel⟩, by decide +kernel⟩
theorem nm_X6_postAction : nf_nm yX6_postAction 4 := ⟨⟨by decide +kernel, by decide +kernel⟩, by decide +kernel⟩
theorem nm_X6_isArticle : nf_nm yX6_isArticle 1 := ⟨⟨by decide +kernel, by decide +kernel⟩, by decide +kernel⟩
theorem nm_X6_round : nf_nm yX6_round 0 := ⟨⟨by decide +kernel, by decide +kernel⟩, by decide +kernel⟩
theorem nm_X6_goesRound : nf_nm yX6_goesRound 0 := ⟨⟨by decide +kernel, by decide +kernel⟩, by decide +kernel⟩
theorem nm_X6_takes : nf_nm yX6_takes 0 := ⟨⟨by decide +kernel, by decide +kernel⟩, by decide +kernel⟩
theorem nm_X6_settle : nf_nm yX6_settle 0 := ⟨⟨by decide +kernel, by decide +kernel⟩, by decide +kernel⟩
theorem nm_X6_nextDay : nf_nm yX6_nextDay 0 := ⟨⟨by decide +kernel, by decide +kernel⟩, by decide +kernel⟩
theorem nm_X6_isStored : nf_nm yX6_isStored 2 := ⟨⟨by decide +kernel, by decide +kernel⟩, by decide +kernel⟩
theorem nm_X6_knownSince : nf_nm yX6_knownSince 2 := ⟨⟨by decide +kernel, by decide +kernel⟩, by decide +kernel⟩
theorem nm_X6_pendingCancels : nf_nm yX6_pendingCancels 1 := ⟨⟨by decide +kernel, by decide +kernel⟩, by decide +kernel⟩
theorem nm_X6_pendingOf : nf_nm yX6_pendingOf 1 := ⟨⟨by decide +kernel, by decide +kernel⟩, by decide +kernel⟩
theorem nm_X6_holders : nf_nm yX6_holders 1 := ⟨⟨by decide +kernel, by decide +kernel⟩, by decide +kernel⟩
theorem nm_X6_storedInGroup : nf_nm yX6_storedInGroup 2 := ⟨⟨by decide +kernel, by decide +kernel⟩, by decide +kernel⟩
theorem nm_X6_distance : nf_nm yX6_distance 2 := ⟨⟨by decide +kernel, by decide +kernel⟩, by decide +kernel⟩
theorem nm_X6_waiting : nf_nm yX6_waiting 0 := ⟨⟨by decide +kernel, by decide +kernel⟩, by decide +kernel⟩
theorem nm_X6_total : nf_nm yX6_total 1 := ⟨⟨by decide +kernel, by decide +kernel⟩, by decide +kernel⟩
theorem nm_X6_day : nf_nm yX6_day 0 := ⟨⟨by decide +kernel, by decide +kernel⟩, by decide +kernel⟩
theorem nm_X6_undo : nf_nm yX6_undo 0 := ⟨⟨by decide +kernel, by decide +kernel⟩, by decide +kernel⟩
theorem nm_X6_errorCount : nf_nm yX6_errorCount 1 := ⟨⟨by decide +kernel, by decide +kernel⟩, by decide +kernel⟩
theorem nm_X6_digest : nf_nm yX6_digest 0 := ⟨⟨by decide +kernel, by decide +kernel⟩, by decide +kernel⟩
theorem mk_L_9 : nf_lk RL 9 yX5_init cX5_init 2 none := ⟨ml_L_9, cd_X5_init, ini_X5⟩
theorem mk_X5_11 : nf_lk RX5 11 yX3_init cX3_init 2 none := ⟨ml_X5_11, cd_X3_init, ini_X3⟩
theorem mk_X3_52 : nf_lk RX3 52 yJ7_fill_53178 cJ7_fill_53178 4 none := ⟨ml_X3_52, cd_J7_fill_53178, ini_J7⟩
theorem mk_X3_58 : nf_lk RX3 58 yX1_init cX1_init 1 none := ⟨ml_X3_58, cd_X1_init, ini_X1⟩
theorem mk_X1_25 : nf_lk RX1 25 yJ7_fill_53178 cJ7_fill_53178 4 none := ⟨ml_X1_25, cd_J7_fill_53178, ini_J7⟩
theorem mk_L_13 : nf_lk RL 13 yX5_addLink cX5_addLink 4 (some .int) := ⟨ml_L_13, cd_X5_addLink, ini_X5⟩
theorem mk_X5_35 : nf_lk RX5 35 yX5_isBelow cX5_isBelow 2 (some .boolean) := ⟨ml_X5_35, cd_X5_isBelow, ini_X5⟩
theorem mk_X5_39 : nf_lk RX5 39 yX5_fail cX5_fail 3 (some .int) := ⟨ml_X5_39, cd_X5_fail, ini_X5⟩
theorem mk_X5_145 : nf_lk RX5 145 yX5_errorSlot cX5_errorSlot 1 (some .int) := ⟨ml_X5_145, cd_X5_errorSlot, ini_X5⟩
theorem mk_X5_47 : nf_lk RX5 47 yX2_between cX2_between 6 (some .int) := ⟨ml_X5_47, cd_X2_between, ini_X2⟩
theorem mk_X5_56 : nf_lk RX5 56 yX5_save cX5_save 3 none := ⟨ml_X5_56, cd_X5_save, ini_X5⟩
theorem mk_X5_141 : nf_lk RX5 141 yX3_copyFrom cX3_copyFrom 3 none := ⟨ml_X5_141, cd_X3_copyFrom, ini_X3⟩
theorem mk_X3_165 : nf_lk RX3 165 yX2_copyFrom cX2_copyFrom 2 none := ⟨ml_X3_165, cd_X2_copyFrom, ini_X2⟩
theorem mk_X3_168 : nf_lk RX3 168 yX0_copyFrom cX0_copyFrom 2 none := ⟨ml_X3_168, cd_X0_copyFrom, ini_X0⟩
theorem mk_X3_171 : nf_lk RX3 171 yX1_copyFrom cX1_copyFrom 2 none := ⟨ml_X3_171, cd_X1_copyFrom, ini_X1⟩
theorem mk_X3_114 : nf_lk RX3 114 yX4_copyFrom cX4_copyFrom 2 none := ⟨ml_X3_114, cd_X4_copyFrom, ini_X4⟩
theorem mk_X5_59 : nf_lk RX5 59 yX2_append cX2_append 4 (some .int) := ⟨ml_X5_59, cd_X2_append, ini_X2⟩
theorem mk_L_18 : nf_lk RL 18 yX5_removeLink cX5_removeLink 2 (some .int) := ⟨ml_L_18, cd_X5_removeLink, ini_X5⟩
theorem mk_X5_63 : nf_lk RX5 63 yX2_delete cX2_delete 3 none := ⟨ml_X5_63, cd_X2_delete, ini_X2⟩
theorem mk_L_23 : nf_lk RL 23 yX5_setKind cX5_setKind 4 (some .int) := ⟨ml_L_23, cd_X5_setKind, ini_X5⟩
theorem mk_L_28 : nf_lk RL 28 yX5_setGroups cX5_setGroups 4 (some .int) := ⟨ml_L_28, cd_X5_setGroups, ini_X5⟩
theorem mk_L_32 : nf_lk RL 32 yX5_setExpiry cX5_setExpiry 4 (some .int) := ⟨ml_L_32, cd_X5_setExpiry, ini_X5⟩
theorem mk_X5_79 : nf_lk RX5 79 yX5_isLimit cX5_isLimit 1 (some .boolean) := ⟨ml_X5_79, cd_X5_isLimit, ini_X5⟩
theorem mk_L_36 : nf_lk RL 36 yX5_setHistoryLimit cX5_setHistoryLimit 3 (some .int) := ⟨ml_L_36, cd_X5_setHistoryLimit, ini_X5⟩
theorem mk_L_40 : nf_lk RL 40 yX5_post cX5_post 4 (some .int) := ⟨ml_L_40, cd_X5_post, ini_X5⟩
theorem mk_X5_89 : nf_lk RX5 89 yX5_publish cX5_publish 7 (some .int) := ⟨ml_X5_89, cd_X5_publish, ini_X5⟩
theorem mk_X5_170 : nf_lk RX5 170 yX0_append cX0_append 6 (some .int) := ⟨ml_X5_170, cd_X0_append, ini_X0⟩
theorem mk_X5_172 : nf_lk RX5 172 yX3_arrive cX3_arrive 6 (some .boolean) := ⟨ml_X5_172, cd_X3_arrive, ini_X3⟩
theorem mk_X3_59 : nf_lk RX3 59 yX1_knows cX1_knows 2 (some .boolean) := ⟨ml_X3_59, cd_X1_knows, ini_X1⟩
theorem mk_X3_72 : nf_lk RX3 72 yX1_takeCancel cX1_takeCancel 4 (some .boolean) := ⟨ml_X3_72, cd_X1_takeCancel, ini_X1⟩
theorem mk_X3_79 : nf_lk RX3 79 yX1_carries cX1_carries 2 (some .boolean) := ⟨ml_X3_79, cd_X1_carries, ini_X1⟩
theorem mk_X3_82 : nf_lk RX3 82 yX1_keep cX1_keep 2 none := ⟨ml_X3_82, cd_X1_keep, ini_X1⟩
theorem mk_X3_89 : nf_lk RX3 89 yX3_actOnTarget cX3_actOnTarget 5 none := ⟨ml_X3_89, cd_X3_actOnTarget, ini_X3⟩
theorem mk_X3_104 : nf_lk RX3 104 yX1_stores cX1_stores 2 (some .boolean) := ⟨ml_X3_104, cd_X1_stores, ini_X1⟩
theorem mk_X3_107 : nf_lk RX3 107 yX1_drop cX1_drop 2 none := ⟨ml_X3_107, cd_X1_drop, ini_X1⟩
theorem mk_X3_110 : nf_lk RX3 110 yX1_addCancel cX1_addCancel 3 none := ⟨ml_X3_110, cd_X1_addCancel, ini_X1⟩
theorem mk_X3_93 : nf_lk RX3 93 yX2_neighboursOf cX2_neighboursOf 4 (some .int) := ⟨ml_X3_93, cd_X2_neighboursOf, ini_X2⟩
theorem mk_X3_97 : nf_lk RX3 97 yX4_put cX4_put 5 none := ⟨ml_X3_97, cd_X4_put, ini_X4⟩
theorem mk_X4_18 : nf_lk RX4 18 yX4_slot cX4_slot 2 (some .int) := ⟨ml_X4_18, cd_X4_slot, ini_X4⟩
theorem mk_L_44 : nf_lk RL 44 yX5_postAction cX5_postAction 5 (some .int) := ⟨ml_L_44, cd_X5_postAction, ini_X5⟩
theorem mk_X5_93 : nf_lk RX5 93 yX5_isArticle cX5_isArticle 2 (some .boolean) := ⟨ml_X5_93, cd_X5_isArticle, ini_X5⟩
theorem mk_L_49 : nf_lk RL 49 yX5_round cX5_round 1 (some .int) := ⟨ml_L_49, cd_X5_round, ini_X5⟩
theorem mk_X5_105 : nf_lk RX5 105 yX3_performRound cX3_performRound 7 (some .int) := ⟨ml_X5_105, cd_X3_performRound, ini_X3⟩
theorem mk_X3_118 : nf_lk RX3 118 yX4_makeEmpty cX4_makeEmpty 1 none := ⟨ml_X3_118, cd_X4_makeEmpty, ini_X4⟩
theorem mk_X4_28 : nf_lk RX4 28 yJ7_fill_53178 cJ7_fill_53178 4 none := ⟨ml_X4_28, cd_J7_fill_53178, ini_J7⟩
theorem mk_X3_124 : nf_lk RX3 124 yX4_slot cX4_slot 2 (some .int) := ⟨ml_X3_124, cd_X4_slot, ini_X4⟩
theorem mk_X3_137 : nf_lk RX3 137 yX3_sendTo cX3_sendTo 6 (some .boolean) := ⟨ml_X3_137, cd_X3_sendTo, ini_X3⟩
theorem mk_X3_141 : nf_lk RX3 141 yX2_between cX2_between 6 (some .int) := ⟨ml_X3_141, cd_X2_between, ini_X2⟩
theorem mk_X3_147 : nf_lk RX3 147 yX3_arrive cX3_arrive 6 (some .boolean) := ⟨ml_X3_147, cd_X3_arrive, ini_X3⟩
theorem mk_L_54 : nf_lk RL 54 yX5_settle cX5_settle 2 (some .int) := ⟨ml_L_54, cd_X5_settle, ini_X5⟩
theorem mk_X5_112 : nf_lk RX5 112 yX4_size cX4_size 6 (some .int) := ⟨ml_X5_112, cd_X4_size, ini_X4⟩
theorem mk_X4_22 : nf_lk RX4 22 yJ6_bitCount_0f7a4 cJ6_bitCount_0f7a4 1 (some .int) := ⟨ml_X4_22, cd_J6_bitCount_0f7a4, ini_J6⟩
theorem mk_L_58 : nf_lk RL 58 yX5_nextDay cX5_nextDay 1 (some .int) := ⟨ml_L_58, cd_X5_nextDay, ini_X5⟩
theorem mk_X5_116 : nf_lk RX5 116 yX3_beginDay cX3_beginDay 3 (some .int) := ⟨ml_X5_116, cd_X3_beginDay, ini_X3⟩
theorem mk_X3_151 : nf_lk RX3 151 yX3_expireStore cX3_expireStore 5 (some .int) := ⟨ml_X3_151, cd_X3_expireStore, ini_X3⟩
theorem mk_X3_155 : nf_lk RX3 155 yX3_forgetOld cX3_forgetOld 3 none := ⟨ml_X3_155, cd_X3_forgetOld, ini_X3⟩
theorem mk_L_62 : nf_lk RL 62 yX5_isStored cX5_isStored 3 (some .int) := ⟨ml_L_62, cd_X5_isStored, ini_X5⟩
theorem mk_X5_119 : nf_lk RX5 119 yX1_stores cX1_stores 2 (some .boolean) := ⟨ml_X5_119, cd_X1_stores, ini_X1⟩
theorem mk_L_66 : nf_lk RL 66 yX5_knownSince cX5_knownSince 3 (some .int) := ⟨ml_L_66, cd_X5_knownSince, ini_X5⟩
theorem mk_L_70 : nf_lk RL 70 yX5_pendingCancels cX5_pendingCancels 2 (some .int) := ⟨ml_L_70, cd_X5_pendingCancels, ini_X5⟩
theorem mk_X5_125 : nf_lk RX5 125 yX1_countCancels cX1_countCancels 6 (some .int) := ⟨ml_X5_125, cd_X1_countCancels, ini_X1⟩
theorem mk_X1_35 : nf_lk RX1 35 yJ6_bitCount_0f7a4 cJ6_bitCount_0f7a4 1 (some .int) := ⟨ml_X1_35, cd_J6_bitCount_0f7a4, ini_J6⟩
theorem mk_L_74 : nf_lk RL 74 yX5_holders cX5_holders 4 (some .int) := ⟨ml_L_74, cd_X5_holders, ini_X5⟩
theorem mk_L_78 : nf_lk RL 78 yX5_storedInGroup cX5_storedInGroup 5 (some .int) := ⟨ml_L_78, cd_X5_storedInGroup, ini_X5⟩
theorem mk_L_82 : nf_lk RL 82 yX5_distance cX5_distance 5 (some .int) := ⟨ml_L_82, cd_X5_distance, ini_X5⟩
theorem mk_X5_129 : nf_lk RX5 129 yX5_has cX5_has 2 (some .boolean) := ⟨ml_X5_129, cd_X5_has, ini_X5⟩
theorem mk_X5_132 : nf_lk RX5 132 yX2_neighboursOf cX2_neighboursOf 4 (some .int) := ⟨ml_X5_132, cd_X2_neighboursOf, ini_X2⟩
theorem mk_L_86 : nf_lk RL 86 yX5_waiting cX5_waiting 1 (some .int) := ⟨ml_L_86, cd_X5_waiting, ini_X5⟩
theorem mk_L_90 : nf_lk RL 90 yX5_total cX5_total 2 (some .int) := ⟨ml_L_90, cd_X5_total, ini_X5⟩
theorem mk_L_94 : nf_lk RL 94 yX5_day cX5_day 1 (some .int) := ⟨ml_L_94, cd_X5_day, ini_X5⟩
theorem mk_L_98 : nf_lk RL 98 yX5_undo cX5_undo 1 (some .int) := ⟨ml_L_98, cd_X5_undo, ini_X5⟩
theorem mk_L_102 : nf_lk RL 102 yX5_errorCount cX5_errorCount 3 (some .int) := ⟨ml_L_102, cd_X5_errorCount, ini_X5⟩
theorem mk_L_106 : nf_lk RL 106 yX5_digest cX5_digest 4 (some .long) := ⟨ml_L_106, cd_X5_digest, ini_X5⟩
theorem mk_X5_150 : nf_lk RX5 150 yX5_mixAll cX5_mixAll 9 (some .long) := ⟨ml_X5_150, cd_X5_mixAll, ini_X5⟩
theorem mk_X5_154 : nf_lk RX5 154 yX5_mix cX5_mix 3 (some .long) := ⟨ml_X5_154, cd_X5_mix, ini_X5⟩
theorem mk_X5_158 : nf_lk RX5 158 yX5_mixLinks cX5_mixLinks 6 (some .long) := ⟨ml_X5_158, cd_X5_mixLinks, ini_X5⟩
theorem mk_X5_162 : nf_lk RX5 162 yX5_mixArticles cX5_mixArticles 6 (some .long) := ⟨ml_X5_162, cd_X5_mixArticles, ini_X5⟩
theorem mk_X5_166 : nf_lk RX5 166 yX5_mixHost cX5_mixHost 7 (some .long) := ⟨ml_X5_166, cd_X5_mixHost, ini_X5⟩
theorem mk_L_12 : nf_lk RL 12 yX6_init cX6_init 2 none := ⟨ml_L_12, cd_X6_init, ini_X6⟩
theorem mk_L_17 : nf_lk RL 17 yX6_addLink cX6_addLink 5 (some .int) := ⟨ml_L_17, cd_X6_addLink, ini_X6⟩
theorem mk_X6_38 : nf_lk RX6 38 yX6_isHost cX6_isHost 1 (some .boolean) := ⟨ml_X6_38, cd_X6_isHost, ini_X6⟩
theorem mk_X6_28 : nf_lk RX6 28 yX6_in cX6_in 6 (some .boolean) := ⟨ml_X6_28, cd_X6_in, ini_X6⟩
theorem mk_X6_42 : nf_lk RX6 42 yX6_error cX6_error 2 (some .int) := ⟨ml_X6_42, cd_X6_error, ini_X6⟩
theorem mk_X6_46 : nf_lk RX6 46 yX6_linkOf cX6_linkOf 4 (some .int) := ⟨ml_X6_46, cd_X6_linkOf, ini_X6⟩
theorem mk_X6_34 : nf_lk RX6 34 yX6_link cX6_link 3 (some .int) := ⟨ml_X6_34, cd_X6_link, ini_X6⟩
theorem mk_X6_49 : nf_lk RX6 49 yX6_save cX6_save 2 none := ⟨ml_X6_49, cd_X6_save, ini_X6⟩
theorem mk_L_22 : nf_lk RL 22 yX6_removeLink cX6_removeLink 3 (some .int) := ⟨ml_L_22, cd_X6_removeLink, ini_X6⟩
theorem mk_X6_52 : nf_lk RX6 52 yX6_isLink cX6_isLink 2 (some .boolean) := ⟨ml_X6_52, cd_X6_isLink, ini_X6⟩
theorem mk_L_27 : nf_lk RL 27 yX6_setKind cX6_setKind 4 (some .int) := ⟨ml_L_27, cd_X6_setKind, ini_X6⟩
theorem mk_L_31 : nf_lk RL 31 yX6_setGroups cX6_setGroups 4 (some .int) := ⟨ml_L_31, cd_X6_setGroups, ini_X6⟩
theorem mk_L_35 : nf_lk RL 35 yX6_setExpiry cX6_setExpiry 4 (some .int) := ⟨ml_L_35, cd_X6_setExpiry, ini_X6⟩
theorem mk_X6_57 : nf_lk RX6 57 yX6_isGroup cX6_isGroup 1 (some .boolean) := ⟨ml_X6_57, cd_X6_isGroup, ini_X6⟩
theorem mk_L_39 : nf_lk RL 39 yX6_setHistoryLimit cX6_setHistoryLimit 3 (some .int) := ⟨ml_L_39, cd_X6_setHistoryLimit, ini_X6⟩
theorem mk_L_43 : nf_lk RL 43 yX6_post cX6_post 4 (some .int) := ⟨ml_L_43, cd_X6_post, ini_X6⟩
theorem mk_X6_82 : nf_lk RX6 82 yX6_posts cX6_posts 9 (some .int) := ⟨ml_X6_82, cd_X6_posts, ini_X6⟩
theorem mk_X6_76 : nf_lk RX6 76 yX6_arrives cX6_arrives 8 (some .int) := ⟨ml_X6_76, cd_X6_arrives, ini_X6⟩
theorem mk_X6_69 : nf_lk RX6 69 yX6_known cX6_known 3 (some .int) := ⟨ml_X6_69, cd_X6_known, ini_X6⟩
theorem mk_X6_62 : nf_lk RX6 62 yX6_of cX6_of 3 (some .int) := ⟨ml_X6_62, cd_X6_of, ini_X6⟩
theorem mk_X6_72 : nf_lk RX6 72 yX6_acts cX6_acts 6 none := ⟨ml_X6_72, cd_X6_acts, ini_X6⟩
theorem mk_X6_65 : nf_lk RX6 65 yX6_isIn cX6_isIn 3 (some .boolean) := ⟨ml_X6_65, cd_X6_isIn, ini_X6⟩
theorem mk_L_48 : nf_lk RL 48 yX6_postAction cX6_postAction 5 (some .int) := ⟨ml_L_48, cd_X6_postAction, ini_X6⟩
theorem mk_X6_88 : nf_lk RX6 88 yX6_isArticle cX6_isArticle 2 (some .boolean) := ⟨ml_X6_88, cd_X6_isArticle, ini_X6⟩
theorem mk_L_53 : nf_lk RL 53 yX6_round cX6_round 1 (some .int) := ⟨ml_L_53, cd_X6_round, ini_X6⟩
theorem mk_X6_95 : nf_lk RX6 95 yX6_goesRound cX6_goesRound 8 (some .int) := ⟨ml_X6_95, cd_X6_goesRound, ini_X6⟩
theorem mk_X6_91 : nf_lk RX6 91 yX6_takes cX6_takes 5 (some .int) := ⟨ml_X6_91, cd_X6_takes, ini_X6⟩
theorem mk_L_57 : nf_lk RL 57 yX6_settle cX6_settle 3 (some .int) := ⟨ml_L_57, cd_X6_settle, ini_X6⟩
theorem mk_L_61 : nf_lk RL 61 yX6_nextDay cX6_nextDay 5 (some .int) := ⟨ml_L_61, cd_X6_nextDay, ini_X6⟩
theorem mk_L_65 : nf_lk RL 65 yX6_isStored cX6_isStored 3 (some .int) := ⟨ml_L_65, cd_X6_isStored, ini_X6⟩
theorem mk_L_69 : nf_lk RL 69 yX6_knownSince cX6_knownSince 3 (some .int) := ⟨ml_L_69, cd_X6_knownSince, ini_X6⟩
theorem mk_L_73 : nf_lk RL 73 yX6_pendingCancels cX6_pendingCancels 2 (some .int) := ⟨ml_L_73, cd_X6_pendingCancels, ini_X6⟩
theorem mk_X6_98 : nf_lk RX6 98 yX6_pendingOf cX6_pendingOf 5 (some .int) := ⟨ml_X6_98, cd_X6_pendingOf, ini_X6⟩
theorem mk_L_77 : nf_lk RL 77 yX6_holders cX6_holders 4 (some .int) := ⟨ml_L_77, cd_X6_holders, ini_X6⟩
theorem mk_L_81 : nf_lk RL 81 yX6_storedInGroup cX6_storedInGroup 5 (some .int) := ⟨ml_L_81, cd_X6_storedInGroup, ini_X6⟩
theorem mk_L_85 : nf_lk RL 85 yX6_distance cX6_distance 8 (some .int) := ⟨ml_L_85, cd_X6_distance, ini_X6⟩
theorem mk_L_89 : nf_lk RL 89 yX6_waiting cX6_waiting 1 (some .int) := ⟨ml_L_89, cd_X6_waiting, ini_X6⟩
theorem mk_L_93 : nf_lk RL 93 yX6_total cX6_total 2 (some .int) := ⟨ml_L_93, cd_X6_total, ini_X6⟩
theorem mk_L_97 : nf_lk RL 97 yX6_day cX6_day 1 (some .int) := ⟨ml_L_97, cd_X6_day, ini_X6⟩
theorem mk_L_101 : nf_lk RL 101 yX6_undo cX6_undo 2 (some .int) := ⟨ml_L_101, cd_X6_undo, ini_X6⟩
theorem mk_L_105 : nf_lk RL 105 yX6_errorCount cX6_errorCount 2 (some .int) := ⟨ml_L_105, cd_X6_errorCount, ini_X6⟩
theorem mk_L_110 : nf_lk RL 110 yX6_digest cX6_digest 5 (some .long) := ⟨ml_L_110, cd_X6_digest, ini_X6⟩
theorem mn_X2_29 : Cond.methodLinkNest RX2 29 yX5_isBelow RX5 ∈ nf_nw ∧ Cond.code yX5_isBelow cX5_isBelow 2 (some .boolean) ∈ nf_tbl ∧ Cond.initialized yX5_isBelow.cls ∈ nf_tbl := ⟨by decide +kernel, cd_X5_isBelow, ini_X5⟩
theorem mn_X1_31 : Cond.methodLinkNest RX1 31 yX5_has RX5 ∈ nf_nw ∧ Cond.code yX5_has cX5_has 2 (some .boolean) ∈ nf_tbl ∧ Cond.initialized yX5_has.cls ∈ nf_tbl := ⟨by decide +kernel, cd_X5_has, ini_X5⟩
theorem mn_X2_25 : Cond.methodLinkNest RX2 25 yX5_has RX5 ∈ nf_nw ∧ Cond.code yX5_has cX5_has 2 (some .boolean) ∈ nf_tbl ∧ Cond.initialized yX5_has.cls ∈ nf_tbl := ⟨by decide +kernel, cd_X5_has, ini_X5⟩
theorem mn_X3_131 : Cond.methodLinkNest RX3 131 yX5_has RX5 ∈ nf_nw ∧ Cond.code yX5_has cX5_has 2 (some .boolean) ∈ nf_tbl ∧ Cond.initialized yX5_has.cls ∈ nf_tbl := ⟨by decide +kernel, cd_X5_has, ini_X5⟩
set_option maxRecDepth 20000 in
theorem nf_inX0 : ∀ w ∈ u_ws RX0 TX0 6, w ∈ nf_tbl := by decide +kernel
set_option maxRecDepth 20000 in
theorem nf_inX1 : ∀ w ∈ u_ws RX1 TX1 4, w ∈ nf_tbl := by decide +kernel
set_option maxRecDepth 20000 in
theorem nf_inX2 : ∀ w ∈ u_ws RX2 TX2 4, w ∈ nf_tbl := by decide +kernel
set_option maxRecDepth 20000 in
theorem nf_inX3 : ∀ w ∈ u_ws RX3 TX3 8, w ∈ nf_tbl := by decide +kernel
set_option maxRecDepth 20000 in
theorem nf_inX4 : ∀ w ∈ u_ws RX4 TX4 2, w ∈ nf_tbl := by decide +kernel
set_option maxRecDepth 20000 in
theorem nf_inX5 : ∀ w ∈ u_ws RX5 TX5 5, w ∈ nf_tbl := by decide +kernel
set_option maxRecDepth 20000 in
theorem nf_inX6 : ∀ w ∈ u_ws RX6 TX6 5, w ∈ nf_tbl := by decide +kernel
end
section
section NfTyped
variable {L : nf_L} {d : Nat} {cc : ByteArray} {own : String} {nL : Nat} {ret : Option FieldType} {r : Option Value} {S2 : nf_S} {pc : Nat} {ls : List (Option Value)} {st : List Value} {S : nf_S}
theorem gf_X5_network {idx : Nat} (hl : Cond.fieldLink own idx "NewsFlood" "network" "LNewsFlood$Network;" ∈ nf_tbl) (dg : decode cc pc = .ok (.getfield idx, 3)) (kk : nf_V L d cc own nL ret r S2 (pc + 3) ls (.ref (L.2.2 (1, 0, 0, 0)) :: st) S) : nf_V L d cc own nL ret r S2 pc ls (.ref (L.2.2 (0, 0, 0, 0)) :: st) S :=
  nf_getf (q := (0, 0, 0, 0)) (k := 0) rfl rfl rfl nf_inX5 (by decide) hl rfl dg kk
theorem gf_X5_taken {idx : Nat} (hl : Cond.fieldLink own idx "NewsFlood" "taken" "LNewsFlood$Queue;" ∈ nf_tbl) (dg : decode cc pc = .ok (.getfield idx, 3)) (kk : nf_V L d cc own nL ret r S2 (pc + 3) ls (.ref (L.2.2 (5, 5, 0, 0)) :: st) S) : nf_V L d cc own nL ret r S2 pc ls (.ref (L.2.2 (0, 0, 0, 0)) :: st) S :=
  nf_getf (q := (0, 0, 0, 0)) (k := 1) rfl rfl rfl nf_inX5 (by decide) hl rfl dg kk
theorem gf_X5_saved {idx : Nat} (hl : Cond.fieldLink own idx "NewsFlood" "saved" "[LNewsFlood$Network;" ∈ nf_tbl) (dg : decode cc pc = .ok (.getfield idx, 3)) (kk : nf_V L d cc own nL ret r S2 (pc + 3) ls (.ref (L.2.2 (6, 0, 0, 0)) :: st) S) : nf_V L d cc own nL ret r S2 pc ls (.ref (L.2.2 (0, 0, 0, 0)) :: st) S :=
  nf_getf (q := (0, 0, 0, 0)) (k := 2) rfl rfl rfl nf_inX5 (by decide) hl rfl dg kk
theorem gf_X5_savedCount {idx : Nat} (hl : Cond.fieldLink own idx "NewsFlood" "savedCount" "I" ∈ nf_tbl) (dg : decode cc pc = .ok (.getfield idx, 3)) (kk : nf_V L d cc own nL ret r S2 (pc + 3) ls (.int (nf_J S 0) :: st) S) : nf_V L d cc own nL ret r S2 pc ls (.ref (L.2.2 (0, 0, 0, 0)) :: st) S :=
  nf_getf (q := (0, 0, 0, 0)) (k := 3) rfl rfl rfl nf_inX5 (by decide) hl rfl dg kk
theorem gf_X5_errors {idx : Nat} (hl : Cond.fieldLink own idx "NewsFlood" "errors" "[I" ∈ nf_tbl) (dg : decode cc pc = .ok (.getfield idx, 3)) (kk : nf_V L d cc own nL ret r S2 (pc + 3) ls (.ref (L.2.2 (10, 0, 0, 0)) :: st) S) : nf_V L d cc own nL ret r S2 pc ls (.ref (L.2.2 (0, 0, 0, 0)) :: st) S :=
  nf_getf (q := (0, 0, 0, 0)) (k := 4) rfl rfl rfl nf_inX5 (by decide) hl rfl dg kk
theorem gf_X3_today {n : Nat} (hn : n < 5) {idx : Nat} (hl : Cond.fieldLink own idx "NewsFlood$Network" "today" "I" ∈ nf_tbl) (dg : decode cc pc = .ok (.getfield idx, 3)) (kk : nf_V L d cc own nL ret r S2 (pc + 3) ls (.int (nf_I S n 0 0) :: st) S) : nf_V L d cc own nL ret r S2 pc ls (.ref (L.2.2 (1, n, 0, 0)) :: st) S :=
  nf_getf (q := (1, n, 0, 0)) (k := 0) ⟨hn, rfl⟩ rfl rfl nf_inX3 (by decide) hl rfl dg kk
theorem gf_X3_historyLimit {n : Nat} (hn : n < 5) {idx : Nat} (hl : Cond.fieldLink own idx "NewsFlood$Network" "historyLimit" "I" ∈ nf_tbl) (dg : decode cc pc = .ok (.getfield idx, 3)) (kk : nf_V L d cc own nL ret r S2 (pc + 3) ls (.int (nf_I S n 1 0) :: st) S) : nf_V L d cc own nL ret r S2 pc ls (.ref (L.2.2 (1, n, 0, 0)) :: st) S :=
  nf_getf (q := (1, n, 0, 0)) (k := 1) ⟨hn, rfl⟩ rfl rfl nf_inX3 (by decide) hl rfl dg kk
theorem gf_X3_expiry {n : Nat} (hn : n < 5) {idx : Nat} (hl : Cond.fieldLink own idx "NewsFlood$Network" "expiry" "[I" ∈ nf_tbl) (dg : decode cc pc = .ok (.getfield idx, 3)) (kk : nf_V L d cc own nL ret r S2 (pc + 3) ls (.ref (L.2.2 (9, n, 0, 0)) :: st) S) : nf_V L d cc own nL ret r S2 pc ls (.ref (L.2.2 (1, n, 0, 0)) :: st) S :=
  nf_getf (q := (1, n, 0, 0)) (k := 2) ⟨hn, rfl⟩ rfl rfl nf_inX3 (by decide) hl rfl dg kk
theorem gf_X3_links {n : Nat} (hn : n < 5) {idx : Nat} (hl : Cond.fieldLink own idx "NewsFlood$Network" "links" "LNewsFlood$Links;" ∈ nf_tbl) (dg : decode cc pc = .ok (.getfield idx, 3)) (kk : nf_V L d cc own nL ret r S2 (pc + 3) ls (.ref (L.2.2 (2, n, 0, 0)) :: st) S) : nf_V L d cc own nL ret r S2 pc ls (.ref (L.2.2 (1, n, 0, 0)) :: st) S :=
  nf_getf (q := (1, n, 0, 0)) (k := 3) ⟨hn, rfl⟩ rfl rfl nf_inX3 (by decide) hl rfl dg kk
theorem gf_X3_articles {n : Nat} (hn : n < 5) {idx : Nat} (hl : Cond.fieldLink own idx "NewsFlood$Network" "articles" "LNewsFlood$Articles;" ∈ nf_tbl) (dg : decode cc pc = .ok (.getfield idx, 3)) (kk : nf_V L d cc own nL ret r S2 (pc + 3) ls (.ref (L.2.2 (3, n, 0, 0)) :: st) S) : nf_V L d cc own nL ret r S2 pc ls (.ref (L.2.2 (1, n, 0, 0)) :: st) S :=
  nf_getf (q := (1, n, 0, 0)) (k := 4) ⟨hn, rfl⟩ rfl rfl nf_inX3 (by decide) hl rfl dg kk
theorem gf_X3_hosts {n : Nat} (hn : n < 5) {idx : Nat} (hl : Cond.fieldLink own idx "NewsFlood$Network" "hosts" "[LNewsFlood$Host;" ∈ nf_tbl) (dg : decode cc pc = .ok (.getfield idx, 3)) (kk : nf_V L d cc own nL ret r S2 (pc + 3) ls (.ref (L.2.2 (7, n, 0, 0)) :: st) S) : nf_V L d cc own nL ret r S2 pc ls (.ref (L.2.2 (1, n, 0, 0)) :: st) S :=
  nf_getf (q := (1, n, 0, 0)) (k := 5) ⟨hn, rfl⟩ rfl rfl nf_inX3 (by decide) hl rfl dg kk
theorem gf_X3_queue {n : Nat} (hn : n < 5) {idx : Nat} (hl : Cond.fieldLink own idx "NewsFlood$Network" "queue" "LNewsFlood$Queue;" ∈ nf_tbl) (dg : decode cc pc = .ok (.getfield idx, 3)) (kk : nf_V L d cc own nL ret r S2 (pc + 3) ls (.ref (L.2.2 (5, n, 0, 0)) :: st) S) : nf_V L d cc own nL ret r S2 pc ls (.ref (L.2.2 (1, n, 0, 0)) :: st) S :=
  nf_getf (q := (1, n, 0, 0)) (k := 6) ⟨hn, rfl⟩ rfl rfl nf_inX3 (by decide) hl rfl dg kk
theorem gf_X3_counts {n : Nat} (hn : n < 5) {idx : Nat} (hl : Cond.fieldLink own idx "NewsFlood$Network" "counts" "[I" ∈ nf_tbl) (dg : decode cc pc = .ok (.getfield idx, 3)) (kk : nf_V L d cc own nL ret r S2 (pc + 3) ls (.ref (L.2.2 (9, n, 1, 0)) :: st) S) : nf_V L d cc own nL ret r S2 pc ls (.ref (L.2.2 (1, n, 0, 0)) :: st) S :=
  nf_getf (q := (1, n, 0, 0)) (k := 7) ⟨hn, rfl⟩ rfl rfl nf_inX3 (by decide) hl rfl dg kk
theorem gf_X2_count {n : Nat} (hn : n < 5) {idx : Nat} (hl : Cond.fieldLink own idx "NewsFlood$Links" "count" "I" ∈ nf_tbl) (dg : decode cc pc = .ok (.getfield idx, 3)) (kk : nf_V L d cc own nL ret r S2 (pc + 3) ls (.int (nf_I S n 2 0) :: st) S) : nf_V L d cc own nL ret r S2 pc ls (.ref (L.2.2 (2, n, 0, 0)) :: st) S :=
  nf_getf (q := (2, n, 0, 0)) (k := 0) ⟨hn, rfl⟩ rfl rfl nf_inX2 (by decide) hl rfl dg kk
theorem gf_X2_first {n : Nat} (hn : n < 5) {idx : Nat} (hl : Cond.fieldLink own idx "NewsFlood$Links" "first" "[I" ∈ nf_tbl) (dg : decode cc pc = .ok (.getfield idx, 3)) (kk : nf_V L d cc own nL ret r S2 (pc + 3) ls (.ref (L.2.2 (9, n, 2, 0)) :: st) S) : nf_V L d cc own nL ret r S2 pc ls (.ref (L.2.2 (2, n, 0, 0)) :: st) S :=
  nf_getf (q := (2, n, 0, 0)) (k := 1) ⟨hn, rfl⟩ rfl rfl nf_inX2 (by decide) hl rfl dg kk
theorem gf_X2_second {n : Nat} (hn : n < 5) {idx : Nat} (hl : Cond.fieldLink own idx "NewsFlood$Links" "second" "[I" ∈ nf_tbl) (dg : decode cc pc = .ok (.getfield idx, 3)) (kk : nf_V L d cc own nL ret r S2 (pc + 3) ls (.ref (L.2.2 (9, n, 3, 0)) :: st) S) : nf_V L d cc own nL ret r S2 pc ls (.ref (L.2.2 (2, n, 0, 0)) :: st) S :=
  nf_getf (q := (2, n, 0, 0)) (k := 2) ⟨hn, rfl⟩ rfl rfl nf_inX2 (by decide) hl rfl dg kk
theorem gf_X2_kind {n : Nat} (hn : n < 5) {idx : Nat} (hl : Cond.fieldLink own idx "NewsFlood$Links" "kind" "[I" ∈ nf_tbl) (dg : decode cc pc = .ok (.getfield idx, 3)) (kk : nf_V L d cc own nL ret r S2 (pc + 3) ls (.ref (L.2.2 (9, n, 4, 0)) :: st) S) : nf_V L d cc own nL ret r S2 pc ls (.ref (L.2.2 (2, n, 0, 0)) :: st) S :=
  nf_getf (q := (2, n, 0, 0)) (k := 3) ⟨hn, rfl⟩ rfl rfl nf_inX2 (by decide) hl rfl dg kk
theorem gf_X0_count {n : Nat} (hn : n < 5) {idx : Nat} (hl : Cond.fieldLink own idx "NewsFlood$Articles" "count" "I" ∈ nf_tbl) (dg : decode cc pc = .ok (.getfield idx, 3)) (kk : nf_V L d cc own nL ret r S2 (pc + 3) ls (.int (nf_I S n 3 0) :: st) S) : nf_V L d cc own nL ret r S2 pc ls (.ref (L.2.2 (3, n, 0, 0)) :: st) S :=
  nf_getf (q := (3, n, 0, 0)) (k := 0) ⟨hn, rfl⟩ rfl rfl nf_inX0 (by decide) hl rfl dg kk
theorem gf_X0_group {n : Nat} (hn : n < 5) {idx : Nat} (hl : Cond.fieldLink own idx "NewsFlood$Articles" "group" "[I" ∈ nf_tbl) (dg : decode cc pc = .ok (.getfield idx, 3)) (kk : nf_V L d cc own nL ret r S2 (pc + 3) ls (.ref (L.2.2 (9, n, 5, 0)) :: st) S) : nf_V L d cc own nL ret r S2 pc ls (.ref (L.2.2 (3, n, 0, 0)) :: st) S :=
  nf_getf (q := (3, n, 0, 0)) (k := 1) ⟨hn, rfl⟩ rfl rfl nf_inX0 (by decide) hl rfl dg kk
theorem gf_X0_author {n : Nat} (hn : n < 5) {idx : Nat} (hl : Cond.fieldLink own idx "NewsFlood$Articles" "author" "[I" ∈ nf_tbl) (dg : decode cc pc = .ok (.getfield idx, 3)) (kk : nf_V L d cc own nL ret r S2 (pc + 3) ls (.ref (L.2.2 (9, n, 6, 0)) :: st) S) : nf_V L d cc own nL ret r S2 pc ls (.ref (L.2.2 (3, n, 0, 0)) :: st) S :=
  nf_getf (q := (3, n, 0, 0)) (k := 2) ⟨hn, rfl⟩ rfl rfl nf_inX0 (by decide) hl rfl dg kk
theorem gf_X0_postedOn {n : Nat} (hn : n < 5) {idx : Nat} (hl : Cond.fieldLink own idx "NewsFlood$Articles" "postedOn" "[I" ∈ nf_tbl) (dg : decode cc pc = .ok (.getfield idx, 3)) (kk : nf_V L d cc own nL ret r S2 (pc + 3) ls (.ref (L.2.2 (9, n, 7, 0)) :: st) S) : nf_V L d cc own nL ret r S2 pc ls (.ref (L.2.2 (3, n, 0, 0)) :: st) S :=
  nf_getf (q := (3, n, 0, 0)) (k := 3) ⟨hn, rfl⟩ rfl rfl nf_inX0 (by decide) hl rfl dg kk
theorem gf_X0_action {n : Nat} (hn : n < 5) {idx : Nat} (hl : Cond.fieldLink own idx "NewsFlood$Articles" "action" "[I" ∈ nf_tbl) (dg : decode cc pc = .ok (.getfield idx, 3)) (kk : nf_V L d cc own nL ret r S2 (pc + 3) ls (.ref (L.2.2 (9, n, 8, 0)) :: st) S) : nf_V L d cc own nL ret r S2 pc ls (.ref (L.2.2 (3, n, 0, 0)) :: st) S :=
  nf_getf (q := (3, n, 0, 0)) (k := 4) ⟨hn, rfl⟩ rfl rfl nf_inX0 (by decide) hl rfl dg kk
theorem gf_X0_target {n : Nat} (hn : n < 5) {idx : Nat} (hl : Cond.fieldLink own idx "NewsFlood$Articles" "target" "[I" ∈ nf_tbl) (dg : decode cc pc = .ok (.getfield idx, 3)) (kk : nf_V L d cc own nL ret r S2 (pc + 3) ls (.ref (L.2.2 (9, n, 9, 0)) :: st) S) : nf_V L d cc own nL ret r S2 pc ls (.ref (L.2.2 (3, n, 0, 0)) :: st) S :=
  nf_getf (q := (3, n, 0, 0)) (k := 5) ⟨hn, rfl⟩ rfl rfl nf_inX0 (by decide) hl rfl dg kk
theorem gf_X1_groups {n h : Nat} (hn : n < 5) (hh : h < 6) {idx : Nat} (hl : Cond.fieldLink own idx "NewsFlood$Host" "groups" "I" ∈ nf_tbl) (dg : decode cc pc = .ok (.getfield idx, 3)) (kk : nf_V L d cc own nL ret r S2 (pc + 3) ls (.int (nf_I S n 4 h) :: st) S) : nf_V L d cc own nL ret r S2 pc ls (.ref (L.2.2 (4, n, 0, h)) :: st) S :=
  nf_getf (q := (4, n, 0, h)) (k := 0) ⟨hn, rfl, hh⟩ rfl rfl nf_inX1 (by decide) hl rfl dg kk
theorem gf_X1_store {n h : Nat} (hn : n < 5) (hh : h < 6) {idx : Nat} (hl : Cond.fieldLink own idx "NewsFlood$Host" "store" "I" ∈ nf_tbl) (dg : decode cc pc = .ok (.getfield idx, 3)) (kk : nf_V L d cc own nL ret r S2 (pc + 3) ls (.int (nf_I S n 5 h) :: st) S) : nf_V L d cc own nL ret r S2 pc ls (.ref (L.2.2 (4, n, 0, h)) :: st) S :=
  nf_getf (q := (4, n, 0, h)) (k := 1) ⟨hn, rfl, hh⟩ rfl rfl nf_inX1 (by decide) hl rfl dg kk
theorem gf_X1_historyDay {n h : Nat} (hn : n < 5) (hh : h < 6) {idx : Nat} (hl : Cond.fieldLink own idx "NewsFlood$Host" "historyDay" "[I" ∈ nf_tbl) (dg : decode cc pc = .ok (.getfield idx, 3)) (kk : nf_V L d cc own nL ret r S2 (pc + 3) ls (.ref (L.2.2 (9, n, 12, h)) :: st) S) : nf_V L d cc own nL ret r S2 pc ls (.ref (L.2.2 (4, n, 0, h)) :: st) S :=
  nf_getf (q := (4, n, 0, h)) (k := 2) ⟨hn, rfl, hh⟩ rfl rfl nf_inX1 (by decide) hl rfl dg kk
theorem gf_X1_cancelAuthors {n h : Nat} (hn : n < 5) (hh : h < 6) {idx : Nat} (hl : Cond.fieldLink own idx "NewsFlood$Host" "cancelAuthors" "[I" ∈ nf_tbl) (dg : decode cc pc = .ok (.getfield idx, 3)) (kk : nf_V L d cc own nL ret r S2 (pc + 3) ls (.ref (L.2.2 (9, n, 13, h)) :: st) S) : nf_V L d cc own nL ret r S2 pc ls (.ref (L.2.2 (4, n, 0, h)) :: st) S :=
  nf_getf (q := (4, n, 0, h)) (k := 3) ⟨hn, rfl, hh⟩ rfl rfl nf_inX1 (by decide) hl rfl dg kk
theorem gf_X4_receivers {n : Nat} (hn : n < 6) {idx : Nat} (hl : Cond.fieldLink own idx "NewsFlood$Queue" "receivers" "[I" ∈ nf_tbl) (dg : decode cc pc = .ok (.getfield idx, 3)) (kk : nf_V L d cc own nL ret r S2 (pc + 3) ls (.ref (L.2.2 (9, n, 10, 0)) :: st) S) : nf_V L d cc own nL ret r S2 pc ls (.ref (L.2.2 (5, n, 0, 0)) :: st) S :=
  nf_getf (q := (5, n, 0, 0)) (k := 0) ⟨hn, rfl⟩ rfl rfl nf_inX4 (by decide) hl rfl dg kk
theorem gf_X4_path {n : Nat} (hn : n < 6) {idx : Nat} (hl : Cond.fieldLink own idx "NewsFlood$Queue" "path" "[I" ∈ nf_tbl) (dg : decode cc pc = .ok (.getfield idx, 3)) (kk : nf_V L d cc own nL ret r S2 (pc + 3) ls (.ref (L.2.2 (9, n, 11, 0)) :: st) S) : nf_V L d cc own nL ret r S2 pc ls (.ref (L.2.2 (5, n, 0, 0)) :: st) S :=
  nf_getf (q := (5, n, 0, 0)) (k := 1) ⟨hn, rfl⟩ rfl rfl nf_inX4 (by decide) hl rfl dg kk
theorem gf_X6_all {idx : Nat} (hl : Cond.fieldLink own idx "NewsFloodModel" "all" "[I" ∈ nf_tbl) (dg : decode cc pc = .ok (.getfield idx, 3)) (kk : nf_V L d cc own nL ret r S2 (pc + 3) ls (.ref (L.2.2 (10, 1, 0, 0)) :: st) S) : nf_V L d cc own nL ret r S2 pc ls (.ref (L.2.2 (8, 0, 0, 0)) :: st) S :=
  nf_getf (q := (8, 0, 0, 0)) (k := 0) rfl rfl rfl nf_inX6 (by decide) hl rfl dg kk
theorem gf_X6_saved {idx : Nat} (hl : Cond.fieldLink own idx "NewsFloodModel" "saved" "[I" ∈ nf_tbl) (dg : decode cc pc = .ok (.getfield idx, 3)) (kk : nf_V L d cc own nL ret r S2 (pc + 3) ls (.ref (L.2.2 (10, 2, 0, 0)) :: st) S) : nf_V L d cc own nL ret r S2 pc ls (.ref (L.2.2 (8, 0, 0, 0)) :: st) S :=
  nf_getf (q := (8, 0, 0, 0)) (k := 1) rfl rfl rfl nf_inX6 (by decide) hl rfl dg kk
theorem gf_X6_savedMany {idx : Nat} (hl : Cond.fieldLink own idx "NewsFloodModel" "savedMany" "I" ∈ nf_tbl) (dg : decode cc pc = .ok (.getfield idx, 3)) (kk : nf_V L d cc own nL ret r S2 (pc + 3) ls (.int (nf_J S 1) :: st) S) : nf_V L d cc own nL ret r S2 pc ls (.ref (L.2.2 (8, 0, 0, 0)) :: st) S :=
  nf_getf (q := (8, 0, 0, 0)) (k := 2) rfl rfl rfl nf_inX6 (by decide) hl rfl dg kk
theorem gf_X6_errors {idx : Nat} (hl : Cond.fieldLink own idx "NewsFloodModel" "errors" "[I" ∈ nf_tbl) (dg : decode cc pc = .ok (.getfield idx, 3)) (kk : nf_V L d cc own nL ret r S2 (pc + 3) ls (.ref (L.2.2 (10, 3, 0, 0)) :: st) S) : nf_V L d cc own nL ret r S2 pc ls (.ref (L.2.2 (8, 0, 0, 0)) :: st) S :=
  nf_getf (q := (8, 0, 0, 0)) (k := 3) rfl rfl rfl nf_inX6 (by decide) hl rfl dg kk
theorem gf_X6_work {idx : Nat} (hl : Cond.fieldLink own idx "NewsFloodModel" "work" "[I" ∈ nf_tbl) (dg : decode cc pc = .ok (.getfield idx, 3)) (kk : nf_V L d cc own nL ret r S2 (pc + 3) ls (.ref (L.2.2 (10, 4, 0, 0)) :: st) S) : nf_V L d cc own nL ret r S2 pc ls (.ref (L.2.2 (8, 0, 0, 0)) :: st) S :=
  nf_getf (q := (8, 0, 0, 0)) (k := 4) rfl rfl rfl nf_inX6 (by decide) hl rfl dg kk
theorem nf_cell_sJ0 {j : Nat} {x : Int32} (q : nf_Pos) (h0 : nf_ok q) (hq : (j = 0 → q ≠ (0, 0, 0, 0)) ∧ (j = 1 → q ≠ (8, 0, 0, 0))) : nf_cell L (nf_sJ S j x) q = nf_cell L S q := by
  obtain ⟨k, n', c', h'⟩ := q
  match k, h0 with
  | 0, h0 =>
    have hj : ¬ 0 = j := fun e => hq.1 e.symm (by have h1 : (n', c', h') = (0, 0, 0) := h0; rw [h1])
    simp only [nf_cell, nf_J_sJ, if_neg hj]
  | 1, _ => rfl
  | 2, _ => rfl
  | 3, _ => rfl
  | 4, _ => rfl
  | 5, _ => rfl
  | 6, _ => rfl
  | 7, _ => rfl
  | 8, h0 =>
    have hj : ¬ 1 = j := fun e => hq.2 e.symm (by have h1 : (n', c', h') = (0, 0, 0) := h0; rw [h1])
    simp only [nf_cell, nf_J_sJ, if_neg hj]
  | 9, _ => rfl
  | k + 10, _ => rfl
theorem nf_cell_sI0 {n c h k : Nat} {x : Int32} (hk : (k = 1 ∧ c < 2 ∧ h = 0) ∨ (k = 2 ∧ c = 2 ∧ h = 0) ∨ (k = 3 ∧ c = 3 ∧ h = 0) ∨ (k = 4 ∧ (c = 4 ∨ c = 5))) (q : nf_Pos) (h0 : nf_ok q) (hq : q ≠ (k, n, 0, h)) : nf_cell L (nf_sI S n c h x) q = nf_cell L S q := by
  obtain ⟨k', n', c', h'⟩ := q
  match k', h0 with
  | 0, _ => rfl
  | 1, h0 =>
    obtain ⟨_, h1⟩ := h0
    simp at h1
    obtain ⟨rfl, rfl⟩ := h1
    have e0 : ¬ (n' = n ∧ 0 = c ∧ 0 = h) := fun e => hq (by obtain ⟨a, b, c⟩ := e; subst a; subst b; subst c; rcases hk with e | e | e | e <;> simp_all)
    have e1 : ¬ (n' = n ∧ 1 = c ∧ 0 = h) := fun e => hq (by obtain ⟨a, b, c⟩ := e; subst a; subst b; subst c; rcases hk with e | e | e | e <;> simp_all)
    simp only [nf_cell, nf_I_sI, if_neg e0, if_neg e1]
  | 2, h0 =>
    obtain ⟨_, h1⟩ := h0
    simp at h1
    obtain ⟨rfl, rfl⟩ := h1
    have e0 : ¬ (n' = n ∧ 2 = c ∧ 0 = h) := fun e => hq (by obtain ⟨a, b, c⟩ := e; subst a; subst b; subst c; rcases hk with e | e | e | e <;> simp_all)
    simp only [nf_cell, nf_I_sI, if_neg e0]
  | 3, h0 =>
    obtain ⟨_, h1⟩ := h0
    simp at h1
    obtain ⟨rfl, rfl⟩ := h1
    have e0 : ¬ (n' = n ∧ 3 = c ∧ 0 = h) := fun e => hq (by obtain ⟨a, b, c⟩ := e; subst a; subst b; subst c; rcases hk with e | e | e | e <;> simp_all)
    simp only [nf_cell, nf_I_sI, if_neg e0]
  | 4, h0 =>
    obtain ⟨_, h1, _⟩ := h0
    simp at h1
    subst h1
    have e0 : ¬ (n' = n ∧ 4 = c ∧ h' = h) := fun e => hq (by obtain ⟨a, b, c⟩ := e; subst a; subst b; subst c; rcases hk with e | e | e | e <;> simp_all)
    have e1 : ¬ (n' = n ∧ 5 = c ∧ h' = h) := fun e => hq (by obtain ⟨a, b, c⟩ := e; subst a; subst b; subst c; rcases hk with e | e | e | e <;> simp_all)
    simp only [nf_cell, nf_I_sI, if_neg e0, if_neg e1]
  | 5, _ => rfl
  | 6, _ => rfl
  | 7, _ => rfl
  | 8, _ => rfl
  | 9, _ => rfl
  | k + 10, _ => rfl
theorem pf_X5_savedCount {idx : Nat} {x : Int32} (hl : Cond.fieldLink own idx "NewsFlood" "savedCount" "I" ∈ nf_tbl) (dg : decode cc pc = .ok (.putfield idx, 3)) (kk : nf_V L d cc own nL ret r S2 (pc + 3) ls st (nf_sJ S 0 x)) : nf_V L d cc own nL ret r S2 pc ls (.int x :: .ref (L.2.2 (0, 0, 0, 0)) :: st) S :=
  nf_putf (S1 := nf_sJ S 0 x) (q := (0, 0, 0, 0)) (k := 3) (ty := .int) tyX5 rfl rfl rfl nf_inX5 tyX5_ok nmX5 (by decide) hl rfl (by decide +kernel) rfl rfl (by simp) (by simp [nf_cell, nf_I_sI, nf_J_sJ]) (fun q h0 hne => nf_cell_sJ0 q h0 ⟨fun _ => hne, fun e => by cases e⟩) dg kk
theorem pf_X6_savedMany {idx : Nat} {x : Int32} (hl : Cond.fieldLink own idx "NewsFloodModel" "savedMany" "I" ∈ nf_tbl) (dg : decode cc pc = .ok (.putfield idx, 3)) (kk : nf_V L d cc own nL ret r S2 (pc + 3) ls st (nf_sJ S 1 x)) : nf_V L d cc own nL ret r S2 pc ls (.int x :: .ref (L.2.2 (8, 0, 0, 0)) :: st) S :=
  nf_putf (S1 := nf_sJ S 1 x) (q := (8, 0, 0, 0)) (k := 2) (ty := .int) tyX6 rfl rfl rfl nf_inX6 tyX6_ok nmX6 (by decide) hl rfl (by decide +kernel) rfl rfl (by simp) (by simp [nf_cell, nf_I_sI, nf_J_sJ]) (fun q h0 hne => nf_cell_sJ0 q h0 ⟨fun e => absurd e (by decide), fun _ => hne⟩) dg kk
theorem pf_X3_today {n : Nat} (hn : n < 5) {idx : Nat} {x : Int32} (hl : Cond.fieldLink own idx "NewsFlood$Network" "today" "I" ∈ nf_tbl) (dg : decode cc pc = .ok (.putfield idx, 3)) (kk : nf_V L d cc own nL ret r S2 (pc + 3) ls st (nf_sI S n 0 0 x)) : nf_V L d cc own nL ret r S2 pc ls (.int x :: .ref (L.2.2 (1, n, 0, 0)) :: st) S :=
  nf_putf (S1 := nf_sI S n 0 0 x) (q := (1, n, 0, 0)) (k := 0) (ty := .int) tyX3 ⟨hn, rfl⟩ rfl rfl nf_inX3 tyX3_ok nmX3 (by decide) hl rfl (by decide +kernel) rfl rfl (by simp) (by simp [nf_cell, nf_I_sI, nf_J_sJ]) (fun q h0 hne => nf_cell_sI0 (Or.inl ⟨rfl, by decide, rfl⟩) q h0 hne) dg kk
theorem pf_X3_historyLimit {n : Nat} (hn : n < 5) {idx : Nat} {x : Int32} (hl : Cond.fieldLink own idx "NewsFlood$Network" "historyLimit" "I" ∈ nf_tbl) (dg : decode cc pc = .ok (.putfield idx, 3)) (kk : nf_V L d cc own nL ret r S2 (pc + 3) ls st (nf_sI S n 1 0 x)) : nf_V L d cc own nL ret r S2 pc ls (.int x :: .ref (L.2.2 (1, n, 0, 0)) :: st) S :=
  nf_putf (S1 := nf_sI S n 1 0 x) (q := (1, n, 0, 0)) (k := 1) (ty := .int) tyX3 ⟨hn, rfl⟩ rfl rfl nf_inX3 tyX3_ok nmX3 (by decide) hl rfl (by decide +kernel) rfl rfl (by simp) (by simp [nf_cell, nf_I_sI, nf_J_sJ]) (fun q h0 hne => nf_cell_sI0 (Or.inl ⟨rfl, by decide, rfl⟩) q h0 hne) dg kk
theorem pf_X2_count {n : Nat} (hn : n < 5) {idx : Nat} {x : Int32} (hl : Cond.fieldLink own idx "NewsFlood$Links" "count" "I" ∈ nf_tbl) (dg : decode cc pc = .ok (.putfield idx, 3)) (kk : nf_V L d cc own nL ret r S2 (pc + 3) ls st (nf_sI S n 2 0 x)) : nf_V L d cc own nL ret r S2 pc ls (.int x :: .ref (L.2.2 (2, n, 0, 0)) :: st) S :=
  nf_putf (S1 := nf_sI S n 2 0 x) (q := (2, n, 0, 0)) (k := 0) (ty := .int) tyX2 ⟨hn, rfl⟩ rfl rfl nf_inX2 tyX2_ok nmX2 (by decide) hl rfl (by decide +kernel) rfl rfl (by simp) (by simp [nf_cell, nf_I_sI, nf_J_sJ]) (fun q h0 hne => nf_cell_sI0 (Or.inr (Or.inl ⟨rfl, rfl, rfl⟩)) q h0 hne) dg kk
theorem pf_X0_count {n : Nat} (hn : n < 5) {idx : Nat} {x : Int32} (hl : Cond.fieldLink own idx "NewsFlood$Articles" "count" "I" ∈ nf_tbl) (dg : decode cc pc = .ok (.putfield idx, 3)) (kk : nf_V L d cc own nL ret r S2 (pc + 3) ls st (nf_sI S n 3 0 x)) : nf_V L d cc own nL ret r S2 pc ls (.int x :: .ref (L.2.2 (3, n, 0, 0)) :: st) S :=
  nf_putf (S1 := nf_sI S n 3 0 x) (q := (3, n, 0, 0)) (k := 0) (ty := .int) tyX0 ⟨hn, rfl⟩ rfl rfl nf_inX0 tyX0_ok nmX0 (by decide) hl rfl (by decide +kernel) rfl rfl (by simp) (by simp [nf_cell, nf_I_sI, nf_J_sJ]) (fun q h0 hne => nf_cell_sI0 (Or.inr (Or.inr (Or.inl ⟨rfl, rfl, rfl⟩))) q h0 hne) dg kk
theorem pf_X1_groups {n h : Nat} (hn : n < 5) (hh : h < 6) {idx : Nat} {x : Int32} (hl : Cond.fieldLink own idx "NewsFlood$Host" "groups" "I" ∈ nf_tbl) (dg : decode cc pc = .ok (.putfield idx, 3)) (kk : nf_V L d cc own nL ret r S2 (pc + 3) ls st (nf_sI S n 4 h x)) : nf_V L d cc own nL ret r S2 pc ls (.int x :: .ref (L.2.2 (4, n, 0, h)) :: st) S :=
  nf_putf (S1 := nf_sI S n 4 h x) (q := (4, n, 0, h)) (k := 0) (ty := .int) tyX1 ⟨hn, rfl, hh⟩ rfl rfl nf_inX1 tyX1_ok nmX1 (by decide) hl rfl (by decide +kernel) rfl rfl (by simp) (by simp [nf_cell, nf_I_sI, nf_J_sJ]) (fun q h0 hne => nf_cell_sI0 (Or.inr (Or.inr (Or.inr ⟨rfl, Or.inl rfl⟩))) q h0 hne) dg kk
theorem pf_X1_store {n h : Nat} (hn : n < 5) (hh : h < 6) {idx : Nat} {x : Int32} (hl : Cond.fieldLink own idx "NewsFlood$Host" "store" "I" ∈ nf_tbl) (dg : decode cc pc = .ok (.putfield idx, 3)) (kk : nf_V L d cc own nL ret r S2 (pc + 3) ls st (nf_sI S n 5 h x)) : nf_V L d cc own nL ret r S2 pc ls (.int x :: .ref (L.2.2 (4, n, 0, h)) :: st) S :=
  nf_putf (S1 := nf_sI S n 5 h x) (q := (4, n, 0, h)) (k := 1) (ty := .int) tyX1 ⟨hn, rfl, hh⟩ rfl rfl nf_inX1 tyX1_ok nmX1 (by decide) hl rfl (by decide +kernel) rfl rfl (by simp) (by simp [nf_cell, nf_I_sI, nf_J_sJ]) (fun q h0 hne => nf_cell_sI0 (Or.inr (Or.inr (Or.inr ⟨rfl, Or.inr rfl⟩))) q h0 hne) dg kk
theorem nf_cSv0 {d1 idx mL : Nat} {y : MethodName} {bytes : ByteArray} {rt : Option FieldType} {S1 : nf_S} (hs : nf_Sp L d1 y bytes mL rt [] S none S1) (hk : nf_lk own idx y bytes mL rt) (hst : Cond.static y ∈ nf_tbl) (hn : nf_nm y 0) (hR : d1 + 1 ≤ d ∧ 8 + (mL + 11) + 40 * d1 ≤ 40 * d) (hW : (st.map fun v => v.category).sum ≤ 8) (dg : decode cc pc = .ok (.invokestatic idx, 3)) (kk : nf_V L d cc own nL ret r S2 (pc + 3) ls (st) S1) : nf_V L d cc own nL ret r S2 pc ls (st) S :=
  nf_callS (as := []) hs hk hst hn rfl hR hW dg kk
theorem nf_cSv1 {d1 idx mL : Nat} {y : MethodName} {bytes : ByteArray} {rt : Option FieldType} {a0 : Value} {S1 : nf_S} (hs : nf_Sp L d1 y bytes mL rt [a0] S none S1) (hk : nf_lk own idx y bytes mL rt) (hst : Cond.static y ∈ nf_tbl) (hn : nf_nm y 1) (hR : d1 + 1 ≤ d ∧ 8 + (mL + 11) + 40 * d1 ≤ 40 * d) (hW : (st.map fun v => v.category).sum ≤ 8) (dg : decode cc pc = .ok (.invokestatic idx, 3)) (kk : nf_V L d cc own nL ret r S2 (pc + 3) ls (st) S1) : nf_V L d cc own nL ret r S2 pc ls (a0 :: st) S :=
  nf_callS (as := [a0]) hs hk hst hn rfl hR hW dg kk
theorem nf_cSv2 {d1 idx mL : Nat} {y : MethodName} {bytes : ByteArray} {rt : Option FieldType} {a0 a1 : Value} {S1 : nf_S} (hs : nf_Sp L d1 y bytes mL rt [a0, a1] S none S1) (hk : nf_lk own idx y bytes mL rt) (hst : Cond.static y ∈ nf_tbl) (hn : nf_nm y 2) (hR : d1 + 1 ≤ d ∧ 8 + (mL + 11) + 40 * d1 ≤ 40 * d) (hW : (st.map fun v => v.category).sum ≤ 8) (dg : decode cc pc = .ok (.invokestatic idx, 3)) (kk : nf_V L d cc own nL ret r S2 (pc + 3) ls (st) S1) : nf_V L d cc own nL ret r S2 pc ls (a1 :: a0 :: st) S :=
  nf_callS (as := [a0, a1]) hs hk hst hn rfl hR hW dg kk
theorem nf_cSv3 {d1 idx mL : Nat} {y : MethodName} {bytes : ByteArray} {rt : Option FieldType} {a0 a1 a2 : Value} {S1 : nf_S} (hs : nf_Sp L d1 y bytes mL rt [a0, a1, a2] S none S1) (hk : nf_lk own idx y bytes mL rt) (hst : Cond.static y ∈ nf_tbl) (hn : nf_nm y 3) (hR : d1 + 1 ≤ d ∧ 8 + (mL + 11) + 40 * d1 ≤ 40 * d) (hW : (st.map fun v => v.category).sum ≤ 8) (dg : decode cc pc = .ok (.invokestatic idx, 3)) (kk : nf_V L d cc own nL ret r S2 (pc + 3) ls (st) S1) : nf_V L d cc own nL ret r S2 pc ls (a2 :: a1 :: a0 :: st) S :=
  nf_callS (as := [a0, a1, a2]) hs hk hst hn rfl hR hW dg kk
theorem nf_cSv4 {d1 idx mL : Nat} {y : MethodName} {bytes : ByteArray} {rt : Option FieldType} {a0 a1 a2 a3 : Value} {S1 : nf_S} (hs : nf_Sp L d1 y bytes mL rt [a0, a1, a2, a3] S none S1) (hk : nf_lk own idx y bytes mL rt) (hst : Cond.static y ∈ nf_tbl) (hn : nf_nm y 4) (hR : d1 + 1 ≤ d ∧ 8 + (mL + 11) + 40 * d1 ≤ 40 * d) (hW : (st.map fun v => v.category).sum ≤ 8) (dg : decode cc pc = .ok (.invokestatic idx, 3)) (kk : nf_V L d cc own nL ret r S2 (pc + 3) ls (st) S1) : nf_V L d cc own nL ret r S2 pc ls (a3 :: a2 :: a1 :: a0 :: st) S :=
  nf_callS (as := [a0, a1, a2, a3]) hs hk hst hn rfl hR hW dg kk
theorem nf_cSv5 {d1 idx mL : Nat} {y : MethodName} {bytes : ByteArray} {rt : Option FieldType} {a0 a1 a2 a3 a4 : Value} {S1 : nf_S} (hs : nf_Sp L d1 y bytes mL rt [a0, a1, a2, a3, a4] S none S1) (hk : nf_lk own idx y bytes mL rt) (hst : Cond.static y ∈ nf_tbl) (hn : nf_nm y 5) (hR : d1 + 1 ≤ d ∧ 8 + (mL + 11) + 40 * d1 ≤ 40 * d) (hW : (st.map fun v => v.category).sum ≤ 8) (dg : decode cc pc = .ok (.invokestatic idx, 3)) (kk : nf_V L d cc own nL ret r S2 (pc + 3) ls (st) S1) : nf_V L d cc own nL ret r S2 pc ls (a4 :: a3 :: a2 :: a1 :: a0 :: st) S :=
  nf_callS (as := [a0, a1, a2, a3, a4]) hs hk hst hn rfl hR hW dg kk
theorem nf_cSv6 {d1 idx mL : Nat} {y : MethodName} {bytes : ByteArray} {rt : Option FieldType} {a0 a1 a2 a3 a4 a5 : Value} {S1 : nf_S} (hs : nf_Sp L d1 y bytes mL rt [a0, a1, a2, a3, a4, a5] S none S1) (hk : nf_lk own idx y bytes mL rt) (hst : Cond.static y ∈ nf_tbl) (hn : nf_nm y 6) (hR : d1 + 1 ≤ d ∧ 8 + (mL + 11) + 40 * d1 ≤ 40 * d) (hW : (st.map fun v => v.category).sum ≤ 8) (dg : decode cc pc = .ok (.invokestatic idx, 3)) (kk : nf_V L d cc own nL ret r S2 (pc + 3) ls (st) S1) : nf_V L d cc own nL ret r S2 pc ls (a5 :: a4 :: a3 :: a2 :: a1 :: a0 :: st) S :=
  nf_callS (as := [a0, a1, a2, a3, a4, a5]) hs hk hst hn rfl hR hW dg kk
theorem nf_cSi0 {d1 idx mL : Nat} {y : MethodName} {bytes : ByteArray} {rt : Option FieldType} {x : Int32} {S1 : nf_S} (hs : nf_Sp L d1 y bytes mL rt [] S (some (.int x)) S1) (hk : nf_lk own idx y bytes mL rt) (hst : Cond.static y ∈ nf_tbl) (hn : nf_nm y 0) (hR : d1 + 1 ≤ d ∧ 8 + (mL + 11) + 40 * d1 ≤ 40 * d) (hW : (st.map fun v => v.category).sum ≤ 8) (dg : decode cc pc = .ok (.invokestatic idx, 3)) (kk : nf_V L d cc own nL ret r S2 (pc + 3) ls (.int x :: st) S1) : nf_V L d cc own nL ret r S2 pc ls (st) S :=
  nf_callS (as := []) hs hk hst hn rfl hR hW dg kk
theorem nf_cSi1 {d1 idx mL : Nat} {y : MethodName} {bytes : ByteArray} {rt : Option FieldType} {a0 : Value} {x : Int32} {S1 : nf_S} (hs : nf_Sp L d1 y bytes mL rt [a0] S (some (.int x)) S1) (hk : nf_lk own idx y bytes mL rt) (hst : Cond.static y ∈ nf_tbl) (hn : nf_nm y 1) (hR : d1 + 1 ≤ d ∧ 8 + (mL + 11) + 40 * d1 ≤ 40 * d) (hW : (st.map fun v => v.category).sum ≤ 8) (dg : decode cc pc = .ok (.invokestatic idx, 3)) (kk : nf_V L d cc own nL ret r S2 (pc + 3) ls (.int x :: st) S1) : nf_V L d cc own nL ret r S2 pc ls (a0 :: st) S :=
  nf_callS (as := [a0]) hs hk hst hn rfl hR hW dg kk
theorem nf_cSi2 {d1 idx mL : Nat} {y : MethodName} {bytes : ByteArray} {rt : Option FieldType} {a0 a1 : Value} {x : Int32} {S1 : nf_S} (hs : nf_Sp L d1 y bytes mL rt [a0, a1] S (some (.int x)) S1) (hk : nf_lk own idx y bytes mL rt) (hst : Cond.static y ∈ nf_tbl) (hn : nf_nm y 2) (hR : d1 + 1 ≤ d ∧ 8 + (mL + 11) + 40 * d1 ≤ 40 * d) (hW : (st.map fun v => v.category).sum ≤ 8) (dg : decode cc pc = .ok (.invokestatic idx, 3)) (kk : nf_V L d cc own nL ret r S2 (pc + 3) ls (.int x :: st) S1) : nf_V L d cc own nL ret r S2 pc ls (a1 :: a0 :: st) S :=
  nf_callS (as := [a0, a1]) hs hk hst hn rfl hR hW dg kk
theorem nf_cSi3 {d1 idx mL : Nat} {y : MethodName} {bytes : ByteArray} {rt : Option FieldType} {a0 a1 a2 : Value} {x : Int32} {S1 : nf_S} (hs : nf_Sp L d1 y bytes mL rt [a0, a1, a2] S (some (.int x)) S1) (hk : nf_lk own idx y bytes mL rt) (hst : Cond.static y ∈ nf_tbl) (hn : nf_nm y 3) (hR : d1 + 1 ≤ d ∧ 8 + (mL + 11) + 40 * d1 ≤ 40 * d) (hW : (st.map fun v => v.category).sum ≤ 8) (dg : decode cc pc = .ok (.invokestatic idx, 3)) (kk : nf_V L d cc own nL ret r S2 (pc + 3) ls (.int x :: st) S1) : nf_V L d cc own nL ret r S2 pc ls (a2 :: a1 :: a0 :: st) S :=
  nf_callS (as := [a0, a1, a2]) hs hk hst hn rfl hR hW dg kk
theorem nf_cSi4 {d1 idx mL : Nat} {y : MethodName} {bytes : ByteArray} {rt : Option FieldType} {a0 a1 a2 a3 : Value} {x : Int32} {S1 : nf_S} (hs : nf_Sp L d1 y bytes mL rt [a0, a1, a2, a3] S (some (.int x)) S1) (hk : nf_lk own idx y bytes mL rt) (hst : Cond.static y ∈ nf_tbl) (hn : nf_nm y 4) (hR : d1 + 1 ≤ d ∧ 8 + (mL + 11) + 40 * d1 ≤ 40 * d) (hW : (st.map fun v => v.category).sum ≤ 8) (dg : decode cc pc = .ok (.invokestatic idx, 3)) (kk : nf_V L d cc own nL ret r S2 (pc + 3) ls (.int x :: st) S1) : nf_V L d cc own nL ret r S2 pc ls (a3 :: a2 :: a1 :: a0 :: st) S :=
  nf_callS (as := [a0, a1, a2, a3]) hs hk hst hn rfl hR hW dg kk
theorem nf_cSi5 {d1 idx mL : Nat} {y : MethodName} {bytes : ByteArray} {rt : Option FieldType} {a0 a1 a2 a3 a4 : Value} {x : Int32} {S1 : nf_S} (hs : nf_Sp L d1 y bytes mL rt [a0, a1, a2, a3, a4] S (some (.int x)) S1) (hk : nf_lk own idx y bytes mL rt) (hst : Cond.static y ∈ nf_tbl) (hn : nf_nm y 5) (hR : d1 + 1 ≤ d ∧ 8 + (mL + 11) + 40 * d1 ≤ 40 * d) (hW : (st.map fun v => v.category).sum ≤ 8) (dg : decode cc pc = .ok (.invokestatic idx, 3)) (kk : nf_V L d cc own nL ret r S2 (pc + 3) ls (.int x :: st) S1) : nf_V L d cc own nL ret r S2 pc ls (a4 :: a3 :: a2 :: a1 :: a0 :: st) S :=
  nf_callS (as := [a0, a1, a2, a3, a4]) hs hk hst hn rfl hR hW dg kk
theorem nf_cSi6 {d1 idx mL : Nat} {y : MethodName} {bytes : ByteArray} {rt : Option FieldType} {a0 a1 a2 a3 a4 a5 : Value} {x : Int32} {S1 : nf_S} (hs : nf_Sp L d1 y bytes mL rt [a0, a1, a2, a3, a4, a5] S (some (.int x)) S1) (hk : nf_lk own idx y bytes mL rt) (hst : Cond.static y ∈ nf_tbl) (hn : nf_nm y 6) (hR : d1 + 1 ≤ d ∧ 8 + (mL + 11) + 40 * d1 ≤ 40 * d) (hW : (st.map fun v => v.category).sum ≤ 8) (dg : decode cc pc = .ok (.invokestatic idx, 3)) (kk : nf_V L d cc own nL ret r S2 (pc + 3) ls (.int x :: st) S1) : nf_V L d cc own nL ret r S2 pc ls (a5 :: a4 :: a3 :: a2 :: a1 :: a0 :: st) S :=
  nf_callS (as := [a0, a1, a2, a3, a4, a5]) hs hk hst hn rfl hR hW dg kk
theorem nf_cSl0 {d1 idx mL : Nat} {y : MethodName} {bytes : ByteArray} {rt : Option FieldType} {x : Int64} {S1 : nf_S} (hs : nf_Sp L d1 y bytes mL rt [] S (some (.long x)) S1) (hk : nf_lk own idx y bytes mL rt) (hst : Cond.static y ∈ nf_tbl) (hn : nf_nm y 0) (hR : d1 + 1 ≤ d ∧ 8 + (mL + 11) + 40 * d1 ≤ 40 * d) (hW : (st.map fun v => v.category).sum ≤ 8) (dg : decode cc pc = .ok (.invokestatic idx, 3)) (kk : nf_V L d cc own nL ret r S2 (pc + 3) ls (.long x :: st) S1) : nf_V L d cc own nL ret r S2 pc ls (st) S :=
  nf_callS (as := []) hs hk hst hn rfl hR hW dg kk
theorem nf_cSl1 {d1 idx mL : Nat} {y : MethodName} {bytes : ByteArray} {rt : Option FieldType} {a0 : Value} {x : Int64} {S1 : nf_S} (hs : nf_Sp L d1 y bytes mL rt [a0] S (some (.long x)) S1) (hk : nf_lk own idx y bytes mL rt) (hst : Cond.static y ∈ nf_tbl) (hn : nf_nm y 1) (hR : d1 + 1 ≤ d ∧ 8 + (mL + 11) + 40 * d1 ≤ 40 * d) (hW : (st.map fun v => v.category).sum ≤ 8) (dg : decode cc pc = .ok (.invokestatic idx, 3)) (kk : nf_V L d cc own nL ret r S2 (pc + 3) ls (.long x :: st) S1) : nf_V L d cc own nL ret r S2 pc ls (a0 :: st) S :=
  nf_callS (as := [a0]) hs hk hst hn rfl hR hW dg kk
theorem nf_cSl2 {d1 idx mL : Nat} {y : MethodName} {bytes : ByteArray} {rt : Option FieldType} {a0 a1 : Value} {x : Int64} {S1 : nf_S} (hs : nf_Sp L d1 y bytes mL rt [a0, a1] S (some (.long x)) S1) (hk : nf_lk own idx y bytes mL rt) (hst : Cond.static y ∈ nf_tbl) (hn : nf_nm y 2) (hR : d1 + 1 ≤ d ∧ 8 + (mL + 11) + 40 * d1 ≤ 40 * d) (hW : (st.map fun v => v.category).sum ≤ 8) (dg : decode cc pc = .ok (.invokestatic idx, 3)) (kk : nf_V L d cc own nL ret r S2 (pc + 3) ls (.long x :: st) S1) : nf_V L d cc own nL ret r S2 pc ls (a1 :: a0 :: st) S :=
  nf_callS (as := [a0, a1]) hs hk hst hn rfl hR hW dg kk
theorem nf_cSl3 {d1 idx mL : Nat} {y : MethodName} {bytes : ByteArray} {rt : Option FieldType} {a0 a1 a2 : Value} {x : Int64} {S1 : nf_S} (hs : nf_Sp L d1 y bytes mL rt [a0, a1, a2] S (some (.long x)) S1) (hk : nf_lk own idx y bytes mL rt) (hst : Cond.static y ∈ nf_tbl) (hn : nf_nm y 3) (hR : d1 + 1 ≤ d ∧ 8 + (mL + 11) + 40 * d1 ≤ 40 * d) (hW : (st.map fun v => v.category).sum ≤ 8) (dg : decode cc pc = .ok (.invokestatic idx, 3)) (kk : nf_V L d cc own nL ret r S2 (pc + 3) ls (.long x :: st) S1) : nf_V L d cc own nL ret r S2 pc ls (a2 :: a1 :: a0 :: st) S :=
  nf_callS (as := [a0, a1, a2]) hs hk hst hn rfl hR hW dg kk
theorem nf_cSl4 {d1 idx mL : Nat} {y : MethodName} {bytes : ByteArray} {rt : Option FieldType} {a0 a1 a2 a3 : Value} {x : Int64} {S1 : nf_S} (hs : nf_Sp L d1 y bytes mL rt [a0, a1, a2, a3] S (some (.long x)) S1) (hk : nf_lk own idx y bytes mL rt) (hst : Cond.static y ∈ nf_tbl) (hn : nf_nm y 4) (hR : d1 + 1 ≤ d ∧ 8 + (mL + 11) + 40 * d1 ≤ 40 * d) (hW : (st.map fun v => v.category).sum ≤ 8) (dg : decode cc pc = .ok (.invokestatic idx, 3)) (kk : nf_V L d cc own nL ret r S2 (pc + 3) ls (.long x :: st) S1) : nf_V L d cc own nL ret r S2 pc ls (a3 :: a2 :: a1 :: a0 :: st) S :=
  nf_callS (as := [a0, a1, a2, a3]) hs hk hst hn rfl hR hW dg kk
theorem nf_cSl5 {d1 idx mL : Nat} {y : MethodName} {bytes : ByteArray} {rt : Option FieldType} {a0 a1 a2 a3 a4 : Value} {x : Int64} {S1 : nf_S} (hs : nf_Sp L d1 y bytes mL rt [a0, a1, a2, a3, a4] S (some (.long x)) S1) (hk : nf_lk own idx y bytes mL rt) (hst : Cond.static y ∈ nf_tbl) (hn : nf_nm y 5) (hR : d1 + 1 ≤ d ∧ 8 + (mL + 11) + 40 * d1 ≤ 40 * d) (hW : (st.map fun v => v.category).sum ≤ 8) (dg : decode cc pc = .ok (.invokestatic idx, 3)) (kk : nf_V L d cc own nL ret r S2 (pc + 3) ls (.long x :: st) S1) : nf_V L d cc own nL ret r S2 pc ls (a4 :: a3 :: a2 :: a1 :: a0 :: st) S :=
  nf_callS (as := [a0, a1, a2, a3, a4]) hs hk hst hn rfl hR hW dg kk
theorem nf_cSl6 {d1 idx mL : Nat} {y : MethodName} {bytes : ByteArray} {rt : Option FieldType} {a0 a1 a2 a3 a4 a5 : Value} {x : Int64} {S1 : nf_S} (hs : nf_Sp L d1 y bytes mL rt [a0, a1, a2, a3, a4, a5] S (some (.long x)) S1) (hk : nf_lk own idx y bytes mL rt) (hst : Cond.static y ∈ nf_tbl) (hn : nf_nm y 6) (hR : d1 + 1 ≤ d ∧ 8 + (mL + 11) + 40 * d1 ≤ 40 * d) (hW : (st.map fun v => v.category).sum ≤ 8) (dg : decode cc pc = .ok (.invokestatic idx, 3)) (kk : nf_V L d cc own nL ret r S2 (pc + 3) ls (.long x :: st) S1) : nf_V L d cc own nL ret r S2 pc ls (a5 :: a4 :: a3 :: a2 :: a1 :: a0 :: st) S :=
  nf_callS (as := [a0, a1, a2, a3, a4, a5]) hs hk hst hn rfl hR hW dg kk
theorem nf_cVv0 {q : nf_Pos} {ci : Nat} {fs : List Value} {t : vw_C} {d1 idx mL : Nat} {y : MethodName} {bytes : ByteArray} {rt : Option FieldType} {S1 : nf_S} (hs : nf_Sp L d1 y bytes mL rt (.ref (L.2.2 q) :: []) S none S1) (hq : nf_ok q) (he : nf_cell L S q = .inr (ci, fs)) (hc : vwCl[ci]? = some t) (hk : nf_lk own idx y bytes mL rt) (hin : Cond.instanceMethod y ∈ nf_tbl) (hse : Cond.selects t.1 y y ∈ nf_tbl) (hn : nf_nm y 0) (hR : d1 + 1 ≤ d ∧ 8 + (mL + 11) + 40 * d1 ≤ 40 * d) (hW : (st.map fun v => v.category).sum ≤ 8) (dg : decode cc pc = .ok (.invokevirtual idx, 3)) (kk : nf_V L d cc own nL ret r S2 (pc + 3) ls (st) S1) : nf_V L d cc own nL ret r S2 pc ls (.ref (L.2.2 q) :: st) S :=
  nf_callV (as := []) hs hq he hc hk hin hse hn rfl hR hW dg kk
theorem nf_cVv1 {q : nf_Pos} {ci : Nat} {fs : List Value} {t : vw_C} {d1 idx mL : Nat} {y : MethodName} {bytes : ByteArray} {rt : Option FieldType} {a0 : Value} {S1 : nf_S} (hs : nf_Sp L d1 y bytes mL rt (.ref (L.2.2 q) :: [a0]) S none S1) (hq : nf_ok q) (he : nf_cell L S q = .inr (ci, fs)) (hc : vwCl[ci]? = some t) (hk : nf_lk own idx y bytes mL rt) (hin : Cond.instanceMethod y ∈ nf_tbl) (hse : Cond.selects t.1 y y ∈ nf_tbl) (hn : nf_nm y 1) (hR : d1 + 1 ≤ d ∧ 8 + (mL + 11) + 40 * d1 ≤ 40 * d) (hW : (st.map fun v => v.category).sum ≤ 8) (dg : decode cc pc = .ok (.invokevirtual idx, 3)) (kk : nf_V L d cc own nL ret r S2 (pc + 3) ls (st) S1) : nf_V L d cc own nL ret r S2 pc ls (a0 :: .ref (L.2.2 q) :: st) S :=
  nf_callV (as := [a0]) hs hq he hc hk hin hse hn rfl hR hW dg kk
theorem nf_cVv2 {q : nf_Pos} {ci : Nat} {fs : List Value} {t : vw_C} {d1 idx mL : Nat} {y : MethodName} {bytes : ByteArray} {rt : Option FieldType} {a0 a1 : Value} {S1 : nf_S} (hs : nf_Sp L d1 y bytes mL rt (.ref (L.2.2 q) :: [a0, a1]) S none S1) (hq : nf_ok q) (he : nf_cell L S q = .inr (ci, fs)) (hc : vwCl[ci]? = some t) (hk : nf_lk own idx y bytes mL rt) (hin : Cond.instanceMethod y ∈ nf_tbl) (hse : Cond.selects t.1 y y ∈ nf_tbl) (hn : nf_nm y 2) (hR : d1 + 1 ≤ d ∧ 8 + (mL + 11) + 40 * d1 ≤ 40 * d) (hW : (st.map fun v => v.category).sum ≤ 8) (dg : decode cc pc = .ok (.invokevirtual idx, 3)) (kk : nf_V L d cc own nL ret r S2 (pc + 3) ls (st) S1) : nf_V L d cc own nL ret r S2 pc ls (a1 :: a0 :: .ref (L.2.2 q) :: st) S :=
  nf_callV (as := [a0, a1]) hs hq he hc hk hin hse hn rfl hR hW dg kk
theorem nf_cVv3 {q : nf_Pos} {ci : Nat} {fs : List Value} {t : vw_C} {d1 idx mL : Nat} {y : MethodName} {bytes : ByteArray} {rt : Option FieldType} {a0 a1 a2 : Value} {S1 : nf_S} (hs : nf_Sp L d1 y bytes mL rt (.ref (L.2.2 q) :: [a0, a1, a2]) S none S1) (hq : nf_ok q) (he : nf_cell L S q = .inr (ci, fs)) (hc : vwCl[ci]? = some t) (hk : nf_lk own idx y bytes mL rt) (hin : Cond.instanceMethod y ∈ nf_tbl) (hse : Cond.selects t.1 y y ∈ nf_tbl) (hn : nf_nm y 3) (hR : d1 + 1 ≤ d ∧ 8 + (mL + 11) + 40 * d1 ≤ 40 * d) (hW : (st.map fun v => v.category).sum ≤ 8) (dg : decode cc pc = .ok (.invokevirtual idx, 3)) (kk : nf_V L d cc own nL ret r S2 (pc + 3) ls (st) S1) : nf_V L d cc own nL ret r S2 pc ls (a2 :: a1 :: a0 :: .ref (L.2.2 q) :: st) S :=
  nf_callV (as := [a0, a1, a2]) hs hq he hc hk hin hse hn rfl hR hW dg kk
theorem nf_cVv4 {q : nf_Pos} {ci : Nat} {fs : List Value} {t : vw_C} {d1 idx mL : Nat} {y : MethodName} {bytes : ByteArray} {rt : Option FieldType} {a0 a1 a2 a3 : Value} {S1 : nf_S} (hs : nf_Sp L d1 y bytes mL rt (.ref (L.2.2 q) :: [a0, a1, a2, a3]) S none S1) (hq : nf_ok q) (he : nf_cell L S q = .inr (ci, fs)) (hc : vwCl[ci]? = some t) (hk : nf_lk own idx y bytes mL rt) (hin : Cond.instanceMethod y ∈ nf_tbl) (hse : Cond.selects t.1 y y ∈ nf_tbl) (hn : nf_nm y 4) (hR : d1 + 1 ≤ d ∧ 8 + (mL + 11) + 40 * d1 ≤ 40 * d) (hW : (st.map fun v => v.category).sum ≤ 8) (dg : decode cc pc = .ok (.invokevirtual idx, 3)) (kk : nf_V L d cc own nL ret r S2 (pc + 3) ls (st) S1) : nf_V L d cc own nL ret r S2 pc ls (a3 :: a2 :: a1 :: a0 :: .ref (L.2.2 q) :: st) S :=
  nf_callV (as := [a0, a1, a2, a3]) hs hq he hc hk hin hse hn rfl hR hW dg kk
theorem nf_cVv5 {q : nf_Pos} {ci : Nat} {fs : List Value} {t : vw_C} {d1 idx mL : Nat} {y : MethodName} {bytes : ByteArray} {rt : Option FieldType} {a0 a1 a2 a3 a4 : Value} {S1 : nf_S} (hs : nf_Sp L d1 y bytes mL rt (.ref (L.2.2 q) :: [a0, a1, a2, a3, a4]) S none S1) (hq : nf_ok q) (he : nf_cell L S q = .inr (ci, fs)) (hc : vwCl[ci]? = some t) (hk : nf_lk own idx y bytes mL rt) (hin : Cond.instanceMethod y ∈ nf_tbl) (hse : Cond.selects t.1 y y ∈ nf_tbl) (hn : nf_nm y 5) (hR : d1 + 1 ≤ d ∧ 8 + (mL + 11) + 40 * d1 ≤ 40 * d) (hW : (st.map fun v => v.category).sum ≤ 8) (dg : decode cc pc = .ok (.invokevirtual idx, 3)) (kk : nf_V L d cc own nL ret r S2 (pc + 3) ls (st) S1) : nf_V L d cc own nL ret r S2 pc ls (a4 :: a3 :: a2 :: a1 :: a0 :: .ref (L.2.2 q) :: st) S :=
  nf_callV (as := [a0, a1, a2, a3, a4]) hs hq he hc hk hin hse hn rfl hR hW dg kk
theorem nf_cVi0 {q : nf_Pos} {ci : Nat} {fs : List Value} {t : vw_C} {d1 idx mL : Nat} {y : MethodName} {bytes : ByteArray} {rt : Option FieldType} {x : Int32} {S1 : nf_S} (hs : nf_Sp L d1 y bytes mL rt (.ref (L.2.2 q) :: []) S (some (.int x)) S1) (hq : nf_ok q) (he : nf_cell L S q = .inr (ci, fs)) (hc : vwCl[ci]? = some t) (hk : nf_lk own idx y bytes mL rt) (hin : Cond.instanceMethod y ∈ nf_tbl) (hse : Cond.selects t.1 y y ∈ nf_tbl) (hn : nf_nm y 0) (hR : d1 + 1 ≤ d ∧ 8 + (mL + 11) + 40 * d1 ≤ 40 * d) (hW : (st.map fun v => v.category).sum ≤ 8) (dg : decode cc pc = .ok (.invokevirtual idx, 3)) (kk : nf_V L d cc own nL ret r S2 (pc + 3) ls (.int x :: st) S1) : nf_V L d cc own nL ret r S2 pc ls (.ref (L.2.2 q) :: st) S :=
  nf_callV (as := []) hs hq he hc hk hin hse hn rfl hR hW dg kk
theorem nf_cVi1 {q : nf_Pos} {ci : Nat} {fs : List Value} {t : vw_C} {d1 idx mL : Nat} {y : MethodName} {bytes : ByteArray} {rt : Option FieldType} {a0 : Value} {x : Int32} {S1 : nf_S} (hs : nf_Sp L d1 y bytes mL rt (.ref (L.2.2 q) :: [a0]) S (some (.int x)) S1) (hq : nf_ok q) (he : nf_cell L S q = .inr (ci, fs)) (hc : vwCl[ci]? = some t) (hk : nf_lk own idx y bytes mL rt) (hin : Cond.instanceMethod y ∈ nf_tbl) (hse : Cond.selects t.1 y y ∈ nf_tbl) (hn : nf_nm y 1) (hR : d1 + 1 ≤ d ∧ 8 + (mL + 11) + 40 * d1 ≤ 40 * d) (hW : (st.map fun v => v.category).sum ≤ 8) (dg : decode cc pc = .ok (.invokevirtual idx, 3)) (kk : nf_V L d cc own nL ret r S2 (pc + 3) ls (.int x :: st) S1) : nf_V L d cc own nL ret r S2 pc ls (a0 :: .ref (L.2.2 q) :: st) S :=
  nf_callV (as := [a0]) hs hq he hc hk hin hse hn rfl hR hW dg kk
theorem nf_cVi2 {q : nf_Pos} {ci : Nat} {fs : List Value} {t : vw_C} {d1 idx mL : Nat} {y : MethodName} {bytes : ByteArray} {rt : Option FieldType} {a0 a1 : Value} {x : Int32} {S1 : nf_S} (hs : nf_Sp L d1 y bytes mL rt (.ref (L.2.2 q) :: [a0, a1]) S (some (.int x)) S1) (hq : nf_ok q) (he : nf_cell L S q = .inr (ci, fs)) (hc : vwCl[ci]? = some t) (hk : nf_lk own idx y bytes mL rt) (hin : Cond.instanceMethod y ∈ nf_tbl) (hse : Cond.selects t.1 y y ∈ nf_tbl) (hn : nf_nm y 2) (hR : d1 + 1 ≤ d ∧ 8 + (mL + 11) + 40 * d1 ≤ 40 * d) (hW : (st.map fun v => v.category).sum ≤ 8) (dg : decode cc pc = .ok (.invokevirtual idx, 3)) (kk : nf_V L d cc own nL ret r S2 (pc + 3) ls (.int x :: st) S1) : nf_V L d cc own nL ret r S2 pc ls (a1 :: a0 :: .ref (L.2.2 q) :: st) S :=
  nf_callV (as := [a0, a1]) hs hq he hc hk hin hse hn rfl hR hW dg kk
theorem nf_cVi3 {q : nf_Pos} {ci : Nat} {fs : List Value} {t : vw_C} {d1 idx mL : Nat} {y : MethodName} {bytes : ByteArray} {rt : Option FieldType} {a0 a1 a2 : Value} {x : Int32} {S1 : nf_S} (hs : nf_Sp L d1 y bytes mL rt (.ref (L.2.2 q) :: [a0, a1, a2]) S (some (.int x)) S1) (hq : nf_ok q) (he : nf_cell L S q = .inr (ci, fs)) (hc : vwCl[ci]? = some t) (hk : nf_lk own idx y bytes mL rt) (hin : Cond.instanceMethod y ∈ nf_tbl) (hse : Cond.selects t.1 y y ∈ nf_tbl) (hn : nf_nm y 3) (hR : d1 + 1 ≤ d ∧ 8 + (mL + 11) + 40 * d1 ≤ 40 * d) (hW : (st.map fun v => v.category).sum ≤ 8) (dg : decode cc pc = .ok (.invokevirtual idx, 3)) (kk : nf_V L d cc own nL ret r S2 (pc + 3) ls (.int x :: st) S1) : nf_V L d cc own nL ret r S2 pc ls (a2 :: a1 :: a0 :: .ref (L.2.2 q) :: st) S :=
  nf_callV (as := [a0, a1, a2]) hs hq he hc hk hin hse hn rfl hR hW dg kk
theorem nf_cVi4 {q : nf_Pos} {ci : Nat} {fs : List Value} {t : vw_C} {d1 idx mL : Nat} {y : MethodName} {bytes : ByteArray} {rt : Option FieldType} {a0 a1 a2 a3 : Value} {x : Int32} {S1 : nf_S} (hs : nf_Sp L d1 y bytes mL rt (.ref (L.2.2 q) :: [a0, a1, a2, a3]) S (some (.int x)) S1) (hq : nf_ok q) (he : nf_cell L S q = .inr (ci, fs)) (hc : vwCl[ci]? = some t) (hk : nf_lk own idx y bytes mL rt) (hin : Cond.instanceMethod y ∈ nf_tbl) (hse : Cond.selects t.1 y y ∈ nf_tbl) (hn : nf_nm y 4) (hR : d1 + 1 ≤ d ∧ 8 + (mL + 11) + 40 * d1 ≤ 40 * d) (hW : (st.map fun v => v.category).sum ≤ 8) (dg : decode cc pc = .ok (.invokevirtual idx, 3)) (kk : nf_V L d cc own nL ret r S2 (pc + 3) ls (.int x :: st) S1) : nf_V L d cc own nL ret r S2 pc ls (a3 :: a2 :: a1 :: a0 :: .ref (L.2.2 q) :: st) S :=
  nf_callV (as := [a0, a1, a2, a3]) hs hq he hc hk hin hse hn rfl hR hW dg kk
theorem nf_cVi5 {q : nf_Pos} {ci : Nat} {fs : List Value} {t : vw_C} {d1 idx mL : Nat} {y : MethodName} {bytes : ByteArray} {rt : Option FieldType} {a0 a1 a2 a3 a4 : Value} {x : Int32} {S1 : nf_S} (hs : nf_Sp L d1 y bytes mL rt (.ref (L.2.2 q) :: [a0, a1, a2, a3, a4]) S (some (.int x)) S1) (hq : nf_ok q) (he : nf_cell L S q = .inr (ci, fs)) (hc : vwCl[ci]? = some t) (hk : nf_lk own idx y bytes mL rt) (hin : Cond.instanceMethod y ∈ nf_tbl) (hse : Cond.selects t.1 y y ∈ nf_tbl) (hn : nf_nm y 5) (hR : d1 + 1 ≤ d ∧ 8 + (mL + 11) + 40 * d1 ≤ 40 * d) (hW : (st.map fun v => v.category).sum ≤ 8) (dg : decode cc pc = .ok (.invokevirtual idx, 3)) (kk : nf_V L d cc own nL ret r S2 (pc + 3) ls (.int x :: st) S1) : nf_V L d cc own nL ret r S2 pc ls (a4 :: a3 :: a2 :: a1 :: a0 :: .ref (L.2.2 q) :: st) S :=
  nf_callV (as := [a0, a1, a2, a3, a4]) hs hq he hc hk hin hse hn rfl hR hW dg kk
theorem nf_cVl0 {q : nf_Pos} {ci : Nat} {fs : List Value} {t : vw_C} {d1 idx mL : Nat} {y : MethodName} {bytes : ByteArray} {rt : Option FieldType} {x : Int64} {S1 : nf_S} (hs : nf_Sp L d1 y bytes mL rt (.ref (L.2.2 q) :: []) S (some (.long x)) S1) (hq : nf_ok q) (he : nf_cell L S q = .inr (ci, fs)) (hc : vwCl[ci]? = some t) (hk : nf_lk own idx y bytes mL rt) (hin : Cond.instanceMethod y ∈ nf_tbl) (hse : Cond.selects t.1 y y ∈ nf_tbl) (hn : nf_nm y 0) (hR : d1 + 1 ≤ d ∧ 8 + (mL + 11) + 40 * d1 ≤ 40 * d) (hW : (st.map fun v => v.category).sum ≤ 8) (dg : decode cc pc = .ok (.invokevirtual idx, 3)) (kk : nf_V L d cc own nL ret r S2 (pc + 3) ls (.long x :: st) S1) : nf_V L d cc own nL ret r S2 pc ls (.ref (L.2.2 q) :: st) S :=
  nf_callV (as := []) hs hq he hc hk hin hse hn rfl hR hW dg kk
theorem nf_cVl1 {q : nf_Pos} {ci : Nat} {fs : List Value} {t : vw_C} {d1 idx mL : Nat} {y : MethodName} {bytes : ByteArray} {rt : Option FieldType} {a0 : Value} {x : Int64} {S1 : nf_S} (hs : nf_Sp L d1 y bytes mL rt (.ref (L.2.2 q) :: [a0]) S (some (.long x)) S1) (hq : nf_ok q) (he : nf_cell L S q = .inr (ci, fs)) (hc : vwCl[ci]? = some t) (hk : nf_lk own idx y bytes mL rt) (hin : Cond.instanceMethod y ∈ nf_tbl) (hse : Cond.selects t.1 y y ∈ nf_tbl) (hn : nf_nm y 1) (hR : d1 + 1 ≤ d ∧ 8 + (mL + 11) + 40 * d1 ≤ 40 * d) (hW : (st.map fun v => v.category).sum ≤ 8) (dg : decode cc pc = .ok (.invokevirtual idx, 3)) (kk : nf_V L d cc own nL ret r S2 (pc + 3) ls (.long x :: st) S1) : nf_V L d cc own nL ret r S2 pc ls (a0 :: .ref (L.2.2 q) :: st) S :=
  nf_callV (as := [a0]) hs hq he hc hk hin hse hn rfl hR hW dg kk
theorem nf_cVl2 {q : nf_Pos} {ci : Nat} {fs : List Value} {t : vw_C} {d1 idx mL : Nat} {y : MethodName} {bytes : ByteArray} {rt : Option FieldType} {a0 a1 : Value} {x : Int64} {S1 : nf_S} (hs : nf_Sp L d1 y bytes mL rt (.ref (L.2.2 q) :: [a0, a1]) S (some (.long x)) S1) (hq : nf_ok q) (he : nf_cell L S q = .inr (ci, fs)) (hc : vwCl[ci]? = some t) (hk : nf_lk own idx y bytes mL rt) (hin : Cond.instanceMethod y ∈ nf_tbl) (hse : Cond.selects t.1 y y ∈ nf_tbl) (hn : nf_nm y 2) (hR : d1 + 1 ≤ d ∧ 8 + (mL + 11) + 40 * d1 ≤ 40 * d) (hW : (st.map fun v => v.category).sum ≤ 8) (dg : decode cc pc = .ok (.invokevirtual idx, 3)) (kk : nf_V L d cc own nL ret r S2 (pc + 3) ls (.long x :: st) S1) : nf_V L d cc own nL ret r S2 pc ls (a1 :: a0 :: .ref (L.2.2 q) :: st) S :=
  nf_callV (as := [a0, a1]) hs hq he hc hk hin hse hn rfl hR hW dg kk
theorem nf_cVl3 {q : nf_Pos} {ci : Nat} {fs : List Value} {t : vw_C} {d1 idx mL : Nat} {y : MethodName} {bytes : ByteArray} {rt : Option FieldType} {a0 a1 a2 : Value} {x : Int64} {S1 : nf_S} (hs : nf_Sp L d1 y bytes mL rt (.ref (L.2.2 q) :: [a0, a1, a2]) S (some (.long x)) S1) (hq : nf_ok q) (he : nf_cell L S q = .inr (ci, fs)) (hc : vwCl[ci]? = some t) (hk : nf_lk own idx y bytes mL rt) (hin : Cond.instanceMethod y ∈ nf_tbl) (hse : Cond.selects t.1 y y ∈ nf_tbl) (hn : nf_nm y 3) (hR : d1 + 1 ≤ d ∧ 8 + (mL + 11) + 40 * d1 ≤ 40 * d) (hW : (st.map fun v => v.category).sum ≤ 8) (dg : decode cc pc = .ok (.invokevirtual idx, 3)) (kk : nf_V L d cc own nL ret r S2 (pc + 3) ls (.long x :: st) S1) : nf_V L d cc own nL ret r S2 pc ls (a2 :: a1 :: a0 :: .ref (L.2.2 q) :: st) S :=
  nf_callV (as := [a0, a1, a2]) hs hq he hc hk hin hse hn rfl hR hW dg kk
theorem nf_cVl4 {q : nf_Pos} {ci : Nat} {fs : List Value} {t : vw_C} {d1 idx mL : Nat} {y : MethodName} {bytes : ByteArray} {rt : Option FieldType} {a0 a1 a2 a3 : Value} {x : Int64} {S1 : nf_S} (hs : nf_Sp L d1 y bytes mL rt (.ref (L.2.2 q) :: [a0, a1, a2, a3]) S (some (.long x)) S1) (hq : nf_ok q) (he : nf_cell L S q = .inr (ci, fs)) (hc : vwCl[ci]? = some t) (hk : nf_lk own idx y bytes mL rt) (hin : Cond.instanceMethod y ∈ nf_tbl) (hse : Cond.selects t.1 y y ∈ nf_tbl) (hn : nf_nm y 4) (hR : d1 + 1 ≤ d ∧ 8 + (mL + 11) + 40 * d1 ≤ 40 * d) (hW : (st.map fun v => v.category).sum ≤ 8) (dg : decode cc pc = .ok (.invokevirtual idx, 3)) (kk : nf_V L d cc own nL ret r S2 (pc + 3) ls (.long x :: st) S1) : nf_V L d cc own nL ret r S2 pc ls (a3 :: a2 :: a1 :: a0 :: .ref (L.2.2 q) :: st) S :=
  nf_callV (as := [a0, a1, a2, a3]) hs hq he hc hk hin hse hn rfl hR hW dg kk
theorem nf_cVl5 {q : nf_Pos} {ci : Nat} {fs : List Value} {t : vw_C} {d1 idx mL : Nat} {y : MethodName} {bytes : ByteArray} {rt : Option FieldType} {a0 a1 a2 a3 a4 : Value} {x : Int64} {S1 : nf_S} (hs : nf_Sp L d1 y bytes mL rt (.ref (L.2.2 q) :: [a0, a1, a2, a3, a4]) S (some (.long x)) S1) (hq : nf_ok q) (he : nf_cell L S q = .inr (ci, fs)) (hc : vwCl[ci]? = some t) (hk : nf_lk own idx y bytes mL rt) (hin : Cond.instanceMethod y ∈ nf_tbl) (hse : Cond.selects t.1 y y ∈ nf_tbl) (hn : nf_nm y 5) (hR : d1 + 1 ≤ d ∧ 8 + (mL + 11) + 40 * d1 ≤ 40 * d) (hW : (st.map fun v => v.category).sum ≤ 8) (dg : decode cc pc = .ok (.invokevirtual idx, 3)) (kk : nf_V L d cc own nL ret r S2 (pc + 3) ls (.long x :: st) S1) : nf_V L d cc own nL ret r S2 pc ls (a4 :: a3 :: a2 :: a1 :: a0 :: .ref (L.2.2 q) :: st) S :=
  nf_callV (as := [a0, a1, a2, a3, a4]) hs hq he hc hk hin hse hn rfl hR hW dg kk
theorem nf_cNi2 {d1 idx mL : Nat} {y : MethodName} {bytes : ByteArray} {rt : Option FieldType} {a0 a1 : Value} {x : Int32} {S1 : nf_S} (hs : nf_Sp L d1 y bytes mL rt [a0, a1] S (some (.int x)) S1) (hk : Cond.methodLinkNest own idx y RX5 ∈ nf_nw ∧ Cond.code y bytes mL rt ∈ nf_tbl ∧ Cond.initialized y.cls ∈ nf_tbl) (hst : Cond.static y ∈ nf_tbl) (hn : nf_nm y 2) (hR : d1 + 1 ≤ d ∧ 8 + (mL + 11) + 40 * d1 ≤ 40 * d) (hW : (st.map fun v => v.category).sum ≤ 8) (dg : decode cc pc = .ok (.invokestatic idx, 3)) (kk : nf_V L d cc own nL ret r S2 (pc + 3) ls (.int x :: st) S1) : nf_V L d cc own nL ret r S2 pc ls (a1 :: a0 :: st) S :=
  nf_callN (as := [a0, a1]) hs hk hst hn rfl hR hW dg kk
end NfTyped
end
section
theorem nf_okA {n c : Nat} (hn : n < 5) (hc : c < 12) : nf_ok (9, n, c, 0) := Or.inl ⟨hn, Or.inl ⟨hc, rfl⟩⟩
theorem nf_ok12 {n h : Nat} (hn : n < 5) (hh : h < 6) : nf_ok (9, n, 12, h) := Or.inl ⟨hn, Or.inr ⟨Or.inl rfl, hh⟩⟩
theorem nf_ok13 {n h : Nat} (hn : n < 5) (hh : h < 6) : nf_ok (9, n, 13, h) := Or.inl ⟨hn, Or.inr ⟨Or.inr rfl, hh⟩⟩
theorem nf_ok4 {n h : Nat} (hn : n < 5) (hh : h < 6) : nf_ok (4, n, 0, h) := ⟨hn, rfl, hh⟩
theorem nf_okT10 : nf_ok (9, 5, 10, 0) := Or.inr ⟨rfl, Or.inl rfl, rfl⟩
theorem nf_okT11 : nf_ok (9, 5, 11, 0) := Or.inr ⟨rfl, Or.inr rfl, rfl⟩
theorem nf_okQ10 {n : Nat} (hn : n < 6) : nf_ok (9, n, 10, 0) := by
  rcases Nat.lt_or_ge n 5 with h | h
  · exact nf_okA h (by decide)
  · have : n = 5 := by omega
    subst this; exact nf_okT10
theorem nf_okQ11 {n : Nat} (hn : n < 6) : nf_ok (9, n, 11, 0) := by
  rcases Nat.lt_or_ge n 5 with h | h
  · exact nf_okA h (by decide)
  · have : n = 5 := by omega
    subst this; exact nf_okT11
theorem nf_okO {x : Nat} (hx : x < 5) : nf_ok (10, x, 0, 0) := ⟨hx, rfl⟩
theorem nf_len_lt (c : Nat) : nf_len c < 2 ^ 31 := by
  unfold nf_len; split <;> decide
theorem nf_lenO_lt (c : Nat) : nf_lenO c < 2 ^ 31 := by
  unfold nf_lenO; split <;> decide
theorem nf_inI {k N : Nat} (h : k < N) (hN : N < 2 ^ 31) : vp_in (nI k) N := nI_in h hN
theorem nf_add (a b : Nat) : nI (a + b) = nI a + nI b := by simp [nI, Int32.ofNat_add]
theorem nf_mul (a b : Nat) : nI (a * b) = nI a * nI b := by simp [nI, Int32.ofNat_mul]
theorem nf_succ_sub (k : Nat) : nI (k + 1) - 1 = nI k := nI_pred k
theorem nf_ext {S T : nf_S} (h1 : ∀ n c h, nf_I S n c h = nf_I T n c h) (h2 : ∀ n c h, nf_A S n c h = nf_A T n c h) (h3 : ∀ x, nf_O S x = nf_O T x) (h4 : ∀ j, nf_J S j = nf_J T j) (h5 : nf_v S = nf_v T) : S = T := by
  refine Prod.ext ?_ (Prod.ext ?_ (Prod.ext ?_ (Prod.ext ?_ h5)))
  · funext n c h; exact h1 n c h
  · funext n c h; exact h2 n c h
  · funext x; exact h3 x
  · funext j; exact h4 j
section NfBase
variable {L : nf_L} {d : Nat} {cc : ByteArray} {own : String} {nL : Nat} {ret : Option FieldType} {r : Option Value} {S2 : nf_S} {pc : Nat} {ls : List (Option Value)} {st : List Value} {S : nf_S}
theorem nf_iaddI {a b : Nat} (dg : decode cc pc = .ok (.iadd, 1)) (k : nf_V L d cc own nL ret r S2 (pc + 1) ls (.int (nI (a + b)) :: st) S) : nf_V L d cc own nL ret r S2 pc ls (.int (nI b) :: .int (nI a) :: st) S := nf_iadd dg (by rw [← nf_add]; exact k)
theorem nf_imulI {a b : Nat} (dg : decode cc pc = .ok (.imul, 1)) (k : nf_V L d cc own nL ret r S2 (pc + 1) ls (.int (nI (a * b)) :: st) S) : nf_V L d cc own nL ret r S2 pc ls (.int (nI b) :: .int (nI a) :: st) S := nf_imul dg (by rw [← nf_mul]; exact k)
theorem nf_ialdI {n c h k : Nat} (hq : nf_ok (9, n, c, h)) (hi : k < nf_len c) (dg : decode cc pc = .ok (.iaload, 1)) (kk : nf_V L d cc own nL ret r S2 (pc + 1) ls (.int (nf_A S n c h k) :: st) S) : nf_V L d cc own nL ret r S2 pc ls (.int (nI k) :: .ref (L.2.2 (9, n, c, h)) :: st) S :=
  nf_iald hq (nf_inI hi (nf_len_lt c)) dg (by rw [nI_clamp (Nat.lt_trans hi (nf_len_lt c))]; exact kk)
theorem nf_ialdOI {x k : Nat} (hq : nf_ok (10, x, 0, 0)) (hi : k < nf_lenO x) (dg : decode cc pc = .ok (.iaload, 1)) (kk : nf_V L d cc own nL ret r S2 (pc + 1) ls (.int (nf_O S x k) :: st) S) : nf_V L d cc own nL ret r S2 pc ls (.int (nI k) :: .ref (L.2.2 (10, x, 0, 0)) :: st) S :=
  nf_ialdO hq (nf_inI hi (nf_lenO_lt x)) dg (by rw [nI_clamp (Nat.lt_trans hi (nf_lenO_lt x))]; exact kk)
theorem nf_iastI {n c h k : Nat} {x : Int32} (hq : nf_ok (9, n, c, h)) (hi : k < nf_len c) (dg : decode cc pc = .ok (.iastore, 1)) (kk : nf_V L d cc own nL ret r S2 (pc + 1) ls st (nf_sA S n c h (upd (nf_A S n c h) k x))) : nf_V L d cc own nL ret r S2 pc ls (.int x :: .int (nI k) :: .ref (L.2.2 (9, n, c, h)) :: st) S :=
  nf_iast hq (nf_inI hi (nf_len_lt c)) dg (by rw [nI_clamp (Nat.lt_trans hi (nf_len_lt c))]; exact kk)
theorem nf_iastOI {x0 k : Nat} {x : Int32} (hq : nf_ok (10, x0, 0, 0)) (hi : k < nf_lenO x0) (dg : decode cc pc = .ok (.iastore, 1)) (kk : nf_V L d cc own nL ret r S2 (pc + 1) ls st (nf_sO S x0 (upd (nf_O S x0) k x))) : nf_V L d cc own nL ret r S2 pc ls (.int x :: .int (nI k) :: .ref (L.2.2 (10, x0, 0, 0)) :: st) S :=
  nf_iastO hq (nf_inI hi (nf_lenO_lt x0)) dg (by rw [nI_clamp (Nat.lt_trans hi (nf_lenO_lt x0))]; exact kk)
theorem nf_haldI {n k : Nat} (hn : n < 5) (hi : k < 6) (dg : decode cc pc = .ok (.aaload, 1)) (kk : nf_V L d cc own nL ret r S2 (pc + 1) ls (.ref (L.2.2 (4, n, 0, k)) :: st) S) : nf_V L d cc own nL ret r S2 pc ls (.int (nI k) :: .ref (L.2.2 (7, n, 0, 0)) :: st) S :=
  nf_hald hn (nf_inI hi (by decide)) dg (by rw [nI_clamp (Nat.lt_trans hi (by decide))]; exact kk)
theorem nf_saldI {k : Nat} (hi : k < 4) (dg : decode cc pc = .ok (.aaload, 1)) (kk : nf_V L d cc own nL ret r S2 (pc + 1) ls (.ref (L.2.2 (1, nf_v S k, 0, 0)) :: st) S) : nf_V L d cc own nL ret r S2 pc ls (.int (nI k) :: .ref (L.2.2 (6, 0, 0, 0)) :: st) S :=
  nf_sald (nf_inI hi (by decide)) dg (by rw [nI_clamp (Nat.lt_trans hi (by decide))]; exact kk)
theorem nf_sastI {k n : Nat} (hn : n < 5) (hi : k < 4) (dg : decode cc pc = .ok (.aastore, 1)) (kk : nf_V L d cc own nL ret r S2 (pc + 1) ls st (nf_sv S (va_up (nf_v S) k n))) : nf_V L d cc own nL ret r S2 pc ls (.ref (L.2.2 (1, n, 0, 0)) :: .int (nI k) :: .ref (L.2.2 (6, 0, 0, 0)) :: st) S :=
  nf_sast hn (nf_inI hi (by decide)) dg (by rw [nI_clamp (Nat.lt_trans hi (by decide))]; exact kk)
theorem nf_topI {x y : Int32} (e : x = y) (k : nf_V L d cc own nL ret r S2 pc ls (.int y :: st) S) : nf_V L d cc own nL ret r S2 pc ls (.int x :: st) S := by rw [e]; exact k
theorem nf_topR {p1 p2 : nf_Pos} (e : p1 = p2) (k : nf_V L d cc own nL ret r S2 pc ls (.ref (L.2.2 p2) :: st) S) : nf_V L d cc own nL ret r S2 pc ls (.ref (L.2.2 p1) :: st) S := by rw [e]; exact k
theorem nf_from {S' : nf_S} (e : S = S') (k : nf_V L d cc own nL ret r S2 pc ls st S') : nf_V L d cc own nL ret r S2 pc ls st S := by rw [e]; exact k
theorem nf_iincP0 {tl : List (Option Value)} {x : Int32} (dg : decode cc pc = .ok (.iinc 0 1, 3)) (hn : 0 < nL) (k : nf_V L d cc own nL ret r S2 (pc + 3) (some (.int (x + 1)) :: tl) st S) : nf_V L d cc own nL ret r S2 pc (some (.int x) :: tl) st S := nf_iinc0 dg (by rw [lit1]) hn k
theorem nf_iincP1 {o0 : Option Value} {tl : List (Option Value)} {x : Int32} (dg : decode cc pc = .ok (.iinc 1 1, 3)) (hc1 : nf_c1 o0 = true) (hn : 1 < nL) (k : nf_V L d cc own nL ret r S2 (pc + 3) (o0 :: some (.int (x + 1)) :: tl) st S) : nf_V L d cc own nL ret r S2 pc (o0 :: some (.int x) :: tl) st S := nf_iinc1 dg (by rw [lit1]) hc1 hn k
theorem nf_iincP2 {o0 o1 : Option Value} {tl : List (Option Value)} {x : Int32} (dg : decode cc pc = .ok (.iinc 2 1, 3)) (hc1 : nf_c1 o1 = true) (hn : 2 < nL) (k : nf_V L d cc own nL ret r S2 (pc + 3) (o0 :: o1 :: some (.int (x + 1)) :: tl) st S) : nf_V L d cc own nL ret r S2 pc (o0 :: o1 :: some (.int x) :: tl) st S := nf_iinc2 dg (by rw [lit1]) hc1 hn k
theorem nf_iincP3 {o0 o1 o2 : Option Value} {tl : List (Option Value)} {x : Int32} (dg : decode cc pc = .ok (.iinc 3 1, 3)) (hc1 : nf_c1 o2 = true) (hn : 3 < nL) (k : nf_V L d cc own nL ret r S2 (pc + 3) (o0 :: o1 :: o2 :: some (.int (x + 1)) :: tl) st S) : nf_V L d cc own nL ret r S2 pc (o0 :: o1 :: o2 :: some (.int x) :: tl) st S := nf_iinc3 dg (by rw [lit1]) hc1 hn k
theorem nf_iincP4 {o0 o1 o2 o3 : Option Value} {tl : List (Option Value)} {x : Int32} (dg : decode cc pc = .ok (.iinc 4 1, 3)) (hc1 : nf_c1 o3 = true) (hn : 4 < nL) (k : nf_V L d cc own nL ret r S2 (pc + 3) (o0 :: o1 :: o2 :: o3 :: some (.int (x + 1)) :: tl) st S) : nf_V L d cc own nL ret r S2 pc (o0 :: o1 :: o2 :: o3 :: some (.int x) :: tl) st S := nf_iinc4 dg (by rw [lit1]) hc1 hn k
theorem nf_iincP5 {o0 o1 o2 o3 o4 : Option Value} {tl : List (Option Value)} {x : Int32} (dg : decode cc pc = .ok (.iinc 5 1, 3)) (hc1 : nf_c1 o4 = true) (hn : 5 < nL) (k : nf_V L d cc own nL ret r S2 (pc + 3) (o0 :: o1 :: o2 :: o3 :: o4 :: some (.int (x + 1)) :: tl) st S) : nf_V L d cc own nL ret r S2 pc (o0 :: o1 :: o2 :: o3 :: o4 :: some (.int x) :: tl) st S := nf_iinc5 dg (by rw [lit1]) hc1 hn k
theorem nf_iincP6 {o0 o1 o2 o3 o4 o5 : Option Value} {tl : List (Option Value)} {x : Int32} (dg : decode cc pc = .ok (.iinc 6 1, 3)) (hc1 : nf_c1 o5 = true) (hn : 6 < nL) (k : nf_V L d cc own nL ret r S2 (pc + 3) (o0 :: o1 :: o2 :: o3 :: o4 :: o5 :: some (.int (x + 1)) :: tl) st S) : nf_V L d cc own nL ret r S2 pc (o0 :: o1 :: o2 :: o3 :: o4 :: o5 :: some (.int x) :: tl) st S := nf_iinc6 dg (by rw [lit1]) hc1 hn k
theorem nf_iincP7 {o0 o1 o2 o3 o4 o5 o6 : Option Value} {tl : List (Option Value)} {x : Int32} (dg : decode cc pc = .ok (.iinc 7 1, 3)) (hc1 : nf_c1 o6 = true) (hn : 7 < nL) (k : nf_V L d cc own nL ret r S2 (pc + 3) (o0 :: o1 :: o2 :: o3 :: o4 :: o5 :: o6 :: some (.int (x + 1)) :: tl) st S) : nf_V L d cc own nL ret r S2 pc (o0 :: o1 :: o2 :: o3 :: o4 :: o5 :: o6 :: some (.int x) :: tl) st S := nf_iinc7 dg (by rw [lit1]) hc1 hn k
theorem nf_iincP8 {o0 o1 o2 o3 o4 o5 o6 o7 : Option Value} {tl : List (Option Value)} {x : Int32} (dg : decode cc pc = .ok (.iinc 8 1, 3)) (hc1 : nf_c1 o7 = true) (hn : 8 < nL) (k : nf_V L d cc own nL ret r S2 (pc + 3) (o0 :: o1 :: o2 :: o3 :: o4 :: o5 :: o6 :: o7 :: some (.int (x + 1)) :: tl) st S) : nf_V L d cc own nL ret r S2 pc (o0 :: o1 :: o2 :: o3 :: o4 :: o5 :: o6 :: o7 :: some (.int x) :: tl) st S := nf_iinc8 dg (by rw [lit1]) hc1 hn k
theorem nf_iincP9 {o0 o1 o2 o3 o4 o5 o6 o7 o8 : Option Value} {tl : List (Option Value)} {x : Int32} (dg : decode cc pc = .ok (.iinc 9 1, 3)) (hc1 : nf_c1 o8 = true) (hn : 9 < nL) (k : nf_V L d cc own nL ret r S2 (pc + 3) (o0 :: o1 :: o2 :: o3 :: o4 :: o5 :: o6 :: o7 :: o8 :: some (.int (x + 1)) :: tl) st S) : nf_V L d cc own nL ret r S2 pc (o0 :: o1 :: o2 :: o3 :: o4 :: o5 :: o6 :: o7 :: o8 :: some (.int x) :: tl) st S := nf_iinc9 dg (by rw [lit1]) hc1 hn k
theorem nf_b0 (b : Bool) : nf_b b = 0 ↔ b = false := by cases b <;> decide
theorem nf_if_eqB {off : Int} {b : Bool} (tgt : Nat) (dg : decode cc pc = .ok (.ifCond .eq off, 3)) (ht : (pc : Int) + off = (tgt : Int)) (kt : b = false → nf_V L d cc own nL ret r S2 tgt ls st S) (kf : b = true → nf_V L d cc own nL ret r S2 (pc + 3) ls st S) : nf_V L d cc own nL ret r S2 pc ls (.int (nf_b b) :: st) S :=
  nf_if_eq tgt dg ht (fun h => kt ((nf_b0 b).mp h)) (fun h => kf (by cases b with | true => rfl | false => exact absurd rfl h))
theorem nf_if_neB {off : Int} {b : Bool} (tgt : Nat) (dg : decode cc pc = .ok (.ifCond .ne off, 3)) (ht : (pc : Int) + off = (tgt : Int)) (kt : b = true → nf_V L d cc own nL ret r S2 tgt ls st S) (kf : b = false → nf_V L d cc own nL ret r S2 (pc + 3) ls st S) : nf_V L d cc own nL ret r S2 pc ls (.int (nf_b b) :: st) S :=
  nf_if_ne tgt dg ht (fun h => kt (by cases b with | true => rfl | false => exact absurd rfl h)) (fun h => kf ((nf_b0 b).mp h))
end NfBase
end
section
/-! the class's small methods -/
def cf_has (s m : Int32) : Bool := !(s &&& ((1 : Int32) <<< (m &&& 31)) == 0)
def cf_below (v b : Int32) : Bool := !decide (v < 0) && !decide (b ≤ v)
def cf_limit (x : Int32) : Bool := !decide (x < 1) && !decide (30 < x)
def cf_slot (c : Int32) : Int32 := if c < -5 then -1 else if -2 < c then -1 else -2 - c
def cf_mix (h : Int64) (v : Int32) : Int64 := 31 * h + v.toInt64
theorem nf_b_t {b : Bool} (h : b = true) : nf_b b = 1 := by rw [h]; rfl
theorem nf_b_f {b : Bool} (h : b = false) : nf_b b = 0 := by rw [h]; rfl
set_option maxRecDepth 100000 in
set_option maxHeartbeats 4000000 in
theorem sp_X5_has {L : nf_L} {S : nf_S} {s m : Int32}  : nf_Sp L 0 yX5_has cX5_has 2 (some .boolean) [.int s, .int m] S (some (.int (nf_b (cf_has s m)))) S := by
  refine nf_start (own := RX5) (ls0 := [some (.int s), some (.int m)]) (by decide) (Nat.le_of_ble_eq_true rfl) rfl rfl ?_
  refine nf_iln (pc := 0) dX5_has_0 rfl ?_
  refine nf_iconst (pc := 1) (v := 1) dX5_has_1 (by decide) ?_
  refine nf_iln (pc := 2) dX5_has_2 rfl ?_
  refine nf_ishl (pc := 3) dX5_has_3 ?_
  refine nf_iand (pc := 4) dX5_has_4 ?_
  refine nf_if_eq (pc := 5) 12 dX5_has_5 (by decide) (fun c_5 => ?_) (fun c_5 => ?_)
  · refine nf_iconst (pc := 12) (v := 0) dX5_has_12 (by decide) ?_
    exact nf_to (by simp [nf_b, cf_has, c_5]) rfl (nf_zret0 (pc := 13) dX5_has_13)
  · refine nf_iconst (pc := 8) (v := 1) dX5_has_8 (by decide) ?_
    refine nf_goto (pc := 9) 13 dX5_has_9 (by decide) ?_
    exact nf_to (by simp [nf_b, cf_has, c_5]) rfl (nf_zret1 (pc := 13) dX5_has_13)
set_option maxRecDepth 100000 in
set_option maxHeartbeats 4000000 in
theorem sp_X5_isBelow {L : nf_L} {S : nf_S} {v b : Int32}  : nf_Sp L 0 yX5_isBelow cX5_isBelow 2 (some .boolean) [.int v, .int b] S (some (.int (nf_b (cf_below v b)))) S := by
  refine nf_start (own := RX5) (ls0 := [some (.int v), some (.int b)]) (by decide) (Nat.le_of_ble_eq_true rfl) rfl rfl ?_
  refine nf_iln (pc := 0) dX5_isBelow_0 rfl ?_
  refine nf_if_lt (pc := 1) 13 dX5_isBelow_1 (by decide) (fun c_1 => ?_) (fun c_1 => ?_)
  · refine nf_iconst (pc := 13) (v := 0) dX5_isBelow_13 (by decide) ?_
    exact nf_to (by simp [nf_b, cf_below, c_1]) rfl (nf_zret0 (pc := 14) dX5_isBelow_14)
  · refine nf_iln (pc := 4) dX5_isBelow_4 rfl ?_
    refine nf_iln (pc := 5) dX5_isBelow_5 rfl ?_
    refine nf_ic_ge (pc := 6) 13 dX5_isBelow_6 (by decide) (fun c_6 => ?_) (fun c_6 => ?_)
    · refine nf_iconst (pc := 13) (v := 0) dX5_isBelow_13 (by decide) ?_
      exact nf_to (by simp [nf_b, cf_below, c_1, c_6]) rfl (nf_zret0 (pc := 14) dX5_isBelow_14)
    · refine nf_iconst (pc := 9) (v := 1) dX5_isBelow_9 (by decide) ?_
      refine nf_goto (pc := 10) 14 dX5_isBelow_10 (by decide) ?_
      exact nf_to (by simp [nf_b, cf_below, c_1, c_6]) rfl (nf_zret1 (pc := 14) dX5_isBelow_14)
set_option maxRecDepth 100000 in
set_option maxHeartbeats 4000000 in
theorem sp_X5_isLimit {L : nf_L} {S : nf_S} {v : Int32}  : nf_Sp L 0 yX5_isLimit cX5_isLimit 1 (some .boolean) [.int v] S (some (.int (nf_b (cf_limit v)))) S := by
  refine nf_start (own := RX5) (ls0 := [some (.int v)]) (by decide) (Nat.le_of_ble_eq_true rfl) rfl rfl ?_
  refine nf_iln (pc := 0) dX5_isLimit_0 rfl ?_
  refine nf_iconst (pc := 1) (v := 1) dX5_isLimit_1 (by decide) ?_
  refine nf_ic_lt (pc := 2) 15 dX5_isLimit_2 (by decide) (fun c_2 => ?_) (fun c_2 => ?_)
  · refine nf_iconst (pc := 15) (v := 0) dX5_isLimit_15 (by decide) ?_
    exact nf_to (by simp [nf_b, cf_limit, c_2]) rfl (nf_zret0 (pc := 16) dX5_isLimit_16)
  · refine nf_iln (pc := 5) dX5_isLimit_5 rfl ?_
    refine nf_bipush (pc := 6) (v := 30) dX5_isLimit_6 (by decide) ?_
    refine nf_ic_gt (pc := 8) 15 dX5_isLimit_8 (by decide) (fun c_8 => ?_) (fun c_8 => ?_)
    · refine nf_iconst (pc := 15) (v := 0) dX5_isLimit_15 (by decide) ?_
      exact nf_to (by simp [nf_b, cf_limit, c_2, c_8]) rfl (nf_zret0 (pc := 16) dX5_isLimit_16)
    · refine nf_iconst (pc := 11) (v := 1) dX5_isLimit_11 (by decide) ?_
      refine nf_goto (pc := 12) 16 dX5_isLimit_12 (by decide) ?_
      exact nf_to (by simp [nf_b, cf_limit, c_2, c_8]) rfl (nf_zret1 (pc := 16) dX5_isLimit_16)
set_option maxRecDepth 100000 in
set_option maxHeartbeats 4000000 in
theorem sp_X5_errorSlot {L : nf_L} {S : nf_S} {v : Int32}  : nf_Sp L 0 yX5_errorSlot cX5_errorSlot 1 (some .int) [.int v] S (some (.int (cf_slot v))) S := by
  refine nf_start (own := RX5) (ls0 := [some (.int v)]) (by decide) (Nat.le_of_ble_eq_true rfl) rfl rfl ?_
  refine nf_iln (pc := 0) dX5_errorSlot_0 rfl ?_
  refine nf_bipush (pc := 1) (v := (-5)) dX5_errorSlot_1 (by decide) ?_
  refine nf_ic_lt (pc := 3) 19 dX5_errorSlot_3 (by decide) (fun c_3 => ?_) (fun c_3 => ?_)
  · refine nf_iconst (pc := 19) (v := (-1)) dX5_errorSlot_19 (by decide) ?_
    exact nf_to (by simp only [cf_slot, if_pos, if_neg, c_3, not_false_eq_true]) rfl (nf_iret (pc := 20) dX5_errorSlot_20)
  · refine nf_iln (pc := 6) dX5_errorSlot_6 rfl ?_
    refine nf_bipush (pc := 7) (v := (-2)) dX5_errorSlot_7 (by decide) ?_
    refine nf_ic_gt (pc := 9) 19 dX5_errorSlot_9 (by decide) (fun c_9 => ?_) (fun c_9 => ?_)
    · refine nf_iconst (pc := 19) (v := (-1)) dX5_errorSlot_19 (by decide) ?_
      exact nf_to (by simp only [cf_slot, if_pos, if_neg, c_3, c_9, not_false_eq_true]) rfl (nf_iret (pc := 20) dX5_errorSlot_20)
    · refine nf_bipush (pc := 12) (v := (-2)) dX5_errorSlot_12 (by decide) ?_
      refine nf_iln (pc := 14) dX5_errorSlot_14 rfl ?_
      refine nf_isub (pc := 15) dX5_errorSlot_15 ?_
      refine nf_goto (pc := 16) 20 dX5_errorSlot_16 (by decide) ?_
      exact nf_to (by simp only [cf_slot, if_pos, if_neg, c_3, c_9, not_false_eq_true]) rfl (nf_iret (pc := 20) dX5_errorSlot_20)
set_option maxRecDepth 100000 in
set_option maxHeartbeats 4000000 in
theorem sp_X5_mix {L : nf_L} {S : nf_S} {h : Int64} {v : Int32}  : nf_Sp L 0 yX5_mix cX5_mix 3 (some .long) [.long h, .int v] S (some (.long (cf_mix h v))) S := by
  refine nf_start (own := RX5) (ls0 := [some (.long h), none, some (.int v)]) (by decide) (Nat.le_of_ble_eq_true rfl) rfl rfl ?_
  refine nf_ldc2 (pc := 0) dX5_mix_0 kc_X5_176 ?_
  refine nf_lln (pc := 3) dX5_mix_3 rfl ?_
  refine nf_lmul (pc := 4) dX5_mix_4 ?_
  refine nf_iln (pc := 5) dX5_mix_5 rfl ?_
  refine nf_i2l (pc := 6) dX5_mix_6 ?_
  refine nf_ladd (pc := 7) dX5_mix_7 ?_
  exact nf_lret (pc := 8) dX5_mix_8
set_option maxRecDepth 100000 in
set_option maxHeartbeats 4000000 in
theorem sp_X4_slot {L : nf_L} {S : nf_S} {a b : Nat}  : nf_Sp L 0 yX4_slot cX4_slot 2 (some .int) [.int (nI a), .int (nI b)] S (some (.int (nI (a * 6 + b)))) S := by
  refine nf_start (own := RX4) (ls0 := [some (.int (nI a)), some (.int (nI b))]) (by decide) (Nat.le_of_ble_eq_true rfl) rfl rfl ?_
  refine nf_iln (pc := 0) dX4_slot_0 rfl ?_
  refine nf_bipush (pc := 1) (v := 6) dX4_slot_1 (by decide) ?_
  refine nf_imulI (pc := 3) (a := a) (b := 6) dX4_slot_3 ?_
  refine nf_iln (pc := 4) dX4_slot_4 rfl ?_
  refine nf_iaddI (pc := 5) (a := (a * 6)) (b := b) dX4_slot_5 ?_
  exact nf_iret (pc := 6) dX4_slot_6
set_option maxRecDepth 100000 in
set_option maxHeartbeats 4000000 in
theorem sp_X1_carries {L : nf_L} {S : nf_S} {n h : Nat} {x : Int32} (hn : n < 5) (hh : h < 6) : nf_Sp L 1 yX1_carries cX1_carries 2 (some .boolean) [.ref (L.2.2 (4, n, 0, h)), .int x] S (some (.int (nf_b (cf_has (nf_I S n 4 h) x)))) S := by
  refine nf_start (own := RX1) (ls0 := [some (.ref (L.2.2 (4, n, 0, h))), some (.int x)]) (by decide) (Nat.le_of_ble_eq_true rfl) rfl rfl ?_
  refine nf_aln (pc := 0) dX1_carries_0 rfl ?_
  refine gf_X1_groups hn hh (pc := 1) lk_X1_9 dX1_carries_1 ?_
  refine nf_iln (pc := 4) dX1_carries_4 rfl ?_
  refine nf_cNi2 (pc := 5) sp_X5_has mn_X1_31 st_X5_has nm_X5_has ⟨by decide, by decide⟩ (Nat.le_of_ble_eq_true rfl) dX1_carries_5 ?_
  exact nf_zretb (pc := 8) dX1_carries_8
set_option maxRecDepth 100000 in
set_option maxHeartbeats 4000000 in
theorem sp_X1_stores {L : nf_L} {S : nf_S} {n h : Nat} {x : Int32} (hn : n < 5) (hh : h < 6) : nf_Sp L 1 yX1_stores cX1_stores 2 (some .boolean) [.ref (L.2.2 (4, n, 0, h)), .int x] S (some (.int (nf_b (cf_has (nf_I S n 5 h) x)))) S := by
  refine nf_start (own := RX1) (ls0 := [some (.ref (L.2.2 (4, n, 0, h))), some (.int x)]) (by decide) (Nat.le_of_ble_eq_true rfl) rfl rfl ?_
  refine nf_aln (pc := 0) dX1_stores_0 rfl ?_
  refine gf_X1_store hn hh (pc := 1) lk_X1_15 dX1_stores_1 ?_
  refine nf_iln (pc := 4) dX1_stores_4 rfl ?_
  refine nf_cNi2 (pc := 5) sp_X5_has mn_X1_31 st_X5_has nm_X5_has ⟨by decide, by decide⟩ (Nat.le_of_ble_eq_true rfl) dX1_stores_5 ?_
  exact nf_zretb (pc := 8) dX1_stores_8
set_option maxRecDepth 100000 in
set_option maxHeartbeats 4000000 in
theorem sp_X1_knows {L : nf_L} {S : nf_S} {n h : Nat} {a : Nat} (hn : n < 5) (hh : h < 6) (ha : a < 30) : nf_Sp L 0 yX1_knows cX1_knows 2 (some .boolean) [.ref (L.2.2 (4, n, 0, h)), .int (nI a)] S (some (.int (nf_b (!(nf_A S n 12 h a == -1))))) S := by
  refine nf_start (own := RX1) (ls0 := [some (.ref (L.2.2 (4, n, 0, h))), some (.int (nI a))]) (by decide) (Nat.le_of_ble_eq_true rfl) rfl rfl ?_
  refine nf_aln (pc := 0) dX1_knows_0 rfl ?_
  refine gf_X1_historyDay hn hh (pc := 1) lk_X1_18 dX1_knows_1 ?_
  refine nf_iln (pc := 4) dX1_knows_4 rfl ?_
  refine nf_ialdI (pc := 5) (k := a) (nf_ok12 hn hh) ha dX1_knows_5 ?_
  refine nf_iconst (pc := 6) (v := (-1)) dX1_knows_6 (by decide) ?_
  refine nf_ic_eq (pc := 7) 14 dX1_knows_7 (by decide) (fun c_7 => ?_) (fun c_7 => ?_)
  · refine nf_iconst (pc := 14) (v := 0) dX1_knows_14 (by decide) ?_
    exact nf_to (by simp_all [nf_b]) rfl (nf_zret0 (pc := 15) dX1_knows_15)
  · refine nf_iconst (pc := 10) (v := 1) dX1_knows_10 (by decide) ?_
    refine nf_goto (pc := 11) 15 dX1_knows_11 (by decide) ?_
    exact nf_to (by simp_all [nf_b]) rfl (nf_zret1 (pc := 15) dX1_knows_15)
set_option maxRecDepth 100000 in
set_option maxHeartbeats 4000000 in
theorem sp_X1_keep {L : nf_L} {S : nf_S} {n h : Nat} {x : Int32} (hn : n < 5) (hh : h < 6) : nf_Sp L 0 yX1_keep cX1_keep 2 none [.ref (L.2.2 (4, n, 0, h)), .int x] S none (nf_sI S n 5 h (nf_I S n 5 h ||| ((1 : Int32) <<< (x &&& 31)))) := by
  refine nf_start (own := RX1) (ls0 := [some (.ref (L.2.2 (4, n, 0, h))), some (.int x)]) (by decide) (Nat.le_of_ble_eq_true rfl) rfl rfl ?_
  refine nf_aln (pc := 0) dX1_keep_0 rfl ?_
  refine nf_dup (pc := 1) dX1_keep_1 rfl ?_
  refine gf_X1_store hn hh (pc := 2) lk_X1_15 dX1_keep_2 ?_
  refine nf_iconst (pc := 5) (v := 1) dX1_keep_5 (by decide) ?_
  refine nf_iln (pc := 6) dX1_keep_6 rfl ?_
  refine nf_ishl (pc := 7) dX1_keep_7 ?_
  refine nf_ior (pc := 8) dX1_keep_8 ?_
  refine pf_X1_store hn hh (pc := 9) lk_X1_15 dX1_keep_9 ?_
  exact nf_vret (pc := 12) dX1_keep_12
set_option maxRecDepth 100000 in
set_option maxHeartbeats 4000000 in
theorem sp_X1_drop {L : nf_L} {S : nf_S} {n h : Nat} {x : Int32} (hn : n < 5) (hh : h < 6) : nf_Sp L 0 yX1_drop cX1_drop 2 none [.ref (L.2.2 (4, n, 0, h)), .int x] S none (nf_sI S n 5 h (nf_I S n 5 h &&& (((1 : Int32) <<< (x &&& 31)) ^^^ -1))) := by
  refine nf_start (own := RX1) (ls0 := [some (.ref (L.2.2 (4, n, 0, h))), some (.int x)]) (by decide) (Nat.le_of_ble_eq_true rfl) rfl rfl ?_
  refine nf_aln (pc := 0) dX1_drop_0 rfl ?_
  refine nf_dup (pc := 1) dX1_drop_1 rfl ?_
  refine gf_X1_store hn hh (pc := 2) lk_X1_15 dX1_drop_2 ?_
  refine nf_iconst (pc := 5) (v := 1) dX1_drop_5 (by decide) ?_
  refine nf_iln (pc := 6) dX1_drop_6 rfl ?_
  refine nf_ishl (pc := 7) dX1_drop_7 ?_
  refine nf_iconst (pc := 8) (v := (-1)) dX1_drop_8 (by decide) ?_
  refine nf_ixor (pc := 9) dX1_drop_9 ?_
  refine nf_iand (pc := 10) dX1_drop_10 ?_
  refine pf_X1_store hn hh (pc := 11) lk_X1_15 dX1_drop_11 ?_
  exact nf_vret (pc := 14) dX1_drop_14
set_option maxRecDepth 100000 in
set_option maxHeartbeats 4000000 in
theorem sp_X1_addCancel {L : nf_L} {S : nf_S} {n h : Nat} {a : Nat} {x : Int32} (hn : n < 5) (hh : h < 6) (ha : a < 30) : nf_Sp L 0 yX1_addCancel cX1_addCancel 3 none [.ref (L.2.2 (4, n, 0, h)), .int (nI a), .int x] S none (nf_sA S n 13 h (upd (nf_A S n 13 h) a (nf_A S n 13 h a ||| ((1 : Int32) <<< (x &&& 31))))) := by
  refine nf_start (own := RX1) (ls0 := [some (.ref (L.2.2 (4, n, 0, h))), some (.int (nI a)), some (.int x)]) (by decide) (Nat.le_of_ble_eq_true rfl) rfl rfl ?_
  refine nf_aln (pc := 0) dX1_addCancel_0 rfl ?_
  refine gf_X1_cancelAuthors hn hh (pc := 1) lk_X1_22 dX1_addCancel_1 ?_
  refine nf_iln (pc := 4) dX1_addCancel_4 rfl ?_
  refine nf_dup2 (pc := 5) dX1_addCancel_5 rfl rfl ?_
  refine nf_ialdI (pc := 6) (k := a) (nf_ok13 hn hh) ha dX1_addCancel_6 ?_
  refine nf_iconst (pc := 7) (v := 1) dX1_addCancel_7 (by decide) ?_
  refine nf_iln (pc := 8) dX1_addCancel_8 rfl ?_
  refine nf_ishl (pc := 9) dX1_addCancel_9 ?_
  refine nf_ior (pc := 10) dX1_addCancel_10 ?_
  refine nf_iastI (pc := 11) (k := a) (nf_ok13 hn hh) ha dX1_addCancel_11 ?_
  exact nf_vret (pc := 12) dX1_addCancel_12
end
section
/-! Integer.bitCount, Arrays.fill, Links, Queue, Host: loops -/
def cf_sh (x : Int32) (k : Int32) : Int32 := (x.toUInt32 >>> (k.toUInt32 &&& Int32.toUInt32 31)).toInt32
def cf_b1 (x : Int32) : Int32 := x - (cf_sh x 1 &&& 1431655765)
def cf_b2 (x : Int32) : Int32 := (x &&& 858993459) + (cf_sh x 2 &&& 858993459)
def cf_b3 (x : Int32) : Int32 := (x + cf_sh x 4) &&& 252645135
def cf_b4 (x : Int32) : Int32 := x + cf_sh x 8
def cf_b5 (x : Int32) : Int32 := x + cf_sh x 16
def cf_bits (x : Int32) : Int32 := cf_b5 (cf_b4 (cf_b3 (cf_b2 (cf_b1 x)))) &&& 63
def cf_btw (F G : Nat → Int32) (a b : Int32) (k : Nat) : Nat → Int32
  | 0 => -1
  | m + 1 => if (F k = a ∧ G k = b) ∨ (F k = b ∧ G k = a) then nI k else cf_btw F G a b (k + 1) m
def cf_nb (F G : Nat → Int32) (s : Int32) (k : Nat) : Nat → Int32 → Int32
  | 0, acc => acc
  | m + 1, acc => cf_nb F G s (k + 1) m ((if cf_has s (G k) then (if cf_has s (F k) then acc ||| ((1 : Int32) <<< (G k &&& 31)) else acc) ||| ((1 : Int32) <<< (F k &&& 31)) else (if cf_has s (F k) then acc ||| ((1 : Int32) <<< (G k &&& 31)) else acc)))
def cf_sum (f : Nat → Int32) (k : Nat) : Nat → Int32 → Int32
  | 0, acc => acc
  | m + 1, acc => cf_sum f (k + 1) m (acc + cf_bits (f k))
def cf_shift (f : Nat → Int32) (a b : Nat) : Nat → Int32 := fun j => if a ≤ j ∧ j < b then f (j + 1) else f j
theorem cf_shift_self (f : Nat → Int32) (a : Nat) : cf_shift f a a = f := by
  funext j; simp only [cf_shift]; rw [if_neg (by omega)]
theorem cf_shift_step (f : Nat → Int32) (a k : Nat) (h : a ≤ k) : upd (cf_shift f a k) k (cf_shift f a k (k + 1)) = cf_shift f a (k + 1) := by
  funext j
  simp only [upd, cf_shift]
  by_cases hj : j = k
  · subst hj
    rw [if_pos rfl, if_neg (by omega), if_pos (by omega)]
  · rw [if_neg hj]
    by_cases h2 : a ≤ j ∧ j < k
    · rw [if_pos h2, if_pos (by omega)]
    · rw [if_neg h2, if_neg (by omega)]
def cf_fill (f : Nat → Int32) (v : Int32) (k : Nat) : Nat → Int32 := fun j => if j < k then v else f j
theorem cf_fill_step (f : Nat → Int32) (v : Int32) (k : Nat) : upd (cf_fill f v k) k v = cf_fill f v (k + 1) := by
  funext j
  simp only [upd, cf_fill]
  by_cases hj : j = k
  · subst hj; simp
  · rw [if_neg hj]
    by_cases h2 : j < k
    · rw [if_pos h2, if_pos (by omega)]
    · rw [if_neg h2, if_neg (by omega)]
theorem cf_fill_0 (f : Nat → Int32) (v : Int32) : cf_fill f v 0 = f := by funext j; simp [cf_fill]
theorem nf_sA_sA (S : nf_S) (n c h : Nat) (f g : Nat → Int32) : nf_sA (nf_sA S n c h f) n c h g = nf_sA S n c h g := by
  unfold nf_sA
  refine Prod.ext rfl (Prod.ext ?_ rfl)
  funext a b e
  by_cases hq : a = n ∧ b = c ∧ e = h
  · simp [hq]
  · simp only [if_neg hq]
theorem nf_sA_self (S : nf_S) (n c h : Nat) : nf_sA S n c h (nf_A S n c h) = S := by
  unfold nf_sA
  refine Prod.ext rfl (Prod.ext ?_ rfl)
  funext a b e
  by_cases hq : a = n ∧ b = c ∧ e = h
  · obtain ⟨rfl, rfl, rfl⟩ := hq; simp [nf_A]
  · simp only [if_neg hq]
theorem nf_sO_sO (S : nf_S) (x : Nat) (f g : Nat → Int32) : nf_sO (nf_sO S x f) x g = nf_sO S x g := by
  unfold nf_sO
  refine Prod.ext rfl (Prod.ext rfl (Prod.ext ?_ rfl))
  funext a
  by_cases hq : a = x
  · simp [hq]
  · simp only [if_neg hq]
theorem nf_sO_self (S : nf_S) (x : Nat) : nf_sO S x (nf_O S x) = S := by
  unfold nf_sO
  refine Prod.ext rfl (Prod.ext rfl (Prod.ext ?_ rfl))
  funext a
  by_cases hq : a = x
  · subst hq; simp [nf_O]
  · simp only [if_neg hq]
theorem cf_below_I {a b : Nat} (ha : a < 2 ^ 31) (hb : b < 2 ^ 31) : cf_below (nI a) (nI b) = decide (a < b) := by
  simp only [cf_below, decide_eq_false (nI_pos ha), Bool.not_false, Bool.true_and]
  by_cases h : a < b
  · rw [decide_eq_false (nI_ge h hb)]; simp [h]
  · rw [decide_eq_true (nI_le (by omega) ha)]; simp [h]
/-- the links behind the place a moved down, up to k; the count is cnt -/
def cs_del (S : nf_S) (n cnt a k : Nat) : nf_S := nf_sA (nf_sA (nf_sA (nf_sI S n 2 0 (nI cnt)) n 2 0 (cf_shift (nf_A S n 2 0) a k)) n 3 0 (cf_shift (nf_A S n 3 0) a k)) n 4 0 (cf_shift (nf_A S n 4 0) a k)
theorem cs_del_n {S : nf_S} {n cnt a k : Nat} : nf_I (cs_del S n cnt a k) n 2 0 = nI cnt := by simp [cs_del, nf_I_sA, nf_I_sI]

theorem cs_del_0 (S : nf_S) (n cnt a : Nat) : cs_del S n cnt a a = nf_sI S n 2 0 (nI cnt) := by
  refine nf_ext (fun n' c' h' => ?_) (fun n' c' h' => ?_) (fun x => rfl) (fun j => rfl) rfl
  · rfl
  · simp only [cs_del, nf_A_sA, nf_A_sI, cf_shift_self]
    repeat' split
    all_goals simp_all
theorem cs_del_A (S : nf_S) (n cnt a k c' : Nat) : nf_A (cs_del S n cnt a k) n c' 0 = if c' = 4 then cf_shift (nf_A S n 4 0) a k else if c' = 3 then cf_shift (nf_A S n 3 0) a k else if c' = 2 then cf_shift (nf_A S n 2 0) a k else nf_A S n c' 0 := by
  simp only [cs_del, nf_A_sA, nf_A_sI, true_and, and_true]
theorem cs_del_step (S : nf_S) (n cnt a k : Nat) (h : a ≤ k) : nf_sA (nf_sA (nf_sA (cs_del S n cnt a k) n 2 0 (upd (cf_shift (nf_A S n 2 0) a k) k (cf_shift (nf_A S n 2 0) a k (k + 1)))) n 3 0 (upd (cf_shift (nf_A S n 3 0) a k) k (cf_shift (nf_A S n 3 0) a k (k + 1)))) n 4 0 (upd (cf_shift (nf_A S n 4 0) a k) k (cf_shift (nf_A S n 4 0) a k (k + 1))) = cs_del S n cnt a (k + 1) := by
  simp only [cf_shift_step _ _ _ h]
  refine nf_ext (fun n' c' h' => rfl) (fun n' c' h' => ?_) (fun x => rfl) (fun j => rfl) rfl
  simp only [cs_del, nf_A_sA, nf_A_sI]
  repeat' split
  all_goals simp_all

set_option maxRecDepth 100000 in
set_option maxHeartbeats 4000000 in
theorem sp_J6_bitCount_0f7a4 {L : nf_L} {S : nf_S} {x : Int32}  : nf_Sp L 0 yJ6_bitCount_0f7a4 cJ6_bitCount_0f7a4 1 (some .int) [.int x] S (some (.int (cf_bits x))) S := by
  refine nf_start (own := RJ6) (ls0 := [some (.int x)]) (by decide) (Nat.le_of_ble_eq_true rfl) rfl rfl ?_
  refine nf_iln (pc := 0) dJ6_bitCount_0f7a4_0 rfl ?_
  refine nf_iln (pc := 1) dJ6_bitCount_0f7a4_1 rfl ?_
  refine nf_iconst (pc := 2) (v := 1) dJ6_bitCount_0f7a4_2 (by decide) ?_
  refine nf_iushr (pc := 3) dJ6_bitCount_0f7a4_3 rfl ?_
  refine nf_ldcw (pc := 4) dJ6_bitCount_0f7a4_4 kc_J6_265 ?_
  refine nf_iand (pc := 7) dJ6_bitCount_0f7a4_7 ?_
  refine nf_isub (pc := 8) dJ6_bitCount_0f7a4_8 ?_
  refine nf_is0 (pc := 9) dJ6_bitCount_0f7a4_9 (by decide) ?_
  refine nf_iln (pc := 10) dJ6_bitCount_0f7a4_10 rfl ?_
  refine nf_ldcw (pc := 11) dJ6_bitCount_0f7a4_11 kc_J6_266 ?_
  refine nf_iand (pc := 14) dJ6_bitCount_0f7a4_14 ?_
  refine nf_iln (pc := 15) dJ6_bitCount_0f7a4_15 rfl ?_
  refine nf_iconst (pc := 16) (v := 2) dJ6_bitCount_0f7a4_16 (by decide) ?_
  refine nf_iushr (pc := 17) dJ6_bitCount_0f7a4_17 rfl ?_
  refine nf_ldcw (pc := 18) dJ6_bitCount_0f7a4_18 kc_J6_266 ?_
  refine nf_iand (pc := 21) dJ6_bitCount_0f7a4_21 ?_
  refine nf_iadd (pc := 22) dJ6_bitCount_0f7a4_22 ?_
  refine nf_is0 (pc := 23) dJ6_bitCount_0f7a4_23 (by decide) ?_
  refine nf_iln (pc := 24) dJ6_bitCount_0f7a4_24 rfl ?_
  refine nf_iln (pc := 25) dJ6_bitCount_0f7a4_25 rfl ?_
  refine nf_iconst (pc := 26) (v := 4) dJ6_bitCount_0f7a4_26 (by decide) ?_
  refine nf_iushr (pc := 27) dJ6_bitCount_0f7a4_27 rfl ?_
  refine nf_iadd (pc := 28) dJ6_bitCount_0f7a4_28 ?_
  refine nf_ldcw (pc := 29) dJ6_bitCount_0f7a4_29 kc_J6_267 ?_
  refine nf_iand (pc := 32) dJ6_bitCount_0f7a4_32 ?_
  refine nf_is0 (pc := 33) dJ6_bitCount_0f7a4_33 (by decide) ?_
  refine nf_iln (pc := 34) dJ6_bitCount_0f7a4_34 rfl ?_
  refine nf_iln (pc := 35) dJ6_bitCount_0f7a4_35 rfl ?_
  refine nf_bipush (pc := 36) (v := 8) dJ6_bitCount_0f7a4_36 (by decide) ?_
  refine nf_iushr (pc := 38) dJ6_bitCount_0f7a4_38 rfl ?_
  refine nf_iadd (pc := 39) dJ6_bitCount_0f7a4_39 ?_
  refine nf_is0 (pc := 40) dJ6_bitCount_0f7a4_40 (by decide) ?_
  refine nf_iln (pc := 41) dJ6_bitCount_0f7a4_41 rfl ?_
  refine nf_iln (pc := 42) dJ6_bitCount_0f7a4_42 rfl ?_
  refine nf_bipush (pc := 43) (v := 16) dJ6_bitCount_0f7a4_43 (by decide) ?_
  refine nf_iushr (pc := 45) dJ6_bitCount_0f7a4_45 rfl ?_
  refine nf_iadd (pc := 46) dJ6_bitCount_0f7a4_46 ?_
  refine nf_is0 (pc := 47) dJ6_bitCount_0f7a4_47 (by decide) ?_
  refine nf_iln (pc := 48) dJ6_bitCount_0f7a4_48 rfl ?_
  refine nf_bipush (pc := 49) (v := 63) dJ6_bitCount_0f7a4_49 (by decide) ?_
  refine nf_iand (pc := 51) dJ6_bitCount_0f7a4_51 ?_
  exact nf_iret (pc := 52) dJ6_bitCount_0f7a4_52
set_option maxRecDepth 100000 in
set_option maxHeartbeats 4000000 in
theorem lp_fill {L : nf_L} {S0 : nf_S} {n c h : Nat} {v : Int32} (hq : nf_ok (9, n, c, h)) : ∀ (m : Nat) (k : Nat), (k + m = nf_len c) → nf_V L 0 cJ7_fill_53178 RJ7 4 none none (nf_sA S0 n c h (cf_fill (nf_A S0 n c h) v (nf_len c))) 5 [some (.ref (L.2.2 (9, n, c, h))), some (.int v), some (.int (nI k)), some (.int (nI (nf_len c)))] [] (nf_sA S0 n c h (cf_fill (nf_A S0 n c h) v k)) := by
  intro m
  induction m with
  | zero =>
    intro k hk
    have hz := nf_len_lt c
    refine nf_iln (pc := 5) dJ7_fill_53178_5 rfl ?_
    refine nf_iln (pc := 6) dJ7_fill_53178_6 rfl ?_
    refine nf_ic_ge (pc := 7) 20 dJ7_fill_53178_7 (by decide) (fun c_7 => ?_) (fun c_7 => ?_)
    · exact nf_to rfl (by rw [show nf_len c = k by omega]) (nf_vret (pc := 20) dJ7_fill_53178_20)
    · exact absurd (nI_le (by omega) (by omega)) c_7
  | succ m ih =>
    intro k hk
    have hz := nf_len_lt c
    refine nf_iln (pc := 5) dJ7_fill_53178_5 rfl ?_
    refine nf_iln (pc := 6) dJ7_fill_53178_6 rfl ?_
    refine nf_ic_ge (pc := 7) 20 dJ7_fill_53178_7 (by decide) (fun c_7 => ?_) (fun c_7 => ?_)
    · exact absurd c_7 (nI_ge (by omega) (by omega))
    · refine nf_aln (pc := 10) dJ7_fill_53178_10 rfl ?_
      refine nf_iln (pc := 11) dJ7_fill_53178_11 rfl ?_
      refine nf_iln (pc := 12) dJ7_fill_53178_12 rfl ?_
      refine nf_iastI (pc := 13) (k := k) hq (by omega) dJ7_fill_53178_13 ?_
      refine nf_iinc2 (pc := 14) (v := nI (k + 1)) dJ7_fill_53178_14 (nI_succ (k)).symm rfl (by decide) ?_
      refine nf_goto (pc := 17) 5 dJ7_fill_53178_17 (by decide) ?_
      exact nf_to rfl rfl (by rw [nf_A_sA, if_pos ⟨rfl, rfl, rfl⟩, cf_fill_step, nf_sA_sA]; exact ih (k + 1) (by omega))
set_option maxRecDepth 100000 in
set_option maxHeartbeats 4000000 in
theorem sp_J7_fill_53178 {L : nf_L} {S : nf_S} {n c h : Nat} {v : Int32} (hq : nf_ok (9, n, c, h)) : nf_Sp L 0 yJ7_fill_53178 cJ7_fill_53178 4 none [.ref (L.2.2 (9, n, c, h)), .int v] S none (nf_sA S n c h (cf_fill (nf_A S n c h) v (nf_len c))) := by
  refine nf_start (own := RJ7) (ls0 := [some (.ref (L.2.2 (9, n, c, h))), some (.int v), none, none]) (by decide) (Nat.le_of_ble_eq_true rfl) rfl rfl ?_
  refine nf_iconst (pc := 0) (v := 0) dJ7_fill_53178_0 (by decide) ?_
  refine nf_is2 (pc := 1) dJ7_fill_53178_1 rfl (by decide) ?_
  refine nf_aln (pc := 2) dJ7_fill_53178_2 rfl ?_
  refine nf_alen (pc := 3) (v := nI (nf_len c)) hq rfl dJ7_fill_53178_3 ?_
  refine nf_is3 (pc := 4) dJ7_fill_53178_4 rfl (by decide) ?_
  have h0 := lp_fill (L := L) (S0 := S) (v := v) hq (nf_len c) 0 (by omega)
  rw [cf_fill_0, nf_sA_self] at h0
  exact h0
set_option maxRecDepth 100000 in
set_option maxHeartbeats 4000000 in
theorem lp_between {L : nf_L} {S : nf_S} {n cnt : Nat} {a b : Int32} (hn : n < 5) (hc : nf_I S n 2 0 = nI cnt) (hcnt : cnt ≤ 12) : ∀ (m : Nat) (k : Nat) (o4 o5 : Option Value), (k + m = cnt) → nf_V L 0 cX2_between RX2 6 (some .int) (some (.int (cf_btw (nf_A S n 2 0) (nf_A S n 3 0) a b k m))) S 2 [some (.ref (L.2.2 (2, n, 0, 0))), some (.int a), some (.int b), some (.int (nI k)), o4, o5] [] S := by
  intro m
  induction m with
  | zero =>
    intro k o4 o5 hk
    refine nf_iln (pc := 2) dX2_between_2 rfl ?_
    refine nf_aln (pc := 3) dX2_between_3 rfl ?_
    refine gf_X2_count hn (pc := 4) lk_X2_9 dX2_between_4 ?_
    refine nf_topI (y := nI (cnt)) hc ?_
    refine nf_ic_ge (pc := 7) 82 dX2_between_7 (by decide) (fun c_7 => ?_) (fun c_7 => ?_)
    · refine nf_iconst (pc := 82) (v := (-1)) dX2_between_82 (by decide) ?_
      exact (nf_iret (pc := 83) dX2_between_83)
    · exact absurd (nI_le (by omega) (by omega)) c_7
  | succ m ih =>
    intro k o4 o5 hk
    refine nf_iln (pc := 2) dX2_between_2 rfl ?_
    refine nf_aln (pc := 3) dX2_between_3 rfl ?_
    refine gf_X2_count hn (pc := 4) lk_X2_9 dX2_between_4 ?_
    refine nf_topI (y := nI (cnt)) hc ?_
    refine nf_ic_ge (pc := 7) 82 dX2_between_7 (by decide) (fun c_7 => ?_) (fun c_7 => ?_)
    · exact absurd c_7 (nI_ge (by omega) (by omega))
    · refine nf_aln (pc := 10) dX2_between_10 rfl ?_
      refine gf_X2_first hn (pc := 11) lk_X2_15 dX2_between_11 ?_
      refine nf_iln (pc := 14) dX2_between_14 rfl ?_
      refine nf_ialdI (pc := 15) (k := k) (nf_okA hn (by decide)) (show _ < 12 by omega) dX2_between_15 ?_
      refine nf_iln (pc := 16) dX2_between_16 rfl ?_
      refine nf_ic_ne (pc := 17) 34 dX2_between_17 (by decide) (fun c_17 => ?_) (fun c_17 => ?_)
      · refine nf_iconst (pc := 34) (v := 0) dX2_between_34 (by decide) ?_
        refine nf_is4 (pc := 35) dX2_between_35 rfl (by decide) ?_
        refine nf_aln (pc := 37) dX2_between_37 rfl ?_
        refine gf_X2_first hn (pc := 38) lk_X2_15 dX2_between_38 ?_
        refine nf_iln (pc := 41) dX2_between_41 rfl ?_
        refine nf_ialdI (pc := 42) (k := k) (nf_okA hn (by decide)) (show _ < 12 by omega) dX2_between_42 ?_
        refine nf_iln (pc := 43) dX2_between_43 rfl ?_
        refine nf_ic_ne (pc := 44) 61 dX2_between_44 (by decide) (fun c_44 => ?_) (fun c_44 => ?_)
        · refine nf_iconst (pc := 61) (v := 0) dX2_between_61 (by decide) ?_
          refine nf_is5 (pc := 62) dX2_between_62 rfl (by decide) ?_
          refine nf_il (pc := 64) dX2_between_64 rfl ?_
          refine nf_if_ne (pc := 66) 74 dX2_between_66 (by decide) (fun h => absurd h (by decide)) (fun _ => ?_)
          refine nf_il (pc := 69) dX2_between_69 rfl ?_
          refine nf_if_eq (pc := 71) 76 dX2_between_71 (by decide) (fun _ => ?_) (fun h => absurd h (by decide))
          refine nf_iinc3 (pc := 76) (v := nI (k + 1)) dX2_between_76 (nI_succ (k)).symm rfl (by decide) ?_
          refine nf_goto (pc := 79) 2 dX2_between_79 (by decide) ?_
          exact nf_to (by simp only [cf_btw]; rw [if_neg (by simp_all)]) rfl (ih (k + 1) _ _ (by omega))
        · refine nf_aln (pc := 47) dX2_between_47 rfl ?_
          refine gf_X2_second hn (pc := 48) lk_X2_19 dX2_between_48 ?_
          refine nf_iln (pc := 51) dX2_between_51 rfl ?_
          refine nf_ialdI (pc := 52) (k := k) (nf_okA hn (by decide)) (show _ < 12 by omega) dX2_between_52 ?_
          refine nf_iln (pc := 53) dX2_between_53 rfl ?_
          refine nf_ic_ne (pc := 54) 61 dX2_between_54 (by decide) (fun c_54 => ?_) (fun c_54 => ?_)
          · refine nf_iconst (pc := 61) (v := 0) dX2_between_61 (by decide) ?_
            refine nf_is5 (pc := 62) dX2_between_62 rfl (by decide) ?_
            refine nf_il (pc := 64) dX2_between_64 rfl ?_
            refine nf_if_ne (pc := 66) 74 dX2_between_66 (by decide) (fun h => absurd h (by decide)) (fun _ => ?_)
            refine nf_il (pc := 69) dX2_between_69 rfl ?_
            refine nf_if_eq (pc := 71) 76 dX2_between_71 (by decide) (fun _ => ?_) (fun h => absurd h (by decide))
            refine nf_iinc3 (pc := 76) (v := nI (k + 1)) dX2_between_76 (nI_succ (k)).symm rfl (by decide) ?_
            refine nf_goto (pc := 79) 2 dX2_between_79 (by decide) ?_
            exact nf_to (by simp only [cf_btw]; rw [if_neg (by simp_all)]) rfl (ih (k + 1) _ _ (by omega))
          · refine nf_iconst (pc := 57) (v := 1) dX2_between_57 (by decide) ?_
            refine nf_goto (pc := 58) 62 dX2_between_58 (by decide) ?_
            refine nf_is5 (pc := 62) dX2_between_62 rfl (by decide) ?_
            refine nf_il (pc := 64) dX2_between_64 rfl ?_
            refine nf_if_ne (pc := 66) 74 dX2_between_66 (by decide) (fun h => absurd h (by decide)) (fun _ => ?_)
            refine nf_il (pc := 69) dX2_between_69 rfl ?_
            refine nf_if_eq (pc := 71) 76 dX2_between_71 (by decide) (fun h => absurd h (by decide)) (fun _ => ?_)
            refine nf_iln (pc := 74) dX2_between_74 rfl ?_
            exact nf_to (by simp only [cf_btw]; rw [if_pos (by simp_all)]) rfl (nf_iret (pc := 75) dX2_between_75)
      · refine nf_aln (pc := 20) dX2_between_20 rfl ?_
        refine gf_X2_second hn (pc := 21) lk_X2_19 dX2_between_21 ?_
        refine nf_iln (pc := 24) dX2_between_24 rfl ?_
        refine nf_ialdI (pc := 25) (k := k) (nf_okA hn (by decide)) (show _ < 12 by omega) dX2_between_25 ?_
        refine nf_iln (pc := 26) dX2_between_26 rfl ?_
        refine nf_ic_ne (pc := 27) 34 dX2_between_27 (by decide) (fun c_27 => ?_) (fun c_27 => ?_)
        · refine nf_iconst (pc := 34) (v := 0) dX2_between_34 (by decide) ?_
          refine nf_is4 (pc := 35) dX2_between_35 rfl (by decide) ?_
          refine nf_aln (pc := 37) dX2_between_37 rfl ?_
          refine gf_X2_first hn (pc := 38) lk_X2_15 dX2_between_38 ?_
          refine nf_iln (pc := 41) dX2_between_41 rfl ?_
          refine nf_ialdI (pc := 42) (k := k) (nf_okA hn (by decide)) (show _ < 12 by omega) dX2_between_42 ?_
          refine nf_iln (pc := 43) dX2_between_43 rfl ?_
          refine nf_ic_ne (pc := 44) 61 dX2_between_44 (by decide) (fun c_44 => ?_) (fun c_44 => ?_)
          · refine nf_iconst (pc := 61) (v := 0) dX2_between_61 (by decide) ?_
            refine nf_is5 (pc := 62) dX2_between_62 rfl (by decide) ?_
            refine nf_il (pc := 64) dX2_between_64 rfl ?_
            refine nf_if_ne (pc := 66) 74 dX2_between_66 (by decide) (fun h => absurd h (by decide)) (fun _ => ?_)
            refine nf_il (pc := 69) dX2_between_69 rfl ?_
            refine nf_if_eq (pc := 71) 76 dX2_between_71 (by decide) (fun _ => ?_) (fun h => absurd h (by decide))
            refine nf_iinc3 (pc := 76) (v := nI (k + 1)) dX2_between_76 (nI_succ (k)).symm rfl (by decide) ?_
            refine nf_goto (pc := 79) 2 dX2_between_79 (by decide) ?_
            exact nf_to (by simp only [cf_btw]; rw [if_neg (by simp_all)]) rfl (ih (k + 1) _ _ (by omega))
          · refine nf_aln (pc := 47) dX2_between_47 rfl ?_
            refine gf_X2_second hn (pc := 48) lk_X2_19 dX2_between_48 ?_
            refine nf_iln (pc := 51) dX2_between_51 rfl ?_
            refine nf_ialdI (pc := 52) (k := k) (nf_okA hn (by decide)) (show _ < 12 by omega) dX2_between_52 ?_
            refine nf_iln (pc := 53) dX2_between_53 rfl ?_
            refine nf_ic_ne (pc := 54) 61 dX2_between_54 (by decide) (fun c_54 => ?_) (fun c_54 => ?_)
            · refine nf_iconst (pc := 61) (v := 0) dX2_between_61 (by decide) ?_
              refine nf_is5 (pc := 62) dX2_between_62 rfl (by decide) ?_
              refine nf_il (pc := 64) dX2_between_64 rfl ?_
              refine nf_if_ne (pc := 66) 74 dX2_between_66 (by decide) (fun h => absurd h (by decide)) (fun _ => ?_)
              refine nf_il (pc := 69) dX2_between_69 rfl ?_
              refine nf_if_eq (pc := 71) 76 dX2_between_71 (by decide) (fun _ => ?_) (fun h => absurd h (by decide))
              refine nf_iinc3 (pc := 76) (v := nI (k + 1)) dX2_between_76 (nI_succ (k)).symm rfl (by decide) ?_
              refine nf_goto (pc := 79) 2 dX2_between_79 (by decide) ?_
              exact nf_to (by simp only [cf_btw]; rw [if_neg (by simp_all)]) rfl (ih (k + 1) _ _ (by omega))
            · refine nf_iconst (pc := 57) (v := 1) dX2_between_57 (by decide) ?_
              refine nf_goto (pc := 58) 62 dX2_between_58 (by decide) ?_
              refine nf_is5 (pc := 62) dX2_between_62 rfl (by decide) ?_
              refine nf_il (pc := 64) dX2_between_64 rfl ?_
              refine nf_if_ne (pc := 66) 74 dX2_between_66 (by decide) (fun h => absurd h (by decide)) (fun _ => ?_)
              refine nf_il (pc := 69) dX2_between_69 rfl ?_
              refine nf_if_eq (pc := 71) 76 dX2_between_71 (by decide) (fun h => absurd h (by decide)) (fun _ => ?_)
              refine nf_iln (pc := 74) dX2_between_74 rfl ?_
              exact nf_to (by simp only [cf_btw]; rw [if_pos (by simp_all)]) rfl (nf_iret (pc := 75) dX2_between_75)
        · refine nf_iconst (pc := 30) (v := 1) dX2_between_30 (by decide) ?_
          refine nf_goto (pc := 31) 35 dX2_between_31 (by decide) ?_
          refine nf_is4 (pc := 35) dX2_between_35 rfl (by decide) ?_
          refine nf_aln (pc := 37) dX2_between_37 rfl ?_
          refine gf_X2_first hn (pc := 38) lk_X2_15 dX2_between_38 ?_
          refine nf_iln (pc := 41) dX2_between_41 rfl ?_
          refine nf_ialdI (pc := 42) (k := k) (nf_okA hn (by decide)) (show _ < 12 by omega) dX2_between_42 ?_
          refine nf_iln (pc := 43) dX2_between_43 rfl ?_
          refine nf_ic_ne (pc := 44) 61 dX2_between_44 (by decide) (fun c_44 => ?_) (fun c_44 => ?_)
          · refine nf_iconst (pc := 61) (v := 0) dX2_between_61 (by decide) ?_
            refine nf_is5 (pc := 62) dX2_between_62 rfl (by decide) ?_
            refine nf_il (pc := 64) dX2_between_64 rfl ?_
            refine nf_if_ne (pc := 66) 74 dX2_between_66 (by decide) (fun _ => ?_) (fun h => absurd h (by decide))
            refine nf_iln (pc := 74) dX2_between_74 rfl ?_
            exact nf_to (by simp only [cf_btw]; rw [if_pos (by simp_all)]) rfl (nf_iret (pc := 75) dX2_between_75)
          · refine nf_aln (pc := 47) dX2_between_47 rfl ?_
            refine gf_X2_second hn (pc := 48) lk_X2_19 dX2_between_48 ?_
            refine nf_iln (pc := 51) dX2_between_51 rfl ?_
            refine nf_ialdI (pc := 52) (k := k) (nf_okA hn (by decide)) (show _ < 12 by omega) dX2_between_52 ?_
            refine nf_iln (pc := 53) dX2_between_53 rfl ?_
            refine nf_ic_ne (pc := 54) 61 dX2_between_54 (by decide) (fun c_54 => ?_) (fun c_54 => ?_)
            · refine nf_iconst (pc := 61) (v := 0) dX2_between_61 (by decide) ?_
              refine nf_is5 (pc := 62) dX2_between_62 rfl (by decide) ?_
              refine nf_il (pc := 64) dX2_between_64 rfl ?_
              refine nf_if_ne (pc := 66) 74 dX2_between_66 (by decide) (fun _ => ?_) (fun h => absurd h (by decide))
              refine nf_iln (pc := 74) dX2_between_74 rfl ?_
              exact nf_to (by simp only [cf_btw]; rw [if_pos (by simp_all)]) rfl (nf_iret (pc := 75) dX2_between_75)
            · refine nf_iconst (pc := 57) (v := 1) dX2_between_57 (by decide) ?_
              refine nf_goto (pc := 58) 62 dX2_between_58 (by decide) ?_
              refine nf_is5 (pc := 62) dX2_between_62 rfl (by decide) ?_
              refine nf_il (pc := 64) dX2_between_64 rfl ?_
              refine nf_if_ne (pc := 66) 74 dX2_between_66 (by decide) (fun _ => ?_) (fun h => absurd h (by decide))
              refine nf_iln (pc := 74) dX2_between_74 rfl ?_
              exact nf_to (by simp only [cf_btw]; rw [if_pos (by simp_all)]) rfl (nf_iret (pc := 75) dX2_between_75)
set_option maxRecDepth 100000 in
set_option maxHeartbeats 4000000 in
theorem sp_X2_between {L : nf_L} {S : nf_S} {n cnt : Nat} {a b : Int32} (hn : n < 5) (hc : nf_I S n 2 0 = nI cnt) (hcnt : cnt ≤ 12) : nf_Sp L 0 yX2_between cX2_between 6 (some .int) [.ref (L.2.2 (2, n, 0, 0)), .int a, .int b] S (some (.int (cf_btw (nf_A S n 2 0) (nf_A S n 3 0) a b 0 cnt))) S := by
  refine nf_start (own := RX2) (ls0 := [some (.ref (L.2.2 (2, n, 0, 0))), some (.int a), some (.int b), none, none, none]) (by decide) (Nat.le_of_ble_eq_true rfl) rfl rfl ?_
  refine nf_iconst (pc := 0) (v := 0) dX2_between_0 (by decide) ?_
  refine nf_is3 (pc := 1) dX2_between_1 rfl (by decide) ?_
  exact lp_between hn hc hcnt cnt 0 none none (by omega)
set_option maxRecDepth 100000 in
set_option maxHeartbeats 4000000 in
theorem lp_neighboursOf {L : nf_L} {S : nf_S} {n cnt : Nat} {s : Int32} (hn : n < 5) (hc : nf_I S n 2 0 = nI cnt) (hcnt : cnt ≤ 12) : ∀ (m : Nat) (k : Nat) (acc : Int32), (k + m = cnt) → nf_V L 1 cX2_neighboursOf RX2 4 (some .int) (some (.int (cf_nb (nf_A S n 2 0) (nf_A S n 3 0) s k m acc))) S 4 [some (.ref (L.2.2 (2, n, 0, 0))), some (.int s), some (.int acc), some (.int (nI k))] [] S := by
  intro m
  induction m with
  | zero =>
    intro k acc hk
    refine nf_iln (pc := 4) dX2_neighboursOf_4 rfl ?_
    refine nf_aln (pc := 5) dX2_neighboursOf_5 rfl ?_
    refine gf_X2_count hn (pc := 6) lk_X2_9 dX2_neighboursOf_6 ?_
    refine nf_topI (y := nI (cnt)) hc ?_
    refine nf_ic_ge (pc := 9) 66 dX2_neighboursOf_9 (by decide) (fun c_9 => ?_) (fun c_9 => ?_)
    · refine nf_iln (pc := 66) dX2_neighboursOf_66 rfl ?_
      exact (nf_iret (pc := 67) dX2_neighboursOf_67)
    · exact absurd (nI_le (by omega) (by omega)) c_9
  | succ m ih =>
    intro k acc hk
    refine nf_iln (pc := 4) dX2_neighboursOf_4 rfl ?_
    refine nf_aln (pc := 5) dX2_neighboursOf_5 rfl ?_
    refine gf_X2_count hn (pc := 6) lk_X2_9 dX2_neighboursOf_6 ?_
    refine nf_topI (y := nI (cnt)) hc ?_
    refine nf_ic_ge (pc := 9) 66 dX2_neighboursOf_9 (by decide) (fun c_9 => ?_) (fun c_9 => ?_)
    · exact absurd c_9 (nI_ge (by omega) (by omega))
    · refine nf_iln (pc := 12) dX2_neighboursOf_12 rfl ?_
      refine nf_aln (pc := 13) dX2_neighboursOf_13 rfl ?_
      refine gf_X2_first hn (pc := 14) lk_X2_15 dX2_neighboursOf_14 ?_
      refine nf_iln (pc := 17) dX2_neighboursOf_17 rfl ?_
      refine nf_ialdI (pc := 18) (k := k) (nf_okA hn (by decide)) (show _ < 12 by omega) dX2_neighboursOf_18 ?_
      refine nf_cNi2 (pc := 19) sp_X5_has mn_X2_25 st_X5_has nm_X5_has ⟨by decide, by decide⟩ (Nat.le_of_ble_eq_true rfl) dX2_neighboursOf_19 ?_
      refine nf_if_eqB (pc := 22) 36 dX2_neighboursOf_22 (by decide) (fun c_22 => ?_) (fun c_22 => ?_)
      · refine nf_iln (pc := 36) dX2_neighboursOf_36 rfl ?_
        refine nf_aln (pc := 37) dX2_neighboursOf_37 rfl ?_
        refine gf_X2_second hn (pc := 38) lk_X2_19 dX2_neighboursOf_38 ?_
        refine nf_iln (pc := 41) dX2_neighboursOf_41 rfl ?_
        refine nf_ialdI (pc := 42) (k := k) (nf_okA hn (by decide)) (show _ < 12 by omega) dX2_neighboursOf_42 ?_
        refine nf_cNi2 (pc := 43) sp_X5_has mn_X2_25 st_X5_has nm_X5_has ⟨by decide, by decide⟩ (Nat.le_of_ble_eq_true rfl) dX2_neighboursOf_43 ?_
        refine nf_if_eqB (pc := 46) 60 dX2_neighboursOf_46 (by decide) (fun c_46 => ?_) (fun c_46 => ?_)
        · refine nf_iinc3 (pc := 60) (v := nI (k + 1)) dX2_neighboursOf_60 (nI_succ (k)).symm rfl (by decide) ?_
          refine nf_goto (pc := 63) 4 dX2_neighboursOf_63 (by decide) ?_
          exact nf_to (by simp only [cf_nb, c_22, c_46, if_true, if_false, reduceIte, Bool.false_eq_true]) rfl (ih (k + 1) _ (by omega))
        · refine nf_iln (pc := 49) dX2_neighboursOf_49 rfl ?_
          refine nf_iconst (pc := 50) (v := 1) dX2_neighboursOf_50 (by decide) ?_
          refine nf_aln (pc := 51) dX2_neighboursOf_51 rfl ?_
          refine gf_X2_first hn (pc := 52) lk_X2_15 dX2_neighboursOf_52 ?_
          refine nf_iln (pc := 55) dX2_neighboursOf_55 rfl ?_
          refine nf_ialdI (pc := 56) (k := k) (nf_okA hn (by decide)) (show _ < 12 by omega) dX2_neighboursOf_56 ?_
          refine nf_ishl (pc := 57) dX2_neighboursOf_57 ?_
          refine nf_ior (pc := 58) dX2_neighboursOf_58 ?_
          refine nf_is2 (pc := 59) dX2_neighboursOf_59 rfl (by decide) ?_
          refine nf_iinc3 (pc := 60) (v := nI (k + 1)) dX2_neighboursOf_60 (nI_succ (k)).symm rfl (by decide) ?_
          refine nf_goto (pc := 63) 4 dX2_neighboursOf_63 (by decide) ?_
          exact nf_to (by simp only [cf_nb, c_22, c_46, if_true, if_false, reduceIte, Bool.false_eq_true]) rfl (ih (k + 1) _ (by omega))
      · refine nf_iln (pc := 25) dX2_neighboursOf_25 rfl ?_
        refine nf_iconst (pc := 26) (v := 1) dX2_neighboursOf_26 (by decide) ?_
        refine nf_aln (pc := 27) dX2_neighboursOf_27 rfl ?_
        refine gf_X2_second hn (pc := 28) lk_X2_19 dX2_neighboursOf_28 ?_
        refine nf_iln (pc := 31) dX2_neighboursOf_31 rfl ?_
        refine nf_ialdI (pc := 32) (k := k) (nf_okA hn (by decide)) (show _ < 12 by omega) dX2_neighboursOf_32 ?_
        refine nf_ishl (pc := 33) dX2_neighboursOf_33 ?_
        refine nf_ior (pc := 34) dX2_neighboursOf_34 ?_
        refine nf_is2 (pc := 35) dX2_neighboursOf_35 rfl (by decide) ?_
        refine nf_iln (pc := 36) dX2_neighboursOf_36 rfl ?_
        refine nf_aln (pc := 37) dX2_neighboursOf_37 rfl ?_
        refine gf_X2_second hn (pc := 38) lk_X2_19 dX2_neighboursOf_38 ?_
        refine nf_iln (pc := 41) dX2_neighboursOf_41 rfl ?_
        refine nf_ialdI (pc := 42) (k := k) (nf_okA hn (by decide)) (show _ < 12 by omega) dX2_neighboursOf_42 ?_
        refine nf_cNi2 (pc := 43) sp_X5_has mn_X2_25 st_X5_has nm_X5_has ⟨by decide, by decide⟩ (Nat.le_of_ble_eq_true rfl) dX2_neighboursOf_43 ?_
        refine nf_if_eqB (pc := 46) 60 dX2_neighboursOf_46 (by decide) (fun c_46 => ?_) (fun c_46 => ?_)
        · refine nf_iinc3 (pc := 60) (v := nI (k + 1)) dX2_neighboursOf_60 (nI_succ (k)).symm rfl (by decide) ?_
          refine nf_goto (pc := 63) 4 dX2_neighboursOf_63 (by decide) ?_
          exact nf_to (by simp only [cf_nb, c_22, c_46, if_true, if_false, reduceIte, Bool.false_eq_true]) rfl (ih (k + 1) _ (by omega))
        · refine nf_iln (pc := 49) dX2_neighboursOf_49 rfl ?_
          refine nf_iconst (pc := 50) (v := 1) dX2_neighboursOf_50 (by decide) ?_
          refine nf_aln (pc := 51) dX2_neighboursOf_51 rfl ?_
          refine gf_X2_first hn (pc := 52) lk_X2_15 dX2_neighboursOf_52 ?_
          refine nf_iln (pc := 55) dX2_neighboursOf_55 rfl ?_
          refine nf_ialdI (pc := 56) (k := k) (nf_okA hn (by decide)) (show _ < 12 by omega) dX2_neighboursOf_56 ?_
          refine nf_ishl (pc := 57) dX2_neighboursOf_57 ?_
          refine nf_ior (pc := 58) dX2_neighboursOf_58 ?_
          refine nf_is2 (pc := 59) dX2_neighboursOf_59 rfl (by decide) ?_
          refine nf_iinc3 (pc := 60) (v := nI (k + 1)) dX2_neighboursOf_60 (nI_succ (k)).symm rfl (by decide) ?_
          refine nf_goto (pc := 63) 4 dX2_neighboursOf_63 (by decide) ?_
          exact nf_to (by simp only [cf_nb, c_22, c_46, if_true, if_false, reduceIte, Bool.false_eq_true]) rfl (ih (k + 1) _ (by omega))
set_option maxRecDepth 100000 in
set_option maxHeartbeats 4000000 in
theorem sp_X2_neighboursOf {L : nf_L} {S : nf_S} {n cnt : Nat} {s : Int32} (hn : n < 5) (hc : nf_I S n 2 0 = nI cnt) (hcnt : cnt ≤ 12) : nf_Sp L 1 yX2_neighboursOf cX2_neighboursOf 4 (some .int) [.ref (L.2.2 (2, n, 0, 0)), .int s] S (some (.int (cf_nb (nf_A S n 2 0) (nf_A S n 3 0) s 0 cnt 0))) S := by
  refine nf_start (own := RX2) (ls0 := [some (.ref (L.2.2 (2, n, 0, 0))), some (.int s), none, none]) (by decide) (Nat.le_of_ble_eq_true rfl) rfl rfl ?_
  refine nf_iconst (pc := 0) (v := 0) dX2_neighboursOf_0 (by decide) ?_
  refine nf_is2 (pc := 1) dX2_neighboursOf_1 rfl (by decide) ?_
  refine nf_iconst (pc := 2) (v := 0) dX2_neighboursOf_2 (by decide) ?_
  refine nf_is3 (pc := 3) dX2_neighboursOf_3 rfl (by decide) ?_
  exact lp_neighboursOf hn hc hcnt cnt 0 0 (by omega)
set_option maxRecDepth 100000 in
set_option maxHeartbeats 4000000 in
theorem sp_X2_append {L : nf_L} {S : nf_S} {n cnt : Nat} {a b c : Int32} (hn : n < 5) (hc : nf_I S n 2 0 = nI cnt) (hcnt : cnt < 12) : nf_Sp L 0 yX2_append cX2_append 4 (some .int) [.ref (L.2.2 (2, n, 0, 0)), .int a, .int b, .int c] S (some (.int (nI cnt))) (nf_sI (nf_sA (nf_sA (nf_sA S n 2 0 (upd (nf_A S n 2 0) cnt a)) n 3 0 (upd (nf_A S n 3 0) cnt b)) n 4 0 (upd (nf_A S n 4 0) cnt c)) n 2 0 (nI (cnt + 1))) := by
  refine nf_start (own := RX2) (ls0 := [some (.ref (L.2.2 (2, n, 0, 0))), some (.int a), some (.int b), some (.int c)]) (by decide) (Nat.le_of_ble_eq_true rfl) rfl rfl ?_
  refine nf_aln (pc := 0) dX2_append_0 rfl ?_
  refine gf_X2_count hn (pc := 1) lk_X2_9 dX2_append_1 ?_
  refine nf_topI (y := nI (cnt)) hc ?_
  refine nf_bipush (pc := 4) (v := 12) dX2_append_4 (by decide) ?_
  refine nf_ic_lt (pc := 6) 11 dX2_append_6 (by decide) (fun c_6 => ?_) (fun c_6 => ?_)
  · refine nf_aln (pc := 11) dX2_append_11 rfl ?_
    refine gf_X2_first hn (pc := 12) lk_X2_15 dX2_append_12 ?_
    refine nf_aln (pc := 15) dX2_append_15 rfl ?_
    refine gf_X2_count hn (pc := 16) lk_X2_9 dX2_append_16 ?_
    refine nf_topI (y := nI (cnt)) hc ?_
    refine nf_iln (pc := 19) dX2_append_19 rfl ?_
    refine nf_iastI (pc := 20) (k := cnt) (nf_okA hn (by decide)) hcnt dX2_append_20 ?_
    refine nf_aln (pc := 21) dX2_append_21 rfl ?_
    refine gf_X2_second hn (pc := 22) lk_X2_19 dX2_append_22 ?_
    refine nf_aln (pc := 25) dX2_append_25 rfl ?_
    refine gf_X2_count hn (pc := 26) lk_X2_9 dX2_append_26 ?_
    refine nf_topI (y := nI (cnt)) hc ?_
    refine nf_iln (pc := 29) dX2_append_29 rfl ?_
    refine nf_iastI (pc := 30) (k := cnt) (nf_okA hn (by decide)) hcnt dX2_append_30 ?_
    refine nf_aln (pc := 31) dX2_append_31 rfl ?_
    refine gf_X2_kind hn (pc := 32) lk_X2_22 dX2_append_32 ?_
    refine nf_aln (pc := 35) dX2_append_35 rfl ?_
    refine gf_X2_count hn (pc := 36) lk_X2_9 dX2_append_36 ?_
    refine nf_topI (y := nI (cnt)) hc ?_
    refine nf_iln (pc := 39) dX2_append_39 rfl ?_
    refine nf_iastI (pc := 40) (k := cnt) (nf_okA hn (by decide)) hcnt dX2_append_40 ?_
    refine nf_aln (pc := 41) dX2_append_41 rfl ?_
    refine nf_dup (pc := 42) dX2_append_42 rfl ?_
    refine gf_X2_count hn (pc := 43) lk_X2_9 dX2_append_43 ?_
    refine nf_topI (y := nI (cnt)) hc ?_
    refine nf_iconst (pc := 46) (v := 1) dX2_append_46 (by decide) ?_
    refine nf_iaddI (pc := 47) (a := cnt) (b := 1) dX2_append_47 ?_
    refine pf_X2_count hn (pc := 48) lk_X2_9 dX2_append_48 ?_
    refine nf_aln (pc := 51) dX2_append_51 rfl ?_
    refine gf_X2_count hn (pc := 52) lk_X2_9 dX2_append_52 ?_
    refine nf_topI (y := nI (cnt + 1)) (by simp [nf_I_sI]) ?_
    refine nf_iconst (pc := 55) (v := 1) dX2_append_55 (by decide) ?_
    refine nf_isub (pc := 56) dX2_append_56 ?_
    refine nf_topI (y := nI (cnt)) (nf_succ_sub _) ?_
    exact nf_to rfl (by simp [nf_A_sA]) (nf_iret (pc := 57) dX2_append_57)
  · exact absurd (nI_lt (b := 12) hcnt (by decide)) c_6
set_option maxRecDepth 100000 in
set_option maxHeartbeats 4000000 in
theorem lp_delete {L : nf_L} {S0 : nf_S} {n cnt a : Nat} (hn : n < 5) (hcnt : cnt < 12) : ∀ (m : Nat) (k : Nat), (k + m = cnt) → (a ≤ k) → nf_V L 1 cX2_delete RX2 3 none none (cs_del S0 n cnt a cnt) 24 [some (.ref (L.2.2 (2, n, 0, 0))), some (.int (nI a)), some (.int (nI k))] [] (cs_del S0 n cnt a k) := by
  intro m
  induction m with
  | zero =>
    intro k hk ha
    refine nf_iln (pc := 24) dX2_delete_24 rfl ?_
    refine nf_aln (pc := 25) dX2_delete_25 rfl ?_
    refine gf_X2_count hn (pc := 26) lk_X2_9 dX2_delete_26 ?_
    refine nf_topI (y := nI (cnt)) cs_del_n ?_
    refine nf_ic_ge (pc := 29) 80 dX2_delete_29 (by decide) (fun c_29 => ?_) (fun c_29 => ?_)
    · exact nf_to rfl (by rw [show cnt = k by omega]) (nf_vret (pc := 80) dX2_delete_80)
    · exact absurd (nI_le (by omega) (by omega)) c_29
  | succ m ih =>
    intro k hk ha
    refine nf_iln (pc := 24) dX2_delete_24 rfl ?_
    refine nf_aln (pc := 25) dX2_delete_25 rfl ?_
    refine gf_X2_count hn (pc := 26) lk_X2_9 dX2_delete_26 ?_
    refine nf_topI (y := nI (cnt)) cs_del_n ?_
    refine nf_ic_ge (pc := 29) 80 dX2_delete_29 (by decide) (fun c_29 => ?_) (fun c_29 => ?_)
    · exact absurd c_29 (nI_ge (by omega) (by omega))
    · refine nf_aln (pc := 32) dX2_delete_32 rfl ?_
      refine gf_X2_first hn (pc := 33) lk_X2_15 dX2_delete_33 ?_
      refine nf_iln (pc := 36) dX2_delete_36 rfl ?_
      refine nf_aln (pc := 37) dX2_delete_37 rfl ?_
      refine gf_X2_first hn (pc := 38) lk_X2_15 dX2_delete_38 ?_
      refine nf_iln (pc := 41) dX2_delete_41 rfl ?_
      refine nf_iconst (pc := 42) (v := 1) dX2_delete_42 (by decide) ?_
      refine nf_iaddI (pc := 43) (a := k) (b := 1) dX2_delete_43 ?_
      refine nf_ialdI (pc := 44) (k := (k + 1)) (nf_okA hn (by decide)) (show _ < 12 by omega) dX2_delete_44 ?_
      refine nf_iastI (pc := 45) (k := k) (nf_okA hn (by decide)) (show _ < 12 by omega) dX2_delete_45 ?_
      refine nf_aln (pc := 46) dX2_delete_46 rfl ?_
      refine gf_X2_second hn (pc := 47) lk_X2_19 dX2_delete_47 ?_
      refine nf_iln (pc := 50) dX2_delete_50 rfl ?_
      refine nf_aln (pc := 51) dX2_delete_51 rfl ?_
      refine gf_X2_second hn (pc := 52) lk_X2_19 dX2_delete_52 ?_
      refine nf_iln (pc := 55) dX2_delete_55 rfl ?_
      refine nf_iconst (pc := 56) (v := 1) dX2_delete_56 (by decide) ?_
      refine nf_iaddI (pc := 57) (a := k) (b := 1) dX2_delete_57 ?_
      refine nf_ialdI (pc := 58) (k := (k + 1)) (nf_okA hn (by decide)) (show _ < 12 by omega) dX2_delete_58 ?_
      refine nf_iastI (pc := 59) (k := k) (nf_okA hn (by decide)) (show _ < 12 by omega) dX2_delete_59 ?_
      refine nf_aln (pc := 60) dX2_delete_60 rfl ?_
      refine gf_X2_kind hn (pc := 61) lk_X2_22 dX2_delete_61 ?_
      refine nf_iln (pc := 64) dX2_delete_64 rfl ?_
      refine nf_aln (pc := 65) dX2_delete_65 rfl ?_
      refine gf_X2_kind hn (pc := 66) lk_X2_22 dX2_delete_66 ?_
      refine nf_iln (pc := 69) dX2_delete_69 rfl ?_
      refine nf_iconst (pc := 70) (v := 1) dX2_delete_70 (by decide) ?_
      refine nf_iaddI (pc := 71) (a := k) (b := 1) dX2_delete_71 ?_
      refine nf_ialdI (pc := 72) (k := (k + 1)) (nf_okA hn (by decide)) (show _ < 12 by omega) dX2_delete_72 ?_
      refine nf_iastI (pc := 73) (k := k) (nf_okA hn (by decide)) (show _ < 12 by omega) dX2_delete_73 ?_
      refine nf_iinc2 (pc := 74) (v := nI (k + 1)) dX2_delete_74 (nI_succ (k)).symm rfl (by decide) ?_
      refine nf_goto (pc := 77) 24 dX2_delete_77 (by decide) ?_
      refine nf_from ?_ (ih (k + 1) (by omega) (by omega))
      rw [← cs_del_step S0 n cnt a k (by omega)]
      simp [nf_A_sA, cs_del_A]
set_option maxRecDepth 100000 in
set_option maxHeartbeats 4000000 in
theorem sp_X2_delete {L : nf_L} {S : nf_S} {n cnt a : Nat} (hn : n < 5) (hc : nf_I S n 2 0 = nI (cnt + 1)) (hcnt : cnt < 12) (ha : a ≤ cnt) : nf_Sp L 1 yX2_delete cX2_delete 3 none [.ref (L.2.2 (2, n, 0, 0)), .int (nI a)] S none (cs_del S n cnt a cnt) := by
  refine nf_start (own := RX2) (ls0 := [some (.ref (L.2.2 (2, n, 0, 0))), some (.int (nI a)), none]) (by decide) (Nat.le_of_ble_eq_true rfl) rfl rfl ?_
  refine nf_iln (pc := 0) dX2_delete_0 rfl ?_
  refine nf_aln (pc := 1) dX2_delete_1 rfl ?_
  refine gf_X2_count hn (pc := 2) lk_X2_9 dX2_delete_2 ?_
  refine nf_cNi2 (pc := 5) sp_X5_isBelow mn_X2_29 st_X5_isBelow nm_X5_isBelow ⟨by decide, by decide⟩ (Nat.le_of_ble_eq_true rfl) dX2_delete_5 ?_
  refine nf_if_neB (pc := 8) 12 dX2_delete_8 (by decide) (fun c_8 => ?_) (fun c_8 => ?_)
  · refine nf_aln (pc := 12) dX2_delete_12 rfl ?_
    refine nf_dup (pc := 13) dX2_delete_13 rfl ?_
    refine gf_X2_count hn (pc := 14) lk_X2_9 dX2_delete_14 ?_
    refine nf_iconst (pc := 17) (v := 1) dX2_delete_17 (by decide) ?_
    refine nf_isub (pc := 18) dX2_delete_18 ?_
    refine pf_X2_count hn (pc := 19) lk_X2_9 dX2_delete_19 ?_
    refine nf_iln (pc := 22) dX2_delete_22 rfl ?_
    refine nf_is2 (pc := 23) dX2_delete_23 rfl (by decide) ?_
    rw [hc, nf_succ_sub]
    rw [← cs_del_0 S n cnt a]
    exact lp_delete hn hcnt (cnt - a) a (by omega) (by omega)
  · exact absurd c_8 (by rw [hc, cf_below_I (by omega) (by omega)]; simp; omega)
set_option maxRecDepth 100000 in
set_option maxHeartbeats 4000000 in
theorem sp_X4_put {L : nf_L} {S : nf_S} {n a s : Nat} {x y : Int32} (hn : n < 5) (ha : a < 30) (hs : s < 6) : nf_Sp L 1 yX4_put cX4_put 5 none [.ref (L.2.2 (5, n, 0, 0)), .int (nI a), .int (nI s), .int x, .int y] S none (nf_sA (nf_sA S n 10 0 (upd (nf_A S n 10 0) (a * 6 + s) x)) n 11 0 (upd (nf_A S n 11 0) (a * 6 + s) y)) := by
  refine nf_start (own := RX4) (ls0 := [some (.ref (L.2.2 (5, n, 0, 0))), some (.int (nI a)), some (.int (nI s)), some (.int x), some (.int y)]) (by decide) (Nat.le_of_ble_eq_true rfl) rfl rfl ?_
  refine nf_aln (pc := 0) dX4_put_0 rfl ?_
  refine gf_X4_receivers (Nat.lt_succ_of_lt hn) (pc := 1) lk_X4_9 dX4_put_1 ?_
  refine nf_iln (pc := 4) dX4_put_4 rfl ?_
  refine nf_iln (pc := 5) dX4_put_5 rfl ?_
  refine nf_cSi2 (pc := 6) sp_X4_slot mk_X4_18 st_X4_slot nm_X4_slot ⟨by decide, by decide⟩ (Nat.le_of_ble_eq_true rfl) dX4_put_6 ?_
  refine nf_iln (pc := 9) dX4_put_9 rfl ?_
  refine nf_iastI (pc := 10) (k := (a * 6 + s)) (nf_okA hn (by decide)) (show _ < 180 by omega) dX4_put_10 ?_
  refine nf_aln (pc := 11) dX4_put_11 rfl ?_
  refine gf_X4_path (Nat.lt_succ_of_lt hn) (pc := 12) lk_X4_15 dX4_put_12 ?_
  refine nf_iln (pc := 15) dX4_put_15 rfl ?_
  refine nf_iln (pc := 16) dX4_put_16 rfl ?_
  refine nf_cSi2 (pc := 17) sp_X4_slot mk_X4_18 st_X4_slot nm_X4_slot ⟨by decide, by decide⟩ (Nat.le_of_ble_eq_true rfl) dX4_put_17 ?_
  refine nf_il (pc := 20) dX4_put_20 rfl ?_
  refine nf_iastI (pc := 22) (k := (a * 6 + s)) (nf_okA hn (by decide)) (show _ < 180 by omega) dX4_put_22 ?_
  exact nf_to rfl (by simp [nf_A_sA]) (nf_vret (pc := 23) dX4_put_23)
set_option maxRecDepth 100000 in
set_option maxHeartbeats 4000000 in
theorem lp_size {L : nf_L} {S : nf_S} {n : Nat} (hn : n < 5) : ∀ (m : Nat) (k : Nat) (acc : Int32) (o5 : Option Value), (k + m = 180) → nf_V L 1 cX4_size RX4 6 (some .int) (some (.int (cf_sum (nf_A S n 10 0) k m acc))) S 13 [some (.ref (L.2.2 (5, n, 0, 0))), some (.int acc), some (.ref (L.2.2 (9, n, 10, 0))), some (.int (nI 180)), some (.int (nI k)), o5] [] S := by
  intro m
  induction m with
  | zero =>
    intro k acc o5 hk
    refine nf_il (pc := 13) dX4_size_13 rfl ?_
    refine nf_iln (pc := 15) dX4_size_15 rfl ?_
    refine nf_ic_ge (pc := 16) 39 dX4_size_16 (by decide) (fun c_16 => ?_) (fun c_16 => ?_)
    · refine nf_iln (pc := 39) dX4_size_39 rfl ?_
      exact (nf_iret (pc := 40) dX4_size_40)
    · exact absurd (nI_le (by omega) (by omega)) c_16
  | succ m ih =>
    intro k acc o5 hk
    refine nf_il (pc := 13) dX4_size_13 rfl ?_
    refine nf_iln (pc := 15) dX4_size_15 rfl ?_
    refine nf_ic_ge (pc := 16) 39 dX4_size_16 (by decide) (fun c_16 => ?_) (fun c_16 => ?_)
    · exact absurd c_16 (nI_ge (by omega) (by omega))
    · refine nf_aln (pc := 19) dX4_size_19 rfl ?_
      refine nf_il (pc := 20) dX4_size_20 rfl ?_
      refine nf_ialdI (pc := 22) (k := k) (nf_okA hn (by decide)) (show _ < 180 by omega) dX4_size_22 ?_
      refine nf_is5 (pc := 23) dX4_size_23 rfl (by decide) ?_
      refine nf_iln (pc := 25) dX4_size_25 rfl ?_
      refine nf_il (pc := 26) dX4_size_26 rfl ?_
      refine nf_cSi1 (pc := 28) sp_J6_bitCount_0f7a4 mk_X4_22 st_J6_bitCount_0f7a4 nm_J6_bitCount_0f7a4 ⟨by decide, by decide⟩ (Nat.le_of_ble_eq_true rfl) dX4_size_28 ?_
      refine nf_iadd (pc := 31) dX4_size_31 ?_
      refine nf_is1 (pc := 32) dX4_size_32 rfl (by decide) ?_
      refine nf_iinc4 (pc := 33) (v := nI (k + 1)) dX4_size_33 (nI_succ (k)).symm rfl (by decide) ?_
      refine nf_goto (pc := 36) 13 dX4_size_36 (by decide) ?_
      exact ih (k + 1) _ _ (by omega)
set_option maxRecDepth 100000 in
set_option maxHeartbeats 4000000 in
theorem sp_X4_size {L : nf_L} {S : nf_S} {n : Nat} (hn : n < 5) : nf_Sp L 1 yX4_size cX4_size 6 (some .int) [.ref (L.2.2 (5, n, 0, 0))] S (some (.int (cf_sum (nf_A S n 10 0) 0 180 0))) S := by
  refine nf_start (own := RX4) (ls0 := [some (.ref (L.2.2 (5, n, 0, 0))), none, none, none, none, none]) (by decide) (Nat.le_of_ble_eq_true rfl) rfl rfl ?_
  refine nf_iconst (pc := 0) (v := 0) dX4_size_0 (by decide) ?_
  refine nf_is1 (pc := 1) dX4_size_1 rfl (by decide) ?_
  refine nf_aln (pc := 2) dX4_size_2 rfl ?_
  refine gf_X4_receivers (Nat.lt_succ_of_lt hn) (pc := 3) lk_X4_9 dX4_size_3 ?_
  refine nf_as2 (pc := 6) dX4_size_6 rfl (by decide) ?_
  refine nf_aln (pc := 7) dX4_size_7 rfl ?_
  refine nf_alen (pc := 8) (v := nI 180) (nf_okA hn (by decide)) rfl dX4_size_8 ?_
  refine nf_is3 (pc := 9) dX4_size_9 rfl (by decide) ?_
  refine nf_iconst (pc := 10) (v := 0) dX4_size_10 (by decide) ?_
  refine nf_is4 (pc := 11) dX4_size_11 rfl (by decide) ?_
  exact lp_size hn 180 0 0 none (by omega)
set_option maxRecDepth 100000 in
set_option maxHeartbeats 4000000 in
theorem lp_countCancels {L : nf_L} {S : nf_S} {n h : Nat} (hn : n < 5) (hh : h < 6) : ∀ (m : Nat) (k : Nat) (acc : Int32) (o5 : Option Value), (k + m = 30) → nf_V L 1 cX1_countCancels RX1 6 (some .int) (some (.int (cf_sum (nf_A S n 13 h) k m acc))) S 13 [some (.ref (L.2.2 (4, n, 0, h))), some (.int acc), some (.ref (L.2.2 (9, n, 13, h))), some (.int (nI 30)), some (.int (nI k)), o5] [] S := by
  intro m
  induction m with
  | zero =>
    intro k acc o5 hk
    refine nf_il (pc := 13) dX1_countCancels_13 rfl ?_
    refine nf_iln (pc := 15) dX1_countCancels_15 rfl ?_
    refine nf_ic_ge (pc := 16) 39 dX1_countCancels_16 (by decide) (fun c_16 => ?_) (fun c_16 => ?_)
    · refine nf_iln (pc := 39) dX1_countCancels_39 rfl ?_
      exact (nf_iret (pc := 40) dX1_countCancels_40)
    · exact absurd (nI_le (by omega) (by omega)) c_16
  | succ m ih =>
    intro k acc o5 hk
    refine nf_il (pc := 13) dX1_countCancels_13 rfl ?_
    refine nf_iln (pc := 15) dX1_countCancels_15 rfl ?_
    refine nf_ic_ge (pc := 16) 39 dX1_countCancels_16 (by decide) (fun c_16 => ?_) (fun c_16 => ?_)
    · exact absurd c_16 (nI_ge (by omega) (by omega))
    · refine nf_aln (pc := 19) dX1_countCancels_19 rfl ?_
      refine nf_il (pc := 20) dX1_countCancels_20 rfl ?_
      refine nf_ialdI (pc := 22) (k := k) (nf_ok13 hn hh) (show _ < 30 by omega) dX1_countCancels_22 ?_
      refine nf_is5 (pc := 23) dX1_countCancels_23 rfl (by decide) ?_
      refine nf_iln (pc := 25) dX1_countCancels_25 rfl ?_
      refine nf_il (pc := 26) dX1_countCancels_26 rfl ?_
      refine nf_cSi1 (pc := 28) sp_J6_bitCount_0f7a4 mk_X1_35 st_J6_bitCount_0f7a4 nm_J6_bitCount_0f7a4 ⟨by decide, by decide⟩ (Nat.le_of_ble_eq_true rfl) dX1_countCancels_28 ?_
      refine nf_iadd (pc := 31) dX1_countCancels_31 ?_
      refine nf_is1 (pc := 32) dX1_countCancels_32 rfl (by decide) ?_
      refine nf_iinc4 (pc := 33) (v := nI (k + 1)) dX1_countCancels_33 (nI_succ (k)).symm rfl (by decide) ?_
      refine nf_goto (pc := 36) 13 dX1_countCancels_36 (by decide) ?_
      exact ih (k + 1) _ _ (by omega)
set_option maxRecDepth 100000 in
set_option maxHeartbeats 4000000 in
theorem sp_X1_countCancels {L : nf_L} {S : nf_S} {n h : Nat} (hn : n < 5) (hh : h < 6) : nf_Sp L 1 yX1_countCancels cX1_countCancels 6 (some .int) [.ref (L.2.2 (4, n, 0, h))] S (some (.int (cf_sum (nf_A S n 13 h) 0 30 0))) S := by
  refine nf_start (own := RX1) (ls0 := [some (.ref (L.2.2 (4, n, 0, h))), none, none, none, none, none]) (by decide) (Nat.le_of_ble_eq_true rfl) rfl rfl ?_
  refine nf_iconst (pc := 0) (v := 0) dX1_countCancels_0 (by decide) ?_
  refine nf_is1 (pc := 1) dX1_countCancels_1 rfl (by decide) ?_
  refine nf_aln (pc := 2) dX1_countCancels_2 rfl ?_
  refine gf_X1_cancelAuthors hn hh (pc := 3) lk_X1_22 dX1_countCancels_3 ?_
  refine nf_as2 (pc := 6) dX1_countCancels_6 rfl (by decide) ?_
  refine nf_aln (pc := 7) dX1_countCancels_7 rfl ?_
  refine nf_alen (pc := 8) (v := nI 30) (nf_ok13 hn hh) rfl dX1_countCancels_8 ?_
  refine nf_is3 (pc := 9) dX1_countCancels_9 rfl (by decide) ?_
  refine nf_iconst (pc := 10) (v := 0) dX1_countCancels_10 (by decide) ?_
  refine nf_is4 (pc := 11) dX1_countCancels_11 rfl (by decide) ?_
  exact lp_countCancels hn hh 30 0 0 none (by omega)
/-- what lies beyond a row's end, and what no cell holds, doesn't count -/
def nf_rel (c h : Nat) : Prop := (c < 4 ∧ h = 0) ∨ ((c = 4 ∨ c = 5) ∧ h < 6)
def nf_eqv (S T : nf_S) : Prop := (∀ n c h, n < 5 → nf_rel c h → nf_I S n c h = nf_I T n c h) ∧ (∀ n c h, nf_ok (9, n, c, h) → ∀ j, j < nf_len c → nf_A S n c h j = nf_A T n c h j) ∧ (∀ x j, j < nf_lenO x → nf_O S x j = nf_O T x j) ∧ (∀ j, nf_J S j = nf_J T j) ∧ (∀ k, k < 4 → nf_v S k = nf_v T k)
theorem nf_ofFn {N : Nat} {f g : Nat → Int32} (h : ∀ j, j < N → f j = g j) (cA : ClassId) : vp_cell cA (N, .inl f) = vp_cell cA (N, .inl g) := by
  simp only [vp_cell, arrV]
  congr 1
  apply congrArg Array.ofFn
  funext x
  rw [h x.val x.isLt]
theorem nf_eqv.at {L : nf_L} {S T : nf_S} (h : nf_eqv S T) {H : Heap} (hH : nf_H L S H) : nf_H L T H := by
  obtain ⟨h1, h2, h3, h4, h5⟩ := h
  intro q hq
  have h0 := hH q hq
  obtain ⟨k, n, c, x⟩ := q
  match k, hq, h0 with
  | 0, _, h0 => simp only [nf_cell, h4] at h0 ⊢; exact h0
  | 1, hq, h0 => simp only [nf_cell, h1 n 0 0 hq.1 (Or.inl ⟨by decide, rfl⟩), h1 n 1 0 hq.1 (Or.inl ⟨by decide, rfl⟩)] at h0 ⊢; exact h0
  | 2, hq, h0 => simp only [nf_cell, h1 n 2 0 hq.1 (Or.inl ⟨by decide, rfl⟩)] at h0 ⊢; exact h0
  | 3, hq, h0 => simp only [nf_cell, h1 n 3 0 hq.1 (Or.inl ⟨by decide, rfl⟩)] at h0 ⊢; exact h0
  | 4, hq, h0 => simp only [nf_cell, h1 n 4 x hq.1 (Or.inr ⟨Or.inl rfl, hq.2.2⟩), h1 n 5 x hq.1 (Or.inr ⟨Or.inr rfl, hq.2.2⟩)] at h0 ⊢; exact h0
  | 5, _, h0 => exact h0
  | 6, _, h0 =>
    refine (show H[_]? = some (vp_cell _ _) from h0).trans ?_
    congr 1
    simp only [vp_cell, arrV]
    congr 1
    apply congrArg Array.ofFn
    funext y
    rw [h5 y.val y.isLt]
  | 7, _, h0 => exact h0
  | 8, _, h0 => simp only [nf_cell, h4] at h0 ⊢; exact h0
  | 9, hq, h0 => exact (show H[_]? = some (vp_cell _ _) from h0).trans (congrArg some (nf_ofFn (h2 n c x hq) _))
  | 10, _, h0 => exact (show H[_]? = some (vp_cell _ _) from h0).trans (congrArg some (nf_ofFn (h3 n) _))
  | k + 11, hq, _ => exact absurd hq (by simp [nf_ok])
theorem nf_eqv.symm {S T : nf_S} (h : nf_eqv S T) : nf_eqv T S := ⟨fun n c x a b => (h.1 n c x a b).symm, fun n c x a j hj => (h.2.1 n c x a j hj).symm, fun x j hj => (h.2.2.1 x j hj).symm, fun j => (h.2.2.2.1 j).symm, fun k hk => (h.2.2.2.2 k hk).symm⟩
theorem nf_eqv.rf (S : nf_S) : nf_eqv S S := ⟨fun _ _ _ _ _ => rfl, fun _ _ _ _ _ _ => rfl, fun _ _ _ => rfl, fun _ => rfl, fun _ _ => rfl⟩
theorem nf_eqv.trans {S T U : nf_S} (h : nf_eqv S T) (g : nf_eqv T U) : nf_eqv S U := ⟨fun n c x a b => (h.1 n c x a b).trans (g.1 n c x a b), fun n c x a j hj => (h.2.1 n c x a j hj).trans (g.2.1 n c x a j hj), fun x j hj => (h.2.2.1 x j hj).trans (g.2.2.1 x j hj), fun j => (h.2.2.2.1 j).trans (g.2.2.2.1 j), fun k hk => (h.2.2.2.2 k hk).trans (g.2.2.2.2 k hk)⟩
theorem nf_Vin {L : nf_L} {d : Nat} {cc : ByteArray} {own : String} {nL : Nat} {ret : Option FieldType} {r : Option Value} {S2 : nf_S} {pc : Nat} {ls : List (Option Value)} {st : List Value} {S T : nf_S} (h : nf_eqv S T) (k : nf_V L d cc own nL ret r S2 pc ls st T) : nf_V L d cc own nL ret r S2 pc ls st S :=
  fun p l e s m args below meth c H locs la hC hH hl => k p l e s m args below meth c H locs la hC ⟨h.at hH.1, hH.2⟩ hl
/-- a contract's end may be said of an equal state -/
theorem nf_Sp.out {L : nf_L} {d : Nat} {y : MethodName} {cc : ByteArray} {nL : Nat} {ret : Option FieldType} {as : List Value} {S T : nf_S} {r : Option Value} {S2 : nf_S} (k : nf_Sp L d y cc nL ret as S r S2) (h : nf_eqv S2 T) : nf_Sp L d y cc nL ret as S r T := by
  intro l p e ha hc hk s m args below hf hfit hpre hK
  obtain ⟨t, o, h1, h2, h3, ⟨q1, q2, q3⟩, h5⟩ := k l p e ha hc hk s m args below hf hfit hpre hK
  exact ⟨t, o, h1, h2, h3, ⟨q1, h.at q2, q3⟩, h5⟩
theorem nf_eqv_sA {S : nf_S} {n c h : Nat} {f g : Nat → Int32} (e : ∀ j, j < nf_len c → f j = g j) : nf_eqv (nf_sA S n c h f) (nf_sA S n c h g) := by
  refine ⟨fun _ _ _ _ _ => rfl, fun n' c' h' _ j hj => ?_, fun _ _ _ => rfl, fun _ => rfl, fun _ _ => rfl⟩
  simp only [nf_A_sA]
  split
  · rename_i q; obtain ⟨rfl, rfl, rfl⟩ := q; exact e j hj
  · rfl
theorem sp_fill {L : nf_L} {S : nf_S} {n c h : Nat} {v : Int32} (hq : nf_ok (9, n, c, h)) : nf_Sp L 0 yJ7_fill_53178 cJ7_fill_53178 4 none [.ref (L.2.2 (9, n, c, h)), .int v] S none (nf_sA S n c h (fun _ => v)) :=
  (sp_J7_fill_53178 hq).out (nf_eqv_sA (fun j hj => by simp [cf_fill, hj]))
set_option maxRecDepth 100000 in
set_option maxHeartbeats 4000000 in
theorem sp_X4_makeEmpty {L : nf_L} {S : nf_S} {n : Nat} (hn : n < 5) : nf_Sp L 1 yX4_makeEmpty cX4_makeEmpty 1 none [.ref (L.2.2 (5, n, 0, 0))] S none (nf_sA (nf_sA S n 10 0 (fun _ => 0)) n 11 0 (fun _ => 0)) := by
  refine nf_start (own := RX4) (ls0 := [some (.ref (L.2.2 (5, n, 0, 0)))]) (by decide) (Nat.le_of_ble_eq_true rfl) rfl rfl ?_
  refine nf_aln (pc := 0) dX4_makeEmpty_0 rfl ?_
  refine gf_X4_receivers (Nat.lt_succ_of_lt hn) (pc := 1) lk_X4_9 dX4_makeEmpty_1 ?_
  refine nf_iconst (pc := 4) (v := 0) dX4_makeEmpty_4 (by decide) ?_
  refine nf_cSv2 (pc := 5) (sp_fill (nf_okA hn (by decide))) mk_X4_28 st_J7_fill_53178 nm_J7_fill_53178 ⟨by decide, by decide⟩ (Nat.le_of_ble_eq_true rfl) dX4_makeEmpty_5 ?_
  refine nf_aln (pc := 8) dX4_makeEmpty_8 rfl ?_
  refine gf_X4_path (Nat.lt_succ_of_lt hn) (pc := 9) lk_X4_15 dX4_makeEmpty_9 ?_
  refine nf_iconst (pc := 12) (v := 0) dX4_makeEmpty_12 (by decide) ?_
  refine nf_cSv2 (pc := 13) (sp_fill (nf_okA hn (by decide))) mk_X4_28 st_J7_fill_53178 nm_J7_fill_53178 ⟨by decide, by decide⟩ (Nat.le_of_ble_eq_true rfl) dX4_makeEmpty_13 ?_
  exact nf_vret (pc := 16) dX4_makeEmpty_16
end
section
/-! Network, over the live net 0 -/
def cs_inc (S : nf_S) (j : Nat) : nf_S := nf_sA S 0 1 0 (upd (nf_A S 0 1 0) j (nf_A S 0 1 0 j + 1))
def cf_bit (x : Int32) : Int32 := (1 : Int32) <<< (x &&& 31)
def cs_keep (S : nf_S) (h a : Nat) : nf_S := nf_sI S 0 5 h (nf_I S 0 5 h ||| cf_bit (nI a))
def cs_drop (S : nf_S) (h a : Nat) : nf_S := nf_sI S 0 5 h (nf_I S 0 5 h &&& (cf_bit (nI a) ^^^ -1))
def cs_addc (S : nf_S) (h t : Nat) (x : Int32) : nf_S := nf_sA S 0 13 h (upd (nf_A S 0 13 h) t (nf_A S 0 13 h t ||| cf_bit x))
def cs_take (S : nf_S) (h a : Nat) (x : Int32) : nf_S := nf_sA S 0 13 h (upd (nf_A S 0 13 h) a (nf_A S 0 13 h a &&& (cf_bit x ^^^ -1)))
def cs_known (S : nf_S) (h a : Nat) (x : Int32) : nf_S := nf_sA S 0 12 h (upd (nf_A S 0 12 h) a x)
def cs_put (S : nf_S) (a h : Nat) (x y : Int32) : nf_S := nf_sA (nf_sA S 0 10 0 (upd (nf_A S 0 10 0) (a * 6 + h) x)) 0 11 0 (upd (nf_A S 0 11 0) (a * 6 + h) y)
def cf_num (x : Int32) : Nat := x.toNatClampNeg
theorem cf_num_I {k : Nat} (h : k < 2 ^ 31) : cf_num (nI k) = k := nI_clamp h
def cf_nbr (S : nf_S) (x : Int32) : Int32 := cf_nb (nf_A S 0 2 0) (nf_A S 0 3 0) x 0 (cf_num (nf_I S 0 2 0)) 0
def cf_lnk (S : nf_S) (x y : Int32) : Int32 := cf_btw (nf_A S 0 2 0) (nf_A S 0 3 0) x y 0 (cf_num (nf_I S 0 2 0))
def cf_kn (S : nf_S) (h a : Nat) : Bool := !(nf_A S 0 12 h a == -1)
def cs_act1 (S : nf_S) (a h t : Nat) : nf_S :=
  if cf_has (nf_I S 0 5 h) (nI t) = true then (if nf_A S 0 6 0 t = nf_A S 0 6 0 a then cs_inc (cs_drop S h t) 4 else cs_inc S 5)
  else if cf_kn S h t = true then S else cs_addc S h t (nf_A S 0 6 0 a)
def cs_act (S : nf_S) (a h : Nat) : nf_S := cs_act1 S a h (cf_num (nf_A S 0 9 0 a))
def cs_arr4 (S : nf_S) (a h : Nat) (path : Int32) : nf_S × Bool := (cs_put S a h (cf_nbr S (cf_bit (nI h)) &&& ((path ||| cf_bit (nI h)) ^^^ -1)) (path ||| cf_bit (nI h)), true)
def cs_arr3 (S : nf_S) (a h : Nat) (path : Int32) : nf_S × Bool := if nf_A S 0 8 0 a = 0 then cs_arr4 S a h path else cs_arr4 (cs_act S a h) a h path
def cs_arr2 (S : nf_S) (a h : Nat) (path : Int32) : nf_S × Bool :=
  if cf_has (nf_A S 0 13 h a) (nf_A S 0 6 0 a) = true then (cs_inc (cs_take S h a (nf_A S 0 6 0 a)) 4, false)
  else if cf_has (nf_I (cs_take S h a (nf_A S 0 6 0 a)) 0 4 h) (nf_A (cs_take S h a (nf_A S 0 6 0 a)) 0 5 0 a) = true then cs_arr3 (cs_keep (cs_take S h a (nf_A S 0 6 0 a)) h a) a h path
  else (cs_take S h a (nf_A S 0 6 0 a), false)
def cs_arr (S : nf_S) (a h : Nat) (path : Int32) : nf_S × Bool :=
  if cf_kn S h a = true then (cs_inc S 2, false)
  else if nf_I S 0 0 0 - nf_A S 0 7 0 a < nf_I S 0 1 0 then cs_arr2 (cs_known S h a (nf_I S 0 0 0)) a h path
  else (cs_inc S 3, false)
def cs_send2 (S : nf_S) (a t : Nat) (path : Int32) : nf_S × Bool := cs_arr (cs_inc S 0) a t path
def cs_send (S : nf_S) (a s t : Nat) (path : Int32) : nf_S × Bool :=
  if cf_lnk S (nI s) (nI t) = -1 then (S, false)
  else if nf_A S 0 4 0 (cf_num (cf_lnk S (nI s) (nI t))) = 1 then (if cf_kn (cs_inc S 1) t a = true then (cs_inc S 1, false) else cs_send2 (cs_inc S 1) a t path)
  else cs_send2 S a t path
/-- all but stores, counts, histories, pending cancels and the queue of net 0 is the same -/
def cs_same (S T : nf_S) : Prop := (∀ c h, c ≠ 5 → nf_I S 0 c h = nf_I T 0 c h) ∧ (∀ c h, c < 10 → c ≠ 1 → nf_A S 0 c h = nf_A T 0 c h) ∧ (∀ n c h, n ≠ 0 → nf_I S n c h = nf_I T n c h ∧ nf_A S n c h = nf_A T n c h) ∧ (∀ x, nf_O S x = nf_O T x) ∧ (∀ j, nf_J S j = nf_J T j) ∧ nf_v S = nf_v T
theorem cs_same.rf (S : nf_S) : cs_same S S := ⟨fun _ _ _ => rfl, fun _ _ _ _ => rfl, fun _ _ _ _ => ⟨rfl, rfl⟩, fun _ => rfl, fun _ => rfl, rfl⟩
theorem cs_same.trans {S T U : nf_S} (h : cs_same S T) (g : cs_same T U) : cs_same S U := ⟨fun c x hc => (h.1 c x hc).trans (g.1 c x hc), fun c x hc h1 => (h.2.1 c x hc h1).trans (g.2.1 c x hc h1), fun n c x hn => ⟨(h.2.2.1 n c x hn).1.trans (g.2.2.1 n c x hn).1, (h.2.2.1 n c x hn).2.trans (g.2.2.1 n c x hn).2⟩, fun x => (h.2.2.2.1 x).trans (g.2.2.2.1 x), fun j => (h.2.2.2.2.1 j).trans (g.2.2.2.2.1 j), h.2.2.2.2.2.trans g.2.2.2.2.2⟩
theorem cs_same_sA (S : nf_S) (c h : Nat) (f : Nat → Int32) (hc : c = 1 ∨ 10 ≤ c) : cs_same S (nf_sA S 0 c h f) := by
  refine ⟨fun _ _ _ => rfl, fun c' h' hc' h1 => ?_, fun n c' h' hn => ⟨rfl, ?_⟩, fun _ => rfl, fun _ => rfl, rfl⟩
  · rw [nf_A_sA, if_neg (by omega)]
  · rw [nf_A_sA, if_neg (by omega)]
theorem cs_same_sI (S : nf_S) (h : Nat) (x : Int32) : cs_same S (nf_sI S 0 5 h x) := by
  refine ⟨fun c' h' hc' => ?_, fun c' h' hc' h1 => rfl, fun n c' h' hn => ⟨?_, rfl⟩, fun _ => rfl, fun _ => rfl, rfl⟩
  · rw [nf_I_sI, if_neg (by omega)]
  · rw [nf_I_sI, if_neg (by omega)]
theorem cs_same_inc (S : nf_S) (j : Nat) : cs_same S (cs_inc S j) := cs_same_sA S 1 0 _ (Or.inl rfl)
theorem cs_same_keep (S : nf_S) (h a : Nat) : cs_same S (cs_keep S h a) := cs_same_sI S h _
theorem cs_same_drop (S : nf_S) (h a : Nat) : cs_same S (cs_drop S h a) := cs_same_sI S h _
theorem cs_same_addc (S : nf_S) (h t : Nat) (x : Int32) : cs_same S (cs_addc S h t x) := cs_same_sA S 13 h _ (Or.inr (by decide))
theorem cs_same_take (S : nf_S) (h t : Nat) (x : Int32) : cs_same S (cs_take S h t x) := cs_same_sA S 13 h _ (Or.inr (by decide))
theorem cs_same_known (S : nf_S) (h t : Nat) (x : Int32) : cs_same S (cs_known S h t x) := cs_same_sA S 12 h _ (Or.inr (by decide))
theorem cs_same_put (S : nf_S) (a h : Nat) (x y : Int32) : cs_same S (cs_put S a h x y) := (cs_same_sA S 10 0 _ (Or.inr (by decide))).trans (cs_same_sA _ 11 0 _ (Or.inr (by decide)))
theorem cs_same_act (S : nf_S) (a h : Nat) : cs_same S (cs_act S a h) := by
  unfold cs_act cs_act1
  split
  · split
    · exact (cs_same_drop S h _).trans (cs_same_inc _ _)
    · exact cs_same_inc S _
  · split
    · exact cs_same.rf S
    · exact cs_same_addc S h _ _
theorem cs_same_arr4 (S : nf_S) (a h : Nat) (path : Int32) : cs_same S (cs_arr4 S a h path).1 := cs_same_put S a h _ _
theorem cs_same_arr3 (S : nf_S) (a h : Nat) (path : Int32) : cs_same S (cs_arr3 S a h path).1 := by
  unfold cs_arr3
  split
  · exact cs_same_arr4 S a h path
  · exact (cs_same_act S a h).trans (cs_same_arr4 _ a h path)
theorem cs_same_arr2 (S : nf_S) (a h : Nat) (path : Int32) : cs_same S (cs_arr2 S a h path).1 := by
  unfold cs_arr2
  split
  · exact (cs_same_take S h a _).trans (cs_same_inc _ _)
  · split
    · exact (cs_same_take S h a _).trans ((cs_same_keep _ h a).trans (cs_same_arr3 _ a h path))
    · exact cs_same_take S h a _
theorem cs_same_arr (S : nf_S) (a h : Nat) (path : Int32) : cs_same S (cs_arr S a h path).1 := by
  unfold cs_arr
  split
  · exact cs_same_inc S _
  · split
    · exact (cs_same_known S h a _).trans (cs_same_arr2 _ a h path)
    · exact cs_same_inc S _
theorem cs_same_send (S : nf_S) (a s t : Nat) (path : Int32) : cs_same S (cs_send S a s t path).1 := by
  unfold cs_send cs_send2
  split
  · exact cs_same.rf S
  · split
    · split
      · exact cs_same_inc S _
      · exact (cs_same_inc S _).trans ((cs_same_inc _ _).trans (cs_same_arr _ a t path))
    · exact (cs_same_inc S _).trans (cs_same_arr _ a t path)
theorem cf_btw_some {F G : Nat → Int32} {a b : Int32} : ∀ (m k : Nat), ¬ cf_btw F G a b k m = -1 → ∃ j, k ≤ j ∧ j < k + m ∧ cf_btw F G a b k m = nI j
  | 0, k, h => absurd rfl h
  | m + 1, k, h => by
    unfold cf_btw at h ⊢
    split at h
    · rename_i hc
      rw [if_pos hc]
      exact ⟨k, by omega, by omega, rfl⟩
    · rename_i hc
      rw [if_neg hc]
      obtain ⟨j, h1, h2, h3⟩ := cf_btw_some m (k + 1) h
      exact ⟨j, by omega, by omega, h3⟩
/-- what the live net must keep for its methods to go through: the counts, the targets, the groups -/
def cs_ok (S : nf_S) (nl na : Nat) : Prop := nl ≤ 12 ∧ na ≤ 30 ∧ nf_I S 0 2 0 = nI nl ∧ nf_I S 0 3 0 = nI na ∧ ∀ a, a < na → (nf_A S 0 8 0 a = 0 ∨ ∃ t, t < 30 ∧ nf_A S 0 9 0 a = nI t) ∧ ∃ g, g < 4 ∧ nf_A S 0 5 0 a = nI g
theorem cs_ok.same {S T : nf_S} {nl na : Nat} (h : cs_ok S nl na) (e : cs_same S T) : cs_ok T nl na := by
  obtain ⟨h1, h2, h3, h4, h5⟩ := h
  refine ⟨h1, h2, by rw [← e.1 2 0 (by decide)]; exact h3, by rw [← e.1 3 0 (by decide)]; exact h4, fun a ha => ?_⟩
  rw [← e.2.1 8 0 (by decide) (by decide), ← e.2.1 9 0 (by decide) (by decide), ← e.2.1 5 0 (by decide) (by decide)]
  exact h5 a ha
set_option maxRecDepth 100000 in
set_option maxHeartbeats 4000000 in
theorem sp_X1_takeCancel {L : nf_L} {S : nf_S} {n h a : Nat} {x : Int32} (hn : n < 5) (hh : h < 6) (ha : a < 30) : nf_Sp L 1 yX1_takeCancel cX1_takeCancel 4 (some .boolean) [.ref (L.2.2 (4, n, 0, h)), .int (nI a), .int x] S (some (.int (nf_b (cf_has (nf_A S n 13 h a) x)))) (nf_sA S n 13 h (upd (nf_A S n 13 h) a (nf_A S n 13 h a &&& (cf_bit x ^^^ -1)))) := by
  refine nf_start (own := RX1) (ls0 := [some (.ref (L.2.2 (4, n, 0, h))), some (.int (nI a)), some (.int x), none]) (by decide) (Nat.le_of_ble_eq_true rfl) rfl rfl ?_
  refine nf_aln (pc := 0) dX1_takeCancel_0 rfl ?_
  refine gf_X1_cancelAuthors hn hh (pc := 1) lk_X1_22 dX1_takeCancel_1 ?_
  refine nf_iln (pc := 4) dX1_takeCancel_4 rfl ?_
  refine nf_ialdI (pc := 5) (k := a) (nf_ok13 hn hh) ha dX1_takeCancel_5 ?_
  refine nf_iln (pc := 6) dX1_takeCancel_6 rfl ?_
  refine nf_cNi2 (pc := 7) sp_X5_has mn_X1_31 st_X5_has nm_X5_has ⟨by decide, by decide⟩ (Nat.le_of_ble_eq_true rfl) dX1_takeCancel_7 ?_
  refine nf_is3 (pc := 10) dX1_takeCancel_10 rfl (by decide) ?_
  refine nf_aln (pc := 11) dX1_takeCancel_11 rfl ?_
  refine gf_X1_cancelAuthors hn hh (pc := 12) lk_X1_22 dX1_takeCancel_12 ?_
  refine nf_iln (pc := 15) dX1_takeCancel_15 rfl ?_
  refine nf_dup2 (pc := 16) dX1_takeCancel_16 rfl rfl ?_
  refine nf_ialdI (pc := 17) (k := a) (nf_ok13 hn hh) ha dX1_takeCancel_17 ?_
  refine nf_iconst (pc := 18) (v := 1) dX1_takeCancel_18 (by decide) ?_
  refine nf_iln (pc := 19) dX1_takeCancel_19 rfl ?_
  refine nf_ishl (pc := 20) dX1_takeCancel_20 ?_
  refine nf_iconst (pc := 21) (v := (-1)) dX1_takeCancel_21 (by decide) ?_
  refine nf_ixor (pc := 22) dX1_takeCancel_22 ?_
  refine nf_iand (pc := 23) dX1_takeCancel_23 ?_
  refine nf_iastI (pc := 24) (k := a) (nf_ok13 hn hh) ha dX1_takeCancel_24 ?_
  refine nf_iln (pc := 25) dX1_takeCancel_25 rfl ?_
  exact nf_zretb (pc := 26) dX1_takeCancel_26
set_option maxRecDepth 100000 in
set_option maxHeartbeats 4000000 in
theorem sp_X0_append {L : nf_L} {S : nf_S} {n cnt : Nat} {a b c e f : Int32} (hn : n < 5) (hc : nf_I S n 3 0 = nI cnt) (hcnt : cnt < 30) : nf_Sp L 0 yX0_append cX0_append 6 (some .int) [.ref (L.2.2 (3, n, 0, 0)), .int a, .int b, .int c, .int e, .int f] S (some (.int (nI cnt))) (nf_sI (nf_sA (nf_sA (nf_sA (nf_sA (nf_sA S n 5 0 (upd (nf_A S n 5 0) cnt a)) n 6 0 (upd (nf_A S n 6 0) cnt b)) n 7 0 (upd (nf_A S n 7 0) cnt c)) n 8 0 (upd (nf_A S n 8 0) cnt e)) n 9 0 (upd (nf_A S n 9 0) cnt f)) n 3 0 (nI (cnt + 1))) := by
  refine nf_start (own := RX0) (ls0 := [some (.ref (L.2.2 (3, n, 0, 0))), some (.int a), some (.int b), some (.int c), some (.int e), some (.int f)]) (by decide) (Nat.le_of_ble_eq_true rfl) rfl rfl ?_
  refine nf_aln (pc := 0) dX0_append_0 rfl ?_
  refine gf_X0_count hn (pc := 1) lk_X0_9 dX0_append_1 ?_
  refine nf_topI (y := nI (cnt)) hc ?_
  refine nf_bipush (pc := 4) (v := 30) dX0_append_4 (by decide) ?_
  refine nf_ic_lt (pc := 6) 11 dX0_append_6 (by decide) (fun c_6 => ?_) (fun c_6 => ?_)
  · refine nf_aln (pc := 11) dX0_append_11 rfl ?_
    refine gf_X0_group hn (pc := 12) lk_X0_15 dX0_append_12 ?_
    refine nf_aln (pc := 15) dX0_append_15 rfl ?_
    refine gf_X0_count hn (pc := 16) lk_X0_9 dX0_append_16 ?_
    refine nf_topI (y := nI (cnt)) hc ?_
    refine nf_iln (pc := 19) dX0_append_19 rfl ?_
    refine nf_iastI (pc := 20) (k := cnt) (nf_okA hn (by decide)) hcnt dX0_append_20 ?_
    refine nf_aln (pc := 21) dX0_append_21 rfl ?_
    refine gf_X0_author hn (pc := 22) lk_X0_19 dX0_append_22 ?_
    refine nf_aln (pc := 25) dX0_append_25 rfl ?_
    refine gf_X0_count hn (pc := 26) lk_X0_9 dX0_append_26 ?_
    refine nf_topI (y := nI (cnt)) hc ?_
    refine nf_iln (pc := 29) dX0_append_29 rfl ?_
    refine nf_iastI (pc := 30) (k := cnt) (nf_okA hn (by decide)) hcnt dX0_append_30 ?_
    refine nf_aln (pc := 31) dX0_append_31 rfl ?_
    refine gf_X0_postedOn hn (pc := 32) lk_X0_22 dX0_append_32 ?_
    refine nf_aln (pc := 35) dX0_append_35 rfl ?_
    refine gf_X0_count hn (pc := 36) lk_X0_9 dX0_append_36 ?_
    refine nf_topI (y := nI (cnt)) hc ?_
    refine nf_iln (pc := 39) dX0_append_39 rfl ?_
    refine nf_iastI (pc := 40) (k := cnt) (nf_okA hn (by decide)) hcnt dX0_append_40 ?_
    refine nf_aln (pc := 41) dX0_append_41 rfl ?_
    refine gf_X0_action hn (pc := 42) lk_X0_25 dX0_append_42 ?_
    refine nf_aln (pc := 45) dX0_append_45 rfl ?_
    refine gf_X0_count hn (pc := 46) lk_X0_9 dX0_append_46 ?_
    refine nf_topI (y := nI (cnt)) hc ?_
    refine nf_il (pc := 49) dX0_append_49 rfl ?_
    refine nf_iastI (pc := 51) (k := cnt) (nf_okA hn (by decide)) hcnt dX0_append_51 ?_
    refine nf_aln (pc := 52) dX0_append_52 rfl ?_
    refine gf_X0_target hn (pc := 53) lk_X0_28 dX0_append_53 ?_
    refine nf_aln (pc := 56) dX0_append_56 rfl ?_
    refine gf_X0_count hn (pc := 57) lk_X0_9 dX0_append_57 ?_
    refine nf_topI (y := nI (cnt)) hc ?_
    refine nf_il (pc := 60) dX0_append_60 rfl ?_
    refine nf_iastI (pc := 62) (k := cnt) (nf_okA hn (by decide)) hcnt dX0_append_62 ?_
    refine nf_aln (pc := 63) dX0_append_63 rfl ?_
    refine nf_dup (pc := 64) dX0_append_64 rfl ?_
    refine gf_X0_count hn (pc := 65) lk_X0_9 dX0_append_65 ?_
    refine nf_topI (y := nI (cnt)) hc ?_
    refine nf_iconst (pc := 68) (v := 1) dX0_append_68 (by decide) ?_
    refine nf_iaddI (pc := 69) (a := cnt) (b := 1) dX0_append_69 ?_
    refine pf_X0_count hn (pc := 70) lk_X0_9 dX0_append_70 ?_
    refine nf_aln (pc := 73) dX0_append_73 rfl ?_
    refine gf_X0_count hn (pc := 74) lk_X0_9 dX0_append_74 ?_
    refine nf_topI (y := nI (cnt + 1)) (by simp [nf_I_sI]) ?_
    refine nf_iconst (pc := 77) (v := 1) dX0_append_77 (by decide) ?_
    refine nf_isub (pc := 78) dX0_append_78 ?_
    refine nf_topI (y := nI (cnt)) (nf_succ_sub _) ?_
    exact nf_to rfl (by simp [nf_A_sA]) (nf_iret (pc := 79) dX0_append_79)
  · exact absurd (nI_lt (b := 30) hcnt (by decide)) c_6
theorem sp_kn {L : nf_L} {S : nf_S} {h a : Nat} (hh : h < 6) (ha : a < 30) : nf_Sp L 0 yX1_knows cX1_knows 2 (some .boolean) [.ref (L.2.2 (4, 0, 0, h)), .int (nI a)] S (some (.int (nf_b (cf_kn S h a)))) S := sp_X1_knows (by decide) hh ha
theorem sp_nbr {L : nf_L} {S : nf_S} {nl na : Nat} {x : Int32} (hk : cs_ok S nl na) : nf_Sp L 1 yX2_neighboursOf cX2_neighboursOf 4 (some .int) [.ref (L.2.2 (2, 0, 0, 0)), .int x] S (some (.int (cf_nbr S x))) S := by
  have h := sp_X2_neighboursOf (L := L) (n := 0) (s := x) (by decide) hk.2.2.1 hk.1
  unfold cf_nbr
  rw [hk.2.2.1, cf_num_I (by have := hk.1; omega)]
  exact h
theorem sp_lnk {L : nf_L} {S : nf_S} {nl na : Nat} {x y : Int32} (hk : cs_ok S nl na) : nf_Sp L 0 yX2_between cX2_between 6 (some .int) [.ref (L.2.2 (2, 0, 0, 0)), .int x, .int y] S (some (.int (cf_lnk S x y))) S := by
  have h := sp_X2_between (L := L) (n := 0) (a := x) (b := y) (by decide) hk.2.2.1 hk.1
  unfold cf_lnk
  rw [hk.2.2.1, cf_num_I (by have := hk.1; omega)]
  exact h
theorem cs_act_t {S : nf_S} {a h t : Nat} (ht : t < 30) (et : nf_A S 0 9 0 a = nI t) : cs_act1 S a h t = cs_act S a h := by
  unfold cs_act; rw [et, cf_num_I (by omega)]
theorem cf_lnk_some {S : nf_S} {nl na : Nat} {x y : Int32} (hk : cs_ok S nl na) (h : ¬ cf_lnk S x y = -1) : ∃ j, j < 12 ∧ cf_lnk S x y = nI j := by
  obtain ⟨j, _, h2, h3⟩ := cf_btw_some _ _ h
  have h4 := hk.1
  rw [hk.2.2.1, cf_num_I (by omega)] at h2
  exact ⟨j, by omega, h3⟩

set_option maxRecDepth 100000 in
set_option maxHeartbeats 4000000 in
theorem sp_X3_actOnTarget {L : nf_L} {S : nf_S} {h a t : Nat} (hh : h < 6) (ha : a < 30) (ht : t < 30) (et : nf_A S 0 9 0 a = nI t) : nf_Sp L 2 yX3_actOnTarget cX3_actOnTarget 5 none [.ref (L.2.2 (1, 0, 0, 0)), .int (nI a), .ref (L.2.2 (4, 0, 0, h))] S none (cs_act1 S a h t) := by
  refine nf_start (own := RX3) (ls0 := [some (.ref (L.2.2 (1, 0, 0, 0))), some (.int (nI a)), some (.ref (L.2.2 (4, 0, 0, h))), none, none]) (by decide) (Nat.le_of_ble_eq_true rfl) rfl rfl ?_
  refine nf_aln (pc := 0) dX3_actOnTarget_0 rfl ?_
  refine gf_X3_articles (by decide) (pc := 1) lk_X3_32 dX3_actOnTarget_1 ?_
  refine gf_X0_target (by decide) (pc := 4) lk_X3_101 dX3_actOnTarget_4 ?_
  refine nf_iln (pc := 7) dX3_actOnTarget_7 rfl ?_
  refine nf_ialdI (pc := 8) (k := a) (nf_okA (by decide) (by decide)) ha dX3_actOnTarget_8 ?_
  refine nf_topI (y := nI (t)) et ?_
  refine nf_is3 (pc := 9) dX3_actOnTarget_9 rfl (by decide) ?_
  refine nf_aln (pc := 10) dX3_actOnTarget_10 rfl ?_
  refine gf_X3_articles (by decide) (pc := 11) lk_X3_32 dX3_actOnTarget_11 ?_
  refine gf_X0_author (by decide) (pc := 14) lk_X3_69 dX3_actOnTarget_14 ?_
  refine nf_iln (pc := 17) dX3_actOnTarget_17 rfl ?_
  refine nf_ialdI (pc := 18) (k := a) (nf_okA (by decide) (by decide)) ha dX3_actOnTarget_18 ?_
  refine nf_is4 (pc := 19) dX3_actOnTarget_19 rfl (by decide) ?_
  refine nf_aln (pc := 21) dX3_actOnTarget_21 rfl ?_
  refine nf_iln (pc := 22) dX3_actOnTarget_22 rfl ?_
  refine nf_cVi1 (pc := 23) (sp_X1_stores (by decide) hh) (nf_ok4 (by decide) hh) rfl rfl mk_X3_104 im_X1_stores se_X1_stores nm_X1_stores ⟨by decide, by decide⟩ (Nat.le_of_ble_eq_true rfl) dX3_actOnTarget_23 ?_
  refine nf_if_eqB (pc := 26) 74 dX3_actOnTarget_26 (by decide) (fun c_26 => ?_) (fun c_26 => ?_)
  · refine nf_aln (pc := 74) dX3_actOnTarget_74 rfl ?_
    refine nf_iln (pc := 75) dX3_actOnTarget_75 rfl ?_
    refine nf_cVi1 (pc := 76) (sp_kn hh ht) (nf_ok4 (by decide) hh) rfl rfl mk_X3_59 im_X1_knows se_X1_knows nm_X1_knows ⟨by decide, by decide⟩ (Nat.le_of_ble_eq_true rfl) dX3_actOnTarget_76 ?_
    refine nf_if_neB (pc := 79) 89 dX3_actOnTarget_79 (by decide) (fun c_79 => ?_) (fun c_79 => ?_)
    · exact nf_to rfl (by simp only [cs_act1, c_26, c_79, if_true, if_false, reduceIte, Bool.false_eq_true] <;> rfl) (nf_vret (pc := 89) dX3_actOnTarget_89)
    · refine nf_aln (pc := 82) dX3_actOnTarget_82 rfl ?_
      refine nf_iln (pc := 83) dX3_actOnTarget_83 rfl ?_
      refine nf_il (pc := 84) dX3_actOnTarget_84 rfl ?_
      refine nf_cVv2 (pc := 86) (sp_X1_addCancel (by decide) hh ht) (nf_ok4 (by decide) hh) rfl rfl mk_X3_110 im_X1_addCancel se_X1_addCancel nm_X1_addCancel ⟨by decide, by decide⟩ (Nat.le_of_ble_eq_true rfl) dX3_actOnTarget_86 ?_
      exact nf_to rfl (by simp only [cs_act1, c_26, c_79, if_true, if_false, reduceIte, Bool.false_eq_true] <;> rfl) (nf_vret (pc := 89) dX3_actOnTarget_89)
  · refine nf_aln (pc := 29) dX3_actOnTarget_29 rfl ?_
    refine gf_X3_articles (by decide) (pc := 30) lk_X3_32 dX3_actOnTarget_30 ?_
    refine gf_X0_author (by decide) (pc := 33) lk_X3_69 dX3_actOnTarget_33 ?_
    refine nf_iln (pc := 36) dX3_actOnTarget_36 rfl ?_
    refine nf_ialdI (pc := 37) (k := t) (nf_okA (by decide) (by decide)) ht dX3_actOnTarget_37 ?_
    refine nf_il (pc := 38) dX3_actOnTarget_38 rfl ?_
    refine nf_ic_ne (pc := 40) 61 dX3_actOnTarget_40 (by decide) (fun c_40 => ?_) (fun c_40 => ?_)
    · refine nf_aln (pc := 61) dX3_actOnTarget_61 rfl ?_
      refine gf_X3_counts (by decide) (pc := 62) lk_X3_49 dX3_actOnTarget_62 ?_
      refine nf_iconst (pc := 65) (v := 5) dX3_actOnTarget_65 (by decide) ?_
      refine nf_dup2 (pc := 66) dX3_actOnTarget_66 rfl rfl ?_
      refine nf_ialdI (pc := 67) (k := 5) (nf_okA (by decide) (by decide)) (by decide) dX3_actOnTarget_67 ?_
      refine nf_iconst (pc := 68) (v := 1) dX3_actOnTarget_68 (by decide) ?_
      refine nf_iadd (pc := 69) dX3_actOnTarget_69 ?_
      refine nf_iastI (pc := 70) (k := 5) (nf_okA (by decide) (by decide)) (by decide) dX3_actOnTarget_70 ?_
      refine nf_goto (pc := 71) 89 dX3_actOnTarget_71 (by decide) ?_
      exact nf_to rfl (by simp only [cs_act1, c_26, c_40, if_true, if_false, reduceIte, Bool.false_eq_true] <;> rfl) (nf_vret (pc := 89) dX3_actOnTarget_89)
    · refine nf_aln (pc := 43) dX3_actOnTarget_43 rfl ?_
      refine nf_iln (pc := 44) dX3_actOnTarget_44 rfl ?_
      refine nf_cVv1 (pc := 45) (sp_X1_drop (by decide) hh) (nf_ok4 (by decide) hh) rfl rfl mk_X3_107 im_X1_drop se_X1_drop nm_X1_drop ⟨by decide, by decide⟩ (Nat.le_of_ble_eq_true rfl) dX3_actOnTarget_45 ?_
      refine nf_from (S' := cs_drop S h t) rfl ?_
      refine nf_aln (pc := 48) dX3_actOnTarget_48 rfl ?_
      refine gf_X3_counts (by decide) (pc := 49) lk_X3_49 dX3_actOnTarget_49 ?_
      refine nf_iconst (pc := 52) (v := 4) dX3_actOnTarget_52 (by decide) ?_
      refine nf_dup2 (pc := 53) dX3_actOnTarget_53 rfl rfl ?_
      refine nf_ialdI (pc := 54) (k := 4) (nf_okA (by decide) (by decide)) (by decide) dX3_actOnTarget_54 ?_
      refine nf_iconst (pc := 55) (v := 1) dX3_actOnTarget_55 (by decide) ?_
      refine nf_iadd (pc := 56) dX3_actOnTarget_56 ?_
      refine nf_iastI (pc := 57) (k := 4) (nf_okA (by decide) (by decide)) (by decide) dX3_actOnTarget_57 ?_
      refine nf_goto (pc := 58) 89 dX3_actOnTarget_58 (by decide) ?_
      exact nf_to rfl (by simp only [cs_act1, c_26, c_40, if_true, if_false, reduceIte, Bool.false_eq_true] <;> rfl) (nf_vret (pc := 89) dX3_actOnTarget_89)
set_option maxRecDepth 100000 in
set_option maxHeartbeats 4000000 in
theorem sp_X3_arrive {L : nf_L} {S : nf_S} {h a nl na : Nat} {path : Int32} (hk : cs_ok S nl na) (hh : h < 6) (ha : a < na) : nf_Sp L 3 yX3_arrive cX3_arrive 6 (some .boolean) [.ref (L.2.2 (1, 0, 0, 0)), .int (nI a), .int (nI h), .int path] S (some (.int (nf_b (cs_arr S a h path).2))) (cs_arr S a h path).1 := by
  have ha30 : a < 30 := Nat.lt_of_lt_of_le ha hk.2.1
  refine nf_start (own := RX3) (ls0 := [some (.ref (L.2.2 (1, 0, 0, 0))), some (.int (nI a)), some (.int (nI h)), some (.int path), none, none]) (by decide) (Nat.le_of_ble_eq_true rfl) rfl rfl ?_
  refine nf_aln (pc := 0) dX3_arrive_0 rfl ?_
  refine gf_X3_hosts (by decide) (pc := 1) lk_X3_38 dX3_arrive_1 ?_
  refine nf_iln (pc := 4) dX3_arrive_4 rfl ?_
  refine nf_haldI (pc := 5) (k := h) (by decide) hh dX3_arrive_5 ?_
  refine nf_as4 (pc := 6) dX3_arrive_6 rfl (by decide) ?_
  refine nf_al (pc := 8) dX3_arrive_8 rfl ?_
  refine nf_iln (pc := 10) dX3_arrive_10 rfl ?_
  refine nf_cVi1 (pc := 11) (sp_kn hh ha30) (nf_ok4 (by decide) hh) rfl rfl mk_X3_59 im_X1_knows se_X1_knows nm_X1_knows ⟨by decide, by decide⟩ (Nat.le_of_ble_eq_true rfl) dX3_arrive_11 ?_
  refine nf_if_eqB (pc := 14) 29 dX3_arrive_14 (by decide) (fun c_14 => ?_) (fun c_14 => ?_)
  · refine nf_aln (pc := 29) dX3_arrive_29 rfl ?_
    refine gf_X3_today (by decide) (pc := 30) lk_X3_9 dX3_arrive_30 ?_
    refine nf_aln (pc := 33) dX3_arrive_33 rfl ?_
    refine gf_X3_articles (by decide) (pc := 34) lk_X3_32 dX3_arrive_34 ?_
    refine gf_X0_postedOn (by decide) (pc := 37) lk_X3_63 dX3_arrive_37 ?_
    refine nf_iln (pc := 40) dX3_arrive_40 rfl ?_
    refine nf_ialdI (pc := 41) (k := a) (nf_okA (by decide) (by decide)) ha30 dX3_arrive_41 ?_
    refine nf_isub (pc := 42) dX3_arrive_42 ?_
    refine nf_aln (pc := 43) dX3_arrive_43 rfl ?_
    refine gf_X3_historyLimit (by decide) (pc := 44) lk_X3_15 dX3_arrive_44 ?_
    refine nf_ic_lt (pc := 47) 62 dX3_arrive_47 (by decide) (fun c_47 => ?_) (fun c_47 => ?_)
    · refine nf_al (pc := 62) dX3_arrive_62 rfl ?_
      refine gf_X1_historyDay (by decide) hh (pc := 64) lk_X3_66 dX3_arrive_64 ?_
      refine nf_iln (pc := 67) dX3_arrive_67 rfl ?_
      refine nf_aln (pc := 68) dX3_arrive_68 rfl ?_
      refine gf_X3_today (by decide) (pc := 69) lk_X3_9 dX3_arrive_69 ?_
      refine nf_iastI (pc := 72) (k := a) (nf_ok12 (by decide) hh) ha30 dX3_arrive_72 ?_
      refine nf_from (S' := cs_known S h a (nf_I S 0 0 0)) rfl ?_
      refine nf_al (pc := 73) dX3_arrive_73 rfl ?_
      refine nf_iln (pc := 75) dX3_arrive_75 rfl ?_
      refine nf_aln (pc := 76) dX3_arrive_76 rfl ?_
      refine gf_X3_articles (by decide) (pc := 77) lk_X3_32 dX3_arrive_77 ?_
      refine gf_X0_author (by decide) (pc := 80) lk_X3_69 dX3_arrive_80 ?_
      refine nf_iln (pc := 83) dX3_arrive_83 rfl ?_
      refine nf_ialdI (pc := 84) (k := a) (nf_okA (by decide) (by decide)) ha30 dX3_arrive_84 ?_
      refine nf_cVi2 (pc := 85) (sp_X1_takeCancel (by decide) hh ha30) (nf_ok4 (by decide) hh) rfl rfl mk_X3_72 im_X1_takeCancel se_X1_takeCancel nm_X1_takeCancel ⟨by decide, by decide⟩ (Nat.le_of_ble_eq_true rfl) dX3_arrive_85 ?_
      refine nf_if_eqB (pc := 88) 103 dX3_arrive_88 (by decide) (fun c_88 => ?_) (fun c_88 => ?_)
      · refine nf_from (S' := (cs_take (cs_known S h a (nf_I S 0 0 0)) h a (nf_A (cs_known S h a (nf_I S 0 0 0)) 0 6 0 a))) rfl ?_
        refine nf_al (pc := 103) dX3_arrive_103 rfl ?_
        refine nf_aln (pc := 105) dX3_arrive_105 rfl ?_
        refine gf_X3_articles (by decide) (pc := 106) lk_X3_32 dX3_arrive_106 ?_
        refine gf_X0_group (by decide) (pc := 109) lk_X3_76 dX3_arrive_109 ?_
        refine nf_iln (pc := 112) dX3_arrive_112 rfl ?_
        refine nf_ialdI (pc := 113) (k := a) (nf_okA (by decide) (by decide)) ha30 dX3_arrive_113 ?_
        refine nf_cVi1 (pc := 114) (sp_X1_carries (by decide) hh) (nf_ok4 (by decide) hh) rfl rfl mk_X3_79 im_X1_carries se_X1_carries nm_X1_carries ⟨by decide, by decide⟩ (Nat.le_of_ble_eq_true rfl) dX3_arrive_114 ?_
        refine nf_if_neB (pc := 117) 122 dX3_arrive_117 (by decide) (fun c_117 => ?_) (fun c_117 => ?_)
        · refine nf_al (pc := 122) dX3_arrive_122 rfl ?_
          refine nf_iln (pc := 124) dX3_arrive_124 rfl ?_
          refine nf_cVv1 (pc := 125) (sp_X1_keep (by decide) hh) (nf_ok4 (by decide) hh) rfl rfl mk_X3_82 im_X1_keep se_X1_keep nm_X1_keep ⟨by decide, by decide⟩ (Nat.le_of_ble_eq_true rfl) dX3_arrive_125 ?_
          refine nf_from (S' := cs_keep (cs_take (cs_known S h a (nf_I S 0 0 0)) h a (nf_A (cs_known S h a (nf_I S 0 0 0)) 0 6 0 a)) h a) rfl ?_
          have hk1 : cs_ok (cs_keep (cs_take (cs_known S h a (nf_I S 0 0 0)) h a (nf_A (cs_known S h a (nf_I S 0 0 0)) 0 6 0 a)) h a) nl na := hk.same ((cs_same_known S h a _).trans ((cs_same_take _ h a _).trans (cs_same_keep _ h a)))
          refine nf_aln (pc := 128) dX3_arrive_128 rfl ?_
          refine gf_X3_articles (by decide) (pc := 129) lk_X3_32 dX3_arrive_129 ?_
          refine gf_X0_action (by decide) (pc := 132) lk_X3_86 dX3_arrive_132 ?_
          refine nf_iln (pc := 135) dX3_arrive_135 rfl ?_
          refine nf_ialdI (pc := 136) (k := a) (nf_okA (by decide) (by decide)) ha30 dX3_arrive_136 ?_
          refine nf_if_eq (pc := 137) 147 dX3_arrive_137 (by decide) (fun c_137 => ?_) (fun c_137 => ?_)
          · refine nf_iln (pc := 147) dX3_arrive_147 rfl ?_
            refine nf_iconst (pc := 148) (v := 1) dX3_arrive_148 (by decide) ?_
            refine nf_iln (pc := 149) dX3_arrive_149 rfl ?_
            refine nf_ishl (pc := 150) dX3_arrive_150 ?_
            refine nf_ior (pc := 151) dX3_arrive_151 ?_
            refine nf_is5 (pc := 152) dX3_arrive_152 rfl (by decide) ?_
            refine nf_aln (pc := 154) dX3_arrive_154 rfl ?_
            refine gf_X3_queue (by decide) (pc := 155) lk_X3_45 dX3_arrive_155 ?_
            refine nf_iln (pc := 158) dX3_arrive_158 rfl ?_
            refine nf_iln (pc := 159) dX3_arrive_159 rfl ?_
            refine nf_aln (pc := 160) dX3_arrive_160 rfl ?_
            refine gf_X3_links (by decide) (pc := 161) lk_X3_25 dX3_arrive_161 ?_
            refine nf_iconst (pc := 164) (v := 1) dX3_arrive_164 (by decide) ?_
            refine nf_iln (pc := 165) dX3_arrive_165 rfl ?_
            refine nf_ishl (pc := 166) dX3_arrive_166 ?_
            refine nf_cVi1 (pc := 167) (sp_nbr hk1) ⟨(by decide), rfl⟩ rfl rfl mk_X3_93 im_X2_neighboursOf se_X2_neighboursOf nm_X2_neighboursOf ⟨by decide, by decide⟩ (Nat.le_of_ble_eq_true rfl) dX3_arrive_167 ?_
            refine nf_il (pc := 170) dX3_arrive_170 rfl ?_
            refine nf_iconst (pc := 172) (v := (-1)) dX3_arrive_172 (by decide) ?_
            refine nf_ixor (pc := 173) dX3_arrive_173 ?_
            refine nf_iand (pc := 174) dX3_arrive_174 ?_
            refine nf_il (pc := 175) dX3_arrive_175 rfl ?_
            refine nf_cVv4 (pc := 177) (sp_X4_put (by decide) ha30 hh) ⟨(by decide), rfl⟩ rfl rfl mk_X3_97 im_X4_put se_X4_put nm_X4_put ⟨by decide, by decide⟩ (Nat.le_of_ble_eq_true rfl) dX3_arrive_177 ?_
            refine nf_iconst (pc := 180) (v := 1) dX3_arrive_180 (by decide) ?_
            exact nf_to (by simp only [cs_arr, cs_arr2, cs_arr3, cs_arr4, c_14, c_47, c_88, c_117, c_137, if_true, if_false, reduceIte, Bool.false_eq_true] <;> rfl) (by simp only [cs_arr, cs_arr2, cs_arr3, cs_arr4, c_14, c_47, c_88, c_117, c_137, if_true, if_false, reduceIte, Bool.false_eq_true] <;> rfl) (nf_zret1 (pc := 181) dX3_arrive_181)
          · obtain ⟨t, ht, et⟩ := (hk1.2.2.2.2 a ha).1.resolve_left c_137
            refine nf_aln (pc := 140) dX3_arrive_140 rfl ?_
            refine nf_iln (pc := 141) dX3_arrive_141 rfl ?_
            refine nf_al (pc := 142) dX3_arrive_142 rfl ?_
            refine nf_cVv2 (pc := 144) (sp_X3_actOnTarget hh ha30 ht et) ⟨(by decide), rfl⟩ rfl rfl mk_X3_89 im_X3_actOnTarget se_X3_actOnTarget nm_X3_actOnTarget ⟨by decide, by decide⟩ (Nat.le_of_ble_eq_true rfl) dX3_arrive_144 ?_
            refine nf_from (cs_act_t ht et) ?_
            have hk1 := hk1.same (cs_same_act _ a h)
            refine nf_iln (pc := 147) dX3_arrive_147 rfl ?_
            refine nf_iconst (pc := 148) (v := 1) dX3_arrive_148 (by decide) ?_
            refine nf_iln (pc := 149) dX3_arrive_149 rfl ?_
            refine nf_ishl (pc := 150) dX3_arrive_150 ?_
            refine nf_ior (pc := 151) dX3_arrive_151 ?_
            refine nf_is5 (pc := 152) dX3_arrive_152 rfl (by decide) ?_
            refine nf_aln (pc := 154) dX3_arrive_154 rfl ?_
            refine gf_X3_queue (by decide) (pc := 155) lk_X3_45 dX3_arrive_155 ?_
            refine nf_iln (pc := 158) dX3_arrive_158 rfl ?_
            refine nf_iln (pc := 159) dX3_arrive_159 rfl ?_
            refine nf_aln (pc := 160) dX3_arrive_160 rfl ?_
            refine gf_X3_links (by decide) (pc := 161) lk_X3_25 dX3_arrive_161 ?_
            refine nf_iconst (pc := 164) (v := 1) dX3_arrive_164 (by decide) ?_
            refine nf_iln (pc := 165) dX3_arrive_165 rfl ?_
            refine nf_ishl (pc := 166) dX3_arrive_166 ?_
            refine nf_cVi1 (pc := 167) (sp_nbr hk1) ⟨(by decide), rfl⟩ rfl rfl mk_X3_93 im_X2_neighboursOf se_X2_neighboursOf nm_X2_neighboursOf ⟨by decide, by decide⟩ (Nat.le_of_ble_eq_true rfl) dX3_arrive_167 ?_
            refine nf_il (pc := 170) dX3_arrive_170 rfl ?_
            refine nf_iconst (pc := 172) (v := (-1)) dX3_arrive_172 (by decide) ?_
            refine nf_ixor (pc := 173) dX3_arrive_173 ?_
            refine nf_iand (pc := 174) dX3_arrive_174 ?_
            refine nf_il (pc := 175) dX3_arrive_175 rfl ?_
            refine nf_cVv4 (pc := 177) (sp_X4_put (by decide) ha30 hh) ⟨(by decide), rfl⟩ rfl rfl mk_X3_97 im_X4_put se_X4_put nm_X4_put ⟨by decide, by decide⟩ (Nat.le_of_ble_eq_true rfl) dX3_arrive_177 ?_
            refine nf_iconst (pc := 180) (v := 1) dX3_arrive_180 (by decide) ?_
            exact nf_to (by simp only [cs_arr, cs_arr2, cs_arr3, cs_arr4, c_14, c_47, c_88, c_117, c_137, if_true, if_false, reduceIte, Bool.false_eq_true] <;> rfl) (by simp only [cs_arr, cs_arr2, cs_arr3, cs_arr4, c_14, c_47, c_88, c_117, c_137, if_true, if_false, reduceIte, Bool.false_eq_true] <;> rfl) (nf_zret1 (pc := 181) dX3_arrive_181)
        · refine nf_iconst (pc := 120) (v := 0) dX3_arrive_120 (by decide) ?_
          exact nf_to (by simp only [cs_arr, cs_arr2, c_14, c_47, c_88, c_117, if_true, if_false, reduceIte, Bool.false_eq_true] <;> rfl) (by simp only [cs_arr, cs_arr2, c_14, c_47, c_88, c_117, if_true, if_false, reduceIte, Bool.false_eq_true] <;> rfl) (nf_zret0 (pc := 121) dX3_arrive_121)
      · refine nf_from (S' := (cs_take (cs_known S h a (nf_I S 0 0 0)) h a (nf_A (cs_known S h a (nf_I S 0 0 0)) 0 6 0 a))) rfl ?_
        refine nf_aln (pc := 91) dX3_arrive_91 rfl ?_
        refine gf_X3_counts (by decide) (pc := 92) lk_X3_49 dX3_arrive_92 ?_
        refine nf_iconst (pc := 95) (v := 4) dX3_arrive_95 (by decide) ?_
        refine nf_dup2 (pc := 96) dX3_arrive_96 rfl rfl ?_
        refine nf_ialdI (pc := 97) (k := 4) (nf_okA (by decide) (by decide)) (by decide) dX3_arrive_97 ?_
        refine nf_iconst (pc := 98) (v := 1) dX3_arrive_98 (by decide) ?_
        refine nf_iadd (pc := 99) dX3_arrive_99 ?_
        refine nf_iastI (pc := 100) (k := 4) (nf_okA (by decide) (by decide)) (by decide) dX3_arrive_100 ?_
        refine nf_iconst (pc := 101) (v := 0) dX3_arrive_101 (by decide) ?_
        exact nf_to (by simp only [cs_arr, cs_arr2, c_14, c_47, c_88, if_true, if_false, reduceIte, Bool.false_eq_true] <;> rfl) (by simp only [cs_arr, cs_arr2, c_14, c_47, c_88, if_true, if_false, reduceIte, Bool.false_eq_true] <;> rfl) (nf_zret0 (pc := 102) dX3_arrive_102)
    · refine nf_aln (pc := 50) dX3_arrive_50 rfl ?_
      refine gf_X3_counts (by decide) (pc := 51) lk_X3_49 dX3_arrive_51 ?_
      refine nf_iconst (pc := 54) (v := 3) dX3_arrive_54 (by decide) ?_
      refine nf_dup2 (pc := 55) dX3_arrive_55 rfl rfl ?_
      refine nf_ialdI (pc := 56) (k := 3) (nf_okA (by decide) (by decide)) (by decide) dX3_arrive_56 ?_
      refine nf_iconst (pc := 57) (v := 1) dX3_arrive_57 (by decide) ?_
      refine nf_iadd (pc := 58) dX3_arrive_58 ?_
      refine nf_iastI (pc := 59) (k := 3) (nf_okA (by decide) (by decide)) (by decide) dX3_arrive_59 ?_
      refine nf_iconst (pc := 60) (v := 0) dX3_arrive_60 (by decide) ?_
      exact nf_to (by simp only [cs_arr, c_14, c_47, if_true, if_false, reduceIte, Bool.false_eq_true] <;> rfl) (by simp only [cs_arr, c_14, c_47, if_true, if_false, reduceIte, Bool.false_eq_true] <;> rfl) (nf_zret0 (pc := 61) dX3_arrive_61)
  · refine nf_aln (pc := 17) dX3_arrive_17 rfl ?_
    refine gf_X3_counts (by decide) (pc := 18) lk_X3_49 dX3_arrive_18 ?_
    refine nf_iconst (pc := 21) (v := 2) dX3_arrive_21 (by decide) ?_
    refine nf_dup2 (pc := 22) dX3_arrive_22 rfl rfl ?_
    refine nf_ialdI (pc := 23) (k := 2) (nf_okA (by decide) (by decide)) (by decide) dX3_arrive_23 ?_
    refine nf_iconst (pc := 24) (v := 1) dX3_arrive_24 (by decide) ?_
    refine nf_iadd (pc := 25) dX3_arrive_25 ?_
    refine nf_iastI (pc := 26) (k := 2) (nf_okA (by decide) (by decide)) (by decide) dX3_arrive_26 ?_
    refine nf_iconst (pc := 27) (v := 0) dX3_arrive_27 (by decide) ?_
    exact nf_to (by simp only [cs_arr, c_14, if_true, if_false, reduceIte, Bool.false_eq_true] <;> rfl) (by simp only [cs_arr, c_14, if_true, if_false, reduceIte, Bool.false_eq_true] <;> rfl) (nf_zret0 (pc := 28) dX3_arrive_28)
set_option maxRecDepth 100000 in
set_option maxHeartbeats 4000000 in
theorem sp_X3_sendTo {L : nf_L} {S : nf_S} {a s t nl na : Nat} {path : Int32} (hk : cs_ok S nl na) (ht : t < 6) (ha : a < na) : nf_Sp L 4 yX3_sendTo cX3_sendTo 6 (some .boolean) [.ref (L.2.2 (1, 0, 0, 0)), .int (nI a), .int (nI s), .int (nI t), .int path] S (some (.int (nf_b (cs_send S a s t path).2))) (cs_send S a s t path).1 := by
  have ha30 : a < 30 := Nat.lt_of_lt_of_le ha hk.2.1
  refine nf_start (own := RX3) (ls0 := [some (.ref (L.2.2 (1, 0, 0, 0))), some (.int (nI a)), some (.int (nI s)), some (.int (nI t)), some (.int path), none]) (by decide) (Nat.le_of_ble_eq_true rfl) rfl rfl ?_
  refine nf_aln (pc := 0) dX3_sendTo_0 rfl ?_
  refine gf_X3_links (by decide) (pc := 1) lk_X3_25 dX3_sendTo_1 ?_
  refine nf_iln (pc := 4) dX3_sendTo_4 rfl ?_
  refine nf_iln (pc := 5) dX3_sendTo_5 rfl ?_
  refine nf_cVi2 (pc := 6) (sp_lnk hk) ⟨(by decide), rfl⟩ rfl rfl mk_X3_141 im_X2_between se_X2_between nm_X2_between ⟨by decide, by decide⟩ (Nat.le_of_ble_eq_true rfl) dX3_sendTo_6 ?_
  refine nf_is5 (pc := 9) dX3_sendTo_9 rfl (by decide) ?_
  refine nf_il (pc := 11) dX3_sendTo_11 rfl ?_
  refine nf_iconst (pc := 13) (v := (-1)) dX3_sendTo_13 (by decide) ?_
  refine nf_ic_ne (pc := 14) 19 dX3_sendTo_14 (by decide) (fun c_14 => ?_) (fun c_14 => ?_)
  · obtain ⟨j, hj, ej⟩ := cf_lnk_some hk c_14
    refine nf_aln (pc := 19) dX3_sendTo_19 rfl ?_
    refine gf_X3_links (by decide) (pc := 20) lk_X3_25 dX3_sendTo_20 ?_
    refine gf_X2_kind (by decide) (pc := 23) lk_X3_144 dX3_sendTo_23 ?_
    refine nf_il (pc := 26) dX3_sendTo_26 rfl ?_
    refine nf_iald (pc := 28) (nf_okA (by decide) (by decide)) (by rw [ej]; exact nf_inI hj (by decide)) dX3_sendTo_28 ?_
    refine nf_iconst (pc := 29) (v := 1) dX3_sendTo_29 (by decide) ?_
    refine nf_ic_ne (pc := 30) 58 dX3_sendTo_30 (by decide) (fun c_30 => ?_) (fun c_30 => ?_)
    · refine nf_aln (pc := 58) dX3_sendTo_58 rfl ?_
      refine gf_X3_counts (by decide) (pc := 59) lk_X3_49 dX3_sendTo_59 ?_
      refine nf_iconst (pc := 62) (v := 0) dX3_sendTo_62 (by decide) ?_
      refine nf_dup2 (pc := 63) dX3_sendTo_63 rfl rfl ?_
      refine nf_ialdI (pc := 64) (k := 0) (nf_okA (by decide) (by decide)) (by decide) dX3_sendTo_64 ?_
      refine nf_iconst (pc := 65) (v := 1) dX3_sendTo_65 (by decide) ?_
      refine nf_iadd (pc := 66) dX3_sendTo_66 ?_
      refine nf_iastI (pc := 67) (k := 0) (nf_okA (by decide) (by decide)) (by decide) dX3_sendTo_67 ?_
      refine nf_from (S' := cs_inc S 0) rfl ?_
      have hk1 := hk.same (cs_same_inc S 0)
      refine nf_aln (pc := 68) dX3_sendTo_68 rfl ?_
      refine nf_iln (pc := 69) dX3_sendTo_69 rfl ?_
      refine nf_iln (pc := 70) dX3_sendTo_70 rfl ?_
      refine nf_il (pc := 71) dX3_sendTo_71 rfl ?_
      refine nf_cVi3 (pc := 73) (sp_X3_arrive hk1 ht ha) ⟨(by decide), rfl⟩ rfl rfl mk_X3_147 im_X3_arrive se_X3_arrive nm_X3_arrive ⟨by decide, by decide⟩ (Nat.le_of_ble_eq_true rfl) dX3_sendTo_73 ?_
      exact nf_to (by simp only [cs_send, cs_send2, cf_num, c_14, c_30, if_true, if_false, reduceIte, Bool.false_eq_true] <;> rfl) (by simp only [cs_send, cs_send2, cf_num, c_14, c_30, if_true, if_false, reduceIte, Bool.false_eq_true] <;> rfl) (nf_zretb (pc := 76) dX3_sendTo_76)
    · refine nf_aln (pc := 33) dX3_sendTo_33 rfl ?_
      refine gf_X3_counts (by decide) (pc := 34) lk_X3_49 dX3_sendTo_34 ?_
      refine nf_iconst (pc := 37) (v := 1) dX3_sendTo_37 (by decide) ?_
      refine nf_dup2 (pc := 38) dX3_sendTo_38 rfl rfl ?_
      refine nf_ialdI (pc := 39) (k := 1) (nf_okA (by decide) (by decide)) (by decide) dX3_sendTo_39 ?_
      refine nf_iconst (pc := 40) (v := 1) dX3_sendTo_40 (by decide) ?_
      refine nf_iadd (pc := 41) dX3_sendTo_41 ?_
      refine nf_iastI (pc := 42) (k := 1) (nf_okA (by decide) (by decide)) (by decide) dX3_sendTo_42 ?_
      refine nf_from (S' := cs_inc S 1) rfl ?_
      refine nf_aln (pc := 43) dX3_sendTo_43 rfl ?_
      refine gf_X3_hosts (by decide) (pc := 44) lk_X3_38 dX3_sendTo_44 ?_
      refine nf_iln (pc := 47) dX3_sendTo_47 rfl ?_
      refine nf_haldI (pc := 48) (k := t) (by decide) ht dX3_sendTo_48 ?_
      refine nf_iln (pc := 49) dX3_sendTo_49 rfl ?_
      refine nf_cVi1 (pc := 50) (sp_kn ht ha30) (nf_ok4 (by decide) ht) rfl rfl mk_X3_59 im_X1_knows se_X1_knows nm_X1_knows ⟨by decide, by decide⟩ (Nat.le_of_ble_eq_true rfl) dX3_sendTo_50 ?_
      refine nf_if_eqB (pc := 53) 58 dX3_sendTo_53 (by decide) (fun c_53 => ?_) (fun c_53 => ?_)
      · refine nf_aln (pc := 58) dX3_sendTo_58 rfl ?_
        refine gf_X3_counts (by decide) (pc := 59) lk_X3_49 dX3_sendTo_59 ?_
        refine nf_iconst (pc := 62) (v := 0) dX3_sendTo_62 (by decide) ?_
        refine nf_dup2 (pc := 63) dX3_sendTo_63 rfl rfl ?_
        refine nf_ialdI (pc := 64) (k := 0) (nf_okA (by decide) (by decide)) (by decide) dX3_sendTo_64 ?_
        refine nf_iconst (pc := 65) (v := 1) dX3_sendTo_65 (by decide) ?_
        refine nf_iadd (pc := 66) dX3_sendTo_66 ?_
        refine nf_iastI (pc := 67) (k := 0) (nf_okA (by decide) (by decide)) (by decide) dX3_sendTo_67 ?_
        refine nf_from (S' := cs_inc (cs_inc S 1) 0) rfl ?_
        have hk1 := (hk.same (cs_same_inc S 1)).same (cs_same_inc _ 0)
        refine nf_aln (pc := 68) dX3_sendTo_68 rfl ?_
        refine nf_iln (pc := 69) dX3_sendTo_69 rfl ?_
        refine nf_iln (pc := 70) dX3_sendTo_70 rfl ?_
        refine nf_il (pc := 71) dX3_sendTo_71 rfl ?_
        refine nf_cVi3 (pc := 73) (sp_X3_arrive hk1 ht ha) ⟨(by decide), rfl⟩ rfl rfl mk_X3_147 im_X3_arrive se_X3_arrive nm_X3_arrive ⟨by decide, by decide⟩ (Nat.le_of_ble_eq_true rfl) dX3_sendTo_73 ?_
        exact nf_to (by simp only [cs_send, cs_send2, cf_num, c_14, c_30, c_53, if_true, if_false, reduceIte, Bool.false_eq_true] <;> rfl) (by simp only [cs_send, cs_send2, cf_num, c_14, c_30, c_53, if_true, if_false, reduceIte, Bool.false_eq_true] <;> rfl) (nf_zretb (pc := 76) dX3_sendTo_76)
      · refine nf_iconst (pc := 56) (v := 0) dX3_sendTo_56 (by decide) ?_
        exact nf_to (by simp only [cs_send, cs_send2, cf_num, c_14, c_30, c_53, if_true, if_false, reduceIte, Bool.false_eq_true] <;> rfl) (by simp only [cs_send, cs_send2, cf_num, c_14, c_30, c_53, if_true, if_false, reduceIte, Bool.false_eq_true] <;> rfl) (nf_zret0 (pc := 57) dX3_sendTo_57)
  · refine nf_iconst (pc := 17) (v := 0) dX3_sendTo_17 (by decide) ?_
    exact nf_to (by simp only [cs_send, cs_send2, cf_num, c_14, if_true, if_false, reduceIte, Bool.false_eq_true] <;> rfl) (by simp only [cs_send, cs_send2, cf_num, c_14, if_true, if_false, reduceIte, Bool.false_eq_true] <;> rfl) (nf_zret0 (pc := 18) dX3_sendTo_18)
def cs_exp1 (S : nf_S) (h k : Nat) (acc : Int32) : nf_S × Int32 :=
  if cf_has (nf_I S 0 5 h) (nI k) = true then (if nf_I S 0 0 0 - nf_A S 0 7 0 k < nf_A S 0 0 0 (cf_num (nf_A S 0 5 0 k)) then (S, acc) else (cs_drop S h k, acc + 1)) else (S, acc)
def cs_exp (h : Nat) : Nat → nf_S → Nat → Int32 → nf_S × Int32
  | 0, S, _, acc => (S, acc)
  | m + 1, S, k, acc => cs_exp h m (cs_exp1 S h k acc).1 (k + 1) (cs_exp1 S h k acc).2
def cs_fgt1 (S : nf_S) (h k : Nat) : nf_S := if cf_kn S h k = true then (if nf_I S 0 0 0 - nf_A S 0 12 h k < nf_I S 0 1 0 then S else cs_known S h k (-1)) else S
def cs_fgt (h : Nat) : Nat → nf_S → Nat → nf_S
  | 0, S, _ => S
  | m + 1, S, k => cs_fgt h m (cs_fgt1 S h k) (k + 1)
theorem cs_same_exp1 (S : nf_S) (h k : Nat) (acc : Int32) : cs_same S (cs_exp1 S h k acc).1 := by
  unfold cs_exp1
  split
  · split
    · exact cs_same.rf S
    · exact cs_same_drop S h k
  · exact cs_same.rf S
theorem cs_same_exp (h : Nat) : ∀ (m : Nat) (S : nf_S) (k : Nat) (acc : Int32), cs_same S (cs_exp h m S k acc).1
  | 0, S, _, _ => cs_same.rf S
  | m + 1, S, k, acc => (cs_same_exp1 S h k acc).trans (cs_same_exp h m _ _ _)
theorem cs_same_fgt1 (S : nf_S) (h k : Nat) : cs_same S (cs_fgt1 S h k) := by
  unfold cs_fgt1
  split
  · split
    · exact cs_same.rf S
    · exact cs_same_known S h k _
  · exact cs_same.rf S
theorem cs_same_fgt (h : Nat) : ∀ (m : Nat) (S : nf_S) (k : Nat), cs_same S (cs_fgt h m S k)
  | 0, S, _ => cs_same.rf S
  | m + 1, S, k => (cs_same_fgt1 S h k).trans (cs_same_fgt h m _ _)
def cs_day (na : Nat) : Nat → nf_S → Nat → Int32 → nf_S × Int32
  | 0, S, _, acc => (S, acc)
  | m + 1, S, h, acc => cs_day na m (cs_fgt h na (cs_exp h na S 0 0).1 0) (h + 1) (acc + (cs_exp h na S 0 0).2)
theorem cs_same_day (na : Nat) : ∀ (m : Nat) (S : nf_S) (h : Nat) (acc : Int32), cs_same S (cs_day na m S h acc).1
  | 0, S, _, _ => cs_same.rf S
  | m + 1, S, h, acc => (cs_same_exp h na S 0 0).trans ((cs_same_fgt h na _ 0).trans (cs_same_day na m _ _ _))
def cs_stp (S : nf_S) (acc : Int32) (a s t : Nat) : nf_S × Int32 :=
  if cf_has (nf_A S 5 10 0 (a * 6 + s)) (nI t) = true then (if (cs_send S a s t (nf_A S 5 11 0 (a * 6 + s))).2 = true then ((cs_send S a s t (nf_A S 5 11 0 (a * 6 + s))).1, acc + 1) else ((cs_send S a s t (nf_A S 5 11 0 (a * 6 + s))).1, acc)) else (S, acc)
theorem cs_same_stp (S : nf_S) (acc : Int32) (a s t : Nat) : cs_same S (cs_stp S acc a s t).1 := by
  unfold cs_stp
  split
  · split
    · exact cs_same_send S a s t _
    · exact cs_same_send S a s t _
  · exact cs_same.rf S
def cs_rcv (a s : Nat) : Nat → nf_S → Int32 → Nat → nf_S × Int32
  | 0, S, acc, _ => (S, acc)
  | m + 1, S, acc, t => cs_rcv a s m (cs_stp S acc a s t).1 (cs_stp S acc a s t).2 (t + 1)
theorem cs_same_rcv (a s : Nat) : ∀ (m : Nat) (S : nf_S) (acc : Int32) (t : Nat), cs_same S (cs_rcv a s m S acc t).1
  | 0, S, _, _ => cs_same.rf S
  | m + 1, S, acc, t => (cs_same_stp S acc a s t).trans (cs_same_rcv a s m _ _ _)
def cs_snd (a : Nat) : Nat → nf_S → Int32 → Nat → nf_S × Int32
  | 0, S, acc, _ => (S, acc)
  | m + 1, S, acc, s => cs_snd a m (cs_rcv a s 6 S acc 0).1 (cs_rcv a s 6 S acc 0).2 (s + 1)
theorem cs_same_snd (a : Nat) : ∀ (m : Nat) (S : nf_S) (acc : Int32) (t : Nat), cs_same S (cs_snd a m S acc t).1
  | 0, S, _, _ => cs_same.rf S
  | m + 1, S, acc, t => (cs_same_rcv a t 6 S acc 0).trans (cs_same_snd a m _ _ _)
def cs_art : Nat → nf_S → Int32 → Nat → nf_S × Int32
  | 0, S, acc, _ => (S, acc)
  | m + 1, S, acc, a => cs_art m (cs_snd a 6 S acc 0).1 (cs_snd a 6 S acc 0).2 (a + 1)
theorem cs_same_art : ∀ (m : Nat) (S : nf_S) (acc : Int32) (t : Nat), cs_same S (cs_art m S acc t).1
  | 0, S, _, _ => cs_same.rf S
  | m + 1, S, acc, t => (cs_same_snd t 6 S acc 0).trans (cs_same_art m _ _ _)
def cs_cpq (S : nf_S) (n1 n2 : Nat) : nf_S := nf_sA (nf_sA S n1 10 0 (nf_A S n2 10 0)) n1 11 0 (nf_A S n2 11 0)
def cs_mt (S : nf_S) : nf_S := nf_sA (nf_sA S 0 10 0 (fun _ => 0)) 0 11 0 (fun _ => 0)
def cs_rnd (S : nf_S) (na : Nat) : nf_S × Int32 := cs_art na (cs_mt (cs_cpq S 5 0)) 0 0
theorem cs_ok_cpq {S : nf_S} {nl na : Nat} (h : cs_ok S nl na) : cs_ok (cs_mt (cs_cpq S 5 0)) nl na := by
  obtain ⟨h1, h2, h3, h4, h5⟩ := h
  refine ⟨h1, h2, h3, h4, fun a ha => ?_⟩
  simp only [cs_mt, cs_cpq, nf_A_sA]
  simpa using h5 a ha
theorem cs_ok_today {S : nf_S} {nl na : Nat} {x : Int32} (h : cs_ok S nl na) : cs_ok (nf_sI S 0 0 0 x) nl na := by
  obtain ⟨h1, h2, h3, h4, h5⟩ := h
  exact ⟨h1, h2, by rw [nf_I_sI, if_neg (by decide)]; exact h3, by rw [nf_I_sI, if_neg (by decide)]; exact h4, h5⟩
set_option maxRecDepth 100000 in
set_option maxHeartbeats 4000000 in
theorem lp_expireStore {L : nf_L} {h nl na : Nat} (hh : h < 6) : ∀ (m : Nat) (S : nf_S) (k : Nat) (acc : Int32) (o4 : Option Value), (k + m = na) → (cs_ok S nl na) → nf_V L 2 cX3_expireStore RX3 5 (some .int) (some (.int (cs_exp h m S k acc).2)) (cs_exp h m S k acc).1 4 [some (.ref (L.2.2 (1, 0, 0, 0))), some (.ref (L.2.2 (4, 0, 0, h))), some (.int acc), some (.int (nI k)), o4] [] S := by
  intro m
  induction m with
  | zero =>
    intro S k acc o4 hkm hk
    have h31 := hk.2.1
    refine nf_iln (pc := 4) dX3_expireStore_4 rfl ?_
    refine nf_aln (pc := 5) dX3_expireStore_5 rfl ?_
    refine gf_X3_articles (by decide) (pc := 6) lk_X3_32 dX3_expireStore_6 ?_
    refine gf_X0_count (by decide) (pc := 9) lk_X3_121 dX3_expireStore_9 ?_
    refine nf_topI (y := nI (na)) hk.2.2.2.1 ?_
    refine nf_ic_ge (pc := 12) 72 dX3_expireStore_12 (by decide) (fun c_12 => ?_) (fun c_12 => ?_)
    · refine nf_iln (pc := 72) dX3_expireStore_72 rfl ?_
      exact (nf_iret (pc := 73) dX3_expireStore_73)
    · exact absurd (nI_le (by omega) (by omega)) c_12
  | succ m ih =>
    intro S k acc o4 hkm hk
    have h31 := hk.2.1
    refine nf_iln (pc := 4) dX3_expireStore_4 rfl ?_
    refine nf_aln (pc := 5) dX3_expireStore_5 rfl ?_
    refine gf_X3_articles (by decide) (pc := 6) lk_X3_32 dX3_expireStore_6 ?_
    refine gf_X0_count (by decide) (pc := 9) lk_X3_121 dX3_expireStore_9 ?_
    refine nf_topI (y := nI (na)) hk.2.2.2.1 ?_
    refine nf_ic_ge (pc := 12) 72 dX3_expireStore_12 (by decide) (fun c_12 => ?_) (fun c_12 => ?_)
    · exact absurd c_12 (nI_ge (by omega) (by omega))
    · refine nf_aln (pc := 15) dX3_expireStore_15 rfl ?_
      refine gf_X3_today (by decide) (pc := 16) lk_X3_9 dX3_expireStore_16 ?_
      refine nf_aln (pc := 19) dX3_expireStore_19 rfl ?_
      refine gf_X3_articles (by decide) (pc := 20) lk_X3_32 dX3_expireStore_20 ?_
      refine gf_X0_postedOn (by decide) (pc := 23) lk_X3_63 dX3_expireStore_23 ?_
      refine nf_iln (pc := 26) dX3_expireStore_26 rfl ?_
      refine nf_ialdI (pc := 27) (k := k) (nf_okA (by decide) (by decide)) (show _ < 30 by omega) dX3_expireStore_27 ?_
      refine nf_isub (pc := 28) dX3_expireStore_28 ?_
      refine nf_is4 (pc := 29) dX3_expireStore_29 rfl (by decide) ?_
      refine nf_aln (pc := 31) dX3_expireStore_31 rfl ?_
      refine nf_iln (pc := 32) dX3_expireStore_32 rfl ?_
      refine nf_cVi1 (pc := 33) (sp_X1_stores (by decide) hh) (nf_ok4 (by decide) hh) rfl rfl mk_X3_104 im_X1_stores se_X1_stores nm_X1_stores ⟨by decide, by decide⟩ (Nat.le_of_ble_eq_true rfl) dX3_expireStore_33 ?_
      refine nf_if_eqB (pc := 36) 66 dX3_expireStore_36 (by decide) (fun c_36 => ?_) (fun c_36 => ?_)
      · refine nf_iinc3 (pc := 66) (v := nI (k + 1)) dX3_expireStore_66 (nI_succ (k)).symm rfl (by decide) ?_
        refine nf_goto (pc := 69) 4 dX3_expireStore_69 (by decide) ?_
        exact nf_to (by simp only [cs_exp, cs_exp1, cf_num, c_36, if_true, if_false, reduceIte, Bool.false_eq_true] <;> rfl) (by simp only [cs_exp, cs_exp1, cf_num, c_36, if_true, if_false, reduceIte, Bool.false_eq_true] <;> rfl) (ih _ (k + 1) _ _ (by omega) hk)
      · obtain ⟨g, hg, eg⟩ := (hk.2.2.2.2 k (by omega)).2
        refine nf_il (pc := 39) dX3_expireStore_39 rfl ?_
        refine nf_aln (pc := 41) dX3_expireStore_41 rfl ?_
        refine gf_X3_expiry (by decide) (pc := 42) lk_X3_18 dX3_expireStore_42 ?_
        refine nf_aln (pc := 45) dX3_expireStore_45 rfl ?_
        refine gf_X3_articles (by decide) (pc := 46) lk_X3_32 dX3_expireStore_46 ?_
        refine gf_X0_group (by decide) (pc := 49) lk_X3_76 dX3_expireStore_49 ?_
        refine nf_iln (pc := 52) dX3_expireStore_52 rfl ?_
        refine nf_ialdI (pc := 53) (k := k) (nf_okA (by decide) (by decide)) (show _ < 30 by omega) dX3_expireStore_53 ?_
        refine nf_iald (pc := 54) (nf_okA (by decide) (by decide)) (by rw [eg]; exact nf_inI hg (by decide)) dX3_expireStore_54 ?_
        refine nf_ic_lt (pc := 55) 66 dX3_expireStore_55 (by decide) (fun c_55 => ?_) (fun c_55 => ?_)
        · refine nf_iinc3 (pc := 66) (v := nI (k + 1)) dX3_expireStore_66 (nI_succ (k)).symm rfl (by decide) ?_
          refine nf_goto (pc := 69) 4 dX3_expireStore_69 (by decide) ?_
          exact nf_to (by simp only [cs_exp, cs_exp1, cf_num, c_36, c_55, if_true, if_false, reduceIte, Bool.false_eq_true] <;> rfl) (by simp only [cs_exp, cs_exp1, cf_num, c_36, c_55, if_true, if_false, reduceIte, Bool.false_eq_true] <;> rfl) (ih _ (k + 1) _ _ (by omega) hk)
        · refine nf_aln (pc := 58) dX3_expireStore_58 rfl ?_
          refine nf_iln (pc := 59) dX3_expireStore_59 rfl ?_
          refine nf_cVv1 (pc := 60) (sp_X1_drop (by decide) hh) (nf_ok4 (by decide) hh) rfl rfl mk_X3_107 im_X1_drop se_X1_drop nm_X1_drop ⟨by decide, by decide⟩ (Nat.le_of_ble_eq_true rfl) dX3_expireStore_60 ?_
          refine nf_from (S' := cs_drop S h k) rfl ?_
          refine nf_iincP2 (pc := 63) dX3_expireStore_63 rfl (by decide) ?_
          refine nf_iinc3 (pc := 66) (v := nI (k + 1)) dX3_expireStore_66 (nI_succ (k)).symm rfl (by decide) ?_
          refine nf_goto (pc := 69) 4 dX3_expireStore_69 (by decide) ?_
          exact nf_to (by simp only [cs_exp, cs_exp1, cf_num, c_36, c_55, if_true, if_false, reduceIte, Bool.false_eq_true] <;> rfl) (by simp only [cs_exp, cs_exp1, cf_num, c_36, c_55, if_true, if_false, reduceIte, Bool.false_eq_true] <;> rfl) (ih _ (k + 1) _ _ (by omega) (hk.same (cs_same_drop S h k)))
set_option maxRecDepth 100000 in
set_option maxHeartbeats 4000000 in
theorem sp_X3_expireStore {L : nf_L} {S : nf_S} {h nl na : Nat} (hk : cs_ok S nl na) (hh : h < 6) : nf_Sp L 2 yX3_expireStore cX3_expireStore 5 (some .int) [.ref (L.2.2 (1, 0, 0, 0)), .ref (L.2.2 (4, 0, 0, h))] S (some (.int (cs_exp h na S 0 0).2)) (cs_exp h na S 0 0).1 := by
  refine nf_start (own := RX3) (ls0 := [some (.ref (L.2.2 (1, 0, 0, 0))), some (.ref (L.2.2 (4, 0, 0, h))), none, none, none]) (by decide) (Nat.le_of_ble_eq_true rfl) rfl rfl ?_
  refine nf_iconst (pc := 0) (v := 0) dX3_expireStore_0 (by decide) ?_
  refine nf_is2 (pc := 1) dX3_expireStore_1 rfl (by decide) ?_
  refine nf_iconst (pc := 2) (v := 0) dX3_expireStore_2 (by decide) ?_
  refine nf_is3 (pc := 3) dX3_expireStore_3 rfl (by decide) ?_
  exact lp_expireStore hh na S 0 0 none (by omega) hk
set_option maxRecDepth 100000 in
set_option maxHeartbeats 4000000 in
theorem lp_forgetOld {L : nf_L} {h nl na : Nat} (hh : h < 6) : ∀ (m : Nat) (S : nf_S) (k : Nat), (k + m = na) → (cs_ok S nl na) → nf_V L 1 cX3_forgetOld RX3 3 none none (cs_fgt h m S k) 2 [some (.ref (L.2.2 (1, 0, 0, 0))), some (.ref (L.2.2 (4, 0, 0, h))), some (.int (nI k))] [] S := by
  intro m
  induction m with
  | zero =>
    intro S k hkm hk
    have h31 := hk.2.1
    refine nf_iln (pc := 2) dX3_forgetOld_2 rfl ?_
    refine nf_aln (pc := 3) dX3_forgetOld_3 rfl ?_
    refine gf_X3_articles (by decide) (pc := 4) lk_X3_32 dX3_forgetOld_4 ?_
    refine gf_X0_count (by decide) (pc := 7) lk_X3_121 dX3_forgetOld_7 ?_
    refine nf_topI (y := nI (na)) hk.2.2.2.1 ?_
    refine nf_ic_ge (pc := 10) 52 dX3_forgetOld_10 (by decide) (fun c_10 => ?_) (fun c_10 => ?_)
    · exact (nf_vret (pc := 52) dX3_forgetOld_52)
    · exact absurd (nI_le (by omega) (by omega)) c_10
  | succ m ih =>
    intro S k hkm hk
    have h31 := hk.2.1
    refine nf_iln (pc := 2) dX3_forgetOld_2 rfl ?_
    refine nf_aln (pc := 3) dX3_forgetOld_3 rfl ?_
    refine gf_X3_articles (by decide) (pc := 4) lk_X3_32 dX3_forgetOld_4 ?_
    refine gf_X0_count (by decide) (pc := 7) lk_X3_121 dX3_forgetOld_7 ?_
    refine nf_topI (y := nI (na)) hk.2.2.2.1 ?_
    refine nf_ic_ge (pc := 10) 52 dX3_forgetOld_10 (by decide) (fun c_10 => ?_) (fun c_10 => ?_)
    · exact absurd c_10 (nI_ge (by omega) (by omega))
    · refine nf_aln (pc := 13) dX3_forgetOld_13 rfl ?_
      refine nf_iln (pc := 14) dX3_forgetOld_14 rfl ?_
      refine nf_cVi1 (pc := 15) (sp_kn hh (show _ < 30 by omega)) (nf_ok4 (by decide) hh) rfl rfl mk_X3_59 im_X1_knows se_X1_knows nm_X1_knows ⟨by decide, by decide⟩ (Nat.le_of_ble_eq_true rfl) dX3_forgetOld_15 ?_
      refine nf_if_eqB (pc := 18) 46 dX3_forgetOld_18 (by decide) (fun c_18 => ?_) (fun c_18 => ?_)
      · refine nf_iinc2 (pc := 46) (v := nI (k + 1)) dX3_forgetOld_46 (nI_succ (k)).symm rfl (by decide) ?_
        refine nf_goto (pc := 49) 2 dX3_forgetOld_49 (by decide) ?_
        exact nf_to rfl (by simp only [cs_fgt, cs_fgt1, c_18, if_true, if_false, reduceIte, Bool.false_eq_true] <;> rfl) (ih _ (k + 1) (by omega) hk)
      · refine nf_aln (pc := 21) dX3_forgetOld_21 rfl ?_
        refine gf_X3_today (by decide) (pc := 22) lk_X3_9 dX3_forgetOld_22 ?_
        refine nf_aln (pc := 25) dX3_forgetOld_25 rfl ?_
        refine gf_X1_historyDay (by decide) hh (pc := 26) lk_X3_66 dX3_forgetOld_26 ?_
        refine nf_iln (pc := 29) dX3_forgetOld_29 rfl ?_
        refine nf_ialdI (pc := 30) (k := k) (nf_ok12 (by decide) hh) (show _ < 30 by omega) dX3_forgetOld_30 ?_
        refine nf_isub (pc := 31) dX3_forgetOld_31 ?_
        refine nf_aln (pc := 32) dX3_forgetOld_32 rfl ?_
        refine gf_X3_historyLimit (by decide) (pc := 33) lk_X3_15 dX3_forgetOld_33 ?_
        refine nf_ic_lt (pc := 36) 46 dX3_forgetOld_36 (by decide) (fun c_36 => ?_) (fun c_36 => ?_)
        · refine nf_iinc2 (pc := 46) (v := nI (k + 1)) dX3_forgetOld_46 (nI_succ (k)).symm rfl (by decide) ?_
          refine nf_goto (pc := 49) 2 dX3_forgetOld_49 (by decide) ?_
          exact nf_to rfl (by simp only [cs_fgt, cs_fgt1, c_18, c_36, if_true, if_false, reduceIte, Bool.false_eq_true] <;> rfl) (ih _ (k + 1) (by omega) hk)
        · refine nf_aln (pc := 39) dX3_forgetOld_39 rfl ?_
          refine gf_X1_historyDay (by decide) hh (pc := 40) lk_X3_66 dX3_forgetOld_40 ?_
          refine nf_iln (pc := 43) dX3_forgetOld_43 rfl ?_
          refine nf_iconst (pc := 44) (v := (-1)) dX3_forgetOld_44 (by decide) ?_
          refine nf_iastI (pc := 45) (k := k) (nf_ok12 (by decide) hh) (show _ < 30 by omega) dX3_forgetOld_45 ?_
          refine nf_from (S' := cs_known S h k (-1)) rfl ?_
          refine nf_iinc2 (pc := 46) (v := nI (k + 1)) dX3_forgetOld_46 (nI_succ (k)).symm rfl (by decide) ?_
          refine nf_goto (pc := 49) 2 dX3_forgetOld_49 (by decide) ?_
          exact nf_to rfl (by simp only [cs_fgt, cs_fgt1, c_18, c_36, if_true, if_false, reduceIte, Bool.false_eq_true] <;> rfl) (ih _ (k + 1) (by omega) (hk.same (cs_same_known S h k (-1))))
set_option maxRecDepth 100000 in
set_option maxHeartbeats 4000000 in
theorem sp_X3_forgetOld {L : nf_L} {S : nf_S} {h nl na : Nat} (hk : cs_ok S nl na) (hh : h < 6) : nf_Sp L 1 yX3_forgetOld cX3_forgetOld 3 none [.ref (L.2.2 (1, 0, 0, 0)), .ref (L.2.2 (4, 0, 0, h))] S none (cs_fgt h na S 0) := by
  refine nf_start (own := RX3) (ls0 := [some (.ref (L.2.2 (1, 0, 0, 0))), some (.ref (L.2.2 (4, 0, 0, h))), none]) (by decide) (Nat.le_of_ble_eq_true rfl) rfl rfl ?_
  refine nf_iconst (pc := 0) (v := 0) dX3_forgetOld_0 (by decide) ?_
  refine nf_is2 (pc := 1) dX3_forgetOld_1 rfl (by decide) ?_
  exact lp_forgetOld hh na S 0 (by omega) hk
set_option maxRecDepth 100000 in
set_option maxHeartbeats 4000000 in
theorem lp_beginDay {L : nf_L} {nl na : Nat}  : ∀ (m : Nat) (S : nf_S) (k : Nat) (acc : Int32), (k + m = 6) → (cs_ok S nl na) → nf_V L 3 cX3_beginDay RX3 3 (some .int) (some (.int (cs_day na m S k acc).2)) (cs_day na m S k acc).1 14 [some (.ref (L.2.2 (1, 0, 0, 0))), some (.int acc), some (.int (nI k))] [] S := by
  intro m
  induction m with
  | zero =>
    intro S k acc hkm hk
    refine nf_iln (pc := 14) dX3_beginDay_14 rfl ?_
    refine nf_bipush (pc := 15) (v := 6) dX3_beginDay_15 (by decide) ?_
    refine nf_ic_ge (pc := 17) 49 dX3_beginDay_17 (by decide) (fun c_17 => ?_) (fun c_17 => ?_)
    · refine nf_iln (pc := 49) dX3_beginDay_49 rfl ?_
      exact (nf_iret (pc := 50) dX3_beginDay_50)
    · exact absurd (nI_le (a := 6) (by omega) (by omega)) c_17
  | succ m ih =>
    intro S k acc hkm hk
    refine nf_iln (pc := 14) dX3_beginDay_14 rfl ?_
    refine nf_bipush (pc := 15) (v := 6) dX3_beginDay_15 (by decide) ?_
    refine nf_ic_ge (pc := 17) 49 dX3_beginDay_17 (by decide) (fun c_17 => ?_) (fun c_17 => ?_)
    · exact absurd c_17 (nI_ge (b := 6) (by omega) (by omega))
    · refine nf_iln (pc := 20) dX3_beginDay_20 rfl ?_
      refine nf_aln (pc := 21) dX3_beginDay_21 rfl ?_
      refine nf_aln (pc := 22) dX3_beginDay_22 rfl ?_
      refine gf_X3_hosts (by decide) (pc := 23) lk_X3_38 dX3_beginDay_23 ?_
      refine nf_iln (pc := 26) dX3_beginDay_26 rfl ?_
      refine nf_haldI (pc := 27) (k := k) (by decide) (show _ < 6 by omega) dX3_beginDay_27 ?_
      refine nf_cVi1 (pc := 28) (sp_X3_expireStore hk (by omega)) ⟨(by decide), rfl⟩ rfl rfl mk_X3_151 im_X3_expireStore se_X3_expireStore nm_X3_expireStore ⟨by decide, by decide⟩ (Nat.le_of_ble_eq_true rfl) dX3_beginDay_28 ?_
      refine nf_iadd (pc := 31) dX3_beginDay_31 ?_
      refine nf_is1 (pc := 32) dX3_beginDay_32 rfl (by decide) ?_
      refine nf_aln (pc := 33) dX3_beginDay_33 rfl ?_
      refine nf_aln (pc := 34) dX3_beginDay_34 rfl ?_
      refine gf_X3_hosts (by decide) (pc := 35) lk_X3_38 dX3_beginDay_35 ?_
      refine nf_iln (pc := 38) dX3_beginDay_38 rfl ?_
      refine nf_haldI (pc := 39) (k := k) (by decide) (show _ < 6 by omega) dX3_beginDay_39 ?_
      refine nf_cVv1 (pc := 40) (sp_X3_forgetOld (hk.same (cs_same_exp k na S 0 0)) (by omega)) ⟨(by decide), rfl⟩ rfl rfl mk_X3_155 im_X3_forgetOld se_X3_forgetOld nm_X3_forgetOld ⟨by decide, by decide⟩ (Nat.le_of_ble_eq_true rfl) dX3_beginDay_40 ?_
      refine nf_iinc2 (pc := 43) (v := nI (k + 1)) dX3_beginDay_43 (nI_succ (k)).symm rfl (by decide) ?_
      refine nf_goto (pc := 46) 14 dX3_beginDay_46 (by decide) ?_
      exact ih _ (k + 1) _ (by omega) ((hk.same (cs_same_exp k na S 0 0)).same (cs_same_fgt k na _ 0))
set_option maxRecDepth 100000 in
set_option maxHeartbeats 4000000 in
theorem sp_X3_beginDay {L : nf_L} {S : nf_S} {nl na : Nat} (hk : cs_ok S nl na) : nf_Sp L 3 yX3_beginDay cX3_beginDay 3 (some .int) [.ref (L.2.2 (1, 0, 0, 0))] S (some (.int (cs_day na 6 (nf_sI S 0 0 0 (nf_I S 0 0 0 + 1)) 0 0).2)) (cs_day na 6 (nf_sI S 0 0 0 (nf_I S 0 0 0 + 1)) 0 0).1 := by
  refine nf_start (own := RX3) (ls0 := [some (.ref (L.2.2 (1, 0, 0, 0))), none, none]) (by decide) (Nat.le_of_ble_eq_true rfl) rfl rfl ?_
  refine nf_aln (pc := 0) dX3_beginDay_0 rfl ?_
  refine nf_dup (pc := 1) dX3_beginDay_1 rfl ?_
  refine gf_X3_today (by decide) (pc := 2) lk_X3_9 dX3_beginDay_2 ?_
  refine nf_iconst (pc := 5) (v := 1) dX3_beginDay_5 (by decide) ?_
  refine nf_iadd (pc := 6) dX3_beginDay_6 ?_
  refine pf_X3_today (by decide) (pc := 7) lk_X3_9 dX3_beginDay_7 ?_
  refine nf_iconst (pc := 10) (v := 0) dX3_beginDay_10 (by decide) ?_
  refine nf_is1 (pc := 11) dX3_beginDay_11 rfl (by decide) ?_
  refine nf_iconst (pc := 12) (v := 0) dX3_beginDay_12 (by decide) ?_
  refine nf_is2 (pc := 13) dX3_beginDay_13 rfl (by decide) ?_
  exact lp_beginDay 6 _ 0 0 (by omega) (cs_ok_today hk)
set_option maxRecDepth 100000 in
set_option maxHeartbeats 4000000 in
theorem sp_X4_copyFrom {L : nf_L} {S : nf_S} {n1 n2 : Nat} (hn1 : n1 < 6) (hn2 : n2 < 6) : nf_Sp L 1 yX4_copyFrom cX4_copyFrom 2 none [.ref (L.2.2 (5, n1, 0, 0)), .ref (L.2.2 (5, n2, 0, 0))] S none (cs_cpq S n1 n2) := by
  refine nf_start (own := RX4) (ls0 := [some (.ref (L.2.2 (5, n1, 0, 0))), some (.ref (L.2.2 (5, n2, 0, 0)))]) (by decide) (Nat.le_of_ble_eq_true rfl) rfl rfl ?_
  refine nf_aln (pc := 0) dX4_copyFrom_0 rfl ?_
  refine gf_X4_receivers hn2 (pc := 1) lk_X4_9 dX4_copyFrom_1 ?_
  refine nf_iconst (pc := 4) (v := 0) dX4_copyFrom_4 (by decide) ?_
  refine nf_aln (pc := 5) dX4_copyFrom_5 rfl ?_
  refine gf_X4_receivers hn1 (pc := 6) lk_X4_9 dX4_copyFrom_6 ?_
  refine nf_iconst (pc := 9) (v := 0) dX4_copyFrom_9 (by decide) ?_
  refine nf_aln (pc := 10) dX4_copyFrom_10 rfl ?_
  refine gf_X4_receivers hn1 (pc := 11) lk_X4_9 dX4_copyFrom_11 ?_
  refine nf_alen (pc := 14) (v := nI 180) (nf_okQ10 hn1) rfl dX4_copyFrom_14 ?_
  refine nf_copy (pc := 15) (nf_okQ10 hn2) (nf_okQ10 hn1) (by decide) (by decide) ac_X4_34 ac_native ac_static ini_J10 (by decide) (Nat.le_of_ble_eq_true rfl) dX4_copyFrom_15 ?_
  refine nf_aln (pc := 18) dX4_copyFrom_18 rfl ?_
  refine gf_X4_path hn2 (pc := 19) lk_X4_15 dX4_copyFrom_19 ?_
  refine nf_iconst (pc := 22) (v := 0) dX4_copyFrom_22 (by decide) ?_
  refine nf_aln (pc := 23) dX4_copyFrom_23 rfl ?_
  refine gf_X4_path hn1 (pc := 24) lk_X4_15 dX4_copyFrom_24 ?_
  refine nf_iconst (pc := 27) (v := 0) dX4_copyFrom_27 (by decide) ?_
  refine nf_aln (pc := 28) dX4_copyFrom_28 rfl ?_
  refine gf_X4_path hn1 (pc := 29) lk_X4_15 dX4_copyFrom_29 ?_
  refine nf_alen (pc := 32) (v := nI 180) (nf_okQ11 hn1) rfl dX4_copyFrom_32 ?_
  refine nf_copy (pc := 33) (nf_okQ11 hn2) (nf_okQ11 hn1) (by decide) (by decide) ac_X4_34 ac_native ac_static ini_J10 (by decide) (Nat.le_of_ble_eq_true rfl) dX4_copyFrom_33 ?_
  exact nf_to rfl (by simp [cs_cpq, nf_A_sA]) (nf_vret (pc := 36) dX4_copyFrom_36)
set_option maxRecDepth 100000 in
set_option maxHeartbeats 4000000 in
theorem lp_rcv {L : nf_L} {r : Option Value} {S2 : nf_S} {a s nl na : Nat} (ha : a < na) (hs : s < 6) : ∀ (m : Nat) (S : nf_S) (acc : Int32) (t : Nat), (t + m = 6) → (cs_ok S nl na) → (nf_V L 5 cX3_performRound RX3 7 (some .int) r S2 101 [some (.ref (L.2.2 (1, 0, 0, 0))), some (.ref (L.2.2 (5, 5, 0, 0))), some (.int (cs_rcv a s m S acc t).2), some (.int (nI a)), some (.int (nI s)), some (.int (nI (a * 6 + s))), some (.int (nI 6))] [] (cs_rcv a s m S acc t).1) → nf_V L 5 cX3_performRound RX3 7 (some .int) r S2 51 [some (.ref (L.2.2 (1, 0, 0, 0))), some (.ref (L.2.2 (5, 5, 0, 0))), some (.int acc), some (.int (nI a)), some (.int (nI s)), some (.int (nI (a * 6 + s))), some (.int (nI t))] [] S := by
  intro m
  induction m with
  | zero =>
    intro S acc t htm hk hK
    have h31 := hk.2.1
    refine nf_il (pc := 51) dX3_performRound_51 rfl ?_
    refine nf_bipush (pc := 53) (v := 6) dX3_performRound_53 (by decide) ?_
    refine nf_ic_ge (pc := 55) 101 dX3_performRound_55 (by decide) (fun c_55 => ?_) (fun c_55 => ?_)
    · rw [show t = 6 by omega]
      exact hK
    · exact absurd (nI_le (a := 6) (by omega) (by omega)) c_55
  | succ m ih =>
    intro S acc t htm hk hK
    have h31 := hk.2.1
    refine nf_il (pc := 51) dX3_performRound_51 rfl ?_
    refine nf_bipush (pc := 53) (v := 6) dX3_performRound_53 (by decide) ?_
    refine nf_ic_ge (pc := 55) 101 dX3_performRound_55 (by decide) (fun c_55 => ?_) (fun c_55 => ?_)
    · exact absurd c_55 (nI_ge (b := 6) (by omega) (by omega))
    · refine nf_aln (pc := 58) dX3_performRound_58 rfl ?_
      refine gf_X4_receivers (by decide) (pc := 59) lk_X3_128 dX3_performRound_59 ?_
      refine nf_il (pc := 62) dX3_performRound_62 rfl ?_
      refine nf_ialdI (pc := 64) (k := (a * 6 + s)) nf_okT10 (show _ < 180 by omega) dX3_performRound_64 ?_
      refine nf_il (pc := 65) dX3_performRound_65 rfl ?_
      refine nf_cNi2 (pc := 67) sp_X5_has mn_X3_131 st_X5_has nm_X5_has ⟨by decide, by decide⟩ (Nat.le_of_ble_eq_true rfl) dX3_performRound_67 ?_
      refine nf_if_eqB (pc := 70) 95 dX3_performRound_70 (by decide) (fun c_70 => ?_) (fun c_70 => ?_)
      · refine nf_iinc6 (pc := 95) (v := nI (t + 1)) dX3_performRound_95 (nI_succ (t)).symm rfl (by decide) ?_
        refine nf_goto (pc := 98) 51 dX3_performRound_98 (by decide) ?_
        exact ih _ _ (t + 1) (by omega) hk (by simpa only [cs_rcv, cs_stp, c_70, if_true, if_false, reduceIte, Bool.false_eq_true] using hK)
      · refine nf_aln (pc := 73) dX3_performRound_73 rfl ?_
        refine nf_iln (pc := 74) dX3_performRound_74 rfl ?_
        refine nf_il (pc := 75) dX3_performRound_75 rfl ?_
        refine nf_il (pc := 77) dX3_performRound_77 rfl ?_
        refine nf_aln (pc := 79) dX3_performRound_79 rfl ?_
        refine gf_X4_path (by decide) (pc := 80) lk_X3_134 dX3_performRound_80 ?_
        refine nf_il (pc := 83) dX3_performRound_83 rfl ?_
        refine nf_ialdI (pc := 85) (k := (a * 6 + s)) nf_okT11 (show _ < 180 by omega) dX3_performRound_85 ?_
        refine nf_cVi4 (pc := 86) (sp_X3_sendTo hk (by omega) ha) ⟨(by decide), rfl⟩ rfl rfl mk_X3_137 im_X3_sendTo se_X3_sendTo nm_X3_sendTo ⟨by decide, by decide⟩ (Nat.le_of_ble_eq_true rfl) dX3_performRound_86 ?_
        refine nf_if_eqB (pc := 89) 95 dX3_performRound_89 (by decide) (fun c_89 => ?_) (fun c_89 => ?_)
        · refine nf_iinc6 (pc := 95) (v := nI (t + 1)) dX3_performRound_95 (nI_succ (t)).symm rfl (by decide) ?_
          refine nf_goto (pc := 98) 51 dX3_performRound_98 (by decide) ?_
          exact ih _ _ (t + 1) (by omega) (hk.same (cs_same_send S a s t _)) (by simpa only [cs_rcv, cs_stp, c_70, c_89, if_true, if_false, reduceIte, Bool.false_eq_true] using hK)
        · refine nf_iincP2 (pc := 92) dX3_performRound_92 rfl (by decide) ?_
          refine nf_iinc6 (pc := 95) (v := nI (t + 1)) dX3_performRound_95 (nI_succ (t)).symm rfl (by decide) ?_
          refine nf_goto (pc := 98) 51 dX3_performRound_98 (by decide) ?_
          exact ih _ _ (t + 1) (by omega) (hk.same (cs_same_send S a s t _)) (by simpa only [cs_rcv, cs_stp, c_70, c_89, if_true, if_false, reduceIte, Bool.false_eq_true] using hK)
set_option maxRecDepth 100000 in
set_option maxHeartbeats 4000000 in
theorem lp_snd {L : nf_L} {r : Option Value} {S2 : nf_S} {a nl na : Nat} (ha : a < na) : ∀ (m : Nat) (S : nf_S) (acc : Int32) (s : Nat) (o5 o6 : Option Value), (s + m = 6) → (cs_ok S nl na) → (∀ o5 o6 : Option Value, nf_V L 5 cX3_performRound RX3 7 (some .int) r S2 107 [some (.ref (L.2.2 (1, 0, 0, 0))), some (.ref (L.2.2 (5, 5, 0, 0))), some (.int (cs_snd a m S acc s).2), some (.int (nI a)), some (.int (nI 6)), o5, o6] [] (cs_snd a m S acc s).1) → nf_V L 5 cX3_performRound RX3 7 (some .int) r S2 33 [some (.ref (L.2.2 (1, 0, 0, 0))), some (.ref (L.2.2 (5, 5, 0, 0))), some (.int acc), some (.int (nI a)), some (.int (nI s)), o5, o6] [] S := by
  intro m
  induction m with
  | zero =>
    intro S acc s o5 o6 hsm hk hK
    refine nf_il (pc := 33) dX3_performRound_33 rfl ?_
    refine nf_bipush (pc := 35) (v := 6) dX3_performRound_35 (by decide) ?_
    refine nf_ic_ge (pc := 37) 107 dX3_performRound_37 (by decide) (fun c_37 => ?_) (fun c_37 => ?_)
    · rw [show s = 6 by omega]
      exact hK _ _
    · exact absurd (nI_le (a := 6) (by omega) (by omega)) c_37
  | succ m ih =>
    intro S acc s o5 o6 hsm hk hK
    refine nf_il (pc := 33) dX3_performRound_33 rfl ?_
    refine nf_bipush (pc := 35) (v := 6) dX3_performRound_35 (by decide) ?_
    refine nf_ic_ge (pc := 37) 107 dX3_performRound_37 (by decide) (fun c_37 => ?_) (fun c_37 => ?_)
    · exact absurd c_37 (nI_ge (b := 6) (by omega) (by omega))
    · refine nf_iln (pc := 40) dX3_performRound_40 rfl ?_
      refine nf_il (pc := 41) dX3_performRound_41 rfl ?_
      refine nf_cSi2 (pc := 43) sp_X4_slot mk_X3_124 st_X4_slot nm_X4_slot ⟨by decide, by decide⟩ (Nat.le_of_ble_eq_true rfl) dX3_performRound_43 ?_
      refine nf_is5 (pc := 46) dX3_performRound_46 rfl (by decide) ?_
      refine nf_iconst (pc := 48) (v := 0) dX3_performRound_48 (by decide) ?_
      refine nf_is6 (pc := 49) dX3_performRound_49 rfl (by decide) ?_
      refine lp_rcv ha (by omega) 6 S acc 0 (by omega) hk ?_
      refine nf_iinc4 (pc := 101) (v := nI (s + 1)) dX3_performRound_101 (nI_succ (s)).symm rfl (by decide) ?_
      refine nf_goto (pc := 104) 33 dX3_performRound_104 (by decide) ?_
      exact ih _ _ (s + 1) _ _ (by omega) (hk.same (cs_same_rcv a s 6 S acc 0)) hK
set_option maxRecDepth 100000 in
set_option maxHeartbeats 4000000 in
theorem lp_art {L : nf_L} {nl na : Nat}  : ∀ (m : Nat) (S : nf_S) (acc : Int32) (k : Nat) (o4 o5 o6 : Option Value), (k + m = na) → (cs_ok S nl na) → nf_V L 5 cX3_performRound RX3 7 (some .int) (some (.int (cs_art m S acc k).2)) (cs_art m S acc k).1 19 [some (.ref (L.2.2 (1, 0, 0, 0))), some (.ref (L.2.2 (5, 5, 0, 0))), some (.int acc), some (.int (nI k)), o4, o5, o6] [] S := by
  intro m
  induction m with
  | zero =>
    intro S acc k o4 o5 o6 hkm hk
    have h31 := hk.2.1
    refine nf_iln (pc := 19) dX3_performRound_19 rfl ?_
    refine nf_aln (pc := 20) dX3_performRound_20 rfl ?_
    refine gf_X3_articles (by decide) (pc := 21) lk_X3_32 dX3_performRound_21 ?_
    refine gf_X0_count (by decide) (pc := 24) lk_X3_121 dX3_performRound_24 ?_
    refine nf_topI (y := nI (na)) hk.2.2.2.1 ?_
    refine nf_ic_ge (pc := 27) 113 dX3_performRound_27 (by decide) (fun c_27 => ?_) (fun c_27 => ?_)
    · refine nf_iln (pc := 113) dX3_performRound_113 rfl ?_
      exact (nf_iret (pc := 114) dX3_performRound_114)
    · exact absurd (nI_le (by omega) (by omega)) c_27
  | succ m ih =>
    intro S acc k o4 o5 o6 hkm hk
    have h31 := hk.2.1
    refine nf_iln (pc := 19) dX3_performRound_19 rfl ?_
    refine nf_aln (pc := 20) dX3_performRound_20 rfl ?_
    refine gf_X3_articles (by decide) (pc := 21) lk_X3_32 dX3_performRound_21 ?_
    refine gf_X0_count (by decide) (pc := 24) lk_X3_121 dX3_performRound_24 ?_
    refine nf_topI (y := nI (na)) hk.2.2.2.1 ?_
    refine nf_ic_ge (pc := 27) 113 dX3_performRound_27 (by decide) (fun c_27 => ?_) (fun c_27 => ?_)
    · exact absurd c_27 (nI_ge (by omega) (by omega))
    · refine nf_iconst (pc := 30) (v := 0) dX3_performRound_30 (by decide) ?_
      refine nf_is4 (pc := 31) dX3_performRound_31 rfl (by decide) ?_
      refine lp_snd (a := k) (by omega) 6 S acc 0 _ _ (by omega) hk (fun o5 o6 => ?_)
      refine nf_iinc3 (pc := 107) (v := nI (k + 1)) dX3_performRound_107 (nI_succ (k)).symm rfl (by decide) ?_
      refine nf_goto (pc := 110) 19 dX3_performRound_110 (by decide) ?_
      exact ih _ _ (k + 1) _ _ _ (by omega) (hk.same (cs_same_snd k 6 S acc 0))
set_option maxRecDepth 100000 in
set_option maxHeartbeats 4000000 in
theorem sp_X3_performRound {L : nf_L} {S : nf_S} {nl na : Nat} (hk : cs_ok S nl na) : nf_Sp L 5 yX3_performRound cX3_performRound 7 (some .int) [.ref (L.2.2 (1, 0, 0, 0)), .ref (L.2.2 (5, 5, 0, 0))] S (some (.int (cs_rnd S na).2)) (cs_rnd S na).1 := by
  refine nf_start (own := RX3) (ls0 := [some (.ref (L.2.2 (1, 0, 0, 0))), some (.ref (L.2.2 (5, 5, 0, 0))), none, none, none, none, none]) (by decide) (Nat.le_of_ble_eq_true rfl) rfl rfl ?_
  refine nf_aln (pc := 0) dX3_performRound_0 rfl ?_
  refine nf_aln (pc := 1) dX3_performRound_1 rfl ?_
  refine gf_X3_queue (by decide) (pc := 2) lk_X3_45 dX3_performRound_2 ?_
  refine nf_cVv1 (pc := 5) (sp_X4_copyFrom (n1 := 5) (n2 := 0) (by decide) (by decide)) ⟨(by decide), rfl⟩ rfl rfl mk_X3_114 im_X4_copyFrom se_X4_copyFrom nm_X4_copyFrom ⟨by decide, by decide⟩ (Nat.le_of_ble_eq_true rfl) dX3_performRound_5 ?_
  refine nf_aln (pc := 8) dX3_performRound_8 rfl ?_
  refine gf_X3_queue (by decide) (pc := 9) lk_X3_45 dX3_performRound_9 ?_
  refine nf_cVv0 (pc := 12) (sp_X4_makeEmpty (by decide)) ⟨(by decide), rfl⟩ rfl rfl mk_X3_118 im_X4_makeEmpty se_X4_makeEmpty nm_X4_makeEmpty ⟨by decide, by decide⟩ (Nat.le_of_ble_eq_true rfl) dX3_performRound_12 ?_
  refine nf_iconst (pc := 15) (v := 0) dX3_performRound_15 (by decide) ?_
  refine nf_is2 (pc := 16) dX3_performRound_16 rfl (by decide) ?_
  refine nf_iconst (pc := 17) (v := 0) dX3_performRound_17 (by decide) ?_
  refine nf_is3 (pc := 18) dX3_performRound_18 rfl (by decide) ?_
  exact lp_art na _ 0 0 none none none (by omega) (cs_ok_cpq hk)
end
section
/-! copying nets, saved states, error counters -/
/-- net n1 becomes as net n2 -/
def nf_cpN (S : nf_S) (n1 n2 : Nat) : nf_S := ((fun n c h => if n = n1 then S.1 n2 c h else S.1 n c h), (fun n c h => if n = n1 then S.2.1 n2 c h else S.2.1 n c h), S.2.2)
theorem nf_I_cpN (S : nf_S) (n1 n2 n c h : Nat) : nf_I (nf_cpN S n1 n2) n c h = if n = n1 then nf_I S n2 c h else nf_I S n c h := rfl
theorem nf_A_cpN (S : nf_S) (n1 n2 n c h : Nat) : nf_A (nf_cpN S n1 n2) n c h = if n = n1 then nf_A S n2 c h else nf_A S n c h := rfl
theorem nf_O_cpN (S : nf_S) (n1 n2 x : Nat) : nf_O (nf_cpN S n1 n2) x = nf_O S x := rfl
theorem nf_J_cpN (S : nf_S) (n1 n2 x : Nat) : nf_J (nf_cpN S n1 n2) x = nf_J S x := rfl
theorem nf_v_cpN (S : nf_S) (n1 n2 : Nat) : nf_v (nf_cpN S n1 n2) = nf_v S := rfl
def cs_cpL (S : nf_S) (n1 n2 : Nat) : nf_S := nf_sA (nf_sA (nf_sA (nf_sI S n1 2 0 (nf_I S n2 2 0)) n1 2 0 (nf_A S n2 2 0)) n1 3 0 (nf_A S n2 3 0)) n1 4 0 (nf_A S n2 4 0)
def cs_cpA (S : nf_S) (n1 n2 : Nat) : nf_S := nf_sA (nf_sA (nf_sA (nf_sA (nf_sA (nf_sI S n1 3 0 (nf_I S n2 3 0)) n1 5 0 (nf_A S n2 5 0)) n1 6 0 (nf_A S n2 6 0)) n1 7 0 (nf_A S n2 7 0)) n1 8 0 (nf_A S n2 8 0)) n1 9 0 (nf_A S n2 9 0)
def cs_cpH (S : nf_S) (n1 n2 k : Nat) : nf_S := ((fun n c h => if n = n1 ∧ (c = 4 ∨ c = 5) ∧ h < k then S.1 n2 c h else S.1 n c h), (fun n c h => if n = n1 ∧ (c = 12 ∨ c = 13) ∧ h < k then S.2.1 n2 c h else S.2.1 n c h), S.2.2)
theorem nf_I_cpH (S : nf_S) (n1 n2 k n c h : Nat) : nf_I (cs_cpH S n1 n2 k) n c h = if n = n1 ∧ (c = 4 ∨ c = 5) ∧ h < k then nf_I S n2 c h else nf_I S n c h := rfl
theorem nf_A_cpH (S : nf_S) (n1 n2 k n c h : Nat) : nf_A (cs_cpH S n1 n2 k) n c h = if n = n1 ∧ (c = 12 ∨ c = 13) ∧ h < k then nf_A S n2 c h else nf_A S n c h := rfl
theorem cs_cpH_0 (S : nf_S) (n1 n2 : Nat) : cs_cpH S n1 n2 0 = S := by
  refine nf_ext (fun n c h => ?_) (fun n c h => ?_) (fun _ => rfl) (fun _ => rfl) rfl
  · rw [nf_I_cpH, if_neg (by omega)]
  · rw [nf_A_cpH, if_neg (by omega)]
theorem cs_cpH_step (S : nf_S) (n1 n2 k : Nat) (hne : n1 ≠ n2) : nf_sA (nf_sA (nf_sI (nf_sI (cs_cpH S n1 n2 k) n1 4 k (nf_I (cs_cpH S n1 n2 k) n2 4 k)) n1 5 k (nf_I (cs_cpH S n1 n2 k) n2 5 k)) n1 12 k (nf_A (cs_cpH S n1 n2 k) n2 12 k)) n1 13 k (nf_A (cs_cpH S n1 n2 k) n2 13 k) = cs_cpH S n1 n2 (k + 1) := by
  have e : ¬ n2 = n1 := fun h => hne h.symm
  refine nf_ext (fun n c h => ?_) (fun n c h => ?_) (fun _ => rfl) (fun _ => rfl) rfl
  · simp only [nf_I_sA, nf_I_sI, nf_I_cpH, e, false_and, if_false]
    by_cases h1 : n = n1
    · subst h1
      by_cases h2 : h = k
      · subst h2
        by_cases h4 : c = 4
        · subst h4; simp
        · by_cases h5 : c = 5
          · subst h5; simp
          · simp [h4, h5]
      · have h3 : h < k + 1 ↔ h < k := by omega
        simp [h2, h3]
    · simp [h1]
  · simp only [nf_A_sA, nf_A_sI, nf_A_cpH, e, false_and, if_false]
    by_cases h1 : n = n1
    · subst h1
      by_cases h2 : h = k
      · subst h2
        by_cases h4 : c = 12
        · subst h4; simp
        · by_cases h5 : c = 13
          · subst h5; simp
          · simp [h4, h5]
      · have h3 : h < k + 1 ↔ h < k := by omega
        simp [h2, h3]
    · simp [h1]
set_option maxRecDepth 100000 in
set_option maxHeartbeats 4000000 in
theorem sp_X2_copyFrom {L : nf_L} {S : nf_S} {n1 n2 : Nat} (hn1 : n1 < 5) (hn2 : n2 < 5) (hne : n1 ≠ n2) : nf_Sp L 1 yX2_copyFrom cX2_copyFrom 2 none [.ref (L.2.2 (2, n1, 0, 0)), .ref (L.2.2 (2, n2, 0, 0))] S none (cs_cpL S n1 n2) := by
  have hne2 : ¬ n2 = n1 := fun h => hne h.symm
  refine nf_start (own := RX2) (ls0 := [some (.ref (L.2.2 (2, n1, 0, 0))), some (.ref (L.2.2 (2, n2, 0, 0)))]) (by decide) (Nat.le_of_ble_eq_true rfl) rfl rfl ?_
  refine nf_aln (pc := 0) dX2_copyFrom_0 rfl ?_
  refine nf_aln (pc := 1) dX2_copyFrom_1 rfl ?_
  refine gf_X2_count hn2 (pc := 2) lk_X2_9 dX2_copyFrom_2 ?_
  refine pf_X2_count hn1 (pc := 5) lk_X2_9 dX2_copyFrom_5 ?_
  refine nf_aln (pc := 8) dX2_copyFrom_8 rfl ?_
  refine gf_X2_first hn2 (pc := 9) lk_X2_15 dX2_copyFrom_9 ?_
  refine nf_iconst (pc := 12) (v := 0) dX2_copyFrom_12 (by decide) ?_
  refine nf_aln (pc := 13) dX2_copyFrom_13 rfl ?_
  refine gf_X2_first hn1 (pc := 14) lk_X2_15 dX2_copyFrom_14 ?_
  refine nf_iconst (pc := 17) (v := 0) dX2_copyFrom_17 (by decide) ?_
  refine nf_bipush (pc := 18) (v := 12) dX2_copyFrom_18 (by decide) ?_
  refine nf_copy (pc := 20) (nf_okA hn2 (by decide)) (nf_okA hn1 (by decide)) (by decide) (by decide) ac_X2_32 ac_native ac_static ini_J10 (by decide) (Nat.le_of_ble_eq_true rfl) dX2_copyFrom_20 ?_
  refine nf_aln (pc := 23) dX2_copyFrom_23 rfl ?_
  refine gf_X2_second hn2 (pc := 24) lk_X2_19 dX2_copyFrom_24 ?_
  refine nf_iconst (pc := 27) (v := 0) dX2_copyFrom_27 (by decide) ?_
  refine nf_aln (pc := 28) dX2_copyFrom_28 rfl ?_
  refine gf_X2_second hn1 (pc := 29) lk_X2_19 dX2_copyFrom_29 ?_
  refine nf_iconst (pc := 32) (v := 0) dX2_copyFrom_32 (by decide) ?_
  refine nf_bipush (pc := 33) (v := 12) dX2_copyFrom_33 (by decide) ?_
  refine nf_copy (pc := 35) (nf_okA hn2 (by decide)) (nf_okA hn1 (by decide)) (by decide) (by decide) ac_X2_32 ac_native ac_static ini_J10 (by decide) (Nat.le_of_ble_eq_true rfl) dX2_copyFrom_35 ?_
  refine nf_aln (pc := 38) dX2_copyFrom_38 rfl ?_
  refine gf_X2_kind hn2 (pc := 39) lk_X2_22 dX2_copyFrom_39 ?_
  refine nf_iconst (pc := 42) (v := 0) dX2_copyFrom_42 (by decide) ?_
  refine nf_aln (pc := 43) dX2_copyFrom_43 rfl ?_
  refine gf_X2_kind hn1 (pc := 44) lk_X2_22 dX2_copyFrom_44 ?_
  refine nf_iconst (pc := 47) (v := 0) dX2_copyFrom_47 (by decide) ?_
  refine nf_bipush (pc := 48) (v := 12) dX2_copyFrom_48 (by decide) ?_
  refine nf_copy (pc := 50) (nf_okA hn2 (by decide)) (nf_okA hn1 (by decide)) (by decide) (by decide) ac_X2_32 ac_native ac_static ini_J10 (by decide) (Nat.le_of_ble_eq_true rfl) dX2_copyFrom_50 ?_
  exact nf_to rfl (by simp [cs_cpL, nf_A_sA, nf_A_sI, nf_I_sA, nf_I_sI, hne2]) (nf_vret (pc := 53) dX2_copyFrom_53)
set_option maxRecDepth 100000 in
set_option maxHeartbeats 4000000 in
theorem sp_X0_copyFrom {L : nf_L} {S : nf_S} {n1 n2 : Nat} (hn1 : n1 < 5) (hn2 : n2 < 5) (hne : n1 ≠ n2) : nf_Sp L 1 yX0_copyFrom cX0_copyFrom 2 none [.ref (L.2.2 (3, n1, 0, 0)), .ref (L.2.2 (3, n2, 0, 0))] S none (cs_cpA S n1 n2) := by
  have hne2 : ¬ n2 = n1 := fun h => hne h.symm
  refine nf_start (own := RX0) (ls0 := [some (.ref (L.2.2 (3, n1, 0, 0))), some (.ref (L.2.2 (3, n2, 0, 0)))]) (by decide) (Nat.le_of_ble_eq_true rfl) rfl rfl ?_
  refine nf_aln (pc := 0) dX0_copyFrom_0 rfl ?_
  refine nf_aln (pc := 1) dX0_copyFrom_1 rfl ?_
  refine gf_X0_count hn2 (pc := 2) lk_X0_9 dX0_copyFrom_2 ?_
  refine pf_X0_count hn1 (pc := 5) lk_X0_9 dX0_copyFrom_5 ?_
  refine nf_aln (pc := 8) dX0_copyFrom_8 rfl ?_
  refine gf_X0_group hn2 (pc := 9) lk_X0_15 dX0_copyFrom_9 ?_
  refine nf_iconst (pc := 12) (v := 0) dX0_copyFrom_12 (by decide) ?_
  refine nf_aln (pc := 13) dX0_copyFrom_13 rfl ?_
  refine gf_X0_group hn1 (pc := 14) lk_X0_15 dX0_copyFrom_14 ?_
  refine nf_iconst (pc := 17) (v := 0) dX0_copyFrom_17 (by decide) ?_
  refine nf_bipush (pc := 18) (v := 30) dX0_copyFrom_18 (by decide) ?_
  refine nf_copy (pc := 20) (nf_okA hn2 (by decide)) (nf_okA hn1 (by decide)) (by decide) (by decide) ac_X0_31 ac_native ac_static ini_J10 (by decide) (Nat.le_of_ble_eq_true rfl) dX0_copyFrom_20 ?_
  refine nf_aln (pc := 23) dX0_copyFrom_23 rfl ?_
  refine gf_X0_author hn2 (pc := 24) lk_X0_19 dX0_copyFrom_24 ?_
  refine nf_iconst (pc := 27) (v := 0) dX0_copyFrom_27 (by decide) ?_
  refine nf_aln (pc := 28) dX0_copyFrom_28 rfl ?_
  refine gf_X0_author hn1 (pc := 29) lk_X0_19 dX0_copyFrom_29 ?_
  refine nf_iconst (pc := 32) (v := 0) dX0_copyFrom_32 (by decide) ?_
  refine nf_bipush (pc := 33) (v := 30) dX0_copyFrom_33 (by decide) ?_
  refine nf_copy (pc := 35) (nf_okA hn2 (by decide)) (nf_okA hn1 (by decide)) (by decide) (by decide) ac_X0_31 ac_native ac_static ini_J10 (by decide) (Nat.le_of_ble_eq_true rfl) dX0_copyFrom_35 ?_
  refine nf_aln (pc := 38) dX0_copyFrom_38 rfl ?_
  refine gf_X0_postedOn hn2 (pc := 39) lk_X0_22 dX0_copyFrom_39 ?_
  refine nf_iconst (pc := 42) (v := 0) dX0_copyFrom_42 (by decide) ?_
  refine nf_aln (pc := 43) dX0_copyFrom_43 rfl ?_
  refine gf_X0_postedOn hn1 (pc := 44) lk_X0_22 dX0_copyFrom_44 ?_
  refine nf_iconst (pc := 47) (v := 0) dX0_copyFrom_47 (by decide) ?_
  refine nf_bipush (pc := 48) (v := 30) dX0_copyFrom_48 (by decide) ?_
  refine nf_copy (pc := 50) (nf_okA hn2 (by decide)) (nf_okA hn1 (by decide)) (by decide) (by decide) ac_X0_31 ac_native ac_static ini_J10 (by decide) (Nat.le_of_ble_eq_true rfl) dX0_copyFrom_50 ?_
  refine nf_aln (pc := 53) dX0_copyFrom_53 rfl ?_
  refine gf_X0_action hn2 (pc := 54) lk_X0_25 dX0_copyFrom_54 ?_
  refine nf_iconst (pc := 57) (v := 0) dX0_copyFrom_57 (by decide) ?_
  refine nf_aln (pc := 58) dX0_copyFrom_58 rfl ?_
  refine gf_X0_action hn1 (pc := 59) lk_X0_25 dX0_copyFrom_59 ?_
  refine nf_iconst (pc := 62) (v := 0) dX0_copyFrom_62 (by decide) ?_
  refine nf_bipush (pc := 63) (v := 30) dX0_copyFrom_63 (by decide) ?_
  refine nf_copy (pc := 65) (nf_okA hn2 (by decide)) (nf_okA hn1 (by decide)) (by decide) (by decide) ac_X0_31 ac_native ac_static ini_J10 (by decide) (Nat.le_of_ble_eq_true rfl) dX0_copyFrom_65 ?_
  refine nf_aln (pc := 68) dX0_copyFrom_68 rfl ?_
  refine gf_X0_target hn2 (pc := 69) lk_X0_28 dX0_copyFrom_69 ?_
  refine nf_iconst (pc := 72) (v := 0) dX0_copyFrom_72 (by decide) ?_
  refine nf_aln (pc := 73) dX0_copyFrom_73 rfl ?_
  refine gf_X0_target hn1 (pc := 74) lk_X0_28 dX0_copyFrom_74 ?_
  refine nf_iconst (pc := 77) (v := 0) dX0_copyFrom_77 (by decide) ?_
  refine nf_bipush (pc := 78) (v := 30) dX0_copyFrom_78 (by decide) ?_
  refine nf_copy (pc := 80) (nf_okA hn2 (by decide)) (nf_okA hn1 (by decide)) (by decide) (by decide) ac_X0_31 ac_native ac_static ini_J10 (by decide) (Nat.le_of_ble_eq_true rfl) dX0_copyFrom_80 ?_
  exact nf_to rfl (by simp [cs_cpA, nf_A_sA, nf_A_sI, nf_I_sA, nf_I_sI, hne2]) (nf_vret (pc := 83) dX0_copyFrom_83)
set_option maxRecDepth 100000 in
set_option maxHeartbeats 4000000 in
theorem sp_X1_copyFrom {L : nf_L} {S : nf_S} {n1 n2 h : Nat} (hn1 : n1 < 5) (hn2 : n2 < 5) (hne : n1 ≠ n2) (hh : h < 6) : nf_Sp L 1 yX1_copyFrom cX1_copyFrom 2 none [.ref (L.2.2 (4, n1, 0, h)), .ref (L.2.2 (4, n2, 0, h))] S none (nf_sA (nf_sA (nf_sI (nf_sI S n1 4 h (nf_I S n2 4 h)) n1 5 h (nf_I S n2 5 h)) n1 12 h (nf_A S n2 12 h)) n1 13 h (nf_A S n2 13 h)) := by
  have hne2 : ¬ n2 = n1 := fun h => hne h.symm
  refine nf_start (own := RX1) (ls0 := [some (.ref (L.2.2 (4, n1, 0, h))), some (.ref (L.2.2 (4, n2, 0, h)))]) (by decide) (Nat.le_of_ble_eq_true rfl) rfl rfl ?_
  refine nf_aln (pc := 0) dX1_copyFrom_0 rfl ?_
  refine nf_aln (pc := 1) dX1_copyFrom_1 rfl ?_
  refine gf_X1_groups hn2 hh (pc := 2) lk_X1_9 dX1_copyFrom_2 ?_
  refine pf_X1_groups hn1 hh (pc := 5) lk_X1_9 dX1_copyFrom_5 ?_
  refine nf_aln (pc := 8) dX1_copyFrom_8 rfl ?_
  refine nf_aln (pc := 9) dX1_copyFrom_9 rfl ?_
  refine gf_X1_store hn2 hh (pc := 10) lk_X1_15 dX1_copyFrom_10 ?_
  refine pf_X1_store hn1 hh (pc := 13) lk_X1_15 dX1_copyFrom_13 ?_
  refine nf_aln (pc := 16) dX1_copyFrom_16 rfl ?_
  refine gf_X1_historyDay hn2 hh (pc := 17) lk_X1_18 dX1_copyFrom_17 ?_
  refine nf_iconst (pc := 20) (v := 0) dX1_copyFrom_20 (by decide) ?_
  refine nf_aln (pc := 21) dX1_copyFrom_21 rfl ?_
  refine gf_X1_historyDay hn1 hh (pc := 22) lk_X1_18 dX1_copyFrom_22 ?_
  refine nf_iconst (pc := 25) (v := 0) dX1_copyFrom_25 (by decide) ?_
  refine nf_bipush (pc := 26) (v := 30) dX1_copyFrom_26 (by decide) ?_
  refine nf_copy (pc := 28) (nf_ok12 hn2 hh) (nf_ok12 hn1 hh) (by decide) (by decide) ac_X1_41 ac_native ac_static ini_J10 (by decide) (Nat.le_of_ble_eq_true rfl) dX1_copyFrom_28 ?_
  refine nf_aln (pc := 31) dX1_copyFrom_31 rfl ?_
  refine gf_X1_cancelAuthors hn2 hh (pc := 32) lk_X1_22 dX1_copyFrom_32 ?_
  refine nf_iconst (pc := 35) (v := 0) dX1_copyFrom_35 (by decide) ?_
  refine nf_aln (pc := 36) dX1_copyFrom_36 rfl ?_
  refine gf_X1_cancelAuthors hn1 hh (pc := 37) lk_X1_22 dX1_copyFrom_37 ?_
  refine nf_iconst (pc := 40) (v := 0) dX1_copyFrom_40 (by decide) ?_
  refine nf_bipush (pc := 41) (v := 30) dX1_copyFrom_41 (by decide) ?_
  refine nf_copy (pc := 43) (nf_ok13 hn2 hh) (nf_ok13 hn1 hh) (by decide) (by decide) ac_X1_41 ac_native ac_static ini_J10 (by decide) (Nat.le_of_ble_eq_true rfl) dX1_copyFrom_43 ?_
  exact nf_to rfl (by simp [nf_A_sA, nf_A_sI, nf_I_sA, nf_I_sI, hne2]) (nf_vret (pc := 46) dX1_copyFrom_46)
set_option maxRecDepth 100000 in
set_option maxHeartbeats 4000000 in
theorem lp_cpH {L : nf_L} {r : Option Value} {S2 S0 : nf_S} {n1 n2 : Nat} (hn1 : n1 < 5) (hn2 : n2 < 5) (hne : n1 ≠ n2) : ∀ (m : Nat) (k : Nat), (k + m = 6) → (nf_V L 2 cX3_copyFrom RX3 3 none r S2 81 [some (.ref (L.2.2 (1, n1, 0, 0))), some (.ref (L.2.2 (1, n2, 0, 0))), some (.int (nI 6))] [] (cs_cpH S0 n1 n2 6)) → nf_V L 2 cX3_copyFrom RX3 3 none r S2 54 [some (.ref (L.2.2 (1, n1, 0, 0))), some (.ref (L.2.2 (1, n2, 0, 0))), some (.int (nI k))] [] (cs_cpH S0 n1 n2 k) := by
  intro m
  induction m with
  | zero =>
    intro k hkm hK
    refine nf_iln (pc := 54) dX3_copyFrom_54 rfl ?_
    refine nf_bipush (pc := 55) (v := 6) dX3_copyFrom_55 (by decide) ?_
    refine nf_ic_ge (pc := 57) 81 dX3_copyFrom_57 (by decide) (fun c_57 => ?_) (fun c_57 => ?_)
    · rw [show k = 6 by omega]
      exact hK
    · exact absurd (nI_le (a := 6) (by omega) (by omega)) c_57
  | succ m ih =>
    intro k hkm hK
    refine nf_iln (pc := 54) dX3_copyFrom_54 rfl ?_
    refine nf_bipush (pc := 55) (v := 6) dX3_copyFrom_55 (by decide) ?_
    refine nf_ic_ge (pc := 57) 81 dX3_copyFrom_57 (by decide) (fun c_57 => ?_) (fun c_57 => ?_)
    · exact absurd c_57 (nI_ge (b := 6) (by omega) (by omega))
    · refine nf_aln (pc := 60) dX3_copyFrom_60 rfl ?_
      refine gf_X3_hosts hn1 (pc := 61) lk_X3_38 dX3_copyFrom_61 ?_
      refine nf_iln (pc := 64) dX3_copyFrom_64 rfl ?_
      refine nf_haldI (pc := 65) (k := k) hn1 (show _ < 6 by omega) dX3_copyFrom_65 ?_
      refine nf_aln (pc := 66) dX3_copyFrom_66 rfl ?_
      refine gf_X3_hosts hn2 (pc := 67) lk_X3_38 dX3_copyFrom_67 ?_
      refine nf_iln (pc := 70) dX3_copyFrom_70 rfl ?_
      refine nf_haldI (pc := 71) (k := k) hn2 (show _ < 6 by omega) dX3_copyFrom_71 ?_
      refine nf_cVv1 (pc := 72) (sp_X1_copyFrom hn1 hn2 hne (show k < 6 by omega)) (nf_ok4 hn1 (show _ < 6 by omega)) rfl rfl mk_X3_171 im_X1_copyFrom se_X1_copyFrom nm_X1_copyFrom ⟨by decide, by decide⟩ (Nat.le_of_ble_eq_true rfl) dX3_copyFrom_72 ?_
      refine nf_iinc2 (pc := 75) (v := nI (k + 1)) dX3_copyFrom_75 (nI_succ (k)).symm rfl (by decide) ?_
      refine nf_goto (pc := 78) 54 dX3_copyFrom_78 (by decide) ?_
      refine nf_from (cs_cpH_step S0 n1 n2 k hne) ?_
      exact ih (k + 1) (by omega) hK
def cs_cp0 (S : nf_S) (n1 n2 : Nat) : nf_S := nf_sA (nf_sI (nf_sI S n1 0 0 (nf_I S n2 0 0)) n1 1 0 (nf_I S n2 1 0)) n1 0 0 (nf_A S n2 0 0)
def cs_cp9 (S : nf_S) (n1 n2 : Nat) : nf_S := nf_sA (cs_cpq S n1 n2) n1 1 0 (nf_A S n2 1 0)
theorem cs_cp_eqv (S : nf_S) (n1 n2 : Nat) (hne : n1 ≠ n2) : nf_eqv (cs_cp9 (cs_cpH (cs_cpA (cs_cpL (cs_cp0 S n1 n2) n1 n2) n1 n2) n1 n2 6) n1 n2) (nf_cpN S n1 n2) := by
  have e : ¬ n2 = n1 := fun h => hne h.symm
  refine ⟨fun n c h hn hr => ?_, fun n c h hq j hj => ?_, fun _ _ _ => rfl, fun _ => rfl, fun _ _ => rfl⟩
  · simp only [cs_cp9, cs_cpq, cs_cpA, cs_cpL, cs_cp0, nf_I_sA, nf_I_sI, nf_I_cpH, nf_I_cpN, e, false_and, if_false]
    by_cases h1 : n = n1
    · subst h1
      rcases hr with ⟨h2, rfl⟩ | ⟨h2, h3⟩
      · rcases (show c = 0 ∨ c = 1 ∨ c = 2 ∨ c = 3 by omega) with rfl | rfl | rfl | rfl <;> simp
      · rcases h2 with rfl | rfl <;> simp [h3]
    · simp [h1]
  · refine congrFun ?_ j
    simp only [cs_cp9, cs_cpq, cs_cpA, cs_cpL, cs_cp0, nf_A_sA, nf_A_sI, nf_A_cpH, nf_A_cpN, e, false_and, if_false]
    by_cases h1 : n = n1
    · subst h1
      rcases hq with ⟨_, ⟨h2, h3⟩ | ⟨h2, h3⟩⟩ | ⟨_, h2, h3⟩
      · simp at h2 h3
        subst h3
        rcases (show c = 0 ∨ c = 1 ∨ c = 2 ∨ c = 3 ∨ c = 4 ∨ c = 5 ∨ c = 6 ∨ c = 7 ∨ c = 8 ∨ c = 9 ∨ c = 10 ∨ c = 11 by omega) with rfl | rfl | rfl | rfl | rfl | rfl | rfl | rfl | rfl | rfl | rfl | rfl <;> simp
      · simp at h2 h3
        rcases h2 with rfl | rfl <;> simp [h3]
      · simp at h2 h3
        subst h3
        rcases h2 with rfl | rfl <;> simp
    · simp [h1]
set_option maxRecDepth 100000 in
set_option maxHeartbeats 4000000 in
theorem sp_cp {L : nf_L} {S : nf_S} {n1 n2 : Nat} (hn1 : n1 < 5) (hn2 : n2 < 5) (hne : n1 ≠ n2) : nf_Sp L 2 yX3_copyFrom cX3_copyFrom 3 none [.ref (L.2.2 (1, n1, 0, 0)), .ref (L.2.2 (1, n2, 0, 0))] S none (cs_cp9 (cs_cpH (cs_cpA (cs_cpL (cs_cp0 S n1 n2) n1 n2) n1 n2) n1 n2 6) n1 n2) := by
  have hne2 : ¬ n2 = n1 := fun h => hne h.symm
  refine nf_start (own := RX3) (ls0 := [some (.ref (L.2.2 (1, n1, 0, 0))), some (.ref (L.2.2 (1, n2, 0, 0))), none]) (by decide) (Nat.le_of_ble_eq_true rfl) rfl rfl ?_
  refine nf_aln (pc := 0) dX3_copyFrom_0 rfl ?_
  refine nf_aln (pc := 1) dX3_copyFrom_1 rfl ?_
  refine gf_X3_today hn2 (pc := 2) lk_X3_9 dX3_copyFrom_2 ?_
  refine pf_X3_today hn1 (pc := 5) lk_X3_9 dX3_copyFrom_5 ?_
  refine nf_aln (pc := 8) dX3_copyFrom_8 rfl ?_
  refine nf_aln (pc := 9) dX3_copyFrom_9 rfl ?_
  refine gf_X3_historyLimit hn2 (pc := 10) lk_X3_15 dX3_copyFrom_10 ?_
  refine pf_X3_historyLimit hn1 (pc := 13) lk_X3_15 dX3_copyFrom_13 ?_
  refine nf_aln (pc := 16) dX3_copyFrom_16 rfl ?_
  refine gf_X3_expiry hn2 (pc := 17) lk_X3_18 dX3_copyFrom_17 ?_
  refine nf_iconst (pc := 20) (v := 0) dX3_copyFrom_20 (by decide) ?_
  refine nf_aln (pc := 21) dX3_copyFrom_21 rfl ?_
  refine gf_X3_expiry hn1 (pc := 22) lk_X3_18 dX3_copyFrom_22 ?_
  refine nf_iconst (pc := 25) (v := 0) dX3_copyFrom_25 (by decide) ?_
  refine nf_iconst (pc := 26) (v := 4) dX3_copyFrom_26 (by decide) ?_
  refine nf_copy (pc := 27) (nf_okA hn2 (by decide)) (nf_okA hn1 (by decide)) (by decide) (by decide) ac_X3_159 ac_native ac_static ini_J10 (by decide) (Nat.le_of_ble_eq_true rfl) dX3_copyFrom_27 ?_
  refine nf_from (S' := cs_cp0 S n1 n2) (by simp [cs_cp0, nf_A_sI, nf_I_sI, hne2]) ?_
  refine nf_aln (pc := 30) dX3_copyFrom_30 rfl ?_
  refine gf_X3_links hn1 (pc := 31) lk_X3_25 dX3_copyFrom_31 ?_
  refine nf_aln (pc := 34) dX3_copyFrom_34 rfl ?_
  refine gf_X3_links hn2 (pc := 35) lk_X3_25 dX3_copyFrom_35 ?_
  refine nf_cVv1 (pc := 38) (sp_X2_copyFrom hn1 hn2 hne) ⟨hn1, rfl⟩ rfl rfl mk_X3_165 im_X2_copyFrom se_X2_copyFrom nm_X2_copyFrom ⟨by decide, by decide⟩ (Nat.le_of_ble_eq_true rfl) dX3_copyFrom_38 ?_
  refine nf_aln (pc := 41) dX3_copyFrom_41 rfl ?_
  refine gf_X3_articles hn1 (pc := 42) lk_X3_32 dX3_copyFrom_42 ?_
  refine nf_aln (pc := 45) dX3_copyFrom_45 rfl ?_
  refine gf_X3_articles hn2 (pc := 46) lk_X3_32 dX3_copyFrom_46 ?_
  refine nf_cVv1 (pc := 49) (sp_X0_copyFrom hn1 hn2 hne) ⟨hn1, rfl⟩ rfl rfl mk_X3_168 im_X0_copyFrom se_X0_copyFrom nm_X0_copyFrom ⟨by decide, by decide⟩ (Nat.le_of_ble_eq_true rfl) dX3_copyFrom_49 ?_
  refine nf_iconst (pc := 52) (v := 0) dX3_copyFrom_52 (by decide) ?_
  refine nf_is2 (pc := 53) dX3_copyFrom_53 rfl (by decide) ?_
  refine nf_from (cs_cpH_0 _ n1 n2).symm ?_
  refine lp_cpH hn1 hn2 hne 6 0 (by omega) ?_
  refine nf_aln (pc := 81) dX3_copyFrom_81 rfl ?_
  refine gf_X3_queue hn1 (pc := 82) lk_X3_45 dX3_copyFrom_82 ?_
  refine nf_aln (pc := 85) dX3_copyFrom_85 rfl ?_
  refine gf_X3_queue hn2 (pc := 86) lk_X3_45 dX3_copyFrom_86 ?_
  refine nf_cVv1 (pc := 89) (sp_X4_copyFrom (Nat.lt_succ_of_lt hn1) (Nat.lt_succ_of_lt hn2)) ⟨(Nat.lt_succ_of_lt hn1), rfl⟩ rfl rfl mk_X3_114 im_X4_copyFrom se_X4_copyFrom nm_X4_copyFrom ⟨by decide, by decide⟩ (Nat.le_of_ble_eq_true rfl) dX3_copyFrom_89 ?_
  refine nf_aln (pc := 92) dX3_copyFrom_92 rfl ?_
  refine gf_X3_counts hn2 (pc := 93) lk_X3_49 dX3_copyFrom_93 ?_
  refine nf_iconst (pc := 96) (v := 0) dX3_copyFrom_96 (by decide) ?_
  refine nf_aln (pc := 97) dX3_copyFrom_97 rfl ?_
  refine gf_X3_counts hn1 (pc := 98) lk_X3_49 dX3_copyFrom_98 ?_
  refine nf_iconst (pc := 101) (v := 0) dX3_copyFrom_101 (by decide) ?_
  refine nf_bipush (pc := 102) (v := 6) dX3_copyFrom_102 (by decide) ?_
  refine nf_copy (pc := 104) (nf_okA hn2 (by decide)) (nf_okA hn1 (by decide)) (by decide) (by decide) ac_X3_159 ac_native ac_static ini_J10 (by decide) (Nat.le_of_ble_eq_true rfl) dX3_copyFrom_104 ?_
  exact nf_to rfl (by simp [cs_cp9, cs_cpq, nf_A_sA, hne2]) (nf_vret (pc := 107) dX3_copyFrom_107)
theorem sp_X3_copyFrom {L : nf_L} {S : nf_S} {n1 n2 : Nat} (hn1 : n1 < 5) (hn2 : n2 < 5) (hne : n1 ≠ n2) : nf_Sp L 2 yX3_copyFrom cX3_copyFrom 3 none [.ref (L.2.2 (1, n1, 0, 0)), .ref (L.2.2 (1, n2, 0, 0))] S none (nf_cpN S n1 n2) :=
  (sp_cp hn1 hn2 hne).out (cs_cp_eqv S n1 n2 hne)
def cs_fail (S : nf_S) (j : Nat) : nf_S := nf_sO S 0 (upd (nf_O S 0) j (nf_O S 0 j + 1))
def cf_rot (v : Nat → Nat) : Nat → Nat := va_up (va_up (va_up (va_up v 0 (v 1)) 1 (v 2)) 2 (v 3)) 3 (v 0)
def cs_save (S : nf_S) (c : Nat) : nf_S := if c < 4 then nf_cpN (nf_sJ S 0 (nI (c + 1))) (nf_v S c) 0 else nf_cpN (nf_sv S (cf_rot (nf_v S))) (nf_v S 0) 0
/-- the saved nets lie apart from the live one, and the count is c -/
def cs_sv (S : nf_S) (c : Nat) : Prop := c ≤ 4 ∧ nf_J S 0 = nI c ∧ ∀ k, k < 4 → 0 < nf_v S k ∧ nf_v S k < 5
set_option maxRecDepth 100000 in
set_option maxHeartbeats 4000000 in
theorem sp_X5_fail {L : nf_L} {S : nf_S} {x : Int32} {j : Nat} (e : cf_slot x = nI j) (hj : j < 4) : nf_Sp L 1 yX5_fail cX5_fail 3 (some .int) [.ref (L.2.2 (0, 0, 0, 0)), .int x] S (some (.int x)) (cs_fail S j) := by
  refine nf_start (own := RX5) (ls0 := [some (.ref (L.2.2 (0, 0, 0, 0))), some (.int x), none]) (by decide) (Nat.le_of_ble_eq_true rfl) rfl rfl ?_
  refine nf_iln (pc := 0) dX5_fail_0 rfl ?_
  refine nf_cSi1 (pc := 1) sp_X5_errorSlot mk_X5_145 st_X5_errorSlot nm_X5_errorSlot ⟨by decide, by decide⟩ (Nat.le_of_ble_eq_true rfl) dX5_fail_1 ?_
  refine nf_topI (y := nI j) e ?_
  refine nf_is2 (pc := 4) dX5_fail_4 rfl (by decide) ?_
  refine nf_iln (pc := 5) dX5_fail_5 rfl ?_
  refine nf_iconst (pc := 6) (v := 4) dX5_fail_6 (by decide) ?_
  refine nf_cSi2 (pc := 7) sp_X5_isBelow mk_X5_35 st_X5_isBelow nm_X5_isBelow ⟨by decide, by decide⟩ (Nat.le_of_ble_eq_true rfl) dX5_fail_7 ?_
  refine nf_if_eqB (pc := 10) 23 dX5_fail_10 (by decide) (fun c_10 => ?_) (fun c_10 => ?_)
  · exact absurd c_10 (by rw [show (4 : Int32) = nI 4 from rfl, cf_below_I (by omega) (by omega)]; simp [hj])
  · refine nf_aln (pc := 13) dX5_fail_13 rfl ?_
    refine gf_X5_errors (pc := 14) lk_X5_31 dX5_fail_14 ?_
    refine nf_iln (pc := 17) dX5_fail_17 rfl ?_
    refine nf_dup2 (pc := 18) dX5_fail_18 rfl rfl ?_
    refine nf_ialdOI (pc := 19) (k := j) (nf_okO (by decide)) hj dX5_fail_19 ?_
    refine nf_iconst (pc := 20) (v := 1) dX5_fail_20 (by decide) ?_
    refine nf_iadd (pc := 21) dX5_fail_21 ?_
    refine nf_iastOI (pc := 22) (k := j) (nf_okO (by decide)) hj dX5_fail_22 ?_
    refine nf_iln (pc := 23) dX5_fail_23 rfl ?_
    exact nf_iret (pc := 24) dX5_fail_24
set_option maxRecDepth 100000 in
set_option maxHeartbeats 4000000 in
theorem sp_X5_save {L : nf_L} {S : nf_S} {c : Nat} (hs : cs_sv S c) : nf_Sp L 3 yX5_save cX5_save 3 none [.ref (L.2.2 (0, 0, 0, 0))] S none (cs_save S c) := by
  have hc4 := hs.1
  refine nf_start (own := RX5) (ls0 := [some (.ref (L.2.2 (0, 0, 0, 0))), none, none]) (by decide) (Nat.le_of_ble_eq_true rfl) rfl rfl ?_
  refine nf_aln (pc := 0) dX5_save_0 rfl ?_
  refine gf_X5_savedCount (pc := 1) lk_X5_27 dX5_save_1 ?_
  refine nf_topI (y := nI (c)) hs.2.1 ?_
  refine nf_iconst (pc := 4) (v := 4) dX5_save_4 (by decide) ?_
  refine nf_ic_ge (pc := 5) 21 dX5_save_5 (by decide) (fun c_5 => ?_) (fun c_5 => ?_)
  · obtain rfl : c = 4 := by
      rcases Nat.lt_or_ge c 4 with h | h
      · exact absurd c_5 (nI_ge (b := 4) h (by decide))
      · omega
    refine nf_aln (pc := 21) dX5_save_21 rfl ?_
    refine gf_X5_saved (pc := 22) lk_X5_23 dX5_save_22 ?_
    refine nf_iconst (pc := 25) (v := 0) dX5_save_25 (by decide) ?_
    refine nf_saldI (pc := 26) (k := 0) (by decide) dX5_save_26 ?_
    refine nf_as1 (pc := 27) dX5_save_27 rfl (by decide) ?_
    refine nf_iconst (pc := 28) (v := 1) dX5_save_28 (by decide) ?_
    refine nf_is2 (pc := 29) dX5_save_29 rfl (by decide) ?_
    refine nf_iln (pc := 30) dX5_save_30 rfl ?_
    refine nf_iconst (pc := 31) (v := 4) dX5_save_31 (by decide) ?_
    refine nf_ic_ge (pc := 32) 55 dX5_save_32 (by decide) (fun h => absurd h (by decide)) (fun _ => ?_)
    refine nf_aln (pc := 35) dX5_save_35 rfl ?_
    refine gf_X5_saved (pc := 36) lk_X5_23 dX5_save_36 ?_
    refine nf_iln (pc := 39) dX5_save_39 rfl ?_
    refine nf_iconst (pc := 40) (v := 1) dX5_save_40 (by decide) ?_
    refine nf_isub (pc := 41) dX5_save_41 ?_
    refine nf_topI (y := 0) (by decide) ?_
    refine nf_aln (pc := 42) dX5_save_42 rfl ?_
    refine gf_X5_saved (pc := 43) lk_X5_23 dX5_save_43 ?_
    refine nf_iln (pc := 46) dX5_save_46 rfl ?_
    refine nf_saldI (pc := 47) (k := 1) (by decide) dX5_save_47 ?_
    refine nf_topR (p2 := (1, (nf_v S 1), 0, 0)) (by simp [nf_v_sv, va_up]) ?_
    refine nf_sastI (pc := 48) (k := 0) (hs.2.2 1 (by decide)).2 (by decide) dX5_save_48 ?_
    refine nf_iinc2 (pc := 49) (v := 2) dX5_save_49 (by decide) rfl (by decide) ?_
    refine nf_goto (pc := 52) 30 dX5_save_52 (by decide) ?_
    refine nf_iln (pc := 30) dX5_save_30 rfl ?_
    refine nf_iconst (pc := 31) (v := 4) dX5_save_31 (by decide) ?_
    refine nf_ic_ge (pc := 32) 55 dX5_save_32 (by decide) (fun h => absurd h (by decide)) (fun _ => ?_)
    refine nf_aln (pc := 35) dX5_save_35 rfl ?_
    refine gf_X5_saved (pc := 36) lk_X5_23 dX5_save_36 ?_
    refine nf_iln (pc := 39) dX5_save_39 rfl ?_
    refine nf_iconst (pc := 40) (v := 1) dX5_save_40 (by decide) ?_
    refine nf_isub (pc := 41) dX5_save_41 ?_
    refine nf_topI (y := 1) (by decide) ?_
    refine nf_aln (pc := 42) dX5_save_42 rfl ?_
    refine gf_X5_saved (pc := 43) lk_X5_23 dX5_save_43 ?_
    refine nf_iln (pc := 46) dX5_save_46 rfl ?_
    refine nf_saldI (pc := 47) (k := 2) (by decide) dX5_save_47 ?_
    refine nf_topR (p2 := (1, (nf_v S 2), 0, 0)) (by simp [nf_v_sv, va_up]) ?_
    refine nf_sastI (pc := 48) (k := 1) (hs.2.2 2 (by decide)).2 (by decide) dX5_save_48 ?_
    refine nf_iinc2 (pc := 49) (v := 3) dX5_save_49 (by decide) rfl (by decide) ?_
    refine nf_goto (pc := 52) 30 dX5_save_52 (by decide) ?_
    refine nf_iln (pc := 30) dX5_save_30 rfl ?_
    refine nf_iconst (pc := 31) (v := 4) dX5_save_31 (by decide) ?_
    refine nf_ic_ge (pc := 32) 55 dX5_save_32 (by decide) (fun h => absurd h (by decide)) (fun _ => ?_)
    refine nf_aln (pc := 35) dX5_save_35 rfl ?_
    refine gf_X5_saved (pc := 36) lk_X5_23 dX5_save_36 ?_
    refine nf_iln (pc := 39) dX5_save_39 rfl ?_
    refine nf_iconst (pc := 40) (v := 1) dX5_save_40 (by decide) ?_
    refine nf_isub (pc := 41) dX5_save_41 ?_
    refine nf_topI (y := 2) (by decide) ?_
    refine nf_aln (pc := 42) dX5_save_42 rfl ?_
    refine gf_X5_saved (pc := 43) lk_X5_23 dX5_save_43 ?_
    refine nf_iln (pc := 46) dX5_save_46 rfl ?_
    refine nf_saldI (pc := 47) (k := 3) (by decide) dX5_save_47 ?_
    refine nf_topR (p2 := (1, (nf_v S 3), 0, 0)) (by simp [nf_v_sv, va_up]) ?_
    refine nf_sastI (pc := 48) (k := 2) (hs.2.2 3 (by decide)).2 (by decide) dX5_save_48 ?_
    refine nf_iinc2 (pc := 49) (v := 4) dX5_save_49 (by decide) rfl (by decide) ?_
    refine nf_goto (pc := 52) 30 dX5_save_52 (by decide) ?_
    refine nf_iln (pc := 30) dX5_save_30 rfl ?_
    refine nf_iconst (pc := 31) (v := 4) dX5_save_31 (by decide) ?_
    refine nf_ic_ge (pc := 32) 55 dX5_save_32 (by decide) (fun _ => ?_) (fun h => absurd h (by decide))
    refine nf_aln (pc := 55) dX5_save_55 rfl ?_
    refine gf_X5_saved (pc := 56) lk_X5_23 dX5_save_56 ?_
    refine nf_iconst (pc := 59) (v := 3) dX5_save_59 (by decide) ?_
    refine nf_aln (pc := 60) dX5_save_60 rfl ?_
    refine nf_sastI (pc := 61) (k := 3) (hs.2.2 0 (by decide)).2 (by decide) dX5_save_61 ?_
    refine nf_from (S' := nf_sv S (cf_rot (nf_v S))) rfl ?_
    refine nf_aln (pc := 62) dX5_save_62 rfl ?_
    refine gf_X5_saved (pc := 63) lk_X5_23 dX5_save_63 ?_
    refine nf_aln (pc := 66) dX5_save_66 rfl ?_
    refine gf_X5_savedCount (pc := 67) lk_X5_27 dX5_save_67 ?_
    refine nf_topI (y := nI (3 + 1)) hs.2.1 ?_
    refine nf_iconst (pc := 70) (v := 1) dX5_save_70 (by decide) ?_
    refine nf_isub (pc := 71) dX5_save_71 ?_
    refine nf_topI (y := nI (3)) (nf_succ_sub _) ?_
    refine nf_saldI (pc := 72) (k := 3) (by omega) dX5_save_72 ?_
    refine nf_topR (p2 := (1, (nf_v S 0), 0, 0)) (by simp [nf_v_sv, cf_rot, va_up]) ?_
    refine nf_aln (pc := 73) dX5_save_73 rfl ?_
    refine gf_X5_network (pc := 74) lk_X5_12 dX5_save_74 ?_
    refine nf_cVv1 (pc := 77) (sp_X3_copyFrom (hs.2.2 0 (by decide)).2 (by decide) (Nat.ne_of_gt (hs.2.2 0 (by decide)).1)) ⟨(hs.2.2 0 (by decide)).2, rfl⟩ rfl rfl mk_X5_141 im_X3_copyFrom se_X3_copyFrom nm_X3_copyFrom ⟨by decide, by decide⟩ (Nat.le_of_ble_eq_true rfl) dX5_save_77 ?_
    exact nf_to rfl (by rw [cs_save, if_neg (by decide)]) (nf_vret (pc := 80) dX5_save_80)
  · have h4 : c < 4 := by
      rcases Nat.lt_or_ge c 4 with h | h
      · exact h
      · exact absurd (nI_le (a := 4) h (by omega)) c_5
    refine nf_aln (pc := 8) dX5_save_8 rfl ?_
    refine nf_dup (pc := 9) dX5_save_9 rfl ?_
    refine gf_X5_savedCount (pc := 10) lk_X5_27 dX5_save_10 ?_
    refine nf_topI (y := nI (c)) hs.2.1 ?_
    refine nf_iconst (pc := 13) (v := 1) dX5_save_13 (by decide) ?_
    refine nf_iaddI (pc := 14) (a := c) (b := 1) dX5_save_14 ?_
    refine pf_X5_savedCount (pc := 15) lk_X5_27 dX5_save_15 ?_
    refine nf_goto (pc := 18) 62 dX5_save_18 (by decide) ?_
    refine nf_aln (pc := 62) dX5_save_62 rfl ?_
    refine gf_X5_saved (pc := 63) lk_X5_23 dX5_save_63 ?_
    refine nf_aln (pc := 66) dX5_save_66 rfl ?_
    refine gf_X5_savedCount (pc := 67) lk_X5_27 dX5_save_67 ?_
    refine nf_topI (y := nI (c + 1)) (by simp [nf_J_sJ]) ?_
    refine nf_iconst (pc := 70) (v := 1) dX5_save_70 (by decide) ?_
    refine nf_isub (pc := 71) dX5_save_71 ?_
    refine nf_topI (y := nI (c)) (nf_succ_sub _) ?_
    refine nf_saldI (pc := 72) (k := c) (by omega) dX5_save_72 ?_
    refine nf_aln (pc := 73) dX5_save_73 rfl ?_
    refine gf_X5_network (pc := 74) lk_X5_12 dX5_save_74 ?_
    refine nf_cVv1 (pc := 77) (sp_X3_copyFrom (hs.2.2 c h4).2 (by decide) (Nat.ne_of_gt (hs.2.2 c h4).1)) ⟨(hs.2.2 c h4).2, rfl⟩ rfl rfl mk_X5_141 im_X3_copyFrom se_X3_copyFrom nm_X3_copyFrom ⟨by decide, by decide⟩ (Nat.le_of_ble_eq_true rfl) dX5_save_77 ?_
    exact nf_to rfl (by rw [cs_save, if_pos h4]; rfl) (nf_vret (pc := 80) dX5_save_80)
theorem cs_save_I (S : nf_S) (c : Nat) (hs : cs_sv S c) (x h : Nat) : nf_I (cs_save S c) 0 x h = nf_I S 0 x h := by
  unfold cs_save
  split
  · rename_i h4
    rw [nf_I_cpN, if_neg (Nat.ne_of_lt (hs.2.2 c h4).1)]; rfl
  · rw [nf_I_cpN, if_neg (Nat.ne_of_lt (hs.2.2 0 (by decide)).1)]; rfl
theorem cs_save_A (S : nf_S) (c : Nat) (hs : cs_sv S c) (x h : Nat) : nf_A (cs_save S c) 0 x h = nf_A S 0 x h := by
  unfold cs_save
  split
  · rename_i h4
    rw [nf_A_cpN, if_neg (Nat.ne_of_lt (hs.2.2 c h4).1)]; rfl
  · rw [nf_A_cpN, if_neg (Nat.ne_of_lt (hs.2.2 0 (by decide)).1)]; rfl
theorem cs_save_O (S : nf_S) (c : Nat) (x : Nat) : nf_O (cs_save S c) x = nf_O S x := by unfold cs_save; split <;> rfl
theorem cs_save_J (S : nf_S) (c : Nat) (x : Nat) : nf_J (cs_save S c) (x + 1) = nf_J S (x + 1) := by unfold cs_save; split <;> rfl
theorem cs_ok.save {S : nf_S} {c nl na : Nat} (h : cs_ok S nl na) (hs : cs_sv S c) : cs_ok (cs_save S c) nl na := by
  obtain ⟨h1, h2, h3, h4, h5⟩ := h
  refine ⟨h1, h2, by rw [cs_save_I S c hs]; exact h3, by rw [cs_save_I S c hs]; exact h4, fun a ha => ?_⟩
  rw [cs_save_A S c hs, cs_save_A S c hs, cs_save_A S c hs]
  exact h5 a ha
theorem cs_save_sv (S : nf_S) (c : Nat) (hs : cs_sv S c) : cs_sv (cs_save S c) (if c < 4 then c + 1 else 4) := by
  unfold cs_save
  split
  · rename_i h4
    exact ⟨by omega, rfl, hs.2.2⟩
  · rename_i h4
    have hc : c = 4 := by have := hs.1; omega
    refine ⟨Nat.le_refl 4, by rw [nf_J_cpN, nf_J_sv, hs.2.1, hc], fun k hk => ?_⟩
    rw [nf_v_cpN, nf_v_sv]
    simp only [cf_rot, va_up]
    repeat' split
    all_goals first | exact hs.2.2 _ (by decide) | exact hs.2.2 k hk
end
section
/-! the class's public methods -/
theorem cf_nonneg {v : Int32} {n : Nat} (hn : n < 2 ^ 31) (h : cf_below v (nI n) = true) : 0 ≤ v.toInt ∧ v.toInt < (n : Int) := by
  simp only [cf_below, Bool.and_eq_true, Bool.not_eq_true', decide_eq_false_iff_not] at h
  obtain ⟨h1, h2⟩ := h
  have h3 : (0 : Int) ≤ v.toInt := by
    have := Int32.not_lt.mp h1
    simpa using Int32.le_iff_toInt_le.mp this
  have h4 : v.toInt < (nI n).toInt := Int32.lt_iff_toInt_lt.mp (Int32.not_le.mp h2)
  rw [nI_toInt hn] at h4
  exact ⟨h3, h4⟩
theorem cf_below_lt {v : Int32} {n : Nat} (hn : n < 2 ^ 31) (h : cf_below v (nI n) = true) : cf_num v < n := by
  obtain ⟨h1, h2⟩ := cf_nonneg hn h
  show v.toInt.toNat < n
  omega
theorem cf_below_eq {v : Int32} {n : Nat} (hn : n < 2 ^ 31) (h : cf_below v (nI n) = true) : v = nI (cf_num v) := by
  obtain ⟨h1, h2⟩ := cf_nonneg hn h
  apply Int32.toInt_inj.mp
  have h3 : v.toInt.toNat < 2 ^ 31 := by omega
  rw [show cf_num v = v.toInt.toNat from rfl, nI_toInt h3]
  omega
theorem cf_below_in {v : Int32} {n : Nat} (hn : n < 2 ^ 31) (h : cf_below v (nI n) = true) : vp_in v n := by
  have h1 := cf_below_eq hn h
  have h2 := cf_below_lt hn h
  rw [h1]
  exact nf_inI h2 hn
theorem cf_ltI {a b : Nat} (h : nI a < nI b) (ha : a < 2 ^ 31) : a < b := by
  rcases Nat.lt_or_ge a b with h1 | h1
  · exact h1
  · exact absurd h (nI_nlt h1 ha)
def cs_addl (S : nf_S) (nl : Nat) (a b k : Int32) : nf_S := nf_sI (nf_sA (nf_sA (nf_sA S 0 2 0 (upd (nf_A S 0 2 0) nl a)) 0 3 0 (upd (nf_A S 0 3 0) nl b)) 0 4 0 (upd (nf_A S 0 4 0) nl k)) 0 2 0 (nI (nl + 1))
def cv_addLink (a b k : Int32) : Bool := cf_below a 6 && cf_below b 6 && !(decide (a = b)) && cf_below k 2
def cq_addLink (nl c : Nat) (S : nf_S) (a b k : Int32) : nf_S × Int32 :=
  if cv_addLink a b k = true then (if cf_lnk S a b = -1 then (if nI nl < 12 then (cs_addl (cs_save S c) nl a b k, nI nl) else (cs_fail S 2, -4)) else (cs_fail S 1, -3)) else (cs_fail S 0, -2)
def cq_removeLink (nl c : Nat) (S : nf_S) (x : Int32) : nf_S × Int32 := if cf_below x (nI nl) = true then (cs_del (cs_save S c) 0 (nl - 1) (cf_num x) (nl - 1), nI (nl - 1)) else (cs_fail S 0, -2)
def cq_setKind (nl c : Nat) (S : nf_S) (x k : Int32) : nf_S × Int32 := if (cf_below x (nI nl) && cf_below k 2) = true then (nf_sA (cs_save S c) 0 4 0 (upd (nf_A (cs_save S c) 0 4 0) (cf_num x) k), nf_A (cs_save S c) 0 4 0 (cf_num x)) else (cs_fail S 0, -2)
def cq_setGroups (c : Nat) (S : nf_S) (x g : Int32) : nf_S × Int32 := if (cf_below x 6 && !decide (g < 0) && decide (g ≤ 15)) = true then (nf_sI (cs_save S c) 0 4 (cf_num x) g, nf_I (cs_save S c) 0 4 (cf_num x)) else (cs_fail S 0, -2)
def cq_setExpiry (c : Nat) (S : nf_S) (g x : Int32) : nf_S × Int32 := if (cf_below g 4 && cf_limit x) = true then (nf_sA (cs_save S c) 0 0 0 (upd (nf_A (cs_save S c) 0 0 0) (cf_num g) x), nf_A (cs_save S c) 0 0 0 (cf_num g)) else (cs_fail S 0, -2)
def cq_setHistoryLimit (c : Nat) (S : nf_S) (x : Int32) : nf_S × Int32 := if cf_limit x = true then (nf_sI (cs_save S c) 0 1 0 x, nf_I (cs_save S c) 0 1 0) else (cs_fail S 0, -2)
def cs_app (S : nf_S) (na : Nat) (g a e t : Int32) : nf_S := nf_sI (nf_sA (nf_sA (nf_sA (nf_sA (nf_sA S 0 5 0 (upd (nf_A S 0 5 0) na g)) 0 6 0 (upd (nf_A S 0 6 0) na a)) 0 7 0 (upd (nf_A S 0 7 0) na (nf_I S 0 0 0))) 0 8 0 (upd (nf_A S 0 8 0) na e)) 0 9 0 (upd (nf_A S 0 9 0) na t)) 0 3 0 (nI (na + 1))
def cq_publish (na c : Nat) (S : nf_S) (h : Nat) (g a e t : Int32) : nf_S × Int32 := if nI na < 30 then ((cs_arr (cs_app (cs_save S c) na g a e t) na h 0).1, nI na) else (cs_fail S 2, -4)
def cq_post (na c : Nat) (S : nf_S) (x g a : Int32) : nf_S × Int32 := if (cf_below x 6 && cf_below g 4 && cf_below a 10) = true then cq_publish na c S (cf_num x) g a 0 (-1) else (cs_fail S 0, -2)
def cq_postAction (na c : Nat) (S : nf_S) (x a e t : Int32) : nf_S × Int32 := if (cf_below x 6 && cf_below a 10 && !decide (e < 1) && !decide (2 < e) && cf_below t (nI na)) = true then cq_publish na c S (cf_num x) (nf_A S 0 5 0 (cf_num t)) a e t else (cs_fail S 0, -2)
def cs_stl (na : Nat) : Nat → nf_S → Nat → nf_S × Nat
  | 0, S, k => (S, k)
  | m + 1, S, k => if cf_sum (nf_A S 0 10 0) 0 180 0 ≤ 0 then (S, k) else cs_stl na m (cs_rnd S na).1 (k + 1)
def cq_isStored (na : Nat) (S : nf_S) (x a : Int32) : nf_S × Int32 := if (cf_below x 6 && cf_below a (nI na)) = true then (S, nf_b (cf_has (nf_I S 0 5 (cf_num x)) a)) else (cs_fail S 0, -2)
def cq_knownSince (na : Nat) (S : nf_S) (x a : Int32) : nf_S × Int32 := if (cf_below x 6 && cf_below a (nI na)) = true then (S, nf_A S 0 12 (cf_num x) (cf_num a)) else (cs_fail S 0, -2)
def cq_pending (S : nf_S) (x : Int32) : nf_S × Int32 := if cf_below x 6 = true then (S, cf_sum (nf_A S 0 13 (cf_num x)) 0 30 0) else (cs_fail S 0, -2)
def cf_hold (S : nf_S) (a : Int32) (k : Nat) : Nat → Int32 → Int32
  | 0, acc => acc
  | m + 1, acc => cf_hold S a (k + 1) m (if cf_has (nf_I S 0 5 k) a = true then acc ||| cf_bit (nI k) else acc)
def cq_holders (na : Nat) (S : nf_S) (a : Int32) : nf_S × Int32 := if cf_below a (nI na) = true then (S, cf_hold S a 0 6 0) else (cs_fail S 0, -2)
def cf_sig (S : nf_S) (h : Nat) (g : Int32) (k : Nat) : Nat → Int32 → Int32
  | 0, acc => acc
  | m + 1, acc => cf_sig S h g (k + 1) m (if nf_A S 0 5 0 k = g then (if cf_has (nf_I S 0 5 h) (nI k) = true then acc + 1 else acc) else acc)
def cq_inGroup (na : Nat) (S : nf_S) (x g : Int32) : nf_S × Int32 := if (cf_below x 6 && cf_below g 4) = true then (S, cf_sig S (cf_num x) g 0 na 0) else (cs_fail S 0, -2)
def cf_dst (S : nf_S) (b : Int32) : Nat → Nat → Int32 → Int32
  | 0, _, _ => -1
  | m + 1, k, s => if cf_has s b = true then nI k else cf_dst S b m (k + 1) (s ||| cf_nbr S s)
def cq_distance (S : nf_S) (a b : Int32) : nf_S × Int32 := if (cf_below a 6 && cf_below b 6) = true then (S, cf_dst S b 6 0 (cf_bit a)) else (cs_fail S 0, -2)
def cq_total (S : nf_S) (x : Int32) : nf_S × Int32 := if cf_below x 6 = true then (S, nf_A S 0 1 0 (cf_num x)) else (cs_fail S 0, -2)
def cq_undo (c : Nat) (S : nf_S) : nf_S × Int32 := if 1 ≤ nI c then (nf_cpN (nf_sJ S 0 (nI (c - 1))) 0 (nf_v S (c - 1)), nI (c - 1)) else (cs_fail S 3, -5)
def cq_errorCount (S : nf_S) (x : Int32) : nf_S × Int32 := if cf_below (cf_slot x) 4 = true then (S, nf_O S 0 (cf_num (cf_slot x))) else (cs_fail S 0, -2)
theorem cf_slot2 : cf_slot (-2) = nI 0 := by decide
theorem cf_slot3 : cf_slot (-3) = nI 1 := by decide
theorem cf_slot4 : cf_slot (-4) = nI 2 := by decide
theorem cf_slot5 : cf_slot (-5) = nI 3 := by decide
theorem cs_ok_app {S : nf_S} {nl na : Nat} {g a e t : Int32} (h : cs_ok S nl na) (hna : na < 30) (hg : ∃ x, x < 4 ∧ g = nI x) (ht : e = 0 ∨ ∃ x, x < 30 ∧ t = nI x) : cs_ok (cs_app S na g a e t) nl (na + 1) := by
  obtain ⟨h1, h2, h3, h4, h5⟩ := h
  refine ⟨h1, hna, by simp only [cs_app, nf_I_sI, nf_I_sA]; rw [if_neg (by decide)]; exact h3, by simp [cs_app, nf_I_sI], fun x hx => ?_⟩
  simp only [cs_app, nf_A_sI, nf_A_sA, upd]
  by_cases hx2 : x = na
  · subst hx2; simpa [upd] using ⟨ht, hg⟩
  · have h6 := h5 x (by omega)
    simpa [upd, hx2] using h6
set_option maxRecDepth 100000 in
set_option maxHeartbeats 4000000 in
theorem sp_X5_isArticle {L : nf_L} {S : nf_S} {nl na : Nat} {x : Int32} (hk : cs_ok S nl na) : nf_Sp L 1 yX5_isArticle cX5_isArticle 2 (some .boolean) [.ref (L.2.2 (0, 0, 0, 0)), .int x] S (some (.int (nf_b (cf_below x (nI na))))) S := by
  refine nf_start (own := RX5) (ls0 := [some (.ref (L.2.2 (0, 0, 0, 0))), some (.int x)]) (by decide) (Nat.le_of_ble_eq_true rfl) rfl rfl ?_
  refine nf_iln (pc := 0) dX5_isArticle_0 rfl ?_
  refine nf_aln (pc := 1) dX5_isArticle_1 rfl ?_
  refine gf_X5_network (pc := 2) lk_X5_12 dX5_isArticle_2 ?_
  refine gf_X3_articles (by decide) (pc := 5) lk_X5_96 dX5_isArticle_5 ?_
  refine gf_X0_count (by decide) (pc := 8) lk_X5_128 dX5_isArticle_8 ?_
  refine nf_topI (y := nI (na)) hk.2.2.2.1 ?_
  refine nf_cSi2 (pc := 11) sp_X5_isBelow mk_X5_35 st_X5_isBelow nm_X5_isBelow ⟨by decide, by decide⟩ (Nat.le_of_ble_eq_true rfl) dX5_isArticle_11 ?_
  exact nf_zretb (pc := 14) dX5_isArticle_14
set_option maxRecDepth 100000 in
set_option maxHeartbeats 4000000 in
theorem sp_X5_addLink {L : nf_L} {S : nf_S} {nl na c : Nat} {a b k : Int32} (hk : cs_ok S nl na) (hs : cs_sv S c) : nf_Sp L 4 yX5_addLink cX5_addLink 4 (some .int) [.ref (L.2.2 (0, 0, 0, 0)), .int a, .int b, .int k] S (some (.int (cq_addLink nl c S a b k).2)) (cq_addLink nl c S a b k).1 := by
  refine nf_start (own := RX5) (ls0 := [some (.ref (L.2.2 (0, 0, 0, 0))), some (.int a), some (.int b), some (.int k)]) (by decide) (Nat.le_of_ble_eq_true rfl) rfl rfl ?_
  refine nf_iln (pc := 0) dX5_addLink_0 rfl ?_
  refine nf_bipush (pc := 1) (v := 6) dX5_addLink_1 (by decide) ?_
  refine nf_cSi2 (pc := 3) sp_X5_isBelow mk_X5_35 st_X5_isBelow nm_X5_isBelow ⟨by decide, by decide⟩ (Nat.le_of_ble_eq_true rfl) dX5_addLink_3 ?_
  refine nf_if_eqB (pc := 6) 31 dX5_addLink_6 (by decide) (fun c_6 => ?_) (fun c_6 => ?_)
  · refine nf_aln (pc := 31) dX5_addLink_31 rfl ?_
    refine nf_bipush (pc := 32) (v := (-2)) dX5_addLink_32 (by decide) ?_
    refine nf_cVi1 (pc := 34) (sp_X5_fail cf_slot2 (by decide)) rfl rfl rfl mk_X5_39 im_X5_fail se_X5_fail nm_X5_fail ⟨by decide, by decide⟩ (Nat.le_of_ble_eq_true rfl) dX5_addLink_34 ?_
    exact nf_to (by simp [cq_addLink, cv_addLink, c_6] <;> rfl) (by simp [cq_addLink, cv_addLink, c_6] <;> rfl) (nf_iret (pc := 37) dX5_addLink_37)
  · refine nf_iln (pc := 9) dX5_addLink_9 rfl ?_
    refine nf_bipush (pc := 10) (v := 6) dX5_addLink_10 (by decide) ?_
    refine nf_cSi2 (pc := 12) sp_X5_isBelow mk_X5_35 st_X5_isBelow nm_X5_isBelow ⟨by decide, by decide⟩ (Nat.le_of_ble_eq_true rfl) dX5_addLink_12 ?_
    refine nf_if_eqB (pc := 15) 31 dX5_addLink_15 (by decide) (fun c_15 => ?_) (fun c_15 => ?_)
    · refine nf_aln (pc := 31) dX5_addLink_31 rfl ?_
      refine nf_bipush (pc := 32) (v := (-2)) dX5_addLink_32 (by decide) ?_
      refine nf_cVi1 (pc := 34) (sp_X5_fail cf_slot2 (by decide)) rfl rfl rfl mk_X5_39 im_X5_fail se_X5_fail nm_X5_fail ⟨by decide, by decide⟩ (Nat.le_of_ble_eq_true rfl) dX5_addLink_34 ?_
      exact nf_to (by simp [cq_addLink, cv_addLink, c_6, c_15] <;> rfl) (by simp [cq_addLink, cv_addLink, c_6, c_15] <;> rfl) (nf_iret (pc := 37) dX5_addLink_37)
    · refine nf_iln (pc := 18) dX5_addLink_18 rfl ?_
      refine nf_iln (pc := 19) dX5_addLink_19 rfl ?_
      refine nf_ic_eq (pc := 20) 31 dX5_addLink_20 (by decide) (fun c_20 => ?_) (fun c_20 => ?_)
      · refine nf_aln (pc := 31) dX5_addLink_31 rfl ?_
        refine nf_bipush (pc := 32) (v := (-2)) dX5_addLink_32 (by decide) ?_
        refine nf_cVi1 (pc := 34) (sp_X5_fail cf_slot2 (by decide)) rfl rfl rfl mk_X5_39 im_X5_fail se_X5_fail nm_X5_fail ⟨by decide, by decide⟩ (Nat.le_of_ble_eq_true rfl) dX5_addLink_34 ?_
        exact nf_to (by simp [cq_addLink, cv_addLink, c_6, c_15, c_20] <;> rfl) (by simp [cq_addLink, cv_addLink, c_6, c_15, c_20] <;> rfl) (nf_iret (pc := 37) dX5_addLink_37)
      · refine nf_iln (pc := 23) dX5_addLink_23 rfl ?_
        refine nf_iconst (pc := 24) (v := 2) dX5_addLink_24 (by decide) ?_
        refine nf_cSi2 (pc := 25) sp_X5_isBelow mk_X5_35 st_X5_isBelow nm_X5_isBelow ⟨by decide, by decide⟩ (Nat.le_of_ble_eq_true rfl) dX5_addLink_25 ?_
        refine nf_if_neB (pc := 28) 38 dX5_addLink_28 (by decide) (fun c_28 => ?_) (fun c_28 => ?_)
        · refine nf_aln (pc := 38) dX5_addLink_38 rfl ?_
          refine gf_X5_network (pc := 39) lk_X5_12 dX5_addLink_39 ?_
          refine gf_X3_links (by decide) (pc := 42) lk_X5_43 dX5_addLink_42 ?_
          refine nf_iln (pc := 45) dX5_addLink_45 rfl ?_
          refine nf_iln (pc := 46) dX5_addLink_46 rfl ?_
          refine nf_cVi2 (pc := 47) (sp_lnk hk) ⟨(by decide), rfl⟩ rfl rfl mk_X5_47 im_X2_between se_X2_between nm_X2_between ⟨by decide, by decide⟩ (Nat.le_of_ble_eq_true rfl) dX5_addLink_47 ?_
          refine nf_iconst (pc := 50) (v := (-1)) dX5_addLink_50 (by decide) ?_
          refine nf_ic_eq (pc := 51) 61 dX5_addLink_51 (by decide) (fun c_51 => ?_) (fun c_51 => ?_)
          · refine nf_aln (pc := 61) dX5_addLink_61 rfl ?_
            refine gf_X5_network (pc := 62) lk_X5_12 dX5_addLink_62 ?_
            refine gf_X3_links (by decide) (pc := 65) lk_X5_43 dX5_addLink_65 ?_
            refine gf_X2_count (by decide) (pc := 68) lk_X5_53 dX5_addLink_68 ?_
            refine nf_topI (y := nI (nl)) hk.2.2.1 ?_
            refine nf_bipush (pc := 71) (v := 12) dX5_addLink_71 (by decide) ?_
            refine nf_ic_lt (pc := 73) 83 dX5_addLink_73 (by decide) (fun c_73 => ?_) (fun c_73 => ?_)
            · refine nf_aln (pc := 83) dX5_addLink_83 rfl ?_
              refine nf_cVv0 (pc := 84) (sp_X5_save hs) rfl rfl rfl mk_X5_56 im_X5_save se_X5_save nm_X5_save ⟨by decide, by decide⟩ (Nat.le_of_ble_eq_true rfl) dX5_addLink_84 ?_
              refine nf_aln (pc := 87) dX5_addLink_87 rfl ?_
              refine gf_X5_network (pc := 88) lk_X5_12 dX5_addLink_88 ?_
              refine gf_X3_links (by decide) (pc := 91) lk_X5_43 dX5_addLink_91 ?_
              refine nf_iln (pc := 94) dX5_addLink_94 rfl ?_
              refine nf_iln (pc := 95) dX5_addLink_95 rfl ?_
              refine nf_iln (pc := 96) dX5_addLink_96 rfl ?_
              refine nf_cVi3 (pc := 97) (sp_X2_append (by decide) (cs_save_I S c hs 2 0 ▸ hk.2.2.1) (cf_ltI (b := 12) c_73 (by have := hk.1; omega))) ⟨(by decide), rfl⟩ rfl rfl mk_X5_59 im_X2_append se_X2_append nm_X2_append ⟨by decide, by decide⟩ (Nat.le_of_ble_eq_true rfl) dX5_addLink_97 ?_
              exact nf_to (by simp [cq_addLink, cv_addLink, c_6, c_15, c_20, c_28, c_51, c_73] <;> rfl) (by simp [cq_addLink, cv_addLink, c_6, c_15, c_20, c_28, c_51, c_73] <;> rfl) (nf_iret (pc := 100) dX5_addLink_100)
            · refine nf_aln (pc := 76) dX5_addLink_76 rfl ?_
              refine nf_bipush (pc := 77) (v := (-4)) dX5_addLink_77 (by decide) ?_
              refine nf_cVi1 (pc := 79) (sp_X5_fail cf_slot4 (by decide)) rfl rfl rfl mk_X5_39 im_X5_fail se_X5_fail nm_X5_fail ⟨by decide, by decide⟩ (Nat.le_of_ble_eq_true rfl) dX5_addLink_79 ?_
              exact nf_to (by simp [cq_addLink, cv_addLink, c_6, c_15, c_20, c_28, c_51, c_73] <;> rfl) (by simp [cq_addLink, cv_addLink, c_6, c_15, c_20, c_28, c_51, c_73] <;> rfl) (nf_iret (pc := 82) dX5_addLink_82)
          · refine nf_aln (pc := 54) dX5_addLink_54 rfl ?_
            refine nf_bipush (pc := 55) (v := (-3)) dX5_addLink_55 (by decide) ?_
            refine nf_cVi1 (pc := 57) (sp_X5_fail cf_slot3 (by decide)) rfl rfl rfl mk_X5_39 im_X5_fail se_X5_fail nm_X5_fail ⟨by decide, by decide⟩ (Nat.le_of_ble_eq_true rfl) dX5_addLink_57 ?_
            exact nf_to (by simp [cq_addLink, cv_addLink, c_6, c_15, c_20, c_28, c_51] <;> rfl) (by simp [cq_addLink, cv_addLink, c_6, c_15, c_20, c_28, c_51] <;> rfl) (nf_iret (pc := 60) dX5_addLink_60)
        · refine nf_aln (pc := 31) dX5_addLink_31 rfl ?_
          refine nf_bipush (pc := 32) (v := (-2)) dX5_addLink_32 (by decide) ?_
          refine nf_cVi1 (pc := 34) (sp_X5_fail cf_slot2 (by decide)) rfl rfl rfl mk_X5_39 im_X5_fail se_X5_fail nm_X5_fail ⟨by decide, by decide⟩ (Nat.le_of_ble_eq_true rfl) dX5_addLink_34 ?_
          exact nf_to (by simp [cq_addLink, cv_addLink, c_6, c_15, c_20, c_28] <;> rfl) (by simp [cq_addLink, cv_addLink, c_6, c_15, c_20, c_28] <;> rfl) (nf_iret (pc := 37) dX5_addLink_37)
set_option maxRecDepth 100000 in
set_option maxHeartbeats 4000000 in
theorem sp_X5_removeLink {L : nf_L} {S : nf_S} {nl na c : Nat} {x : Int32} (hk : cs_ok S nl na) (hs : cs_sv S c) : nf_Sp L 4 yX5_removeLink cX5_removeLink 2 (some .int) [.ref (L.2.2 (0, 0, 0, 0)), .int x] S (some (.int (cq_removeLink nl c S x).2)) (cq_removeLink nl c S x).1 := by
  have hk1 := hk.save hs
  refine nf_start (own := RX5) (ls0 := [some (.ref (L.2.2 (0, 0, 0, 0))), some (.int x)]) (by decide) (Nat.le_of_ble_eq_true rfl) rfl rfl ?_
  refine nf_iln (pc := 0) dX5_removeLink_0 rfl ?_
  refine nf_aln (pc := 1) dX5_removeLink_1 rfl ?_
  refine gf_X5_network (pc := 2) lk_X5_12 dX5_removeLink_2 ?_
  refine gf_X3_links (by decide) (pc := 5) lk_X5_43 dX5_removeLink_5 ?_
  refine gf_X2_count (by decide) (pc := 8) lk_X5_53 dX5_removeLink_8 ?_
  refine nf_topI (y := nI (nl)) hk.2.2.1 ?_
  refine nf_cSi2 (pc := 11) sp_X5_isBelow mk_X5_35 st_X5_isBelow nm_X5_isBelow ⟨by decide, by decide⟩ (Nat.le_of_ble_eq_true rfl) dX5_removeLink_11 ?_
  refine nf_if_neB (pc := 14) 24 dX5_removeLink_14 (by decide) (fun c_14 => ?_) (fun c_14 => ?_)
  · have hx := cf_below_lt (by have := hk.1; omega) c_14
    have hx2 := cf_below_eq (by have := hk.1; omega) c_14
    refine nf_aln (pc := 24) dX5_removeLink_24 rfl ?_
    refine nf_cVv0 (pc := 25) (sp_X5_save hs) rfl rfl rfl mk_X5_56 im_X5_save se_X5_save nm_X5_save ⟨by decide, by decide⟩ (Nat.le_of_ble_eq_true rfl) dX5_removeLink_25 ?_
    refine nf_aln (pc := 28) dX5_removeLink_28 rfl ?_
    refine gf_X5_network (pc := 29) lk_X5_12 dX5_removeLink_29 ?_
    refine gf_X3_links (by decide) (pc := 32) lk_X5_43 dX5_removeLink_32 ?_
    refine nf_iln (pc := 35) dX5_removeLink_35 rfl ?_
    refine nf_topI (y := nI (cf_num x)) hx2 ?_
    refine nf_cVv1 (pc := 36) (sp_X2_delete (cnt := nl - 1) (by decide) (by rw [cs_save_I S c hs, hk.2.2.1]; congr 1; omega) (by have := hk.1; omega) (by omega)) ⟨(by decide), rfl⟩ rfl rfl mk_X5_63 im_X2_delete se_X2_delete nm_X2_delete ⟨by decide, by decide⟩ (Nat.le_of_ble_eq_true rfl) dX5_removeLink_36 ?_
    refine nf_aln (pc := 39) dX5_removeLink_39 rfl ?_
    refine gf_X5_network (pc := 40) lk_X5_12 dX5_removeLink_40 ?_
    refine gf_X3_links (by decide) (pc := 43) lk_X5_43 dX5_removeLink_43 ?_
    refine gf_X2_count (by decide) (pc := 46) lk_X5_53 dX5_removeLink_46 ?_
    refine nf_topI (y := nI (nl - 1)) cs_del_n ?_
    exact nf_to (by simp [cq_removeLink, c_14] <;> rfl) (by simp [cq_removeLink, c_14] <;> rfl) (nf_iret (pc := 49) dX5_removeLink_49)
  · refine nf_aln (pc := 17) dX5_removeLink_17 rfl ?_
    refine nf_bipush (pc := 18) (v := (-2)) dX5_removeLink_18 (by decide) ?_
    refine nf_cVi1 (pc := 20) (sp_X5_fail cf_slot2 (by decide)) rfl rfl rfl mk_X5_39 im_X5_fail se_X5_fail nm_X5_fail ⟨by decide, by decide⟩ (Nat.le_of_ble_eq_true rfl) dX5_removeLink_20 ?_
    exact nf_to (by simp [cq_removeLink, c_14] <;> rfl) (by simp [cq_removeLink, c_14] <;> rfl) (nf_iret (pc := 23) dX5_removeLink_23)
set_option maxRecDepth 100000 in
set_option maxHeartbeats 4000000 in
theorem sp_X5_setKind {L : nf_L} {S : nf_S} {nl na c : Nat} {x k : Int32} (hk : cs_ok S nl na) (hs : cs_sv S c) : nf_Sp L 4 yX5_setKind cX5_setKind 4 (some .int) [.ref (L.2.2 (0, 0, 0, 0)), .int x, .int k] S (some (.int (cq_setKind nl c S x k).2)) (cq_setKind nl c S x k).1 := by
  refine nf_start (own := RX5) (ls0 := [some (.ref (L.2.2 (0, 0, 0, 0))), some (.int x), some (.int k), none]) (by decide) (Nat.le_of_ble_eq_true rfl) rfl rfl ?_
  refine nf_iln (pc := 0) dX5_setKind_0 rfl ?_
  refine nf_aln (pc := 1) dX5_setKind_1 rfl ?_
  refine gf_X5_network (pc := 2) lk_X5_12 dX5_setKind_2 ?_
  refine gf_X3_links (by decide) (pc := 5) lk_X5_43 dX5_setKind_5 ?_
  refine gf_X2_count (by decide) (pc := 8) lk_X5_53 dX5_setKind_8 ?_
  refine nf_topI (y := nI (nl)) hk.2.2.1 ?_
  refine nf_cSi2 (pc := 11) sp_X5_isBelow mk_X5_35 st_X5_isBelow nm_X5_isBelow ⟨by decide, by decide⟩ (Nat.le_of_ble_eq_true rfl) dX5_setKind_11 ?_
  refine nf_if_eqB (pc := 14) 25 dX5_setKind_14 (by decide) (fun c_14 => ?_) (fun c_14 => ?_)
  · refine nf_aln (pc := 25) dX5_setKind_25 rfl ?_
    refine nf_bipush (pc := 26) (v := (-2)) dX5_setKind_26 (by decide) ?_
    refine nf_cVi1 (pc := 28) (sp_X5_fail cf_slot2 (by decide)) rfl rfl rfl mk_X5_39 im_X5_fail se_X5_fail nm_X5_fail ⟨by decide, by decide⟩ (Nat.le_of_ble_eq_true rfl) dX5_setKind_28 ?_
    exact nf_to (by simp [cq_setKind, c_14] <;> rfl) (by simp [cq_setKind, c_14] <;> rfl) (nf_iret (pc := 31) dX5_setKind_31)
  · refine nf_iln (pc := 17) dX5_setKind_17 rfl ?_
    refine nf_iconst (pc := 18) (v := 2) dX5_setKind_18 (by decide) ?_
    refine nf_cSi2 (pc := 19) sp_X5_isBelow mk_X5_35 st_X5_isBelow nm_X5_isBelow ⟨by decide, by decide⟩ (Nat.le_of_ble_eq_true rfl) dX5_setKind_19 ?_
    refine nf_if_neB (pc := 22) 32 dX5_setKind_22 (by decide) (fun c_22 => ?_) (fun c_22 => ?_)
    · have hx := cf_below_lt (by have := hk.1; omega) c_14
      have hx2 := cf_below_eq (by have := hk.1; omega) c_14
      have hin : vp_in x 12 := by
        rw [hx2]; exact nf_inI (by have := hk.1; omega) (by decide)
      refine nf_aln (pc := 32) dX5_setKind_32 rfl ?_
      refine nf_cVv0 (pc := 33) (sp_X5_save hs) rfl rfl rfl mk_X5_56 im_X5_save se_X5_save nm_X5_save ⟨by decide, by decide⟩ (Nat.le_of_ble_eq_true rfl) dX5_setKind_33 ?_
      refine nf_aln (pc := 36) dX5_setKind_36 rfl ?_
      refine gf_X5_network (pc := 37) lk_X5_12 dX5_setKind_37 ?_
      refine gf_X3_links (by decide) (pc := 40) lk_X5_43 dX5_setKind_40 ?_
      refine gf_X2_kind (by decide) (pc := 43) lk_X5_67 dX5_setKind_43 ?_
      refine nf_iln (pc := 46) dX5_setKind_46 rfl ?_
      refine nf_iald (pc := 47) (nf_okA (by decide) (by decide)) hin dX5_setKind_47 ?_
      refine nf_is3 (pc := 48) dX5_setKind_48 rfl (by decide) ?_
      refine nf_aln (pc := 49) dX5_setKind_49 rfl ?_
      refine gf_X5_network (pc := 50) lk_X5_12 dX5_setKind_50 ?_
      refine gf_X3_links (by decide) (pc := 53) lk_X5_43 dX5_setKind_53 ?_
      refine gf_X2_kind (by decide) (pc := 56) lk_X5_67 dX5_setKind_56 ?_
      refine nf_iln (pc := 59) dX5_setKind_59 rfl ?_
      refine nf_iln (pc := 60) dX5_setKind_60 rfl ?_
      refine nf_iast (pc := 61) (nf_okA (by decide) (by decide)) hin dX5_setKind_61 ?_
      refine nf_iln (pc := 62) dX5_setKind_62 rfl ?_
      exact nf_to (by simp [cq_setKind, c_14, c_22] <;> rfl) (by simp [cq_setKind, c_14, c_22] <;> rfl) (nf_iret (pc := 63) dX5_setKind_63)
    · refine nf_aln (pc := 25) dX5_setKind_25 rfl ?_
      refine nf_bipush (pc := 26) (v := (-2)) dX5_setKind_26 (by decide) ?_
      refine nf_cVi1 (pc := 28) (sp_X5_fail cf_slot2 (by decide)) rfl rfl rfl mk_X5_39 im_X5_fail se_X5_fail nm_X5_fail ⟨by decide, by decide⟩ (Nat.le_of_ble_eq_true rfl) dX5_setKind_28 ?_
      exact nf_to (by simp [cq_setKind, c_14, c_22] <;> rfl) (by simp [cq_setKind, c_14, c_22] <;> rfl) (nf_iret (pc := 31) dX5_setKind_31)
set_option maxRecDepth 100000 in
set_option maxHeartbeats 4000000 in
theorem sp_X5_setGroups {L : nf_L} {S : nf_S} {c : Nat} {x g : Int32} (hs : cs_sv S c) : nf_Sp L 4 yX5_setGroups cX5_setGroups 4 (some .int) [.ref (L.2.2 (0, 0, 0, 0)), .int x, .int g] S (some (.int (cq_setGroups c S x g).2)) (cq_setGroups c S x g).1 := by
  refine nf_start (own := RX5) (ls0 := [some (.ref (L.2.2 (0, 0, 0, 0))), some (.int x), some (.int g), none]) (by decide) (Nat.le_of_ble_eq_true rfl) rfl rfl ?_
  refine nf_iln (pc := 0) dX5_setGroups_0 rfl ?_
  refine nf_bipush (pc := 1) (v := 6) dX5_setGroups_1 (by decide) ?_
  refine nf_cSi2 (pc := 3) sp_X5_isBelow mk_X5_35 st_X5_isBelow nm_X5_isBelow ⟨by decide, by decide⟩ (Nat.le_of_ble_eq_true rfl) dX5_setGroups_3 ?_
  refine nf_if_eqB (pc := 6) 19 dX5_setGroups_6 (by decide) (fun c_6 => ?_) (fun c_6 => ?_)
  · refine nf_aln (pc := 19) dX5_setGroups_19 rfl ?_
    refine nf_bipush (pc := 20) (v := (-2)) dX5_setGroups_20 (by decide) ?_
    refine nf_cVi1 (pc := 22) (sp_X5_fail cf_slot2 (by decide)) rfl rfl rfl mk_X5_39 im_X5_fail se_X5_fail nm_X5_fail ⟨by decide, by decide⟩ (Nat.le_of_ble_eq_true rfl) dX5_setGroups_22 ?_
    exact nf_to (by simp [cq_setGroups, c_6] <;> rfl) (by simp [cq_setGroups, c_6] <;> rfl) (nf_iret (pc := 25) dX5_setGroups_25)
  · refine nf_iln (pc := 9) dX5_setGroups_9 rfl ?_
    refine nf_if_lt (pc := 10) 19 dX5_setGroups_10 (by decide) (fun c_10 => ?_) (fun c_10 => ?_)
    · refine nf_aln (pc := 19) dX5_setGroups_19 rfl ?_
      refine nf_bipush (pc := 20) (v := (-2)) dX5_setGroups_20 (by decide) ?_
      refine nf_cVi1 (pc := 22) (sp_X5_fail cf_slot2 (by decide)) rfl rfl rfl mk_X5_39 im_X5_fail se_X5_fail nm_X5_fail ⟨by decide, by decide⟩ (Nat.le_of_ble_eq_true rfl) dX5_setGroups_22 ?_
      exact nf_to (by simp [cq_setGroups, c_6, c_10] <;> rfl) (by simp [cq_setGroups, c_6, c_10] <;> rfl) (nf_iret (pc := 25) dX5_setGroups_25)
    · refine nf_iln (pc := 13) dX5_setGroups_13 rfl ?_
      refine nf_bipush (pc := 14) (v := 15) dX5_setGroups_14 (by decide) ?_
      refine nf_ic_le (pc := 16) 26 dX5_setGroups_16 (by decide) (fun c_16 => ?_) (fun c_16 => ?_)
      · refine nf_aln (pc := 26) dX5_setGroups_26 rfl ?_
        refine nf_cVv0 (pc := 27) (sp_X5_save hs) rfl rfl rfl mk_X5_56 im_X5_save se_X5_save nm_X5_save ⟨by decide, by decide⟩ (Nat.le_of_ble_eq_true rfl) dX5_setGroups_27 ?_
        refine nf_aln (pc := 30) dX5_setGroups_30 rfl ?_
        refine gf_X5_network (pc := 31) lk_X5_12 dX5_setGroups_31 ?_
        refine gf_X3_hosts (by decide) (pc := 34) lk_X5_70 dX5_setGroups_34 ?_
        refine nf_iln (pc := 37) dX5_setGroups_37 rfl ?_
        refine nf_hald (pc := 38) (by decide) (cf_below_in (by decide) c_6) dX5_setGroups_38 ?_
        refine nf_topR (p2 := (4, 0, 0, cf_num x)) rfl ?_
        refine gf_X1_groups (by decide) (cf_below_lt (by decide) c_6) (pc := 39) lk_X5_74 dX5_setGroups_39 ?_
        refine nf_is3 (pc := 42) dX5_setGroups_42 rfl (by decide) ?_
        refine nf_aln (pc := 43) dX5_setGroups_43 rfl ?_
        refine gf_X5_network (pc := 44) lk_X5_12 dX5_setGroups_44 ?_
        refine gf_X3_hosts (by decide) (pc := 47) lk_X5_70 dX5_setGroups_47 ?_
        refine nf_iln (pc := 50) dX5_setGroups_50 rfl ?_
        refine nf_hald (pc := 51) (by decide) (cf_below_in (by decide) c_6) dX5_setGroups_51 ?_
        refine nf_topR (p2 := (4, 0, 0, cf_num x)) rfl ?_
        refine nf_iln (pc := 52) dX5_setGroups_52 rfl ?_
        refine pf_X1_groups (by decide) (cf_below_lt (by decide) c_6) (pc := 53) lk_X5_74 dX5_setGroups_53 ?_
        refine nf_iln (pc := 56) dX5_setGroups_56 rfl ?_
        exact nf_to (by simp [cq_setGroups, c_6, c_10, c_16] <;> rfl) (by simp [cq_setGroups, c_6, c_10, c_16] <;> rfl) (nf_iret (pc := 57) dX5_setGroups_57)
      · refine nf_aln (pc := 19) dX5_setGroups_19 rfl ?_
        refine nf_bipush (pc := 20) (v := (-2)) dX5_setGroups_20 (by decide) ?_
        refine nf_cVi1 (pc := 22) (sp_X5_fail cf_slot2 (by decide)) rfl rfl rfl mk_X5_39 im_X5_fail se_X5_fail nm_X5_fail ⟨by decide, by decide⟩ (Nat.le_of_ble_eq_true rfl) dX5_setGroups_22 ?_
        exact nf_to (by simp [cq_setGroups, c_6, c_10, c_16] <;> rfl) (by simp [cq_setGroups, c_6, c_10, c_16] <;> rfl) (nf_iret (pc := 25) dX5_setGroups_25)
set_option maxRecDepth 100000 in
set_option maxHeartbeats 4000000 in
theorem sp_X5_setExpiry {L : nf_L} {S : nf_S} {c : Nat} {g x : Int32} (hs : cs_sv S c) : nf_Sp L 4 yX5_setExpiry cX5_setExpiry 4 (some .int) [.ref (L.2.2 (0, 0, 0, 0)), .int g, .int x] S (some (.int (cq_setExpiry c S g x).2)) (cq_setExpiry c S g x).1 := by
  refine nf_start (own := RX5) (ls0 := [some (.ref (L.2.2 (0, 0, 0, 0))), some (.int g), some (.int x), none]) (by decide) (Nat.le_of_ble_eq_true rfl) rfl rfl ?_
  refine nf_iln (pc := 0) dX5_setExpiry_0 rfl ?_
  refine nf_iconst (pc := 1) (v := 4) dX5_setExpiry_1 (by decide) ?_
  refine nf_cSi2 (pc := 2) sp_X5_isBelow mk_X5_35 st_X5_isBelow nm_X5_isBelow ⟨by decide, by decide⟩ (Nat.le_of_ble_eq_true rfl) dX5_setExpiry_2 ?_
  refine nf_if_eqB (pc := 5) 15 dX5_setExpiry_5 (by decide) (fun c_5 => ?_) (fun c_5 => ?_)
  · refine nf_aln (pc := 15) dX5_setExpiry_15 rfl ?_
    refine nf_bipush (pc := 16) (v := (-2)) dX5_setExpiry_16 (by decide) ?_
    refine nf_cVi1 (pc := 18) (sp_X5_fail cf_slot2 (by decide)) rfl rfl rfl mk_X5_39 im_X5_fail se_X5_fail nm_X5_fail ⟨by decide, by decide⟩ (Nat.le_of_ble_eq_true rfl) dX5_setExpiry_18 ?_
    exact nf_to (by simp [cq_setExpiry, c_5] <;> rfl) (by simp [cq_setExpiry, c_5] <;> rfl) (nf_iret (pc := 21) dX5_setExpiry_21)
  · refine nf_iln (pc := 8) dX5_setExpiry_8 rfl ?_
    refine nf_cSi1 (pc := 9) sp_X5_isLimit mk_X5_79 st_X5_isLimit nm_X5_isLimit ⟨by decide, by decide⟩ (Nat.le_of_ble_eq_true rfl) dX5_setExpiry_9 ?_
    refine nf_if_neB (pc := 12) 22 dX5_setExpiry_12 (by decide) (fun c_12 => ?_) (fun c_12 => ?_)
    · refine nf_aln (pc := 22) dX5_setExpiry_22 rfl ?_
      refine nf_cVv0 (pc := 23) (sp_X5_save hs) rfl rfl rfl mk_X5_56 im_X5_save se_X5_save nm_X5_save ⟨by decide, by decide⟩ (Nat.le_of_ble_eq_true rfl) dX5_setExpiry_23 ?_
      refine nf_aln (pc := 26) dX5_setExpiry_26 rfl ?_
      refine gf_X5_network (pc := 27) lk_X5_12 dX5_setExpiry_27 ?_
      refine gf_X3_expiry (by decide) (pc := 30) lk_X5_83 dX5_setExpiry_30 ?_
      refine nf_iln (pc := 33) dX5_setExpiry_33 rfl ?_
      refine nf_iald (pc := 34) (nf_okA (by decide) (by decide)) (cf_below_in (by decide) (n := 4) c_5) dX5_setExpiry_34 ?_
      refine nf_is3 (pc := 35) dX5_setExpiry_35 rfl (by decide) ?_
      refine nf_aln (pc := 36) dX5_setExpiry_36 rfl ?_
      refine gf_X5_network (pc := 37) lk_X5_12 dX5_setExpiry_37 ?_
      refine gf_X3_expiry (by decide) (pc := 40) lk_X5_83 dX5_setExpiry_40 ?_
      refine nf_iln (pc := 43) dX5_setExpiry_43 rfl ?_
      refine nf_iln (pc := 44) dX5_setExpiry_44 rfl ?_
      refine nf_iast (pc := 45) (nf_okA (by decide) (by decide)) (cf_below_in (by decide) (n := 4) c_5) dX5_setExpiry_45 ?_
      refine nf_iln (pc := 46) dX5_setExpiry_46 rfl ?_
      exact nf_to (by simp [cq_setExpiry, c_5, c_12] <;> rfl) (by simp [cq_setExpiry, c_5, c_12] <;> rfl) (nf_iret (pc := 47) dX5_setExpiry_47)
    · refine nf_aln (pc := 15) dX5_setExpiry_15 rfl ?_
      refine nf_bipush (pc := 16) (v := (-2)) dX5_setExpiry_16 (by decide) ?_
      refine nf_cVi1 (pc := 18) (sp_X5_fail cf_slot2 (by decide)) rfl rfl rfl mk_X5_39 im_X5_fail se_X5_fail nm_X5_fail ⟨by decide, by decide⟩ (Nat.le_of_ble_eq_true rfl) dX5_setExpiry_18 ?_
      exact nf_to (by simp [cq_setExpiry, c_5, c_12] <;> rfl) (by simp [cq_setExpiry, c_5, c_12] <;> rfl) (nf_iret (pc := 21) dX5_setExpiry_21)
set_option maxRecDepth 100000 in
set_option maxHeartbeats 4000000 in
theorem sp_X5_setHistoryLimit {L : nf_L} {S : nf_S} {c : Nat} {x : Int32} (hs : cs_sv S c) : nf_Sp L 4 yX5_setHistoryLimit cX5_setHistoryLimit 3 (some .int) [.ref (L.2.2 (0, 0, 0, 0)), .int x] S (some (.int (cq_setHistoryLimit c S x).2)) (cq_setHistoryLimit c S x).1 := by
  refine nf_start (own := RX5) (ls0 := [some (.ref (L.2.2 (0, 0, 0, 0))), some (.int x), none]) (by decide) (Nat.le_of_ble_eq_true rfl) rfl rfl ?_
  refine nf_iln (pc := 0) dX5_setHistoryLimit_0 rfl ?_
  refine nf_cSi1 (pc := 1) sp_X5_isLimit mk_X5_79 st_X5_isLimit nm_X5_isLimit ⟨by decide, by decide⟩ (Nat.le_of_ble_eq_true rfl) dX5_setHistoryLimit_1 ?_
  refine nf_if_neB (pc := 4) 14 dX5_setHistoryLimit_4 (by decide) (fun c_4 => ?_) (fun c_4 => ?_)
  · refine nf_aln (pc := 14) dX5_setHistoryLimit_14 rfl ?_
    refine nf_cVv0 (pc := 15) (sp_X5_save hs) rfl rfl rfl mk_X5_56 im_X5_save se_X5_save nm_X5_save ⟨by decide, by decide⟩ (Nat.le_of_ble_eq_true rfl) dX5_setHistoryLimit_15 ?_
    refine nf_aln (pc := 18) dX5_setHistoryLimit_18 rfl ?_
    refine gf_X5_network (pc := 19) lk_X5_12 dX5_setHistoryLimit_19 ?_
    refine gf_X3_historyLimit (by decide) (pc := 22) lk_X5_86 dX5_setHistoryLimit_22 ?_
    refine nf_is2 (pc := 25) dX5_setHistoryLimit_25 rfl (by decide) ?_
    refine nf_aln (pc := 26) dX5_setHistoryLimit_26 rfl ?_
    refine gf_X5_network (pc := 27) lk_X5_12 dX5_setHistoryLimit_27 ?_
    refine nf_iln (pc := 30) dX5_setHistoryLimit_30 rfl ?_
    refine pf_X3_historyLimit (by decide) (pc := 31) lk_X5_86 dX5_setHistoryLimit_31 ?_
    refine nf_iln (pc := 34) dX5_setHistoryLimit_34 rfl ?_
    exact nf_to (by simp [cq_setHistoryLimit, c_4] <;> rfl) (by simp [cq_setHistoryLimit, c_4] <;> rfl) (nf_iret (pc := 35) dX5_setHistoryLimit_35)
  · refine nf_aln (pc := 7) dX5_setHistoryLimit_7 rfl ?_
    refine nf_bipush (pc := 8) (v := (-2)) dX5_setHistoryLimit_8 (by decide) ?_
    refine nf_cVi1 (pc := 10) (sp_X5_fail cf_slot2 (by decide)) rfl rfl rfl mk_X5_39 im_X5_fail se_X5_fail nm_X5_fail ⟨by decide, by decide⟩ (Nat.le_of_ble_eq_true rfl) dX5_setHistoryLimit_10 ?_
    exact nf_to (by simp [cq_setHistoryLimit, c_4] <;> rfl) (by simp [cq_setHistoryLimit, c_4] <;> rfl) (nf_iret (pc := 13) dX5_setHistoryLimit_13)
set_option maxRecDepth 100000 in
set_option maxHeartbeats 4000000 in
theorem sp_X5_publish {L : nf_L} {S : nf_S} {nl na c : Nat} {h : Nat} {g a e t : Int32} (hk : cs_ok S nl na) (hs : cs_sv S c) (hh : h < 6) (hg : ∃ x, x < 4 ∧ g = nI x) (ht : e = 0 ∨ ∃ x, x < 30 ∧ t = nI x) : nf_Sp L 4 yX5_publish cX5_publish 7 (some .int) [.ref (L.2.2 (0, 0, 0, 0)), .int (nI h), .int g, .int a, .int e, .int t] S (some (.int (cq_publish na c S h g a e t).2)) (cq_publish na c S h g a e t).1 := by
  have hk1 := hk.save hs
  refine nf_start (own := RX5) (ls0 := [some (.ref (L.2.2 (0, 0, 0, 0))), some (.int (nI h)), some (.int g), some (.int a), some (.int e), some (.int t), none]) (by decide) (Nat.le_of_ble_eq_true rfl) rfl rfl ?_
  refine nf_aln (pc := 0) dX5_publish_0 rfl ?_
  refine gf_X5_network (pc := 1) lk_X5_12 dX5_publish_1 ?_
  refine gf_X3_articles (by decide) (pc := 4) lk_X5_96 dX5_publish_4 ?_
  refine gf_X0_count (by decide) (pc := 7) lk_X5_128 dX5_publish_7 ?_
  refine nf_topI (y := nI (na)) hk.2.2.2.1 ?_
  refine nf_bipush (pc := 10) (v := 30) dX5_publish_10 (by decide) ?_
  refine nf_ic_lt (pc := 12) 22 dX5_publish_12 (by decide) (fun c_12 => ?_) (fun c_12 => ?_)
  · have hna : na < 30 := cf_ltI (b := 30) c_12 (by have := hk.2.1; omega)
    refine nf_aln (pc := 22) dX5_publish_22 rfl ?_
    refine nf_cVv0 (pc := 23) (sp_X5_save hs) rfl rfl rfl mk_X5_56 im_X5_save se_X5_save nm_X5_save ⟨by decide, by decide⟩ (Nat.le_of_ble_eq_true rfl) dX5_publish_23 ?_
    refine nf_aln (pc := 26) dX5_publish_26 rfl ?_
    refine gf_X5_network (pc := 27) lk_X5_12 dX5_publish_27 ?_
    refine gf_X3_articles (by decide) (pc := 30) lk_X5_96 dX5_publish_30 ?_
    refine nf_iln (pc := 33) dX5_publish_33 rfl ?_
    refine nf_iln (pc := 34) dX5_publish_34 rfl ?_
    refine nf_aln (pc := 35) dX5_publish_35 rfl ?_
    refine gf_X5_network (pc := 36) lk_X5_12 dX5_publish_36 ?_
    refine gf_X3_today (by decide) (pc := 39) lk_X5_138 dX5_publish_39 ?_
    refine nf_il (pc := 42) dX5_publish_42 rfl ?_
    refine nf_il (pc := 44) dX5_publish_44 rfl ?_
    refine nf_cVi5 (pc := 46) (sp_X0_append (by decide) hk1.2.2.2.1 hna) ⟨(by decide), rfl⟩ rfl rfl mk_X5_170 im_X0_append se_X0_append nm_X0_append ⟨by decide, by decide⟩ (Nat.le_of_ble_eq_true rfl) dX5_publish_46 ?_
    refine nf_from (S' := cs_app (cs_save S c) na g a e t) rfl ?_
    refine nf_is6 (pc := 49) dX5_publish_49 rfl (by decide) ?_
    refine nf_aln (pc := 51) dX5_publish_51 rfl ?_
    refine gf_X5_network (pc := 52) lk_X5_12 dX5_publish_52 ?_
    refine nf_il (pc := 55) dX5_publish_55 rfl ?_
    refine nf_iln (pc := 57) dX5_publish_57 rfl ?_
    refine nf_iconst (pc := 58) (v := 0) dX5_publish_58 (by decide) ?_
    refine nf_cVi3 (pc := 59) (sp_X3_arrive (cs_ok_app (a := a) hk1 hna hg ht) hh (Nat.lt_succ_self na)) ⟨(by decide), rfl⟩ rfl rfl mk_X5_172 im_X3_arrive se_X3_arrive nm_X3_arrive ⟨by decide, by decide⟩ (Nat.le_of_ble_eq_true rfl) dX5_publish_59 ?_
    refine nf_pop (pc := 62) dX5_publish_62 rfl ?_
    refine nf_il (pc := 63) dX5_publish_63 rfl ?_
    exact nf_to (by simp [cq_publish, c_12] <;> rfl) (by simp [cq_publish, c_12] <;> rfl) (nf_iret (pc := 65) dX5_publish_65)
  · refine nf_aln (pc := 15) dX5_publish_15 rfl ?_
    refine nf_bipush (pc := 16) (v := (-4)) dX5_publish_16 (by decide) ?_
    refine nf_cVi1 (pc := 18) (sp_X5_fail cf_slot4 (by decide)) rfl rfl rfl mk_X5_39 im_X5_fail se_X5_fail nm_X5_fail ⟨by decide, by decide⟩ (Nat.le_of_ble_eq_true rfl) dX5_publish_18 ?_
    exact nf_to (by simp [cq_publish, c_12] <;> rfl) (by simp [cq_publish, c_12] <;> rfl) (nf_iret (pc := 21) dX5_publish_21)
set_option maxRecDepth 100000 in
set_option maxHeartbeats 4000000 in
theorem sp_X5_post {L : nf_L} {S : nf_S} {nl na c : Nat} {x g a : Int32} (hk : cs_ok S nl na) (hs : cs_sv S c) : nf_Sp L 5 yX5_post cX5_post 4 (some .int) [.ref (L.2.2 (0, 0, 0, 0)), .int x, .int g, .int a] S (some (.int (cq_post na c S x g a).2)) (cq_post na c S x g a).1 := by
  refine nf_start (own := RX5) (ls0 := [some (.ref (L.2.2 (0, 0, 0, 0))), some (.int x), some (.int g), some (.int a)]) (by decide) (Nat.le_of_ble_eq_true rfl) rfl rfl ?_
  refine nf_iln (pc := 0) dX5_post_0 rfl ?_
  refine nf_bipush (pc := 1) (v := 6) dX5_post_1 (by decide) ?_
  refine nf_cSi2 (pc := 3) sp_X5_isBelow mk_X5_35 st_X5_isBelow nm_X5_isBelow ⟨by decide, by decide⟩ (Nat.le_of_ble_eq_true rfl) dX5_post_3 ?_
  refine nf_if_eqB (pc := 6) 26 dX5_post_6 (by decide) (fun c_6 => ?_) (fun c_6 => ?_)
  · refine nf_aln (pc := 26) dX5_post_26 rfl ?_
    refine nf_bipush (pc := 27) (v := (-2)) dX5_post_27 (by decide) ?_
    refine nf_cVi1 (pc := 29) (sp_X5_fail cf_slot2 (by decide)) rfl rfl rfl mk_X5_39 im_X5_fail se_X5_fail nm_X5_fail ⟨by decide, by decide⟩ (Nat.le_of_ble_eq_true rfl) dX5_post_29 ?_
    exact nf_to (by simp [cq_post, c_6] <;> rfl) (by simp [cq_post, c_6] <;> rfl) (nf_iret (pc := 32) dX5_post_32)
  · refine nf_iln (pc := 9) dX5_post_9 rfl ?_
    refine nf_iconst (pc := 10) (v := 4) dX5_post_10 (by decide) ?_
    refine nf_cSi2 (pc := 11) sp_X5_isBelow mk_X5_35 st_X5_isBelow nm_X5_isBelow ⟨by decide, by decide⟩ (Nat.le_of_ble_eq_true rfl) dX5_post_11 ?_
    refine nf_if_eqB (pc := 14) 26 dX5_post_14 (by decide) (fun c_14 => ?_) (fun c_14 => ?_)
    · refine nf_aln (pc := 26) dX5_post_26 rfl ?_
      refine nf_bipush (pc := 27) (v := (-2)) dX5_post_27 (by decide) ?_
      refine nf_cVi1 (pc := 29) (sp_X5_fail cf_slot2 (by decide)) rfl rfl rfl mk_X5_39 im_X5_fail se_X5_fail nm_X5_fail ⟨by decide, by decide⟩ (Nat.le_of_ble_eq_true rfl) dX5_post_29 ?_
      exact nf_to (by simp [cq_post, c_6, c_14] <;> rfl) (by simp [cq_post, c_6, c_14] <;> rfl) (nf_iret (pc := 32) dX5_post_32)
    · refine nf_iln (pc := 17) dX5_post_17 rfl ?_
      refine nf_bipush (pc := 18) (v := 10) dX5_post_18 (by decide) ?_
      refine nf_cSi2 (pc := 20) sp_X5_isBelow mk_X5_35 st_X5_isBelow nm_X5_isBelow ⟨by decide, by decide⟩ (Nat.le_of_ble_eq_true rfl) dX5_post_20 ?_
      refine nf_if_neB (pc := 23) 33 dX5_post_23 (by decide) (fun c_23 => ?_) (fun c_23 => ?_)
      · refine nf_aln (pc := 33) dX5_post_33 rfl ?_
        refine nf_iln (pc := 34) dX5_post_34 rfl ?_
        refine nf_topI (y := nI (cf_num x)) (cf_below_eq (n := 6) (by decide) c_6) ?_
        refine nf_iln (pc := 35) dX5_post_35 rfl ?_
        refine nf_iln (pc := 36) dX5_post_36 rfl ?_
        refine nf_iconst (pc := 37) (v := 0) dX5_post_37 (by decide) ?_
        refine nf_iconst (pc := 38) (v := (-1)) dX5_post_38 (by decide) ?_
        refine nf_cVi5 (pc := 39) (sp_X5_publish hk hs (cf_below_lt (n := 6) (by decide) c_6) ⟨_, cf_below_lt (n := 4) (by decide) c_14, cf_below_eq (n := 4) (by decide) c_14⟩ (Or.inl rfl)) rfl rfl rfl mk_X5_89 im_X5_publish se_X5_publish nm_X5_publish ⟨by decide, by decide⟩ (Nat.le_of_ble_eq_true rfl) dX5_post_39 ?_
        exact nf_to (by simp [cq_post, c_6, c_14, c_23] <;> rfl) (by simp [cq_post, c_6, c_14, c_23] <;> rfl) (nf_iret (pc := 42) dX5_post_42)
      · refine nf_aln (pc := 26) dX5_post_26 rfl ?_
        refine nf_bipush (pc := 27) (v := (-2)) dX5_post_27 (by decide) ?_
        refine nf_cVi1 (pc := 29) (sp_X5_fail cf_slot2 (by decide)) rfl rfl rfl mk_X5_39 im_X5_fail se_X5_fail nm_X5_fail ⟨by decide, by decide⟩ (Nat.le_of_ble_eq_true rfl) dX5_post_29 ?_
        exact nf_to (by simp [cq_post, c_6, c_14, c_23] <;> rfl) (by simp [cq_post, c_6, c_14, c_23] <;> rfl) (nf_iret (pc := 32) dX5_post_32)
set_option maxRecDepth 100000 in
set_option maxHeartbeats 4000000 in
theorem sp_X5_postAction {L : nf_L} {S : nf_S} {nl na c : Nat} {x a e t : Int32} (hk : cs_ok S nl na) (hs : cs_sv S c) : nf_Sp L 5 yX5_postAction cX5_postAction 5 (some .int) [.ref (L.2.2 (0, 0, 0, 0)), .int x, .int a, .int e, .int t] S (some (.int (cq_postAction na c S x a e t).2)) (cq_postAction na c S x a e t).1 := by
  have h30 := hk.2.1
  refine nf_start (own := RX5) (ls0 := [some (.ref (L.2.2 (0, 0, 0, 0))), some (.int x), some (.int a), some (.int e), some (.int t)]) (by decide) (Nat.le_of_ble_eq_true rfl) rfl rfl ?_
  refine nf_iln (pc := 0) dX5_postAction_0 rfl ?_
  refine nf_bipush (pc := 1) (v := 6) dX5_postAction_1 (by decide) ?_
  refine nf_cSi2 (pc := 3) sp_X5_isBelow mk_X5_35 st_X5_isBelow nm_X5_isBelow ⟨by decide, by decide⟩ (Nat.le_of_ble_eq_true rfl) dX5_postAction_3 ?_
  refine nf_if_eqB (pc := 6) 37 dX5_postAction_6 (by decide) (fun c_6 => ?_) (fun c_6 => ?_)
  · refine nf_aln (pc := 37) dX5_postAction_37 rfl ?_
    refine nf_bipush (pc := 38) (v := (-2)) dX5_postAction_38 (by decide) ?_
    refine nf_cVi1 (pc := 40) (sp_X5_fail cf_slot2 (by decide)) rfl rfl rfl mk_X5_39 im_X5_fail se_X5_fail nm_X5_fail ⟨by decide, by decide⟩ (Nat.le_of_ble_eq_true rfl) dX5_postAction_40 ?_
    exact nf_to (by simp [cq_postAction, c_6] <;> rfl) (by simp [cq_postAction, c_6] <;> rfl) (nf_iret (pc := 43) dX5_postAction_43)
  · refine nf_iln (pc := 9) dX5_postAction_9 rfl ?_
    refine nf_bipush (pc := 10) (v := 10) dX5_postAction_10 (by decide) ?_
    refine nf_cSi2 (pc := 12) sp_X5_isBelow mk_X5_35 st_X5_isBelow nm_X5_isBelow ⟨by decide, by decide⟩ (Nat.le_of_ble_eq_true rfl) dX5_postAction_12 ?_
    refine nf_if_eqB (pc := 15) 37 dX5_postAction_15 (by decide) (fun c_15 => ?_) (fun c_15 => ?_)
    · refine nf_aln (pc := 37) dX5_postAction_37 rfl ?_
      refine nf_bipush (pc := 38) (v := (-2)) dX5_postAction_38 (by decide) ?_
      refine nf_cVi1 (pc := 40) (sp_X5_fail cf_slot2 (by decide)) rfl rfl rfl mk_X5_39 im_X5_fail se_X5_fail nm_X5_fail ⟨by decide, by decide⟩ (Nat.le_of_ble_eq_true rfl) dX5_postAction_40 ?_
      exact nf_to (by simp [cq_postAction, c_6, c_15] <;> rfl) (by simp [cq_postAction, c_6, c_15] <;> rfl) (nf_iret (pc := 43) dX5_postAction_43)
    · refine nf_iln (pc := 18) dX5_postAction_18 rfl ?_
      refine nf_iconst (pc := 19) (v := 1) dX5_postAction_19 (by decide) ?_
      refine nf_ic_lt (pc := 20) 37 dX5_postAction_20 (by decide) (fun c_20 => ?_) (fun c_20 => ?_)
      · refine nf_aln (pc := 37) dX5_postAction_37 rfl ?_
        refine nf_bipush (pc := 38) (v := (-2)) dX5_postAction_38 (by decide) ?_
        refine nf_cVi1 (pc := 40) (sp_X5_fail cf_slot2 (by decide)) rfl rfl rfl mk_X5_39 im_X5_fail se_X5_fail nm_X5_fail ⟨by decide, by decide⟩ (Nat.le_of_ble_eq_true rfl) dX5_postAction_40 ?_
        exact nf_to (by simp [cq_postAction, c_6, c_15, c_20] <;> rfl) (by simp [cq_postAction, c_6, c_15, c_20] <;> rfl) (nf_iret (pc := 43) dX5_postAction_43)
      · refine nf_iln (pc := 23) dX5_postAction_23 rfl ?_
        refine nf_iconst (pc := 24) (v := 2) dX5_postAction_24 (by decide) ?_
        refine nf_ic_gt (pc := 25) 37 dX5_postAction_25 (by decide) (fun c_25 => ?_) (fun c_25 => ?_)
        · refine nf_aln (pc := 37) dX5_postAction_37 rfl ?_
          refine nf_bipush (pc := 38) (v := (-2)) dX5_postAction_38 (by decide) ?_
          refine nf_cVi1 (pc := 40) (sp_X5_fail cf_slot2 (by decide)) rfl rfl rfl mk_X5_39 im_X5_fail se_X5_fail nm_X5_fail ⟨by decide, by decide⟩ (Nat.le_of_ble_eq_true rfl) dX5_postAction_40 ?_
          exact nf_to (by simp [cq_postAction, c_6, c_15, c_20, c_25] <;> rfl) (by simp [cq_postAction, c_6, c_15, c_20, c_25] <;> rfl) (nf_iret (pc := 43) dX5_postAction_43)
        · refine nf_aln (pc := 28) dX5_postAction_28 rfl ?_
          refine nf_il (pc := 29) dX5_postAction_29 rfl ?_
          refine nf_cVi1 (pc := 31) (sp_X5_isArticle hk) rfl rfl rfl mk_X5_93 im_X5_isArticle se_X5_isArticle nm_X5_isArticle ⟨by decide, by decide⟩ (Nat.le_of_ble_eq_true rfl) dX5_postAction_31 ?_
          refine nf_if_neB (pc := 34) 44 dX5_postAction_34 (by decide) (fun c_34 => ?_) (fun c_34 => ?_)
          · have ht := cf_below_lt (by omega) c_34
            have ht2 := cf_below_eq (by omega) c_34
            refine nf_aln (pc := 44) dX5_postAction_44 rfl ?_
            refine nf_iln (pc := 45) dX5_postAction_45 rfl ?_
            refine nf_topI (y := nI (cf_num x)) (cf_below_eq (n := 6) (by decide) c_6) ?_
            refine nf_aln (pc := 46) dX5_postAction_46 rfl ?_
            refine gf_X5_network (pc := 47) lk_X5_12 dX5_postAction_47 ?_
            refine gf_X3_articles (by decide) (pc := 50) lk_X5_96 dX5_postAction_50 ?_
            refine gf_X0_group (by decide) (pc := 53) lk_X5_100 dX5_postAction_53 ?_
            refine nf_il (pc := 56) dX5_postAction_56 rfl ?_
            refine nf_iald (pc := 58) (nf_okA (by decide) (by decide)) (by rw [ht2]; exact nf_inI (show _ < 30 by omega) (by decide)) dX5_postAction_58 ?_
            refine nf_iln (pc := 59) dX5_postAction_59 rfl ?_
            refine nf_iln (pc := 60) dX5_postAction_60 rfl ?_
            refine nf_il (pc := 61) dX5_postAction_61 rfl ?_
            refine nf_cVi5 (pc := 63) (sp_X5_publish hk hs (cf_below_lt (n := 6) (by decide) c_6) (hk.2.2.2.2 _ ht).2 (Or.inr ⟨_, by omega, ht2⟩)) rfl rfl rfl mk_X5_89 im_X5_publish se_X5_publish nm_X5_publish ⟨by decide, by decide⟩ (Nat.le_of_ble_eq_true rfl) dX5_postAction_63 ?_
            exact nf_to (by simp [cq_postAction, c_6, c_15, c_20, c_25, c_34] <;> rfl) (by simp [cq_postAction, c_6, c_15, c_20, c_25, c_34] <;> rfl) (nf_iret (pc := 66) dX5_postAction_66)
          · refine nf_aln (pc := 37) dX5_postAction_37 rfl ?_
            refine nf_bipush (pc := 38) (v := (-2)) dX5_postAction_38 (by decide) ?_
            refine nf_cVi1 (pc := 40) (sp_X5_fail cf_slot2 (by decide)) rfl rfl rfl mk_X5_39 im_X5_fail se_X5_fail nm_X5_fail ⟨by decide, by decide⟩ (Nat.le_of_ble_eq_true rfl) dX5_postAction_40 ?_
            exact nf_to (by simp [cq_postAction, c_6, c_15, c_20, c_25, c_34] <;> rfl) (by simp [cq_postAction, c_6, c_15, c_20, c_25, c_34] <;> rfl) (nf_iret (pc := 43) dX5_postAction_43)
set_option maxRecDepth 100000 in
set_option maxHeartbeats 4000000 in
theorem sp_X5_round {L : nf_L} {S : nf_S} {nl na c : Nat}  (hk : cs_ok S nl na) (hs : cs_sv S c) : nf_Sp L 6 yX5_round cX5_round 1 (some .int) [.ref (L.2.2 (0, 0, 0, 0))] S (some (.int (cs_rnd (cs_save S c) na).2)) (cs_rnd (cs_save S c) na).1 := by
  refine nf_start (own := RX5) (ls0 := [some (.ref (L.2.2 (0, 0, 0, 0)))]) (by decide) (Nat.le_of_ble_eq_true rfl) rfl rfl ?_
  refine nf_aln (pc := 0) dX5_round_0 rfl ?_
  refine nf_cVv0 (pc := 1) (sp_X5_save hs) rfl rfl rfl mk_X5_56 im_X5_save se_X5_save nm_X5_save ⟨by decide, by decide⟩ (Nat.le_of_ble_eq_true rfl) dX5_round_1 ?_
  refine nf_aln (pc := 4) dX5_round_4 rfl ?_
  refine gf_X5_network (pc := 5) lk_X5_12 dX5_round_5 ?_
  refine nf_aln (pc := 8) dX5_round_8 rfl ?_
  refine gf_X5_taken (pc := 9) lk_X5_19 dX5_round_9 ?_
  refine nf_cVi1 (pc := 12) (sp_X3_performRound (hk.save hs)) ⟨(by decide), rfl⟩ rfl rfl mk_X5_105 im_X3_performRound se_X3_performRound nm_X3_performRound ⟨by decide, by decide⟩ (Nat.le_of_ble_eq_true rfl) dX5_round_12 ?_
  exact nf_iret (pc := 15) dX5_round_15
set_option maxRecDepth 100000 in
set_option maxHeartbeats 4000000 in
theorem sp_X5_nextDay {L : nf_L} {S : nf_S} {nl na c : Nat}  (hk : cs_ok S nl na) (hs : cs_sv S c) : nf_Sp L 4 yX5_nextDay cX5_nextDay 1 (some .int) [.ref (L.2.2 (0, 0, 0, 0))] S (some (.int (cs_day na 6 (nf_sI (cs_save S c) 0 0 0 (nf_I (cs_save S c) 0 0 0 + 1)) 0 0).2)) (cs_day na 6 (nf_sI (cs_save S c) 0 0 0 (nf_I (cs_save S c) 0 0 0 + 1)) 0 0).1 := by
  refine nf_start (own := RX5) (ls0 := [some (.ref (L.2.2 (0, 0, 0, 0)))]) (by decide) (Nat.le_of_ble_eq_true rfl) rfl rfl ?_
  refine nf_aln (pc := 0) dX5_nextDay_0 rfl ?_
  refine nf_cVv0 (pc := 1) (sp_X5_save hs) rfl rfl rfl mk_X5_56 im_X5_save se_X5_save nm_X5_save ⟨by decide, by decide⟩ (Nat.le_of_ble_eq_true rfl) dX5_nextDay_1 ?_
  refine nf_aln (pc := 4) dX5_nextDay_4 rfl ?_
  refine gf_X5_network (pc := 5) lk_X5_12 dX5_nextDay_5 ?_
  refine nf_cVi0 (pc := 8) (sp_X3_beginDay (hk.save hs)) ⟨(by decide), rfl⟩ rfl rfl mk_X5_116 im_X3_beginDay se_X3_beginDay nm_X3_beginDay ⟨by decide, by decide⟩ (Nat.le_of_ble_eq_true rfl) dX5_nextDay_8 ?_
  exact nf_iret (pc := 11) dX5_nextDay_11
theorem cs_ok.rnd {S : nf_S} {nl na : Nat} (h : cs_ok S nl na) : cs_ok (cs_rnd S na).1 nl na := (cs_ok_cpq h).same (cs_same_art na _ 0 0)
set_option maxRecDepth 100000 in
set_option maxHeartbeats 4000000 in
theorem lp_settle {L : nf_L} {nl na : Nat}  : ∀ (m : Nat) (S : nf_S) (k : Nat), (k + m = 6) → (cs_ok S nl na) → nf_V L 6 cX5_settle RX5 2 (some .int) (some (.int (nI (cs_stl na m S k).2))) (cs_stl na m S k).1 6 [some (.ref (L.2.2 (0, 0, 0, 0))), some (.int (nI k))] [] S := by
  intro m
  induction m with
  | zero =>
    intro S k hkm hk
    refine nf_iln (pc := 6) dX5_settle_6 rfl ?_
    refine nf_bipush (pc := 7) (v := 6) dX5_settle_7 (by decide) ?_
    refine nf_ic_ge (pc := 9) 43 dX5_settle_9 (by decide) (fun c_9 => ?_) (fun c_9 => ?_)
    · refine nf_iln (pc := 43) dX5_settle_43 rfl ?_
      exact (nf_iret (pc := 44) dX5_settle_44)
    · exact absurd (nI_le (a := 6) (by omega) (by omega)) c_9
  | succ m ih =>
    intro S k hkm hk
    refine nf_iln (pc := 6) dX5_settle_6 rfl ?_
    refine nf_bipush (pc := 7) (v := 6) dX5_settle_7 (by decide) ?_
    refine nf_ic_ge (pc := 9) 43 dX5_settle_9 (by decide) (fun c_9 => ?_) (fun c_9 => ?_)
    · exact absurd c_9 (nI_ge (b := 6) (by omega) (by omega))
    · refine nf_aln (pc := 12) dX5_settle_12 rfl ?_
      refine gf_X5_network (pc := 13) lk_X5_12 dX5_settle_13 ?_
      refine gf_X3_queue (by decide) (pc := 16) lk_X5_109 dX5_settle_16 ?_
      refine nf_cVi0 (pc := 19) (sp_X4_size (by decide)) ⟨(by decide), rfl⟩ rfl rfl mk_X5_112 im_X4_size se_X4_size nm_X4_size ⟨by decide, by decide⟩ (Nat.le_of_ble_eq_true rfl) dX5_settle_19 ?_
      refine nf_if_le (pc := 22) 43 dX5_settle_22 (by decide) (fun c_22 => ?_) (fun c_22 => ?_)
      · refine nf_iln (pc := 43) dX5_settle_43 rfl ?_
        exact nf_to (by simp [cs_stl, c_22]) (by simp [cs_stl, c_22]) (nf_iret (pc := 44) dX5_settle_44)
      · refine nf_aln (pc := 25) dX5_settle_25 rfl ?_
        refine gf_X5_network (pc := 26) lk_X5_12 dX5_settle_26 ?_
        refine nf_aln (pc := 29) dX5_settle_29 rfl ?_
        refine gf_X5_taken (pc := 30) lk_X5_19 dX5_settle_30 ?_
        refine nf_cVi1 (pc := 33) (sp_X3_performRound hk) ⟨(by decide), rfl⟩ rfl rfl mk_X5_105 im_X3_performRound se_X3_performRound nm_X3_performRound ⟨by decide, by decide⟩ (Nat.le_of_ble_eq_true rfl) dX5_settle_33 ?_
        refine nf_pop (pc := 36) dX5_settle_36 rfl ?_
        refine nf_iinc1 (pc := 37) (v := nI (k + 1)) dX5_settle_37 (nI_succ (k)).symm rfl (by decide) ?_
        refine nf_goto (pc := 40) 6 dX5_settle_40 (by decide) ?_
        exact nf_to (by simp [cs_stl, c_22]) (by simp [cs_stl, c_22]) (ih _ (k + 1) (by omega) hk.rnd)
set_option maxRecDepth 100000 in
set_option maxHeartbeats 4000000 in
theorem sp_X5_settle {L : nf_L} {S : nf_S} {nl na c : Nat}  (hk : cs_ok S nl na) (hs : cs_sv S c) : nf_Sp L 6 yX5_settle cX5_settle 2 (some .int) [.ref (L.2.2 (0, 0, 0, 0))] S (some (.int (nI (cs_stl na 6 (cs_save S c) 0).2))) (cs_stl na 6 (cs_save S c) 0).1 := by
  refine nf_start (own := RX5) (ls0 := [some (.ref (L.2.2 (0, 0, 0, 0))), none]) (by decide) (Nat.le_of_ble_eq_true rfl) rfl rfl ?_
  refine nf_aln (pc := 0) dX5_settle_0 rfl ?_
  refine nf_cVv0 (pc := 1) (sp_X5_save hs) rfl rfl rfl mk_X5_56 im_X5_save se_X5_save nm_X5_save ⟨by decide, by decide⟩ (Nat.le_of_ble_eq_true rfl) dX5_settle_1 ?_
  refine nf_iconst (pc := 4) (v := 0) dX5_settle_4 (by decide) ?_
  refine nf_is1 (pc := 5) dX5_settle_5 rfl (by decide) ?_
  exact lp_settle 6 _ 0 (by omega) (hk.save hs)
set_option maxRecDepth 100000 in
set_option maxHeartbeats 4000000 in
theorem sp_X5_isStored {L : nf_L} {S : nf_S} {nl na : Nat} {x a : Int32} (hk : cs_ok S nl na) : nf_Sp L 2 yX5_isStored cX5_isStored 3 (some .int) [.ref (L.2.2 (0, 0, 0, 0)), .int x, .int a] S (some (.int (cq_isStored na S x a).2)) (cq_isStored na S x a).1 := by
  refine nf_start (own := RX5) (ls0 := [some (.ref (L.2.2 (0, 0, 0, 0))), some (.int x), some (.int a)]) (by decide) (Nat.le_of_ble_eq_true rfl) rfl rfl ?_
  refine nf_iln (pc := 0) dX5_isStored_0 rfl ?_
  refine nf_bipush (pc := 1) (v := 6) dX5_isStored_1 (by decide) ?_
  refine nf_cSi2 (pc := 3) sp_X5_isBelow mk_X5_35 st_X5_isBelow nm_X5_isBelow ⟨by decide, by decide⟩ (Nat.le_of_ble_eq_true rfl) dX5_isStored_3 ?_
  refine nf_if_eqB (pc := 6) 17 dX5_isStored_6 (by decide) (fun c_6 => ?_) (fun c_6 => ?_)
  · refine nf_aln (pc := 17) dX5_isStored_17 rfl ?_
    refine nf_bipush (pc := 18) (v := (-2)) dX5_isStored_18 (by decide) ?_
    refine nf_cVi1 (pc := 20) (sp_X5_fail cf_slot2 (by decide)) rfl rfl rfl mk_X5_39 im_X5_fail se_X5_fail nm_X5_fail ⟨by decide, by decide⟩ (Nat.le_of_ble_eq_true rfl) dX5_isStored_20 ?_
    exact nf_to (by simp [cq_isStored, nf_b, c_6] <;> rfl) (by simp [cq_isStored, nf_b, c_6] <;> rfl) (nf_iret (pc := 23) dX5_isStored_23)
  · refine nf_aln (pc := 9) dX5_isStored_9 rfl ?_
    refine nf_iln (pc := 10) dX5_isStored_10 rfl ?_
    refine nf_cVi1 (pc := 11) (sp_X5_isArticle hk) rfl rfl rfl mk_X5_93 im_X5_isArticle se_X5_isArticle nm_X5_isArticle ⟨by decide, by decide⟩ (Nat.le_of_ble_eq_true rfl) dX5_isStored_11 ?_
    refine nf_if_neB (pc := 14) 24 dX5_isStored_14 (by decide) (fun c_14 => ?_) (fun c_14 => ?_)
    · refine nf_aln (pc := 24) dX5_isStored_24 rfl ?_
      refine gf_X5_network (pc := 25) lk_X5_12 dX5_isStored_25 ?_
      refine gf_X3_hosts (by decide) (pc := 28) lk_X5_70 dX5_isStored_28 ?_
      refine nf_iln (pc := 31) dX5_isStored_31 rfl ?_
      refine nf_hald (pc := 32) (by decide) (cf_below_in (by decide) c_6) dX5_isStored_32 ?_
      refine nf_topR (p2 := (4, 0, 0, cf_num x)) rfl ?_
      refine nf_iln (pc := 33) dX5_isStored_33 rfl ?_
      refine nf_cVi1 (pc := 34) (sp_X1_stores (by decide) (cf_below_lt (n := 6) (by decide) c_6)) (nf_ok4 (by decide) (cf_below_lt (by decide) c_6)) rfl rfl mk_X5_119 im_X1_stores se_X1_stores nm_X1_stores ⟨by decide, by decide⟩ (Nat.le_of_ble_eq_true rfl) dX5_isStored_34 ?_
      refine nf_if_eqB (pc := 37) 44 dX5_isStored_37 (by decide) (fun c_37 => ?_) (fun c_37 => ?_)
      · refine nf_iconst (pc := 44) (v := 0) dX5_isStored_44 (by decide) ?_
        exact nf_to (by simp [cq_isStored, nf_b, c_6, c_14, c_37] <;> rfl) (by simp [cq_isStored, nf_b, c_6, c_14, c_37] <;> rfl) (nf_iret (pc := 45) dX5_isStored_45)
      · refine nf_iconst (pc := 40) (v := 1) dX5_isStored_40 (by decide) ?_
        refine nf_goto (pc := 41) 45 dX5_isStored_41 (by decide) ?_
        exact nf_to (by simp [cq_isStored, nf_b, c_6, c_14, c_37] <;> rfl) (by simp [cq_isStored, nf_b, c_6, c_14, c_37] <;> rfl) (nf_iret (pc := 45) dX5_isStored_45)
    · refine nf_aln (pc := 17) dX5_isStored_17 rfl ?_
      refine nf_bipush (pc := 18) (v := (-2)) dX5_isStored_18 (by decide) ?_
      refine nf_cVi1 (pc := 20) (sp_X5_fail cf_slot2 (by decide)) rfl rfl rfl mk_X5_39 im_X5_fail se_X5_fail nm_X5_fail ⟨by decide, by decide⟩ (Nat.le_of_ble_eq_true rfl) dX5_isStored_20 ?_
      exact nf_to (by simp [cq_isStored, nf_b, c_6, c_14] <;> rfl) (by simp [cq_isStored, nf_b, c_6, c_14] <;> rfl) (nf_iret (pc := 23) dX5_isStored_23)
set_option maxRecDepth 100000 in
set_option maxHeartbeats 4000000 in
theorem sp_X5_knownSince {L : nf_L} {S : nf_S} {nl na : Nat} {x a : Int32} (hk : cs_ok S nl na) : nf_Sp L 2 yX5_knownSince cX5_knownSince 3 (some .int) [.ref (L.2.2 (0, 0, 0, 0)), .int x, .int a] S (some (.int (cq_knownSince na S x a).2)) (cq_knownSince na S x a).1 := by
  refine nf_start (own := RX5) (ls0 := [some (.ref (L.2.2 (0, 0, 0, 0))), some (.int x), some (.int a)]) (by decide) (Nat.le_of_ble_eq_true rfl) rfl rfl ?_
  refine nf_iln (pc := 0) dX5_knownSince_0 rfl ?_
  refine nf_bipush (pc := 1) (v := 6) dX5_knownSince_1 (by decide) ?_
  refine nf_cSi2 (pc := 3) sp_X5_isBelow mk_X5_35 st_X5_isBelow nm_X5_isBelow ⟨by decide, by decide⟩ (Nat.le_of_ble_eq_true rfl) dX5_knownSince_3 ?_
  refine nf_if_eqB (pc := 6) 17 dX5_knownSince_6 (by decide) (fun c_6 => ?_) (fun c_6 => ?_)
  · refine nf_aln (pc := 17) dX5_knownSince_17 rfl ?_
    refine nf_bipush (pc := 18) (v := (-2)) dX5_knownSince_18 (by decide) ?_
    refine nf_cVi1 (pc := 20) (sp_X5_fail cf_slot2 (by decide)) rfl rfl rfl mk_X5_39 im_X5_fail se_X5_fail nm_X5_fail ⟨by decide, by decide⟩ (Nat.le_of_ble_eq_true rfl) dX5_knownSince_20 ?_
    exact nf_to (by simp [cq_knownSince, c_6] <;> rfl) (by simp [cq_knownSince, c_6] <;> rfl) (nf_iret (pc := 23) dX5_knownSince_23)
  · refine nf_aln (pc := 9) dX5_knownSince_9 rfl ?_
    refine nf_iln (pc := 10) dX5_knownSince_10 rfl ?_
    refine nf_cVi1 (pc := 11) (sp_X5_isArticle hk) rfl rfl rfl mk_X5_93 im_X5_isArticle se_X5_isArticle nm_X5_isArticle ⟨by decide, by decide⟩ (Nat.le_of_ble_eq_true rfl) dX5_knownSince_11 ?_
    refine nf_if_neB (pc := 14) 24 dX5_knownSince_14 (by decide) (fun c_14 => ?_) (fun c_14 => ?_)
    · have h30 := hk.2.1
      have ha := cf_below_lt (by omega) c_14
      have ha2 := cf_below_eq (by omega) c_14
      refine nf_aln (pc := 24) dX5_knownSince_24 rfl ?_
      refine gf_X5_network (pc := 25) lk_X5_12 dX5_knownSince_25 ?_
      refine gf_X3_hosts (by decide) (pc := 28) lk_X5_70 dX5_knownSince_28 ?_
      refine nf_iln (pc := 31) dX5_knownSince_31 rfl ?_
      refine nf_hald (pc := 32) (by decide) (cf_below_in (by decide) c_6) dX5_knownSince_32 ?_
      refine nf_topR (p2 := (4, 0, 0, cf_num x)) rfl ?_
      refine gf_X1_historyDay (by decide) (cf_below_lt (by decide) c_6) (pc := 33) lk_X5_122 dX5_knownSince_33 ?_
      refine nf_iln (pc := 36) dX5_knownSince_36 rfl ?_
      refine nf_iald (pc := 37) (nf_ok12 (by decide) (cf_below_lt (by decide) c_6)) (by rw [ha2]; exact nf_inI (show _ < 30 by omega) (by decide)) dX5_knownSince_37 ?_
      exact nf_to (by simp [cq_knownSince, c_6, c_14] <;> rfl) (by simp [cq_knownSince, c_6, c_14] <;> rfl) (nf_iret (pc := 38) dX5_knownSince_38)
    · refine nf_aln (pc := 17) dX5_knownSince_17 rfl ?_
      refine nf_bipush (pc := 18) (v := (-2)) dX5_knownSince_18 (by decide) ?_
      refine nf_cVi1 (pc := 20) (sp_X5_fail cf_slot2 (by decide)) rfl rfl rfl mk_X5_39 im_X5_fail se_X5_fail nm_X5_fail ⟨by decide, by decide⟩ (Nat.le_of_ble_eq_true rfl) dX5_knownSince_20 ?_
      exact nf_to (by simp [cq_knownSince, c_6, c_14] <;> rfl) (by simp [cq_knownSince, c_6, c_14] <;> rfl) (nf_iret (pc := 23) dX5_knownSince_23)
set_option maxRecDepth 100000 in
set_option maxHeartbeats 4000000 in
theorem sp_X5_pendingCancels {L : nf_L} {S : nf_S} {x : Int32}   : nf_Sp L 2 yX5_pendingCancels cX5_pendingCancels 2 (some .int) [.ref (L.2.2 (0, 0, 0, 0)), .int x] S (some (.int (cq_pending S x).2)) (cq_pending S x).1 := by
  refine nf_start (own := RX5) (ls0 := [some (.ref (L.2.2 (0, 0, 0, 0))), some (.int x)]) (by decide) (Nat.le_of_ble_eq_true rfl) rfl rfl ?_
  refine nf_iln (pc := 0) dX5_pendingCancels_0 rfl ?_
  refine nf_bipush (pc := 1) (v := 6) dX5_pendingCancels_1 (by decide) ?_
  refine nf_cSi2 (pc := 3) sp_X5_isBelow mk_X5_35 st_X5_isBelow nm_X5_isBelow ⟨by decide, by decide⟩ (Nat.le_of_ble_eq_true rfl) dX5_pendingCancels_3 ?_
  refine nf_if_neB (pc := 6) 16 dX5_pendingCancels_6 (by decide) (fun c_6 => ?_) (fun c_6 => ?_)
  · refine nf_aln (pc := 16) dX5_pendingCancels_16 rfl ?_
    refine gf_X5_network (pc := 17) lk_X5_12 dX5_pendingCancels_17 ?_
    refine gf_X3_hosts (by decide) (pc := 20) lk_X5_70 dX5_pendingCancels_20 ?_
    refine nf_iln (pc := 23) dX5_pendingCancels_23 rfl ?_
    refine nf_hald (pc := 24) (by decide) (cf_below_in (by decide) c_6) dX5_pendingCancels_24 ?_
    refine nf_topR (p2 := (4, 0, 0, cf_num x)) rfl ?_
    refine nf_cVi0 (pc := 25) (sp_X1_countCancels (by decide) (cf_below_lt (n := 6) (by decide) c_6)) (nf_ok4 (by decide) (cf_below_lt (by decide) c_6)) rfl rfl mk_X5_125 im_X1_countCancels se_X1_countCancels nm_X1_countCancels ⟨by decide, by decide⟩ (Nat.le_of_ble_eq_true rfl) dX5_pendingCancels_25 ?_
    exact nf_to (by simp [cq_pending, c_6] <;> rfl) (by simp [cq_pending, c_6] <;> rfl) (nf_iret (pc := 28) dX5_pendingCancels_28)
  · refine nf_aln (pc := 9) dX5_pendingCancels_9 rfl ?_
    refine nf_bipush (pc := 10) (v := (-2)) dX5_pendingCancels_10 (by decide) ?_
    refine nf_cVi1 (pc := 12) (sp_X5_fail cf_slot2 (by decide)) rfl rfl rfl mk_X5_39 im_X5_fail se_X5_fail nm_X5_fail ⟨by decide, by decide⟩ (Nat.le_of_ble_eq_true rfl) dX5_pendingCancels_12 ?_
    exact nf_to (by simp [cq_pending, c_6] <;> rfl) (by simp [cq_pending, c_6] <;> rfl) (nf_iret (pc := 15) dX5_pendingCancels_15)
set_option maxRecDepth 100000 in
set_option maxHeartbeats 4000000 in
theorem lp_holders {L : nf_L} {S : nf_S} {a : Int32}  : ∀ (m : Nat) (k : Nat) (acc : Int32), (k + m = 6) → nf_V L 2 cX5_holders RX5 4 (some .int) (some (.int (cf_hold S a k m acc))) S 19 [some (.ref (L.2.2 (0, 0, 0, 0))), some (.int a), some (.int acc), some (.int (nI k))] [] S := by
  intro m
  induction m with
  | zero =>
    intro k acc hkm
    refine nf_iln (pc := 19) dX5_holders_19 rfl ?_
    refine nf_bipush (pc := 20) (v := 6) dX5_holders_20 (by decide) ?_
    refine nf_ic_ge (pc := 22) 53 dX5_holders_22 (by decide) (fun c_22 => ?_) (fun c_22 => ?_)
    · refine nf_iln (pc := 53) dX5_holders_53 rfl ?_
      exact (nf_iret (pc := 54) dX5_holders_54)
    · exact absurd (nI_le (a := 6) (by omega) (by omega)) c_22
  | succ m ih =>
    intro k acc hkm
    refine nf_iln (pc := 19) dX5_holders_19 rfl ?_
    refine nf_bipush (pc := 20) (v := 6) dX5_holders_20 (by decide) ?_
    refine nf_ic_ge (pc := 22) 53 dX5_holders_22 (by decide) (fun c_22 => ?_) (fun c_22 => ?_)
    · exact absurd c_22 (nI_ge (b := 6) (by omega) (by omega))
    · refine nf_aln (pc := 25) dX5_holders_25 rfl ?_
      refine gf_X5_network (pc := 26) lk_X5_12 dX5_holders_26 ?_
      refine gf_X3_hosts (by decide) (pc := 29) lk_X5_70 dX5_holders_29 ?_
      refine nf_iln (pc := 32) dX5_holders_32 rfl ?_
      refine nf_haldI (pc := 33) (k := k) (by decide) (show _ < 6 by omega) dX5_holders_33 ?_
      refine nf_iln (pc := 34) dX5_holders_34 rfl ?_
      refine nf_cVi1 (pc := 35) (sp_X1_stores (by decide) (show _ < 6 by omega)) (nf_ok4 (by decide) (show _ < 6 by omega)) rfl rfl mk_X5_119 im_X1_stores se_X1_stores nm_X1_stores ⟨by decide, by decide⟩ (Nat.le_of_ble_eq_true rfl) dX5_holders_35 ?_
      refine nf_if_eqB (pc := 38) 47 dX5_holders_38 (by decide) (fun c_38 => ?_) (fun c_38 => ?_)
      · refine nf_iinc3 (pc := 47) (v := nI (k + 1)) dX5_holders_47 (nI_succ (k)).symm rfl (by decide) ?_
        refine nf_goto (pc := 50) 19 dX5_holders_50 (by decide) ?_
        exact nf_to (by simp [cf_hold, c_38] <;> rfl) rfl (ih (k + 1) _ (by omega))
      · refine nf_iln (pc := 41) dX5_holders_41 rfl ?_
        refine nf_iconst (pc := 42) (v := 1) dX5_holders_42 (by decide) ?_
        refine nf_iln (pc := 43) dX5_holders_43 rfl ?_
        refine nf_ishl (pc := 44) dX5_holders_44 ?_
        refine nf_ior (pc := 45) dX5_holders_45 ?_
        refine nf_is2 (pc := 46) dX5_holders_46 rfl (by decide) ?_
        refine nf_iinc3 (pc := 47) (v := nI (k + 1)) dX5_holders_47 (nI_succ (k)).symm rfl (by decide) ?_
        refine nf_goto (pc := 50) 19 dX5_holders_50 (by decide) ?_
        exact nf_to (by simp [cf_hold, c_38] <;> rfl) rfl (ih (k + 1) _ (by omega))
set_option maxRecDepth 100000 in
set_option maxHeartbeats 4000000 in
theorem sp_X5_holders {L : nf_L} {S : nf_S} {nl na : Nat} {a : Int32} (hk : cs_ok S nl na) : nf_Sp L 2 yX5_holders cX5_holders 4 (some .int) [.ref (L.2.2 (0, 0, 0, 0)), .int a] S (some (.int (cq_holders na S a).2)) (cq_holders na S a).1 := by
  refine nf_start (own := RX5) (ls0 := [some (.ref (L.2.2 (0, 0, 0, 0))), some (.int a), none, none]) (by decide) (Nat.le_of_ble_eq_true rfl) rfl rfl ?_
  refine nf_aln (pc := 0) dX5_holders_0 rfl ?_
  refine nf_iln (pc := 1) dX5_holders_1 rfl ?_
  refine nf_cVi1 (pc := 2) (sp_X5_isArticle hk) rfl rfl rfl mk_X5_93 im_X5_isArticle se_X5_isArticle nm_X5_isArticle ⟨by decide, by decide⟩ (Nat.le_of_ble_eq_true rfl) dX5_holders_2 ?_
  refine nf_if_neB (pc := 5) 15 dX5_holders_5 (by decide) (fun c_5 => ?_) (fun c_5 => ?_)
  · refine nf_iconst (pc := 15) (v := 0) dX5_holders_15 (by decide) ?_
    refine nf_is2 (pc := 16) dX5_holders_16 rfl (by decide) ?_
    refine nf_iconst (pc := 17) (v := 0) dX5_holders_17 (by decide) ?_
    refine nf_is3 (pc := 18) dX5_holders_18 rfl (by decide) ?_
    exact nf_to (by simp [cq_holders, c_5]) (by simp [cq_holders, c_5]) (lp_holders 6 0 0 (by omega))
  · refine nf_aln (pc := 8) dX5_holders_8 rfl ?_
    refine nf_bipush (pc := 9) (v := (-2)) dX5_holders_9 (by decide) ?_
    refine nf_cVi1 (pc := 11) (sp_X5_fail cf_slot2 (by decide)) rfl rfl rfl mk_X5_39 im_X5_fail se_X5_fail nm_X5_fail ⟨by decide, by decide⟩ (Nat.le_of_ble_eq_true rfl) dX5_holders_11 ?_
    exact nf_to (by simp [cq_holders, c_5] <;> rfl) (by simp [cq_holders, c_5] <;> rfl) (nf_iret (pc := 14) dX5_holders_14)
set_option maxRecDepth 100000 in
set_option maxHeartbeats 4000000 in
theorem lp_inGroup {L : nf_L} {S : nf_S} {x g : Int32} {nl na : Nat} (hk : cs_ok S nl na) (hx : cf_below x 6 = true) : ∀ (m : Nat) (k : Nat) (acc : Int32), (k + m = na) → nf_V L 2 cX5_storedInGroup RX5 5 (some .int) (some (.int (cf_sig S (cf_num x) g k m acc))) S 29 [some (.ref (L.2.2 (0, 0, 0, 0))), some (.int x), some (.int g), some (.int acc), some (.int (nI k))] [] S := by
  intro m
  induction m with
  | zero =>
    intro k acc hkm
    have h30 := hk.2.1
    refine nf_il (pc := 29) dX5_storedInGroup_29 rfl ?_
    refine nf_aln (pc := 31) dX5_storedInGroup_31 rfl ?_
    refine gf_X5_network (pc := 32) lk_X5_12 dX5_storedInGroup_32 ?_
    refine gf_X3_articles (by decide) (pc := 35) lk_X5_96 dX5_storedInGroup_35 ?_
    refine gf_X0_count (by decide) (pc := 38) lk_X5_128 dX5_storedInGroup_38 ?_
    refine nf_topI (y := nI (na)) hk.2.2.2.1 ?_
    refine nf_ic_ge (pc := 41) 87 dX5_storedInGroup_41 (by decide) (fun c_41 => ?_) (fun c_41 => ?_)
    · refine nf_iln (pc := 87) dX5_storedInGroup_87 rfl ?_
      exact (nf_iret (pc := 88) dX5_storedInGroup_88)
    · exact absurd (nI_le (by omega) (by omega)) c_41
  | succ m ih =>
    intro k acc hkm
    have h30 := hk.2.1
    refine nf_il (pc := 29) dX5_storedInGroup_29 rfl ?_
    refine nf_aln (pc := 31) dX5_storedInGroup_31 rfl ?_
    refine gf_X5_network (pc := 32) lk_X5_12 dX5_storedInGroup_32 ?_
    refine gf_X3_articles (by decide) (pc := 35) lk_X5_96 dX5_storedInGroup_35 ?_
    refine gf_X0_count (by decide) (pc := 38) lk_X5_128 dX5_storedInGroup_38 ?_
    refine nf_topI (y := nI (na)) hk.2.2.2.1 ?_
    refine nf_ic_ge (pc := 41) 87 dX5_storedInGroup_41 (by decide) (fun c_41 => ?_) (fun c_41 => ?_)
    · exact absurd c_41 (nI_ge (by omega) (by omega))
    · refine nf_aln (pc := 44) dX5_storedInGroup_44 rfl ?_
      refine gf_X5_network (pc := 45) lk_X5_12 dX5_storedInGroup_45 ?_
      refine gf_X3_articles (by decide) (pc := 48) lk_X5_96 dX5_storedInGroup_48 ?_
      refine gf_X0_group (by decide) (pc := 51) lk_X5_100 dX5_storedInGroup_51 ?_
      refine nf_il (pc := 54) dX5_storedInGroup_54 rfl ?_
      refine nf_ialdI (pc := 56) (k := k) (nf_okA (by decide) (by decide)) (show _ < 30 by omega) dX5_storedInGroup_56 ?_
      refine nf_iln (pc := 57) dX5_storedInGroup_57 rfl ?_
      refine nf_ic_ne (pc := 58) 81 dX5_storedInGroup_58 (by decide) (fun c_58 => ?_) (fun c_58 => ?_)
      · refine nf_iinc4 (pc := 81) (v := nI (k + 1)) dX5_storedInGroup_81 (nI_succ (k)).symm rfl (by decide) ?_
        refine nf_goto (pc := 84) 29 dX5_storedInGroup_84 (by decide) ?_
        exact nf_to (by simp [cf_sig, c_58] <;> rfl) rfl (ih (k + 1) _ (by omega))
      · refine nf_aln (pc := 61) dX5_storedInGroup_61 rfl ?_
        refine gf_X5_network (pc := 62) lk_X5_12 dX5_storedInGroup_62 ?_
        refine gf_X3_hosts (by decide) (pc := 65) lk_X5_70 dX5_storedInGroup_65 ?_
        refine nf_iln (pc := 68) dX5_storedInGroup_68 rfl ?_
        refine nf_hald (pc := 69) (by decide) (cf_below_in (by decide) hx) dX5_storedInGroup_69 ?_
        refine nf_topR (p2 := (4, 0, 0, cf_num x)) rfl ?_
        refine nf_il (pc := 70) dX5_storedInGroup_70 rfl ?_
        refine nf_cVi1 (pc := 72) (sp_X1_stores (by decide) (cf_below_lt (n := 6) (by decide) hx)) (nf_ok4 (by decide) (cf_below_lt (by decide) hx)) rfl rfl mk_X5_119 im_X1_stores se_X1_stores nm_X1_stores ⟨by decide, by decide⟩ (Nat.le_of_ble_eq_true rfl) dX5_storedInGroup_72 ?_
        refine nf_if_eqB (pc := 75) 81 dX5_storedInGroup_75 (by decide) (fun c_75 => ?_) (fun c_75 => ?_)
        · refine nf_iinc4 (pc := 81) (v := nI (k + 1)) dX5_storedInGroup_81 (nI_succ (k)).symm rfl (by decide) ?_
          refine nf_goto (pc := 84) 29 dX5_storedInGroup_84 (by decide) ?_
          exact nf_to (by simp [cf_sig, c_58, c_75] <;> rfl) rfl (ih (k + 1) _ (by omega))
        · refine nf_iincP3 (pc := 78) dX5_storedInGroup_78 rfl (by decide) ?_
          refine nf_iinc4 (pc := 81) (v := nI (k + 1)) dX5_storedInGroup_81 (nI_succ (k)).symm rfl (by decide) ?_
          refine nf_goto (pc := 84) 29 dX5_storedInGroup_84 (by decide) ?_
          exact nf_to (by simp [cf_sig, c_58, c_75] <;> rfl) rfl (ih (k + 1) _ (by omega))
set_option maxRecDepth 100000 in
set_option maxHeartbeats 4000000 in
theorem sp_X5_storedInGroup {L : nf_L} {S : nf_S} {nl na : Nat} {x g : Int32} (hk : cs_ok S nl na) : nf_Sp L 2 yX5_storedInGroup cX5_storedInGroup 5 (some .int) [.ref (L.2.2 (0, 0, 0, 0)), .int x, .int g] S (some (.int (cq_inGroup na S x g).2)) (cq_inGroup na S x g).1 := by
  refine nf_start (own := RX5) (ls0 := [some (.ref (L.2.2 (0, 0, 0, 0))), some (.int x), some (.int g), none, none]) (by decide) (Nat.le_of_ble_eq_true rfl) rfl rfl ?_
  refine nf_iln (pc := 0) dX5_storedInGroup_0 rfl ?_
  refine nf_bipush (pc := 1) (v := 6) dX5_storedInGroup_1 (by decide) ?_
  refine nf_cSi2 (pc := 3) sp_X5_isBelow mk_X5_35 st_X5_isBelow nm_X5_isBelow ⟨by decide, by decide⟩ (Nat.le_of_ble_eq_true rfl) dX5_storedInGroup_3 ?_
  refine nf_if_eqB (pc := 6) 17 dX5_storedInGroup_6 (by decide) (fun c_6 => ?_) (fun c_6 => ?_)
  · refine nf_aln (pc := 17) dX5_storedInGroup_17 rfl ?_
    refine nf_bipush (pc := 18) (v := (-2)) dX5_storedInGroup_18 (by decide) ?_
    refine nf_cVi1 (pc := 20) (sp_X5_fail cf_slot2 (by decide)) rfl rfl rfl mk_X5_39 im_X5_fail se_X5_fail nm_X5_fail ⟨by decide, by decide⟩ (Nat.le_of_ble_eq_true rfl) dX5_storedInGroup_20 ?_
    exact nf_to (by simp [cq_inGroup, c_6] <;> rfl) (by simp [cq_inGroup, c_6] <;> rfl) (nf_iret (pc := 23) dX5_storedInGroup_23)
  · refine nf_iln (pc := 9) dX5_storedInGroup_9 rfl ?_
    refine nf_iconst (pc := 10) (v := 4) dX5_storedInGroup_10 (by decide) ?_
    refine nf_cSi2 (pc := 11) sp_X5_isBelow mk_X5_35 st_X5_isBelow nm_X5_isBelow ⟨by decide, by decide⟩ (Nat.le_of_ble_eq_true rfl) dX5_storedInGroup_11 ?_
    refine nf_if_neB (pc := 14) 24 dX5_storedInGroup_14 (by decide) (fun c_14 => ?_) (fun c_14 => ?_)
    · refine nf_iconst (pc := 24) (v := 0) dX5_storedInGroup_24 (by decide) ?_
      refine nf_is3 (pc := 25) dX5_storedInGroup_25 rfl (by decide) ?_
      refine nf_iconst (pc := 26) (v := 0) dX5_storedInGroup_26 (by decide) ?_
      refine nf_is4 (pc := 27) dX5_storedInGroup_27 rfl (by decide) ?_
      exact nf_to (by simp [cq_inGroup, c_6, c_14]) (by simp [cq_inGroup, c_6, c_14]) (lp_inGroup hk c_6 na 0 0 (by omega))
    · refine nf_aln (pc := 17) dX5_storedInGroup_17 rfl ?_
      refine nf_bipush (pc := 18) (v := (-2)) dX5_storedInGroup_18 (by decide) ?_
      refine nf_cVi1 (pc := 20) (sp_X5_fail cf_slot2 (by decide)) rfl rfl rfl mk_X5_39 im_X5_fail se_X5_fail nm_X5_fail ⟨by decide, by decide⟩ (Nat.le_of_ble_eq_true rfl) dX5_storedInGroup_20 ?_
      exact nf_to (by simp [cq_inGroup, c_6, c_14] <;> rfl) (by simp [cq_inGroup, c_6, c_14] <;> rfl) (nf_iret (pc := 23) dX5_storedInGroup_23)
set_option maxRecDepth 100000 in
set_option maxHeartbeats 4000000 in
theorem lp_distance {L : nf_L} {S : nf_S} {a b : Int32} {nl na : Nat} (hk : cs_ok S nl na) : ∀ (m : Nat) (k : Nat) (s : Int32), (k + m = 6) → nf_V L 2 cX5_distance RX5 5 (some .int) (some (.int (cf_dst S b m k s))) S 32 [some (.ref (L.2.2 (0, 0, 0, 0))), some (.int a), some (.int b), some (.int s), some (.int (nI k))] [] S := by
  intro m
  induction m with
  | zero =>
    intro k s hkm
    refine nf_il (pc := 32) dX5_distance_32 rfl ?_
    refine nf_bipush (pc := 34) (v := 6) dX5_distance_34 (by decide) ?_
    refine nf_ic_ge (pc := 36) 70 dX5_distance_36 (by decide) (fun c_36 => ?_) (fun c_36 => ?_)
    · refine nf_iconst (pc := 70) (v := (-1)) dX5_distance_70 (by decide) ?_
      exact (nf_iret (pc := 71) dX5_distance_71)
    · exact absurd (nI_le (a := 6) (by omega) (by omega)) c_36
  | succ m ih =>
    intro k s hkm
    refine nf_il (pc := 32) dX5_distance_32 rfl ?_
    refine nf_bipush (pc := 34) (v := 6) dX5_distance_34 (by decide) ?_
    refine nf_ic_ge (pc := 36) 70 dX5_distance_36 (by decide) (fun c_36 => ?_) (fun c_36 => ?_)
    · exact absurd c_36 (nI_ge (b := 6) (by omega) (by omega))
    · refine nf_iln (pc := 39) dX5_distance_39 rfl ?_
      refine nf_iln (pc := 40) dX5_distance_40 rfl ?_
      refine nf_cSi2 (pc := 41) sp_X5_has mk_X5_129 st_X5_has nm_X5_has ⟨by decide, by decide⟩ (Nat.le_of_ble_eq_true rfl) dX5_distance_41 ?_
      refine nf_if_eqB (pc := 44) 50 dX5_distance_44 (by decide) (fun c_44 => ?_) (fun c_44 => ?_)
      · refine nf_iln (pc := 50) dX5_distance_50 rfl ?_
        refine nf_aln (pc := 51) dX5_distance_51 rfl ?_
        refine gf_X5_network (pc := 52) lk_X5_12 dX5_distance_52 ?_
        refine gf_X3_links (by decide) (pc := 55) lk_X5_43 dX5_distance_55 ?_
        refine nf_iln (pc := 58) dX5_distance_58 rfl ?_
        refine nf_cVi1 (pc := 59) (sp_nbr hk) ⟨(by decide), rfl⟩ rfl rfl mk_X5_132 im_X2_neighboursOf se_X2_neighboursOf nm_X2_neighboursOf ⟨by decide, by decide⟩ (Nat.le_of_ble_eq_true rfl) dX5_distance_59 ?_
        refine nf_ior (pc := 62) dX5_distance_62 ?_
        refine nf_is3 (pc := 63) dX5_distance_63 rfl (by decide) ?_
        refine nf_iinc4 (pc := 64) (v := nI (k + 1)) dX5_distance_64 (nI_succ (k)).symm rfl (by decide) ?_
        refine nf_goto (pc := 67) 32 dX5_distance_67 (by decide) ?_
        exact nf_to (by simp [cf_dst, c_44]) rfl (ih (k + 1) _ (by omega))
      · refine nf_il (pc := 47) dX5_distance_47 rfl ?_
        exact nf_to (by simp [cf_dst, c_44]) rfl (nf_iret (pc := 49) dX5_distance_49)
set_option maxRecDepth 100000 in
set_option maxHeartbeats 4000000 in
theorem sp_X5_distance {L : nf_L} {S : nf_S} {nl na : Nat} {a b : Int32} (hk : cs_ok S nl na) : nf_Sp L 2 yX5_distance cX5_distance 5 (some .int) [.ref (L.2.2 (0, 0, 0, 0)), .int a, .int b] S (some (.int (cq_distance S a b).2)) (cq_distance S a b).1 := by
  refine nf_start (own := RX5) (ls0 := [some (.ref (L.2.2 (0, 0, 0, 0))), some (.int a), some (.int b), none, none]) (by decide) (Nat.le_of_ble_eq_true rfl) rfl rfl ?_
  refine nf_iln (pc := 0) dX5_distance_0 rfl ?_
  refine nf_bipush (pc := 1) (v := 6) dX5_distance_1 (by decide) ?_
  refine nf_cSi2 (pc := 3) sp_X5_isBelow mk_X5_35 st_X5_isBelow nm_X5_isBelow ⟨by decide, by decide⟩ (Nat.le_of_ble_eq_true rfl) dX5_distance_3 ?_
  refine nf_if_eqB (pc := 6) 18 dX5_distance_6 (by decide) (fun c_6 => ?_) (fun c_6 => ?_)
  · refine nf_aln (pc := 18) dX5_distance_18 rfl ?_
    refine nf_bipush (pc := 19) (v := (-2)) dX5_distance_19 (by decide) ?_
    refine nf_cVi1 (pc := 21) (sp_X5_fail cf_slot2 (by decide)) rfl rfl rfl mk_X5_39 im_X5_fail se_X5_fail nm_X5_fail ⟨by decide, by decide⟩ (Nat.le_of_ble_eq_true rfl) dX5_distance_21 ?_
    exact nf_to (by simp [cq_distance, c_6] <;> rfl) (by simp [cq_distance, c_6] <;> rfl) (nf_iret (pc := 24) dX5_distance_24)
  · refine nf_iln (pc := 9) dX5_distance_9 rfl ?_
    refine nf_bipush (pc := 10) (v := 6) dX5_distance_10 (by decide) ?_
    refine nf_cSi2 (pc := 12) sp_X5_isBelow mk_X5_35 st_X5_isBelow nm_X5_isBelow ⟨by decide, by decide⟩ (Nat.le_of_ble_eq_true rfl) dX5_distance_12 ?_
    refine nf_if_neB (pc := 15) 25 dX5_distance_15 (by decide) (fun c_15 => ?_) (fun c_15 => ?_)
    · refine nf_iconst (pc := 25) (v := 1) dX5_distance_25 (by decide) ?_
      refine nf_iln (pc := 26) dX5_distance_26 rfl ?_
      refine nf_ishl (pc := 27) dX5_distance_27 ?_
      refine nf_is3 (pc := 28) dX5_distance_28 rfl (by decide) ?_
      refine nf_iconst (pc := 29) (v := 0) dX5_distance_29 (by decide) ?_
      refine nf_is4 (pc := 30) dX5_distance_30 rfl (by decide) ?_
      exact nf_to (by simp [cq_distance, c_6, c_15] <;> rfl) (by simp [cq_distance, c_6, c_15]) (lp_distance hk 6 0 _ (by omega))
    · refine nf_aln (pc := 18) dX5_distance_18 rfl ?_
      refine nf_bipush (pc := 19) (v := (-2)) dX5_distance_19 (by decide) ?_
      refine nf_cVi1 (pc := 21) (sp_X5_fail cf_slot2 (by decide)) rfl rfl rfl mk_X5_39 im_X5_fail se_X5_fail nm_X5_fail ⟨by decide, by decide⟩ (Nat.le_of_ble_eq_true rfl) dX5_distance_21 ?_
      exact nf_to (by simp [cq_distance, c_6, c_15] <;> rfl) (by simp [cq_distance, c_6, c_15] <;> rfl) (nf_iret (pc := 24) dX5_distance_24)
set_option maxRecDepth 100000 in
set_option maxHeartbeats 4000000 in
theorem sp_X5_waiting {L : nf_L} {S : nf_S}  : nf_Sp L 2 yX5_waiting cX5_waiting 1 (some .int) [.ref (L.2.2 (0, 0, 0, 0))] S (some (.int (cf_sum (nf_A S 0 10 0) 0 180 0))) S := by
  refine nf_start (own := RX5) (ls0 := [some (.ref (L.2.2 (0, 0, 0, 0)))]) (by decide) (Nat.le_of_ble_eq_true rfl) rfl rfl ?_
  refine nf_aln (pc := 0) dX5_waiting_0 rfl ?_
  refine gf_X5_network (pc := 1) lk_X5_12 dX5_waiting_1 ?_
  refine gf_X3_queue (by decide) (pc := 4) lk_X5_109 dX5_waiting_4 ?_
  refine nf_cVi0 (pc := 7) (sp_X4_size (by decide)) ⟨(by decide), rfl⟩ rfl rfl mk_X5_112 im_X4_size se_X4_size nm_X4_size ⟨by decide, by decide⟩ (Nat.le_of_ble_eq_true rfl) dX5_waiting_7 ?_
  exact nf_iret (pc := 10) dX5_waiting_10
set_option maxRecDepth 100000 in
set_option maxHeartbeats 4000000 in
theorem sp_X5_total {L : nf_L} {S : nf_S} {x : Int32}   : nf_Sp L 2 yX5_total cX5_total 2 (some .int) [.ref (L.2.2 (0, 0, 0, 0)), .int x] S (some (.int (cq_total S x).2)) (cq_total S x).1 := by
  refine nf_start (own := RX5) (ls0 := [some (.ref (L.2.2 (0, 0, 0, 0))), some (.int x)]) (by decide) (Nat.le_of_ble_eq_true rfl) rfl rfl ?_
  refine nf_iln (pc := 0) dX5_total_0 rfl ?_
  refine nf_bipush (pc := 1) (v := 6) dX5_total_1 (by decide) ?_
  refine nf_cSi2 (pc := 3) sp_X5_isBelow mk_X5_35 st_X5_isBelow nm_X5_isBelow ⟨by decide, by decide⟩ (Nat.le_of_ble_eq_true rfl) dX5_total_3 ?_
  refine nf_if_neB (pc := 6) 16 dX5_total_6 (by decide) (fun c_6 => ?_) (fun c_6 => ?_)
  · refine nf_aln (pc := 16) dX5_total_16 rfl ?_
    refine gf_X5_network (pc := 17) lk_X5_12 dX5_total_17 ?_
    refine gf_X3_counts (by decide) (pc := 20) lk_X5_135 dX5_total_20 ?_
    refine nf_iln (pc := 23) dX5_total_23 rfl ?_
    refine nf_iald (pc := 24) (nf_okA (by decide) (by decide)) (cf_below_in (by decide) (n := 6) c_6) dX5_total_24 ?_
    exact nf_to (by simp [cq_total, c_6] <;> rfl) (by simp [cq_total, c_6] <;> rfl) (nf_iret (pc := 25) dX5_total_25)
  · refine nf_aln (pc := 9) dX5_total_9 rfl ?_
    refine nf_bipush (pc := 10) (v := (-2)) dX5_total_10 (by decide) ?_
    refine nf_cVi1 (pc := 12) (sp_X5_fail cf_slot2 (by decide)) rfl rfl rfl mk_X5_39 im_X5_fail se_X5_fail nm_X5_fail ⟨by decide, by decide⟩ (Nat.le_of_ble_eq_true rfl) dX5_total_12 ?_
    exact nf_to (by simp [cq_total, c_6] <;> rfl) (by simp [cq_total, c_6] <;> rfl) (nf_iret (pc := 15) dX5_total_15)
set_option maxRecDepth 100000 in
set_option maxHeartbeats 4000000 in
theorem sp_X5_day {L : nf_L} {S : nf_S}  : nf_Sp L 2 yX5_day cX5_day 1 (some .int) [.ref (L.2.2 (0, 0, 0, 0))] S (some (.int (nf_I S 0 0 0))) S := by
  refine nf_start (own := RX5) (ls0 := [some (.ref (L.2.2 (0, 0, 0, 0)))]) (by decide) (Nat.le_of_ble_eq_true rfl) rfl rfl ?_
  refine nf_aln (pc := 0) dX5_day_0 rfl ?_
  refine gf_X5_network (pc := 1) lk_X5_12 dX5_day_1 ?_
  refine gf_X3_today (by decide) (pc := 4) lk_X5_138 dX5_day_4 ?_
  exact nf_iret (pc := 7) dX5_day_7
set_option maxRecDepth 100000 in
set_option maxHeartbeats 4000000 in
theorem sp_X5_undo {L : nf_L} {S : nf_S} {c : Nat}  (hs : cs_sv S c) : nf_Sp L 3 yX5_undo cX5_undo 1 (some .int) [.ref (L.2.2 (0, 0, 0, 0))] S (some (.int (cq_undo c S).2)) (cq_undo c S).1 := by
  have hc4 := hs.1
  refine nf_start (own := RX5) (ls0 := [some (.ref (L.2.2 (0, 0, 0, 0)))]) (by decide) (Nat.le_of_ble_eq_true rfl) rfl rfl ?_
  refine nf_aln (pc := 0) dX5_undo_0 rfl ?_
  refine gf_X5_savedCount (pc := 1) lk_X5_27 dX5_undo_1 ?_
  refine nf_topI (y := nI (c)) hs.2.1 ?_
  refine nf_iconst (pc := 4) (v := 1) dX5_undo_4 (by decide) ?_
  refine nf_ic_ge (pc := 5) 15 dX5_undo_5 (by decide) (fun c_5 => ?_) (fun c_5 => ?_)
  · have hc1 : 1 ≤ c := by
      rcases Nat.lt_or_ge c 1 with h | h
      · exact absurd c_5 (nI_ge (b := 1) h (by decide))
      · exact h
    refine nf_aln (pc := 15) dX5_undo_15 rfl ?_
    refine nf_dup (pc := 16) dX5_undo_16 rfl ?_
    refine gf_X5_savedCount (pc := 17) lk_X5_27 dX5_undo_17 ?_
    refine nf_topI (y := nI (c - 1 + 1)) (by rw [hs.2.1]; congr 1; omega) ?_
    refine nf_iconst (pc := 20) (v := 1) dX5_undo_20 (by decide) ?_
    refine nf_isub (pc := 21) dX5_undo_21 ?_
    refine nf_topI (y := nI (c - 1)) (nf_succ_sub _) ?_
    refine pf_X5_savedCount (pc := 22) lk_X5_27 dX5_undo_22 ?_
    refine nf_aln (pc := 25) dX5_undo_25 rfl ?_
    refine gf_X5_network (pc := 26) lk_X5_12 dX5_undo_26 ?_
    refine nf_aln (pc := 29) dX5_undo_29 rfl ?_
    refine gf_X5_saved (pc := 30) lk_X5_23 dX5_undo_30 ?_
    refine nf_aln (pc := 33) dX5_undo_33 rfl ?_
    refine gf_X5_savedCount (pc := 34) lk_X5_27 dX5_undo_34 ?_
    refine nf_topI (y := nI (c - 1)) rfl ?_
    refine nf_saldI (pc := 37) (k := c - 1) (by omega) dX5_undo_37 ?_
    refine nf_topR (p2 := (1, (nf_v S (c - 1)), 0, 0)) rfl ?_
    refine nf_cVv1 (pc := 38) (sp_X3_copyFrom (by decide) (hs.2.2 _ (by omega)).2 (Nat.ne_of_lt (hs.2.2 _ (by omega)).1)) ⟨(by decide), rfl⟩ rfl rfl mk_X5_141 im_X3_copyFrom se_X3_copyFrom nm_X3_copyFrom ⟨by decide, by decide⟩ (Nat.le_of_ble_eq_true rfl) dX5_undo_38 ?_
    refine nf_aln (pc := 41) dX5_undo_41 rfl ?_
    refine gf_X5_savedCount (pc := 42) lk_X5_27 dX5_undo_42 ?_
    refine nf_topI (y := nI (c - 1)) rfl ?_
    exact nf_to (by simp [cq_undo, c_5] <;> rfl) (by simp [cq_undo, c_5] <;> rfl) (nf_iret (pc := 45) dX5_undo_45)
  · refine nf_aln (pc := 8) dX5_undo_8 rfl ?_
    refine nf_bipush (pc := 9) (v := (-5)) dX5_undo_9 (by decide) ?_
    refine nf_cVi1 (pc := 11) (sp_X5_fail cf_slot5 (by decide)) rfl rfl rfl mk_X5_39 im_X5_fail se_X5_fail nm_X5_fail ⟨by decide, by decide⟩ (Nat.le_of_ble_eq_true rfl) dX5_undo_11 ?_
    exact nf_to (by simp [cq_undo, c_5] <;> rfl) (by simp [cq_undo, c_5] <;> rfl) (nf_iret (pc := 14) dX5_undo_14)
set_option maxRecDepth 100000 in
set_option maxHeartbeats 4000000 in
theorem sp_X5_errorCount {L : nf_L} {S : nf_S} {x : Int32}   : nf_Sp L 2 yX5_errorCount cX5_errorCount 3 (some .int) [.ref (L.2.2 (0, 0, 0, 0)), .int x] S (some (.int (cq_errorCount S x).2)) (cq_errorCount S x).1 := by
  refine nf_start (own := RX5) (ls0 := [some (.ref (L.2.2 (0, 0, 0, 0))), some (.int x), none]) (by decide) (Nat.le_of_ble_eq_true rfl) rfl rfl ?_
  refine nf_iln (pc := 0) dX5_errorCount_0 rfl ?_
  refine nf_cSi1 (pc := 1) sp_X5_errorSlot mk_X5_145 st_X5_errorSlot nm_X5_errorSlot ⟨by decide, by decide⟩ (Nat.le_of_ble_eq_true rfl) dX5_errorCount_1 ?_
  refine nf_is2 (pc := 4) dX5_errorCount_4 rfl (by decide) ?_
  refine nf_iln (pc := 5) dX5_errorCount_5 rfl ?_
  refine nf_iconst (pc := 6) (v := 4) dX5_errorCount_6 (by decide) ?_
  refine nf_cSi2 (pc := 7) sp_X5_isBelow mk_X5_35 st_X5_isBelow nm_X5_isBelow ⟨by decide, by decide⟩ (Nat.le_of_ble_eq_true rfl) dX5_errorCount_7 ?_
  refine nf_if_neB (pc := 10) 20 dX5_errorCount_10 (by decide) (fun c_10 => ?_) (fun c_10 => ?_)
  · refine nf_aln (pc := 20) dX5_errorCount_20 rfl ?_
    refine gf_X5_errors (pc := 21) lk_X5_31 dX5_errorCount_21 ?_
    refine nf_iln (pc := 24) dX5_errorCount_24 rfl ?_
    refine nf_ialdO (pc := 25) (nf_okO (by decide)) (cf_below_in (by decide) (n := 4) c_10) dX5_errorCount_25 ?_
    exact nf_to (by simp [cq_errorCount, c_10] <;> rfl) (by simp [cq_errorCount, c_10] <;> rfl) (nf_iret (pc := 26) dX5_errorCount_26)
  · refine nf_aln (pc := 13) dX5_errorCount_13 rfl ?_
    refine nf_bipush (pc := 14) (v := (-2)) dX5_errorCount_14 (by decide) ?_
    refine nf_cVi1 (pc := 16) (sp_X5_fail cf_slot2 (by decide)) rfl rfl rfl mk_X5_39 im_X5_fail se_X5_fail nm_X5_fail ⟨by decide, by decide⟩ (Nat.le_of_ble_eq_true rfl) dX5_errorCount_16 ?_
    exact nf_to (by simp [cq_errorCount, c_10] <;> rfl) (by simp [cq_errorCount, c_10] <;> rfl) (nf_iret (pc := 19) dX5_errorCount_19)
end
section
/-! digest -/
def cf_mixr (f : Nat → Int32) (k : Nat) : Nat → Int64 → Int64
  | 0, h => h
  | m + 1, h => cf_mixr f (k + 1) m (cf_mix h (f k))
def cf_mixl (S : nf_S) (k : Nat) : Nat → Int64 → Int64
  | 0, h => h
  | m + 1, h => cf_mixl S (k + 1) m (cf_mix (cf_mix (cf_mix h (nf_A S 0 2 0 k)) (nf_A S 0 3 0 k)) (nf_A S 0 4 0 k))
def cf_mixa (S : nf_S) (k : Nat) : Nat → Int64 → Int64
  | 0, h => h
  | m + 1, h => cf_mixa S (k + 1) m (cf_mix (cf_mix (cf_mix (cf_mix (cf_mix h (nf_A S 0 5 0 k)) (nf_A S 0 6 0 k)) (nf_A S 0 7 0 k)) (nf_A S 0 8 0 k)) (nf_A S 0 9 0 k))
def cf_mixs (S : nf_S) (x : Nat) (k : Nat) : Nat → Int64 → Int64
  | 0, h => h
  | m + 1, h => cf_mixs S x (k + 1) m (cf_mix (cf_mix h (nf_b (cf_has (nf_I S 0 5 x) (nI k)))) (nf_A S 0 12 x k))
def cf_mixh (S : nf_S) (x na : Nat) (h : Int64) : Int64 := cf_mixs S x 0 na (cf_mix (cf_mix h (nf_I S 0 4 x)) (cf_sum (nf_A S 0 13 x) 0 30 0))
def cf_mixo (S : nf_S) (na : Nat) (k : Nat) : Nat → Int64 → Int64
  | 0, h => h
  | m + 1, h => cf_mixo S na (k + 1) m (cf_mixh S k na h)
def cf_dig (S : nf_S) (nl na : Nat) : Int64 :=
  cf_mix (cf_mix (cf_mixr (nf_A S 0 1 0) 0 6 (cf_mixo S na 0 6 (cf_mixa S 0 na (cf_mix (cf_mixl S 0 nl (cf_mixr (nf_A S 0 0 0) 0 4 (cf_mix (cf_mix (cf_mixr (nf_O S 0) 0 4 2659) (nf_I S 0 0 0)) (nf_I S 0 1 0)))) (nf_I S 0 3 0))))) (cf_sum (nf_A S 0 10 0) 0 180 0)) (nf_J S 0)
set_option maxRecDepth 100000 in
set_option maxHeartbeats 4000000 in
theorem lp_mixAllE {L : nf_L} {S : nf_S} {h0 : Int64}  : ∀ (m : Nat) (k : Nat) (h : Int64) (o8 : Option Value), (k + m = 4) → nf_V L 1 cX5_mixAll RX5 9 (some .long) (some (.long (cf_mixr (nf_O S 0) k m h))) S 13 [some (.long h0), none, some (.ref (L.2.2 (10, 0, 0, 0))), some (.long h), none, some (.ref (L.2.2 (10, 0, 0, 0))), some (.int (nI 4)), some (.int (nI k)), o8] [] S := by
  intro m
  induction m with
  | zero =>
    intro k h o8 hkm
    refine nf_il (pc := 13) dX5_mixAll_13 rfl ?_
    refine nf_il (pc := 15) dX5_mixAll_15 rfl ?_
    refine nf_ic_ge (pc := 17) 40 dX5_mixAll_17 (by decide) (fun c_17 => ?_) (fun c_17 => ?_)
    · refine nf_lln (pc := 40) dX5_mixAll_40 rfl ?_
      exact (nf_lret (pc := 41) dX5_mixAll_41)
    · exact absurd (nI_le (by omega) (by omega)) c_17
  | succ m ih =>
    intro k h o8 hkm
    refine nf_il (pc := 13) dX5_mixAll_13 rfl ?_
    refine nf_il (pc := 15) dX5_mixAll_15 rfl ?_
    refine nf_ic_ge (pc := 17) 40 dX5_mixAll_17 (by decide) (fun c_17 => ?_) (fun c_17 => ?_)
    · exact absurd c_17 (nI_ge (by omega) (by omega))
    · refine nf_al (pc := 20) dX5_mixAll_20 rfl ?_
      refine nf_il (pc := 22) dX5_mixAll_22 rfl ?_
      refine nf_ialdOI (pc := 24) (k := k) (nf_okO (by decide)) (show _ < 4 by omega) dX5_mixAll_24 ?_
      refine nf_is8 (pc := 25) dX5_mixAll_25 rfl (by decide) ?_
      refine nf_lln (pc := 27) dX5_mixAll_27 rfl ?_
      refine nf_il (pc := 28) dX5_mixAll_28 rfl ?_
      refine nf_cSl2 (pc := 30) sp_X5_mix mk_X5_154 st_X5_mix nm_X5_mix ⟨by decide, by decide⟩ (Nat.le_of_ble_eq_true rfl) dX5_mixAll_30 ?_
      refine nf_ls3 (pc := 33) dX5_mixAll_33 rfl (by decide) ?_
      refine nf_iinc7 (pc := 34) (v := nI (k + 1)) dX5_mixAll_34 (nI_succ (k)).symm rfl (by decide) ?_
      refine nf_goto (pc := 37) 13 dX5_mixAll_37 (by decide) ?_
      exact ih (k + 1) _ _ (by omega)
set_option maxRecDepth 100000 in
set_option maxHeartbeats 4000000 in
theorem sp_mixAllE {L : nf_L} {S : nf_S} {h : Int64}  : nf_Sp L 1 yX5_mixAll cX5_mixAll 9 (some .long) [.long h, .ref (L.2.2 (10, 0, 0, 0))] S (some (.long (cf_mixr (nf_O S 0) 0 4 h))) S := by
  refine nf_start (own := RX5) (ls0 := [some (.long h), none, some (.ref (L.2.2 (10, 0, 0, 0))), none, none, none, none, none, none]) (by decide) (Nat.le_of_ble_eq_true rfl) rfl rfl ?_
  refine nf_lln (pc := 0) dX5_mixAll_0 rfl ?_
  refine nf_ls3 (pc := 1) dX5_mixAll_1 rfl (by decide) ?_
  refine nf_aln (pc := 2) dX5_mixAll_2 rfl ?_
  refine nf_as5 (pc := 3) dX5_mixAll_3 rfl (by decide) ?_
  refine nf_al (pc := 5) dX5_mixAll_5 rfl ?_
  refine nf_alenO (pc := 7) (v := nI 4) (nf_okO (by decide)) rfl dX5_mixAll_7 ?_
  refine nf_is6 (pc := 8) dX5_mixAll_8 rfl (by decide) ?_
  refine nf_iconst (pc := 10) (v := 0) dX5_mixAll_10 (by decide) ?_
  refine nf_is7 (pc := 11) dX5_mixAll_11 rfl (by decide) ?_
  exact lp_mixAllE 4 0 h none (by omega)
set_option maxRecDepth 100000 in
set_option maxHeartbeats 4000000 in
theorem lp_mixAllX {L : nf_L} {S : nf_S} {h0 : Int64}  : ∀ (m : Nat) (k : Nat) (h : Int64) (o8 : Option Value), (k + m = 4) → nf_V L 1 cX5_mixAll RX5 9 (some .long) (some (.long (cf_mixr (nf_A S 0 0 0) k m h))) S 13 [some (.long h0), none, some (.ref (L.2.2 (9, 0, 0, 0))), some (.long h), none, some (.ref (L.2.2 (9, 0, 0, 0))), some (.int (nI 4)), some (.int (nI k)), o8] [] S := by
  intro m
  induction m with
  | zero =>
    intro k h o8 hkm
    refine nf_il (pc := 13) dX5_mixAll_13 rfl ?_
    refine nf_il (pc := 15) dX5_mixAll_15 rfl ?_
    refine nf_ic_ge (pc := 17) 40 dX5_mixAll_17 (by decide) (fun c_17 => ?_) (fun c_17 => ?_)
    · refine nf_lln (pc := 40) dX5_mixAll_40 rfl ?_
      exact (nf_lret (pc := 41) dX5_mixAll_41)
    · exact absurd (nI_le (by omega) (by omega)) c_17
  | succ m ih =>
    intro k h o8 hkm
    refine nf_il (pc := 13) dX5_mixAll_13 rfl ?_
    refine nf_il (pc := 15) dX5_mixAll_15 rfl ?_
    refine nf_ic_ge (pc := 17) 40 dX5_mixAll_17 (by decide) (fun c_17 => ?_) (fun c_17 => ?_)
    · exact absurd c_17 (nI_ge (by omega) (by omega))
    · refine nf_al (pc := 20) dX5_mixAll_20 rfl ?_
      refine nf_il (pc := 22) dX5_mixAll_22 rfl ?_
      refine nf_ialdI (pc := 24) (k := k) (nf_okA (by decide) (by decide)) (show _ < 4 by omega) dX5_mixAll_24 ?_
      refine nf_is8 (pc := 25) dX5_mixAll_25 rfl (by decide) ?_
      refine nf_lln (pc := 27) dX5_mixAll_27 rfl ?_
      refine nf_il (pc := 28) dX5_mixAll_28 rfl ?_
      refine nf_cSl2 (pc := 30) sp_X5_mix mk_X5_154 st_X5_mix nm_X5_mix ⟨by decide, by decide⟩ (Nat.le_of_ble_eq_true rfl) dX5_mixAll_30 ?_
      refine nf_ls3 (pc := 33) dX5_mixAll_33 rfl (by decide) ?_
      refine nf_iinc7 (pc := 34) (v := nI (k + 1)) dX5_mixAll_34 (nI_succ (k)).symm rfl (by decide) ?_
      refine nf_goto (pc := 37) 13 dX5_mixAll_37 (by decide) ?_
      exact ih (k + 1) _ _ (by omega)
set_option maxRecDepth 100000 in
set_option maxHeartbeats 4000000 in
theorem sp_mixAllX {L : nf_L} {S : nf_S} {h : Int64}  : nf_Sp L 1 yX5_mixAll cX5_mixAll 9 (some .long) [.long h, .ref (L.2.2 (9, 0, 0, 0))] S (some (.long (cf_mixr (nf_A S 0 0 0) 0 4 h))) S := by
  refine nf_start (own := RX5) (ls0 := [some (.long h), none, some (.ref (L.2.2 (9, 0, 0, 0))), none, none, none, none, none, none]) (by decide) (Nat.le_of_ble_eq_true rfl) rfl rfl ?_
  refine nf_lln (pc := 0) dX5_mixAll_0 rfl ?_
  refine nf_ls3 (pc := 1) dX5_mixAll_1 rfl (by decide) ?_
  refine nf_aln (pc := 2) dX5_mixAll_2 rfl ?_
  refine nf_as5 (pc := 3) dX5_mixAll_3 rfl (by decide) ?_
  refine nf_al (pc := 5) dX5_mixAll_5 rfl ?_
  refine nf_alen (pc := 7) (v := nI 4) (nf_okA (by decide) (by decide)) rfl dX5_mixAll_7 ?_
  refine nf_is6 (pc := 8) dX5_mixAll_8 rfl (by decide) ?_
  refine nf_iconst (pc := 10) (v := 0) dX5_mixAll_10 (by decide) ?_
  refine nf_is7 (pc := 11) dX5_mixAll_11 rfl (by decide) ?_
  exact lp_mixAllX 4 0 h none (by omega)
set_option maxRecDepth 100000 in
set_option maxHeartbeats 4000000 in
theorem lp_mixAllC {L : nf_L} {S : nf_S} {h0 : Int64}  : ∀ (m : Nat) (k : Nat) (h : Int64) (o8 : Option Value), (k + m = 6) → nf_V L 1 cX5_mixAll RX5 9 (some .long) (some (.long (cf_mixr (nf_A S 0 1 0) k m h))) S 13 [some (.long h0), none, some (.ref (L.2.2 (9, 0, 1, 0))), some (.long h), none, some (.ref (L.2.2 (9, 0, 1, 0))), some (.int (nI 6)), some (.int (nI k)), o8] [] S := by
  intro m
  induction m with
  | zero =>
    intro k h o8 hkm
    refine nf_il (pc := 13) dX5_mixAll_13 rfl ?_
    refine nf_il (pc := 15) dX5_mixAll_15 rfl ?_
    refine nf_ic_ge (pc := 17) 40 dX5_mixAll_17 (by decide) (fun c_17 => ?_) (fun c_17 => ?_)
    · refine nf_lln (pc := 40) dX5_mixAll_40 rfl ?_
      exact (nf_lret (pc := 41) dX5_mixAll_41)
    · exact absurd (nI_le (by omega) (by omega)) c_17
  | succ m ih =>
    intro k h o8 hkm
    refine nf_il (pc := 13) dX5_mixAll_13 rfl ?_
    refine nf_il (pc := 15) dX5_mixAll_15 rfl ?_
    refine nf_ic_ge (pc := 17) 40 dX5_mixAll_17 (by decide) (fun c_17 => ?_) (fun c_17 => ?_)
    · exact absurd c_17 (nI_ge (by omega) (by omega))
    · refine nf_al (pc := 20) dX5_mixAll_20 rfl ?_
      refine nf_il (pc := 22) dX5_mixAll_22 rfl ?_
      refine nf_ialdI (pc := 24) (k := k) (nf_okA (by decide) (by decide)) (show _ < 6 by omega) dX5_mixAll_24 ?_
      refine nf_is8 (pc := 25) dX5_mixAll_25 rfl (by decide) ?_
      refine nf_lln (pc := 27) dX5_mixAll_27 rfl ?_
      refine nf_il (pc := 28) dX5_mixAll_28 rfl ?_
      refine nf_cSl2 (pc := 30) sp_X5_mix mk_X5_154 st_X5_mix nm_X5_mix ⟨by decide, by decide⟩ (Nat.le_of_ble_eq_true rfl) dX5_mixAll_30 ?_
      refine nf_ls3 (pc := 33) dX5_mixAll_33 rfl (by decide) ?_
      refine nf_iinc7 (pc := 34) (v := nI (k + 1)) dX5_mixAll_34 (nI_succ (k)).symm rfl (by decide) ?_
      refine nf_goto (pc := 37) 13 dX5_mixAll_37 (by decide) ?_
      exact ih (k + 1) _ _ (by omega)
set_option maxRecDepth 100000 in
set_option maxHeartbeats 4000000 in
theorem sp_mixAllC {L : nf_L} {S : nf_S} {h : Int64}  : nf_Sp L 1 yX5_mixAll cX5_mixAll 9 (some .long) [.long h, .ref (L.2.2 (9, 0, 1, 0))] S (some (.long (cf_mixr (nf_A S 0 1 0) 0 6 h))) S := by
  refine nf_start (own := RX5) (ls0 := [some (.long h), none, some (.ref (L.2.2 (9, 0, 1, 0))), none, none, none, none, none, none]) (by decide) (Nat.le_of_ble_eq_true rfl) rfl rfl ?_
  refine nf_lln (pc := 0) dX5_mixAll_0 rfl ?_
  refine nf_ls3 (pc := 1) dX5_mixAll_1 rfl (by decide) ?_
  refine nf_aln (pc := 2) dX5_mixAll_2 rfl ?_
  refine nf_as5 (pc := 3) dX5_mixAll_3 rfl (by decide) ?_
  refine nf_al (pc := 5) dX5_mixAll_5 rfl ?_
  refine nf_alen (pc := 7) (v := nI 6) (nf_okA (by decide) (by decide)) rfl dX5_mixAll_7 ?_
  refine nf_is6 (pc := 8) dX5_mixAll_8 rfl (by decide) ?_
  refine nf_iconst (pc := 10) (v := 0) dX5_mixAll_10 (by decide) ?_
  refine nf_is7 (pc := 11) dX5_mixAll_11 rfl (by decide) ?_
  exact lp_mixAllC 6 0 h none (by omega)
set_option maxRecDepth 100000 in
set_option maxHeartbeats 4000000 in
theorem lp_mixLinks {L : nf_L} {S : nf_S} {nl na : Nat} {h0 : Int64} (hk : cs_ok S nl na) : ∀ (m : Nat) (k : Nat) (h : Int64), (k + m = nl) → nf_V L 1 cX5_mixLinks RX5 6 (some .long) (some (.long (cf_mixl S k m h))) S 5 [some (.long h0), none, some (.ref (L.2.2 (2, 0, 0, 0))), some (.long h), none, some (.int (nI k))] [] S := by
  intro m
  induction m with
  | zero =>
    intro k h hkm
    have hq := hk.1
    refine nf_il (pc := 5) dX5_mixLinks_5 rfl ?_
    refine nf_aln (pc := 7) dX5_mixLinks_7 rfl ?_
    refine gf_X2_count (by decide) (pc := 8) lk_X5_53 dX5_mixLinks_8 ?_
    refine nf_topI (y := nI (nl)) hk.2.2.1 ?_
    refine nf_ic_ge (pc := 11) 56 dX5_mixLinks_11 (by decide) (fun c_11 => ?_) (fun c_11 => ?_)
    · refine nf_lln (pc := 56) dX5_mixLinks_56 rfl ?_
      exact (nf_lret (pc := 57) dX5_mixLinks_57)
    · exact absurd (nI_le (by omega) (by omega)) c_11
  | succ m ih =>
    intro k h hkm
    have hq := hk.1
    refine nf_il (pc := 5) dX5_mixLinks_5 rfl ?_
    refine nf_aln (pc := 7) dX5_mixLinks_7 rfl ?_
    refine gf_X2_count (by decide) (pc := 8) lk_X5_53 dX5_mixLinks_8 ?_
    refine nf_topI (y := nI (nl)) hk.2.2.1 ?_
    refine nf_ic_ge (pc := 11) 56 dX5_mixLinks_11 (by decide) (fun c_11 => ?_) (fun c_11 => ?_)
    · exact absurd c_11 (nI_ge (by omega) (by omega))
    · refine nf_lln (pc := 14) dX5_mixLinks_14 rfl ?_
      refine nf_aln (pc := 15) dX5_mixLinks_15 rfl ?_
      refine gf_X2_first (by decide) (pc := 16) lk_X5_178 dX5_mixLinks_16 ?_
      refine nf_il (pc := 19) dX5_mixLinks_19 rfl ?_
      refine nf_ialdI (pc := 21) (k := k) (nf_okA (by decide) (by decide)) (show _ < 12 by omega) dX5_mixLinks_21 ?_
      refine nf_cSl2 (pc := 22) sp_X5_mix mk_X5_154 st_X5_mix nm_X5_mix ⟨by decide, by decide⟩ (Nat.le_of_ble_eq_true rfl) dX5_mixLinks_22 ?_
      refine nf_ls3 (pc := 25) dX5_mixLinks_25 rfl (by decide) ?_
      refine nf_lln (pc := 26) dX5_mixLinks_26 rfl ?_
      refine nf_aln (pc := 27) dX5_mixLinks_27 rfl ?_
      refine gf_X2_second (by decide) (pc := 28) lk_X5_181 dX5_mixLinks_28 ?_
      refine nf_il (pc := 31) dX5_mixLinks_31 rfl ?_
      refine nf_ialdI (pc := 33) (k := k) (nf_okA (by decide) (by decide)) (show _ < 12 by omega) dX5_mixLinks_33 ?_
      refine nf_cSl2 (pc := 34) sp_X5_mix mk_X5_154 st_X5_mix nm_X5_mix ⟨by decide, by decide⟩ (Nat.le_of_ble_eq_true rfl) dX5_mixLinks_34 ?_
      refine nf_ls3 (pc := 37) dX5_mixLinks_37 rfl (by decide) ?_
      refine nf_lln (pc := 38) dX5_mixLinks_38 rfl ?_
      refine nf_aln (pc := 39) dX5_mixLinks_39 rfl ?_
      refine gf_X2_kind (by decide) (pc := 40) lk_X5_67 dX5_mixLinks_40 ?_
      refine nf_il (pc := 43) dX5_mixLinks_43 rfl ?_
      refine nf_ialdI (pc := 45) (k := k) (nf_okA (by decide) (by decide)) (show _ < 12 by omega) dX5_mixLinks_45 ?_
      refine nf_cSl2 (pc := 46) sp_X5_mix mk_X5_154 st_X5_mix nm_X5_mix ⟨by decide, by decide⟩ (Nat.le_of_ble_eq_true rfl) dX5_mixLinks_46 ?_
      refine nf_ls3 (pc := 49) dX5_mixLinks_49 rfl (by decide) ?_
      refine nf_iinc5 (pc := 50) (v := nI (k + 1)) dX5_mixLinks_50 (nI_succ (k)).symm rfl (by decide) ?_
      refine nf_goto (pc := 53) 5 dX5_mixLinks_53 (by decide) ?_
      exact ih (k + 1) _ (by omega)
set_option maxRecDepth 100000 in
set_option maxHeartbeats 4000000 in
theorem sp_X5_mixLinks {L : nf_L} {S : nf_S} {nl na : Nat} {h : Int64} (hk : cs_ok S nl na) : nf_Sp L 1 yX5_mixLinks cX5_mixLinks 6 (some .long) [.long h, .ref (L.2.2 (2, 0, 0, 0))] S (some (.long (cf_mixl S 0 nl h))) S := by
  refine nf_start (own := RX5) (ls0 := [some (.long h), none, some (.ref (L.2.2 (2, 0, 0, 0))), none, none, none]) (by decide) (Nat.le_of_ble_eq_true rfl) rfl rfl ?_
  refine nf_lln (pc := 0) dX5_mixLinks_0 rfl ?_
  refine nf_ls3 (pc := 1) dX5_mixLinks_1 rfl (by decide) ?_
  refine nf_iconst (pc := 2) (v := 0) dX5_mixLinks_2 (by decide) ?_
  refine nf_is5 (pc := 3) dX5_mixLinks_3 rfl (by decide) ?_
  exact lp_mixLinks hk nl 0 h (by omega)
set_option maxRecDepth 100000 in
set_option maxHeartbeats 4000000 in
theorem lp_mixArticles {L : nf_L} {S : nf_S} {nl na : Nat} {h0 : Int64} (hk : cs_ok S nl na) : ∀ (m : Nat) (k : Nat) (h : Int64), (k + m = na) → nf_V L 1 cX5_mixArticles RX5 6 (some .long) (some (.long (cf_mixa S k m h))) S 12 [some (.long h0), none, some (.ref (L.2.2 (3, 0, 0, 0))), some (.long h), none, some (.int (nI k))] [] S := by
  intro m
  induction m with
  | zero =>
    intro k h hkm
    have hq := hk.2.1
    refine nf_il (pc := 12) dX5_mixArticles_12 rfl ?_
    refine nf_aln (pc := 14) dX5_mixArticles_14 rfl ?_
    refine gf_X0_count (by decide) (pc := 15) lk_X5_128 dX5_mixArticles_15 ?_
    refine nf_topI (y := nI (na)) hk.2.2.2.1 ?_
    refine nf_ic_ge (pc := 18) 87 dX5_mixArticles_18 (by decide) (fun c_18 => ?_) (fun c_18 => ?_)
    · refine nf_lln (pc := 87) dX5_mixArticles_87 rfl ?_
      exact (nf_lret (pc := 88) dX5_mixArticles_88)
    · exact absurd (nI_le (by omega) (by omega)) c_18
  | succ m ih =>
    intro k h hkm
    have hq := hk.2.1
    refine nf_il (pc := 12) dX5_mixArticles_12 rfl ?_
    refine nf_aln (pc := 14) dX5_mixArticles_14 rfl ?_
    refine gf_X0_count (by decide) (pc := 15) lk_X5_128 dX5_mixArticles_15 ?_
    refine nf_topI (y := nI (na)) hk.2.2.2.1 ?_
    refine nf_ic_ge (pc := 18) 87 dX5_mixArticles_18 (by decide) (fun c_18 => ?_) (fun c_18 => ?_)
    · exact absurd c_18 (nI_ge (by omega) (by omega))
    · refine nf_lln (pc := 21) dX5_mixArticles_21 rfl ?_
      refine nf_aln (pc := 22) dX5_mixArticles_22 rfl ?_
      refine gf_X0_group (by decide) (pc := 23) lk_X5_100 dX5_mixArticles_23 ?_
      refine nf_il (pc := 26) dX5_mixArticles_26 rfl ?_
      refine nf_ialdI (pc := 28) (k := k) (nf_okA (by decide) (by decide)) (show _ < 30 by omega) dX5_mixArticles_28 ?_
      refine nf_cSl2 (pc := 29) sp_X5_mix mk_X5_154 st_X5_mix nm_X5_mix ⟨by decide, by decide⟩ (Nat.le_of_ble_eq_true rfl) dX5_mixArticles_29 ?_
      refine nf_ls3 (pc := 32) dX5_mixArticles_32 rfl (by decide) ?_
      refine nf_lln (pc := 33) dX5_mixArticles_33 rfl ?_
      refine nf_aln (pc := 34) dX5_mixArticles_34 rfl ?_
      refine gf_X0_author (by decide) (pc := 35) lk_X5_184 dX5_mixArticles_35 ?_
      refine nf_il (pc := 38) dX5_mixArticles_38 rfl ?_
      refine nf_ialdI (pc := 40) (k := k) (nf_okA (by decide) (by decide)) (show _ < 30 by omega) dX5_mixArticles_40 ?_
      refine nf_cSl2 (pc := 41) sp_X5_mix mk_X5_154 st_X5_mix nm_X5_mix ⟨by decide, by decide⟩ (Nat.le_of_ble_eq_true rfl) dX5_mixArticles_41 ?_
      refine nf_ls3 (pc := 44) dX5_mixArticles_44 rfl (by decide) ?_
      refine nf_lln (pc := 45) dX5_mixArticles_45 rfl ?_
      refine nf_aln (pc := 46) dX5_mixArticles_46 rfl ?_
      refine gf_X0_postedOn (by decide) (pc := 47) lk_X5_187 dX5_mixArticles_47 ?_
      refine nf_il (pc := 50) dX5_mixArticles_50 rfl ?_
      refine nf_ialdI (pc := 52) (k := k) (nf_okA (by decide) (by decide)) (show _ < 30 by omega) dX5_mixArticles_52 ?_
      refine nf_cSl2 (pc := 53) sp_X5_mix mk_X5_154 st_X5_mix nm_X5_mix ⟨by decide, by decide⟩ (Nat.le_of_ble_eq_true rfl) dX5_mixArticles_53 ?_
      refine nf_ls3 (pc := 56) dX5_mixArticles_56 rfl (by decide) ?_
      refine nf_lln (pc := 57) dX5_mixArticles_57 rfl ?_
      refine nf_aln (pc := 58) dX5_mixArticles_58 rfl ?_
      refine gf_X0_action (by decide) (pc := 59) lk_X5_190 dX5_mixArticles_59 ?_
      refine nf_il (pc := 62) dX5_mixArticles_62 rfl ?_
      refine nf_ialdI (pc := 64) (k := k) (nf_okA (by decide) (by decide)) (show _ < 30 by omega) dX5_mixArticles_64 ?_
      refine nf_cSl2 (pc := 65) sp_X5_mix mk_X5_154 st_X5_mix nm_X5_mix ⟨by decide, by decide⟩ (Nat.le_of_ble_eq_true rfl) dX5_mixArticles_65 ?_
      refine nf_ls3 (pc := 68) dX5_mixArticles_68 rfl (by decide) ?_
      refine nf_lln (pc := 69) dX5_mixArticles_69 rfl ?_
      refine nf_aln (pc := 70) dX5_mixArticles_70 rfl ?_
      refine gf_X0_target (by decide) (pc := 71) lk_X5_193 dX5_mixArticles_71 ?_
      refine nf_il (pc := 74) dX5_mixArticles_74 rfl ?_
      refine nf_ialdI (pc := 76) (k := k) (nf_okA (by decide) (by decide)) (show _ < 30 by omega) dX5_mixArticles_76 ?_
      refine nf_cSl2 (pc := 77) sp_X5_mix mk_X5_154 st_X5_mix nm_X5_mix ⟨by decide, by decide⟩ (Nat.le_of_ble_eq_true rfl) dX5_mixArticles_77 ?_
      refine nf_ls3 (pc := 80) dX5_mixArticles_80 rfl (by decide) ?_
      refine nf_iinc5 (pc := 81) (v := nI (k + 1)) dX5_mixArticles_81 (nI_succ (k)).symm rfl (by decide) ?_
      refine nf_goto (pc := 84) 12 dX5_mixArticles_84 (by decide) ?_
      exact ih (k + 1) _ (by omega)
set_option maxRecDepth 100000 in
set_option maxHeartbeats 4000000 in
theorem sp_X5_mixArticles {L : nf_L} {S : nf_S} {nl na : Nat} {h : Int64} (hk : cs_ok S nl na) : nf_Sp L 1 yX5_mixArticles cX5_mixArticles 6 (some .long) [.long h, .ref (L.2.2 (3, 0, 0, 0))] S (some (.long (cf_mixa S 0 na (cf_mix h (nf_I S 0 3 0))))) S := by
  refine nf_start (own := RX5) (ls0 := [some (.long h), none, some (.ref (L.2.2 (3, 0, 0, 0))), none, none, none]) (by decide) (Nat.le_of_ble_eq_true rfl) rfl rfl ?_
  refine nf_lln (pc := 0) dX5_mixArticles_0 rfl ?_
  refine nf_aln (pc := 1) dX5_mixArticles_1 rfl ?_
  refine gf_X0_count (by decide) (pc := 2) lk_X5_128 dX5_mixArticles_2 ?_
  refine nf_cSl2 (pc := 5) sp_X5_mix mk_X5_154 st_X5_mix nm_X5_mix ⟨by decide, by decide⟩ (Nat.le_of_ble_eq_true rfl) dX5_mixArticles_5 ?_
  refine nf_ls3 (pc := 8) dX5_mixArticles_8 rfl (by decide) ?_
  refine nf_iconst (pc := 9) (v := 0) dX5_mixArticles_9 (by decide) ?_
  refine nf_is5 (pc := 10) dX5_mixArticles_10 rfl (by decide) ?_
  exact lp_mixArticles hk na 0 _ (by omega)
set_option maxRecDepth 100000 in
set_option maxHeartbeats 4000000 in
theorem lp_mixHost {L : nf_L} {S : nf_S} {x na : Nat} {h0 : Int64} (hx : x < 6) (hna : na ≤ 30) : ∀ (m : Nat) (k : Nat) (h : Int64), (k + m = na) → nf_V L 2 cX5_mixHost RX5 7 (some .long) (some (.long (cf_mixs S x k m h))) S 24 [some (.long h0), none, some (.ref (L.2.2 (4, 0, 0, x))), some (.int (nI na)), some (.long h), none, some (.int (nI k))] [] S := by
  intro m
  induction m with
  | zero =>
    intro k h hkm
    refine nf_il (pc := 24) dX5_mixHost_24 rfl ?_
    refine nf_iln (pc := 26) dX5_mixHost_26 rfl ?_
    refine nf_ic_ge (pc := 27) 71 dX5_mixHost_27 (by decide) (fun c_27 => ?_) (fun c_27 => ?_)
    · refine nf_ll (pc := 71) dX5_mixHost_71 rfl ?_
      exact (nf_lret (pc := 73) dX5_mixHost_73)
    · exact absurd (nI_le (by omega) (by omega)) c_27
  | succ m ih =>
    intro k h hkm
    refine nf_il (pc := 24) dX5_mixHost_24 rfl ?_
    refine nf_iln (pc := 26) dX5_mixHost_26 rfl ?_
    refine nf_ic_ge (pc := 27) 71 dX5_mixHost_27 (by decide) (fun c_27 => ?_) (fun c_27 => ?_)
    · exact absurd c_27 (nI_ge (by omega) (by omega))
    · refine nf_ll (pc := 30) dX5_mixHost_30 rfl ?_
      refine nf_aln (pc := 32) dX5_mixHost_32 rfl ?_
      refine nf_il (pc := 33) dX5_mixHost_33 rfl ?_
      refine nf_cVi1 (pc := 35) (sp_X1_stores (by decide) hx) (nf_ok4 (by decide) hx) rfl rfl mk_X5_119 im_X1_stores se_X1_stores nm_X1_stores ⟨by decide, by decide⟩ (Nat.le_of_ble_eq_true rfl) dX5_mixHost_35 ?_
      refine nf_if_eqB (pc := 38) 45 dX5_mixHost_38 (by decide) (fun c_38 => ?_) (fun c_38 => ?_)
      · refine nf_iconst (pc := 45) (v := 0) dX5_mixHost_45 (by decide) ?_
        refine nf_cSl2 (pc := 46) sp_X5_mix mk_X5_154 st_X5_mix nm_X5_mix ⟨by decide, by decide⟩ (Nat.le_of_ble_eq_true rfl) dX5_mixHost_46 ?_
        refine nf_ls4 (pc := 49) dX5_mixHost_49 rfl (by decide) ?_
        refine nf_ll (pc := 51) dX5_mixHost_51 rfl ?_
        refine nf_aln (pc := 53) dX5_mixHost_53 rfl ?_
        refine gf_X1_historyDay (by decide) hx (pc := 54) lk_X5_122 dX5_mixHost_54 ?_
        refine nf_il (pc := 57) dX5_mixHost_57 rfl ?_
        refine nf_ialdI (pc := 59) (k := k) (nf_ok12 (by decide) hx) (show _ < 30 by omega) dX5_mixHost_59 ?_
        refine nf_cSl2 (pc := 60) sp_X5_mix mk_X5_154 st_X5_mix nm_X5_mix ⟨by decide, by decide⟩ (Nat.le_of_ble_eq_true rfl) dX5_mixHost_60 ?_
        refine nf_ls4 (pc := 63) dX5_mixHost_63 rfl (by decide) ?_
        refine nf_iinc6 (pc := 65) (v := nI (k + 1)) dX5_mixHost_65 (nI_succ (k)).symm rfl (by decide) ?_
        refine nf_goto (pc := 68) 24 dX5_mixHost_68 (by decide) ?_
        exact nf_to (by simp [cf_mixs, nf_b, c_38] <;> rfl) rfl (ih (k + 1) _ (by omega))
      · refine nf_iconst (pc := 41) (v := 1) dX5_mixHost_41 (by decide) ?_
        refine nf_goto (pc := 42) 46 dX5_mixHost_42 (by decide) ?_
        refine nf_cSl2 (pc := 46) sp_X5_mix mk_X5_154 st_X5_mix nm_X5_mix ⟨by decide, by decide⟩ (Nat.le_of_ble_eq_true rfl) dX5_mixHost_46 ?_
        refine nf_ls4 (pc := 49) dX5_mixHost_49 rfl (by decide) ?_
        refine nf_ll (pc := 51) dX5_mixHost_51 rfl ?_
        refine nf_aln (pc := 53) dX5_mixHost_53 rfl ?_
        refine gf_X1_historyDay (by decide) hx (pc := 54) lk_X5_122 dX5_mixHost_54 ?_
        refine nf_il (pc := 57) dX5_mixHost_57 rfl ?_
        refine nf_ialdI (pc := 59) (k := k) (nf_ok12 (by decide) hx) (show _ < 30 by omega) dX5_mixHost_59 ?_
        refine nf_cSl2 (pc := 60) sp_X5_mix mk_X5_154 st_X5_mix nm_X5_mix ⟨by decide, by decide⟩ (Nat.le_of_ble_eq_true rfl) dX5_mixHost_60 ?_
        refine nf_ls4 (pc := 63) dX5_mixHost_63 rfl (by decide) ?_
        refine nf_iinc6 (pc := 65) (v := nI (k + 1)) dX5_mixHost_65 (nI_succ (k)).symm rfl (by decide) ?_
        refine nf_goto (pc := 68) 24 dX5_mixHost_68 (by decide) ?_
        exact nf_to (by simp [cf_mixs, nf_b, c_38] <;> rfl) rfl (ih (k + 1) _ (by omega))
set_option maxRecDepth 100000 in
set_option maxHeartbeats 4000000 in
theorem sp_X5_mixHost {L : nf_L} {S : nf_S} {x na : Nat} {h : Int64} (hx : x < 6) (hna : na ≤ 30) : nf_Sp L 2 yX5_mixHost cX5_mixHost 7 (some .long) [.long h, .ref (L.2.2 (4, 0, 0, x)), .int (nI na)] S (some (.long (cf_mixh S x na h))) S := by
  refine nf_start (own := RX5) (ls0 := [some (.long h), none, some (.ref (L.2.2 (4, 0, 0, x))), some (.int (nI na)), none, none, none]) (by decide) (Nat.le_of_ble_eq_true rfl) rfl rfl ?_
  refine nf_lln (pc := 0) dX5_mixHost_0 rfl ?_
  refine nf_aln (pc := 1) dX5_mixHost_1 rfl ?_
  refine gf_X1_groups (by decide) hx (pc := 2) lk_X5_74 dX5_mixHost_2 ?_
  refine nf_cSl2 (pc := 5) sp_X5_mix mk_X5_154 st_X5_mix nm_X5_mix ⟨by decide, by decide⟩ (Nat.le_of_ble_eq_true rfl) dX5_mixHost_5 ?_
  refine nf_ls4 (pc := 8) dX5_mixHost_8 rfl (by decide) ?_
  refine nf_ll (pc := 10) dX5_mixHost_10 rfl ?_
  refine nf_aln (pc := 12) dX5_mixHost_12 rfl ?_
  refine nf_cVi0 (pc := 13) (sp_X1_countCancels (by decide) hx) (nf_ok4 (by decide) hx) rfl rfl mk_X5_125 im_X1_countCancels se_X1_countCancels nm_X1_countCancels ⟨by decide, by decide⟩ (Nat.le_of_ble_eq_true rfl) dX5_mixHost_13 ?_
  refine nf_cSl2 (pc := 16) sp_X5_mix mk_X5_154 st_X5_mix nm_X5_mix ⟨by decide, by decide⟩ (Nat.le_of_ble_eq_true rfl) dX5_mixHost_16 ?_
  refine nf_ls4 (pc := 19) dX5_mixHost_19 rfl (by decide) ?_
  refine nf_iconst (pc := 21) (v := 0) dX5_mixHost_21 (by decide) ?_
  refine nf_is6 (pc := 22) dX5_mixHost_22 rfl (by decide) ?_
  exact lp_mixHost hx hna na 0 _ (by omega)
set_option maxRecDepth 100000 in
set_option maxHeartbeats 4000000 in
theorem lp_digest {L : nf_L} {r : Option Value} {S2 : nf_S} {S : nf_S} {nl na : Nat}  (hk : cs_ok S nl na) : ∀ (m : Nat) (k : Nat) (h : Int64), (k + m = 6) → (nf_V L 3 cX5_digest RX5 4 (some .long) r S2 109 [some (.ref (L.2.2 (0, 0, 0, 0))), some (.long (cf_mixo S na k m h)), none, some (.int (nI 6))] [] S) → nf_V L 3 cX5_digest RX5 4 (some .long) r S2 73 [some (.ref (L.2.2 (0, 0, 0, 0))), some (.long h), none, some (.int (nI k))] [] S := by
  intro m
  induction m with
  | zero =>
    intro k h hkm hK
    refine nf_iln (pc := 73) dX5_digest_73 rfl ?_
    refine nf_bipush (pc := 74) (v := 6) dX5_digest_74 (by decide) ?_
    refine nf_ic_ge (pc := 76) 109 dX5_digest_76 (by decide) (fun c_76 => ?_) (fun c_76 => ?_)
    · rw [show k = 6 by omega]
      exact hK
    · exact absurd (nI_le (a := 6) (by omega) (by omega)) c_76
  | succ m ih =>
    intro k h hkm hK
    refine nf_iln (pc := 73) dX5_digest_73 rfl ?_
    refine nf_bipush (pc := 74) (v := 6) dX5_digest_74 (by decide) ?_
    refine nf_ic_ge (pc := 76) 109 dX5_digest_76 (by decide) (fun c_76 => ?_) (fun c_76 => ?_)
    · exact absurd c_76 (nI_ge (b := 6) (by omega) (by omega))
    · refine nf_lln (pc := 79) dX5_digest_79 rfl ?_
      refine nf_aln (pc := 80) dX5_digest_80 rfl ?_
      refine gf_X5_network (pc := 81) lk_X5_12 dX5_digest_81 ?_
      refine gf_X3_hosts (by decide) (pc := 84) lk_X5_70 dX5_digest_84 ?_
      refine nf_iln (pc := 87) dX5_digest_87 rfl ?_
      refine nf_haldI (pc := 88) (k := k) (by decide) (show _ < 6 by omega) dX5_digest_88 ?_
      refine nf_aln (pc := 89) dX5_digest_89 rfl ?_
      refine gf_X5_network (pc := 90) lk_X5_12 dX5_digest_90 ?_
      refine gf_X3_articles (by decide) (pc := 93) lk_X5_96 dX5_digest_93 ?_
      refine gf_X0_count (by decide) (pc := 96) lk_X5_128 dX5_digest_96 ?_
      refine nf_topI (y := nI (na)) hk.2.2.2.1 ?_
      refine nf_cSl3 (pc := 99) (sp_X5_mixHost (show _ < 6 by omega) hk.2.1) mk_X5_166 st_X5_mixHost nm_X5_mixHost ⟨by decide, by decide⟩ (Nat.le_of_ble_eq_true rfl) dX5_digest_99 ?_
      refine nf_ls1 (pc := 102) dX5_digest_102 rfl (by decide) ?_
      refine nf_iinc3 (pc := 103) (v := nI (k + 1)) dX5_digest_103 (nI_succ (k)).symm rfl (by decide) ?_
      refine nf_goto (pc := 106) 73 dX5_digest_106 (by decide) ?_
      exact ih (k + 1) _ (by omega) hK
set_option maxRecDepth 100000 in
set_option maxHeartbeats 4000000 in
theorem sp_X5_digest {L : nf_L} {S : nf_S} {nl na : Nat}  (hk : cs_ok S nl na) : nf_Sp L 3 yX5_digest cX5_digest 4 (some .long) [.ref (L.2.2 (0, 0, 0, 0))] S (some (.long (cf_dig S nl na))) S := by
  refine nf_start (own := RX5) (ls0 := [some (.ref (L.2.2 (0, 0, 0, 0))), none, none, none]) (by decide) (Nat.le_of_ble_eq_true rfl) rfl rfl ?_
  refine nf_ldc2 (pc := 0) dX5_digest_0 kc_X5_148 ?_
  refine nf_aln (pc := 3) dX5_digest_3 rfl ?_
  refine gf_X5_errors (pc := 4) lk_X5_31 dX5_digest_4 ?_
  refine nf_cSl2 (pc := 7) sp_mixAllE mk_X5_150 st_X5_mixAll nm_X5_mixAll ⟨by decide, by decide⟩ (Nat.le_of_ble_eq_true rfl) dX5_digest_7 ?_
  refine nf_ls1 (pc := 10) dX5_digest_10 rfl (by decide) ?_
  refine nf_lln (pc := 11) dX5_digest_11 rfl ?_
  refine nf_aln (pc := 12) dX5_digest_12 rfl ?_
  refine gf_X5_network (pc := 13) lk_X5_12 dX5_digest_13 ?_
  refine gf_X3_today (by decide) (pc := 16) lk_X5_138 dX5_digest_16 ?_
  refine nf_cSl2 (pc := 19) sp_X5_mix mk_X5_154 st_X5_mix nm_X5_mix ⟨by decide, by decide⟩ (Nat.le_of_ble_eq_true rfl) dX5_digest_19 ?_
  refine nf_ls1 (pc := 22) dX5_digest_22 rfl (by decide) ?_
  refine nf_lln (pc := 23) dX5_digest_23 rfl ?_
  refine nf_aln (pc := 24) dX5_digest_24 rfl ?_
  refine gf_X5_network (pc := 25) lk_X5_12 dX5_digest_25 ?_
  refine gf_X3_historyLimit (by decide) (pc := 28) lk_X5_86 dX5_digest_28 ?_
  refine nf_cSl2 (pc := 31) sp_X5_mix mk_X5_154 st_X5_mix nm_X5_mix ⟨by decide, by decide⟩ (Nat.le_of_ble_eq_true rfl) dX5_digest_31 ?_
  refine nf_ls1 (pc := 34) dX5_digest_34 rfl (by decide) ?_
  refine nf_lln (pc := 35) dX5_digest_35 rfl ?_
  refine nf_aln (pc := 36) dX5_digest_36 rfl ?_
  refine gf_X5_network (pc := 37) lk_X5_12 dX5_digest_37 ?_
  refine gf_X3_expiry (by decide) (pc := 40) lk_X5_83 dX5_digest_40 ?_
  refine nf_cSl2 (pc := 43) sp_mixAllX mk_X5_150 st_X5_mixAll nm_X5_mixAll ⟨by decide, by decide⟩ (Nat.le_of_ble_eq_true rfl) dX5_digest_43 ?_
  refine nf_ls1 (pc := 46) dX5_digest_46 rfl (by decide) ?_
  refine nf_lln (pc := 47) dX5_digest_47 rfl ?_
  refine nf_aln (pc := 48) dX5_digest_48 rfl ?_
  refine gf_X5_network (pc := 49) lk_X5_12 dX5_digest_49 ?_
  refine gf_X3_links (by decide) (pc := 52) lk_X5_43 dX5_digest_52 ?_
  refine nf_cSl2 (pc := 55) (sp_X5_mixLinks hk) mk_X5_158 st_X5_mixLinks nm_X5_mixLinks ⟨by decide, by decide⟩ (Nat.le_of_ble_eq_true rfl) dX5_digest_55 ?_
  refine nf_ls1 (pc := 58) dX5_digest_58 rfl (by decide) ?_
  refine nf_lln (pc := 59) dX5_digest_59 rfl ?_
  refine nf_aln (pc := 60) dX5_digest_60 rfl ?_
  refine gf_X5_network (pc := 61) lk_X5_12 dX5_digest_61 ?_
  refine gf_X3_articles (by decide) (pc := 64) lk_X5_96 dX5_digest_64 ?_
  refine nf_cSl2 (pc := 67) (sp_X5_mixArticles hk) mk_X5_162 st_X5_mixArticles nm_X5_mixArticles ⟨by decide, by decide⟩ (Nat.le_of_ble_eq_true rfl) dX5_digest_67 ?_
  refine nf_ls1 (pc := 70) dX5_digest_70 rfl (by decide) ?_
  refine nf_iconst (pc := 71) (v := 0) dX5_digest_71 (by decide) ?_
  refine nf_is3 (pc := 72) dX5_digest_72 rfl (by decide) ?_
  refine lp_digest hk 6 0 _ (by omega) ?_
  refine nf_lln (pc := 109) dX5_digest_109 rfl ?_
  refine nf_aln (pc := 110) dX5_digest_110 rfl ?_
  refine gf_X5_network (pc := 111) lk_X5_12 dX5_digest_111 ?_
  refine gf_X3_counts (by decide) (pc := 114) lk_X5_135 dX5_digest_114 ?_
  refine nf_cSl2 (pc := 117) sp_mixAllC mk_X5_150 st_X5_mixAll nm_X5_mixAll ⟨by decide, by decide⟩ (Nat.le_of_ble_eq_true rfl) dX5_digest_117 ?_
  refine nf_ls1 (pc := 120) dX5_digest_120 rfl (by decide) ?_
  refine nf_lln (pc := 121) dX5_digest_121 rfl ?_
  refine nf_aln (pc := 122) dX5_digest_122 rfl ?_
  refine gf_X5_network (pc := 123) lk_X5_12 dX5_digest_123 ?_
  refine gf_X3_queue (by decide) (pc := 126) lk_X5_109 dX5_digest_126 ?_
  refine nf_cVi0 (pc := 129) (sp_X4_size (by decide)) ⟨(by decide), rfl⟩ rfl rfl mk_X5_112 im_X4_size se_X4_size nm_X4_size ⟨by decide, by decide⟩ (Nat.le_of_ble_eq_true rfl) dX5_digest_129 ?_
  refine nf_cSl2 (pc := 132) sp_X5_mix mk_X5_154 st_X5_mix nm_X5_mix ⟨by decide, by decide⟩ (Nat.le_of_ble_eq_true rfl) dX5_digest_132 ?_
  refine nf_ls1 (pc := 135) dX5_digest_135 rfl (by decide) ?_
  refine nf_lln (pc := 136) dX5_digest_136 rfl ?_
  refine nf_aln (pc := 137) dX5_digest_137 rfl ?_
  refine gf_X5_savedCount (pc := 138) lk_X5_27 dX5_digest_138 ?_
  refine nf_cSl2 (pc := 141) sp_X5_mix mk_X5_154 st_X5_mix nm_X5_mix ⟨by decide, by decide⟩ (Nat.le_of_ble_eq_true rfl) dX5_digest_141 ?_
  exact nf_lret (pc := 144) dX5_digest_144
end
section
/-! the reference: its rows r (all), sv (saved), er (errors), wk (work) and its count j -/
def mm (S : nf_S) (r sv er wk : Nat → Int32) (j : Int32) : nf_S := (S.1, S.2.1, (fun x => if x = 1 then r else if x = 2 then sv else if x = 3 then er else if x = 4 then wk else S.2.2.1 x), (fun x => if x = 1 then j else S.2.2.2.1 x), S.2.2.2.2)
theorem mm_self (S : nf_S) : mm S (nf_O S 1) (nf_O S 2) (nf_O S 3) (nf_O S 4) (nf_J S 1) = S := by
  refine nf_ext (fun _ _ _ => rfl) (fun _ _ _ => rfl) (fun x => ?_) (fun x => ?_) rfl
  · show (if x = 1 then nf_O S 1 else if x = 2 then nf_O S 2 else if x = 3 then nf_O S 3 else if x = 4 then nf_O S 4 else nf_O S x) = nf_O S x
    repeat' split
    all_goals simp_all
  · show (if x = 1 then nf_J S 1 else nf_J S x) = nf_J S x
    split
    all_goals simp_all
theorem mm_s1 (S : nf_S) (r sv er wk r' : Nat → Int32) (j : Int32) : nf_sO (mm S r sv er wk j) 1 r' = mm S r' sv er wk j := by
  refine nf_ext (fun _ _ _ => rfl) (fun _ _ _ => rfl) (fun x => ?_) (fun x => rfl) rfl
  show (if x = 1 then r' else if x = 1 then r else _) = if x = 1 then r' else _
  split <;> rfl
theorem mm_s2 (S : nf_S) (r sv er wk r' : Nat → Int32) (j : Int32) : nf_sO (mm S r sv er wk j) 2 r' = mm S r r' er wk j := by
  refine nf_ext (fun _ _ _ => rfl) (fun _ _ _ => rfl) (fun x => ?_) (fun x => rfl) rfl
  show (if x = 2 then r' else if x = 1 then r else if x = 2 then sv else _) = if x = 1 then r else if x = 2 then r' else _
  by_cases h : x = 2
  · subst h; rfl
  · simp only [if_neg h]
theorem mm_s3 (S : nf_S) (r sv er wk r' : Nat → Int32) (j : Int32) : nf_sO (mm S r sv er wk j) 3 r' = mm S r sv r' wk j := by
  refine nf_ext (fun _ _ _ => rfl) (fun _ _ _ => rfl) (fun x => ?_) (fun x => rfl) rfl
  show (if x = 3 then r' else if x = 1 then r else if x = 2 then sv else if x = 3 then er else _) = if x = 1 then r else if x = 2 then sv else if x = 3 then r' else _
  by_cases h : x = 3
  · subst h; rfl
  · simp only [if_neg h]
theorem mm_s4 (S : nf_S) (r sv er wk r' : Nat → Int32) (j : Int32) : nf_sO (mm S r sv er wk j) 4 r' = mm S r sv er r' j := by
  refine nf_ext (fun _ _ _ => rfl) (fun _ _ _ => rfl) (fun x => ?_) (fun x => rfl) rfl
  show (if x = 4 then r' else if x = 1 then r else if x = 2 then sv else if x = 3 then er else if x = 4 then wk else _) = if x = 1 then r else if x = 2 then sv else if x = 3 then er else if x = 4 then r' else _
  by_cases h : x = 4
  · subst h; rfl
  · simp only [if_neg h]
theorem mm_sj (S : nf_S) (r sv er wk : Nat → Int32) (j j' : Int32) : nf_sJ (mm S r sv er wk j) 1 j' = mm S r sv er wk j' := by
  refine nf_ext (fun _ _ _ => rfl) (fun _ _ _ => rfl) (fun x => rfl) (fun x => ?_) rfl
  show (if x = 1 then j' else if x = 1 then j else _) = if x = 1 then j' else _
  split <;> rfl
theorem nf_dec (k : Nat) : nI (k + 1) + Int32.ofInt (-1) = nI k := by
  rw [show Int32.ofInt (-1) = -1 from by decide, nI_succ, Int32.add_assoc, show (1 : Int32) + -1 = 0 from by decide, Int32.add_zero]
section MmRows
variable {L : nf_L} {d : Nat} {cc : ByteArray} {own : String} {nL : Nat} {ret : Option FieldType} {rr : Option Value} {S2 : nf_S} {pc : Nat} {ls : List (Option Value)} {st : List Value} {S : nf_S} {r sv er wk : Nat → Int32} {j : Int32}
theorem mo_ld1 {k : Nat} (hi : k < 1597) (dg : decode cc pc = .ok (.iaload, 1)) (kk : nf_V L d cc own nL ret rr S2 (pc + 1) ls (.int (r k) :: st) (mm S r sv er wk j)) : nf_V L d cc own nL ret rr S2 pc ls (.int (nI k) :: .ref (L.2.2 (10, 1, 0, 0)) :: st) (mm S r sv er wk j) := nf_ialdOI (nf_okO (by decide)) hi dg kk
theorem mo_ldr1 {i : Int32} (hi : vp_in i 1597) (dg : decode cc pc = .ok (.iaload, 1)) (kk : nf_V L d cc own nL ret rr S2 (pc + 1) ls (.int (r i.toNatClampNeg) :: st) (mm S r sv er wk j)) : nf_V L d cc own nL ret rr S2 pc ls (.int i :: .ref (L.2.2 (10, 1, 0, 0)) :: st) (mm S r sv er wk j) := nf_ialdO (nf_okO (by decide)) hi dg kk
theorem mo_st1 {k : Nat} {x : Int32} (hi : k < 1597) (dg : decode cc pc = .ok (.iastore, 1)) (kk : nf_V L d cc own nL ret rr S2 (pc + 1) ls st (mm S (upd r k x) sv er wk j)) : nf_V L d cc own nL ret rr S2 pc ls (.int x :: .int (nI k) :: .ref (L.2.2 (10, 1, 0, 0)) :: st) (mm S r sv er wk j) := nf_iastOI (nf_okO (by decide)) hi dg (by rw [mm_s1]; exact kk)
theorem mo_str1 {i x : Int32} (hi : vp_in i 1597) (dg : decode cc pc = .ok (.iastore, 1)) (kk : nf_V L d cc own nL ret rr S2 (pc + 1) ls st (mm S (upd r i.toNatClampNeg x) sv er wk j)) : nf_V L d cc own nL ret rr S2 pc ls (.int x :: .int i :: .ref (L.2.2 (10, 1, 0, 0)) :: st) (mm S r sv er wk j) := nf_iastO (nf_okO (by decide)) hi dg (by rw [mm_s1]; exact kk)
theorem mo_ld2 {k : Nat} (hi : k < 6388) (dg : decode cc pc = .ok (.iaload, 1)) (kk : nf_V L d cc own nL ret rr S2 (pc + 1) ls (.int (sv k) :: st) (mm S r sv er wk j)) : nf_V L d cc own nL ret rr S2 pc ls (.int (nI k) :: .ref (L.2.2 (10, 2, 0, 0)) :: st) (mm S r sv er wk j) := nf_ialdOI (nf_okO (by decide)) hi dg kk
theorem mo_ldr2 {i : Int32} (hi : vp_in i 6388) (dg : decode cc pc = .ok (.iaload, 1)) (kk : nf_V L d cc own nL ret rr S2 (pc + 1) ls (.int (sv i.toNatClampNeg) :: st) (mm S r sv er wk j)) : nf_V L d cc own nL ret rr S2 pc ls (.int i :: .ref (L.2.2 (10, 2, 0, 0)) :: st) (mm S r sv er wk j) := nf_ialdO (nf_okO (by decide)) hi dg kk
theorem mo_st2 {k : Nat} {x : Int32} (hi : k < 6388) (dg : decode cc pc = .ok (.iastore, 1)) (kk : nf_V L d cc own nL ret rr S2 (pc + 1) ls st (mm S r (upd sv k x) er wk j)) : nf_V L d cc own nL ret rr S2 pc ls (.int x :: .int (nI k) :: .ref (L.2.2 (10, 2, 0, 0)) :: st) (mm S r sv er wk j) := nf_iastOI (nf_okO (by decide)) hi dg (by rw [mm_s2]; exact kk)
theorem mo_str2 {i x : Int32} (hi : vp_in i 6388) (dg : decode cc pc = .ok (.iastore, 1)) (kk : nf_V L d cc own nL ret rr S2 (pc + 1) ls st (mm S r (upd sv i.toNatClampNeg x) er wk j)) : nf_V L d cc own nL ret rr S2 pc ls (.int x :: .int i :: .ref (L.2.2 (10, 2, 0, 0)) :: st) (mm S r sv er wk j) := nf_iastO (nf_okO (by decide)) hi dg (by rw [mm_s2]; exact kk)
theorem mo_ld3 {k : Nat} (hi : k < 4) (dg : decode cc pc = .ok (.iaload, 1)) (kk : nf_V L d cc own nL ret rr S2 (pc + 1) ls (.int (er k) :: st) (mm S r sv er wk j)) : nf_V L d cc own nL ret rr S2 pc ls (.int (nI k) :: .ref (L.2.2 (10, 3, 0, 0)) :: st) (mm S r sv er wk j) := nf_ialdOI (nf_okO (by decide)) hi dg kk
theorem mo_ldr3 {i : Int32} (hi : vp_in i 4) (dg : decode cc pc = .ok (.iaload, 1)) (kk : nf_V L d cc own nL ret rr S2 (pc + 1) ls (.int (er i.toNatClampNeg) :: st) (mm S r sv er wk j)) : nf_V L d cc own nL ret rr S2 pc ls (.int i :: .ref (L.2.2 (10, 3, 0, 0)) :: st) (mm S r sv er wk j) := nf_ialdO (nf_okO (by decide)) hi dg kk
theorem mo_st3 {k : Nat} {x : Int32} (hi : k < 4) (dg : decode cc pc = .ok (.iastore, 1)) (kk : nf_V L d cc own nL ret rr S2 (pc + 1) ls st (mm S r sv (upd er k x) wk j)) : nf_V L d cc own nL ret rr S2 pc ls (.int x :: .int (nI k) :: .ref (L.2.2 (10, 3, 0, 0)) :: st) (mm S r sv er wk j) := nf_iastOI (nf_okO (by decide)) hi dg (by rw [mm_s3]; exact kk)
theorem mo_str3 {i x : Int32} (hi : vp_in i 4) (dg : decode cc pc = .ok (.iastore, 1)) (kk : nf_V L d cc own nL ret rr S2 (pc + 1) ls st (mm S r sv (upd er i.toNatClampNeg x) wk j)) : nf_V L d cc own nL ret rr S2 pc ls (.int x :: .int i :: .ref (L.2.2 (10, 3, 0, 0)) :: st) (mm S r sv er wk j) := nf_iastO (nf_okO (by decide)) hi dg (by rw [mm_s3]; exact kk)
theorem mo_ld4 {k : Nat} (hi : k < 1024) (dg : decode cc pc = .ok (.iaload, 1)) (kk : nf_V L d cc own nL ret rr S2 (pc + 1) ls (.int (wk k) :: st) (mm S r sv er wk j)) : nf_V L d cc own nL ret rr S2 pc ls (.int (nI k) :: .ref (L.2.2 (10, 4, 0, 0)) :: st) (mm S r sv er wk j) := nf_ialdOI (nf_okO (by decide)) hi dg kk
theorem mo_ldr4 {i : Int32} (hi : vp_in i 1024) (dg : decode cc pc = .ok (.iaload, 1)) (kk : nf_V L d cc own nL ret rr S2 (pc + 1) ls (.int (wk i.toNatClampNeg) :: st) (mm S r sv er wk j)) : nf_V L d cc own nL ret rr S2 pc ls (.int i :: .ref (L.2.2 (10, 4, 0, 0)) :: st) (mm S r sv er wk j) := nf_ialdO (nf_okO (by decide)) hi dg kk
theorem mo_st4 {k : Nat} {x : Int32} (hi : k < 1024) (dg : decode cc pc = .ok (.iastore, 1)) (kk : nf_V L d cc own nL ret rr S2 (pc + 1) ls st (mm S r sv er (upd wk k x) j)) : nf_V L d cc own nL ret rr S2 pc ls (.int x :: .int (nI k) :: .ref (L.2.2 (10, 4, 0, 0)) :: st) (mm S r sv er wk j) := nf_iastOI (nf_okO (by decide)) hi dg (by rw [mm_s4]; exact kk)
theorem mo_str4 {i x : Int32} (hi : vp_in i 1024) (dg : decode cc pc = .ok (.iastore, 1)) (kk : nf_V L d cc own nL ret rr S2 (pc + 1) ls st (mm S r sv er (upd wk i.toNatClampNeg x) j)) : nf_V L d cc own nL ret rr S2 pc ls (.int x :: .int i :: .ref (L.2.2 (10, 4, 0, 0)) :: st) (mm S r sv er wk j) := nf_iastO (nf_okO (by decide)) hi dg (by rw [mm_s4]; exact kk)
theorem mo_gj {idx : Nat} (hl : Cond.fieldLink own idx "NewsFloodModel" "savedMany" "I" ∈ nf_tbl) (dg : decode cc pc = .ok (.getfield idx, 3)) (kk : nf_V L d cc own nL ret rr S2 (pc + 3) ls (.int j :: st) (mm S r sv er wk j)) : nf_V L d cc own nL ret rr S2 pc ls (.ref (L.2.2 (8, 0, 0, 0)) :: st) (mm S r sv er wk j) := gf_X6_savedMany hl dg kk
theorem mo_pj {idx : Nat} {x : Int32} (hl : Cond.fieldLink own idx "NewsFloodModel" "savedMany" "I" ∈ nf_tbl) (dg : decode cc pc = .ok (.putfield idx, 3)) (kk : nf_V L d cc own nL ret rr S2 (pc + 3) ls st (mm S r sv er wk x)) : nf_V L d cc own nL ret rr S2 pc ls (.int x :: .ref (L.2.2 (8, 0, 0, 0)) :: st) (mm S r sv er wk j) := pf_X6_savedMany hl dg (by rw [mm_sj]; exact kk)
end MmRows
def mf_in (v a b : Int64) : Bool := !decide (lg_cmp v a < 0) && !decide (0 < lg_cmp v b)
def mf_tst (x a : Int32) : Bool := decide ((x >>> (a &&& 31)) &&& 1 = 1)
def mf_lk (r : Nat → Int32) (w : Nat) : Nat → Int32 := fun k => r (7 + 3 * k + w)
def mf_of (r : Nat → Int32) (a w : Nat) : Int32 := r (50 + 5 * a + w)
def mf_kn (r : Nat → Int32) (h a : Nat) : Int32 := r (200 + 30 * h + a)
def ms_shift (sv : Nat → Int32) (k : Nat) : Nat → Int32 := fun i => if i < k then sv (i + 1597) else sv i
def ms_copy (sv r : Nat → Int32) (lo k : Nat) : Nat → Int32 := fun i => if lo ≤ i ∧ i < lo + k then r (i - lo) else sv i
theorem ms_shift_0 (sv : Nat → Int32) : ms_shift sv 0 = sv := by funext i; simp [ms_shift]
theorem ms_shift_step (sv : Nat → Int32) (k : Nat) : upd (ms_shift sv k) k (ms_shift sv k (k + 1597)) = ms_shift sv (k + 1) := by
  funext i
  simp only [upd, ms_shift]
  by_cases h : i = k
  · subst h; rw [if_pos rfl, if_neg (by omega), if_pos (by omega)]
  · rw [if_neg h]
    by_cases h2 : i < k
    · rw [if_pos h2, if_pos (by omega)]
    · rw [if_neg h2, if_neg (by omega)]
theorem ms_copy_0 (sv r : Nat → Int32) (lo : Nat) : ms_copy sv r lo 0 = sv := by
  funext i; simp only [ms_copy]; rw [if_neg (by omega)]
theorem ms_copy_step (sv r : Nat → Int32) (lo k : Nat) : upd (ms_copy sv r lo k) (lo + k) (r k) = ms_copy sv r lo (k + 1) := by
  funext i
  simp only [upd, ms_copy]
  by_cases h : i = lo + k
  · subst h; rw [if_pos rfl, if_pos (by omega)]; congr 1; omega
  · rw [if_neg h]
    by_cases h2 : lo ≤ i ∧ i < lo + k
    · rw [if_pos h2, if_pos (by omega)]
    · rw [if_neg h2, if_neg (by omega)]
def ms_save (sv r : Nat → Int32) (c : Nat) : Nat → Int32 := if c = 4 then ms_copy (ms_shift sv 4791) r 4791 1597 else ms_copy sv r (1597 * c) 1597
def ms_cnt (c : Nat) : Nat := if c = 4 then 4 else c + 1
/-- a state restored, up to k -/
def ms_undo (r sv : Nat → Int32) (lo k : Nat) : Nat → Int32 := fun i => if i < k then sv (lo + i) else r i
theorem ms_undo_0 (r sv : Nat → Int32) (lo : Nat) : ms_undo r sv lo 0 = r := by funext i; simp [ms_undo]
theorem ms_undo_step (r sv : Nat → Int32) (lo k : Nat) : upd (ms_undo r sv lo k) k (sv (lo + k)) = ms_undo r sv lo (k + 1) := by
  funext i
  simp only [upd, ms_undo]
  by_cases h : i = k
  · subst h; rw [if_pos rfl, if_pos (by omega)]
  · rw [if_neg h]
    by_cases h2 : i < k
    · rw [if_pos h2, if_pos (by omega)]
    · rw [if_neg h2, if_neg (by omega)]
set_option maxRecDepth 100000 in
set_option maxHeartbeats 4000000 in
theorem sp_X6_in {L : nf_L} {S : nf_S} {r sv er wk : Nat → Int32} {j : Int32} {v a b : Int64}  : nf_Sp L 0 yX6_in cX6_in 6 (some .boolean) [.long v, .long a, .long b] (mm S r sv er wk j) (some (.int (nf_b (mf_in v a b)))) (mm S r sv er wk j) := by
  refine nf_start (own := RX6) (ls0 := [some (.long v), none, some (.long a), none, some (.long b), none]) (by decide) (Nat.le_of_ble_eq_true rfl) rfl rfl ?_
  refine nf_lln (pc := 0) dX6_in_0 rfl ?_
  refine nf_lln (pc := 1) dX6_in_1 rfl ?_
  refine nf_lcmp (pc := 2) dX6_in_2 ?_
  refine nf_if_lt (pc := 3) 17 dX6_in_3 (by decide) (fun c_3 => ?_) (fun c_3 => ?_)
  · refine nf_iconst (pc := 17) (v := 0) dX6_in_17 (by decide) ?_
    exact nf_to (by simp [nf_b, mf_in, c_3]) rfl (nf_zret0 (pc := 18) dX6_in_18)
  · refine nf_lln (pc := 6) dX6_in_6 rfl ?_
    refine nf_ll (pc := 7) dX6_in_7 rfl ?_
    refine nf_lcmp (pc := 9) dX6_in_9 ?_
    refine nf_if_gt (pc := 10) 17 dX6_in_10 (by decide) (fun c_10 => ?_) (fun c_10 => ?_)
    · refine nf_iconst (pc := 17) (v := 0) dX6_in_17 (by decide) ?_
      exact nf_to (by simp [nf_b, mf_in, c_3, c_10]) rfl (nf_zret0 (pc := 18) dX6_in_18)
    · refine nf_iconst (pc := 13) (v := 1) dX6_in_13 (by decide) ?_
      refine nf_goto (pc := 14) 18 dX6_in_14 (by decide) ?_
      exact nf_to (by simp [nf_b, mf_in, c_3, c_10]) rfl (nf_zret1 (pc := 18) dX6_in_18)
set_option maxRecDepth 100000 in
set_option maxHeartbeats 4000000 in
theorem sp_X6_isHost {L : nf_L} {S : nf_S} {r sv er wk : Nat → Int32} {j : Int32} {x : Int32}  : nf_Sp L 1 yX6_isHost cX6_isHost 1 (some .boolean) [.int x] (mm S r sv er wk j) (some (.int (nf_b (mf_in x.toInt64 0 5)))) (mm S r sv er wk j) := by
  refine nf_start (own := RX6) (ls0 := [some (.int x)]) (by decide) (Nat.le_of_ble_eq_true rfl) rfl rfl ?_
  refine nf_iln (pc := 0) dX6_isHost_0 rfl ?_
  refine nf_i2l (pc := 1) dX6_isHost_1 ?_
  refine nf_lconst (pc := 2) (v := 0) dX6_isHost_2 (by decide) ?_
  refine nf_ldc2 (pc := 3) dX6_isHost_3 kc_X6_26 ?_
  refine nf_cSi3 (pc := 6) sp_X6_in mk_X6_28 st_X6_in nm_X6_in ⟨by decide, by decide⟩ (Nat.le_of_ble_eq_true rfl) dX6_isHost_6 ?_
  exact nf_zretb (pc := 9) dX6_isHost_9
set_option maxRecDepth 100000 in
set_option maxHeartbeats 4000000 in
theorem sp_X6_isGroup {L : nf_L} {S : nf_S} {r sv er wk : Nat → Int32} {j : Int32} {x : Int32}  : nf_Sp L 1 yX6_isGroup cX6_isGroup 1 (some .boolean) [.int x] (mm S r sv er wk j) (some (.int (nf_b (mf_in x.toInt64 0 3)))) (mm S r sv er wk j) := by
  refine nf_start (own := RX6) (ls0 := [some (.int x)]) (by decide) (Nat.le_of_ble_eq_true rfl) rfl rfl ?_
  refine nf_iln (pc := 0) dX6_isGroup_0 rfl ?_
  refine nf_i2l (pc := 1) dX6_isGroup_1 ?_
  refine nf_lconst (pc := 2) (v := 0) dX6_isGroup_2 (by decide) ?_
  refine nf_ldc2 (pc := 3) dX6_isGroup_3 kc_X6_32 ?_
  refine nf_cSi3 (pc := 6) sp_X6_in mk_X6_28 st_X6_in nm_X6_in ⟨by decide, by decide⟩ (Nat.le_of_ble_eq_true rfl) dX6_isGroup_6 ?_
  exact nf_zretb (pc := 9) dX6_isGroup_9
set_option maxRecDepth 100000 in
set_option maxHeartbeats 4000000 in
theorem sp_X6_isArticle {L : nf_L} {S : nf_S} {r sv er wk : Nat → Int32} {j : Int32} {x : Int32}  : nf_Sp L 1 yX6_isArticle cX6_isArticle 2 (some .boolean) [.ref (L.2.2 (8, 0, 0, 0)), .int x] (mm S r sv er wk j) (some (.int (nf_b (mf_in x.toInt64 0 (r 49 - 1).toInt64)))) (mm S r sv er wk j) := by
  refine nf_start (own := RX6) (ls0 := [some (.ref (L.2.2 (8, 0, 0, 0))), some (.int x)]) (by decide) (Nat.le_of_ble_eq_true rfl) rfl rfl ?_
  refine nf_iln (pc := 0) dX6_isArticle_0 rfl ?_
  refine nf_i2l (pc := 1) dX6_isArticle_1 ?_
  refine nf_lconst (pc := 2) (v := 0) dX6_isArticle_2 (by decide) ?_
  refine nf_aln (pc := 3) dX6_isArticle_3 rfl ?_
  refine gf_X6_all (pc := 4) lk_X6_7 dX6_isArticle_4 ?_
  refine nf_bipush (pc := 7) (v := 49) dX6_isArticle_7 (by decide) ?_
  refine mo_ld1 (pc := 9) (k := 49) (by decide) dX6_isArticle_9 ?_
  refine nf_iconst (pc := 10) (v := 1) dX6_isArticle_10 (by decide) ?_
  refine nf_isub (pc := 11) dX6_isArticle_11 ?_
  refine nf_i2l (pc := 12) dX6_isArticle_12 ?_
  refine nf_cSi3 (pc := 13) sp_X6_in mk_X6_28 st_X6_in nm_X6_in ⟨by decide, by decide⟩ (Nat.le_of_ble_eq_true rfl) dX6_isArticle_13 ?_
  exact nf_zretb (pc := 16) dX6_isArticle_16
set_option maxRecDepth 100000 in
set_option maxHeartbeats 4000000 in
theorem sp_X6_isLink {L : nf_L} {S : nf_S} {r sv er wk : Nat → Int32} {j : Int32} {x : Int32}  : nf_Sp L 1 yX6_isLink cX6_isLink 2 (some .boolean) [.ref (L.2.2 (8, 0, 0, 0)), .int x] (mm S r sv er wk j) (some (.int (nf_b (mf_in x.toInt64 0 (r 6 - 1).toInt64)))) (mm S r sv er wk j) := by
  refine nf_start (own := RX6) (ls0 := [some (.ref (L.2.2 (8, 0, 0, 0))), some (.int x)]) (by decide) (Nat.le_of_ble_eq_true rfl) rfl rfl ?_
  refine nf_iln (pc := 0) dX6_isLink_0 rfl ?_
  refine nf_i2l (pc := 1) dX6_isLink_1 ?_
  refine nf_lconst (pc := 2) (v := 0) dX6_isLink_2 (by decide) ?_
  refine nf_aln (pc := 3) dX6_isLink_3 rfl ?_
  refine gf_X6_all (pc := 4) lk_X6_7 dX6_isLink_4 ?_
  refine nf_bipush (pc := 7) (v := 6) dX6_isLink_7 (by decide) ?_
  refine mo_ld1 (pc := 9) (k := 6) (by decide) dX6_isLink_9 ?_
  refine nf_iconst (pc := 10) (v := 1) dX6_isLink_10 (by decide) ?_
  refine nf_isub (pc := 11) dX6_isLink_11 ?_
  refine nf_i2l (pc := 12) dX6_isLink_12 ?_
  refine nf_cSi3 (pc := 13) sp_X6_in mk_X6_28 st_X6_in nm_X6_in ⟨by decide, by decide⟩ (Nat.le_of_ble_eq_true rfl) dX6_isLink_13 ?_
  exact nf_zretb (pc := 16) dX6_isLink_16
set_option maxRecDepth 100000 in
set_option maxHeartbeats 4000000 in
theorem sp_X6_error {L : nf_L} {S : nf_S} {r sv er wk : Nat → Int32} {j : Int32} {x : Int32} {i : Nat} (e : -2 - x = nI i) (hi : i < 4) : nf_Sp L 0 yX6_error cX6_error 2 (some .int) [.ref (L.2.2 (8, 0, 0, 0)), .int x] (mm S r sv er wk j) (some (.int x)) (mm S r sv (upd er i (er i + 1)) wk j) := by
  refine nf_start (own := RX6) (ls0 := [some (.ref (L.2.2 (8, 0, 0, 0))), some (.int x)]) (by decide) (Nat.le_of_ble_eq_true rfl) rfl rfl ?_
  refine nf_aln (pc := 0) dX6_error_0 rfl ?_
  refine gf_X6_errors (pc := 1) lk_X6_16 dX6_error_1 ?_
  refine nf_bipush (pc := 4) (v := (-2)) dX6_error_4 (by decide) ?_
  refine nf_iln (pc := 6) dX6_error_6 rfl ?_
  refine nf_isub (pc := 7) dX6_error_7 ?_
  refine nf_topI (y := nI i) e ?_
  refine nf_dup2 (pc := 8) dX6_error_8 rfl rfl ?_
  refine mo_ld3 (pc := 9) (k := i) hi dX6_error_9 ?_
  refine nf_iconst (pc := 10) (v := 1) dX6_error_10 (by decide) ?_
  refine nf_iadd (pc := 11) dX6_error_11 ?_
  refine mo_st3 (pc := 12) (k := i) hi dX6_error_12 ?_
  refine nf_iln (pc := 13) dX6_error_13 rfl ?_
  exact nf_iret (pc := 14) dX6_error_14
set_option maxRecDepth 100000 in
set_option maxHeartbeats 4000000 in
theorem sp_X6_link {L : nf_L} {S : nf_S} {r sv er wk : Nat → Int32} {j : Int32} {k x : Nat} (hk : k < 12) (hx : x < 3) : nf_Sp L 0 yX6_link cX6_link 3 (some .int) [.ref (L.2.2 (8, 0, 0, 0)), .int (nI k), .int (nI x)] (mm S r sv er wk j) (some (.int (mf_lk r x k))) (mm S r sv er wk j) := by
  refine nf_start (own := RX6) (ls0 := [some (.ref (L.2.2 (8, 0, 0, 0))), some (.int (nI k)), some (.int (nI x))]) (by decide) (Nat.le_of_ble_eq_true rfl) rfl rfl ?_
  refine nf_aln (pc := 0) dX6_link_0 rfl ?_
  refine gf_X6_all (pc := 1) lk_X6_7 dX6_link_1 ?_
  refine nf_bipush (pc := 4) (v := 7) dX6_link_4 (by decide) ?_
  refine nf_iconst (pc := 6) (v := 3) dX6_link_6 (by decide) ?_
  refine nf_iln (pc := 7) dX6_link_7 rfl ?_
  refine nf_imulI (pc := 8) (a := 3) (b := k) dX6_link_8 ?_
  refine nf_iaddI (pc := 9) (a := 7) (b := (3 * k)) dX6_link_9 ?_
  refine nf_iln (pc := 10) dX6_link_10 rfl ?_
  refine nf_iaddI (pc := 11) (a := (7 + (3 * k))) (b := x) dX6_link_11 ?_
  refine mo_ld1 (pc := 12) (k := ((7 + (3 * k)) + x)) (by omega) dX6_link_12 ?_
  exact nf_iret (pc := 13) dX6_link_13
set_option maxRecDepth 100000 in
set_option maxHeartbeats 4000000 in
theorem sp_X6_of {L : nf_L} {S : nf_S} {r sv er wk : Nat → Int32} {j : Int32} {a x : Nat} (ha : a < 30) (hx : x < 5) : nf_Sp L 0 yX6_of cX6_of 3 (some .int) [.ref (L.2.2 (8, 0, 0, 0)), .int (nI a), .int (nI x)] (mm S r sv er wk j) (some (.int (mf_of r a x))) (mm S r sv er wk j) := by
  refine nf_start (own := RX6) (ls0 := [some (.ref (L.2.2 (8, 0, 0, 0))), some (.int (nI a)), some (.int (nI x))]) (by decide) (Nat.le_of_ble_eq_true rfl) rfl rfl ?_
  refine nf_aln (pc := 0) dX6_of_0 rfl ?_
  refine gf_X6_all (pc := 1) lk_X6_7 dX6_of_1 ?_
  refine nf_bipush (pc := 4) (v := 50) dX6_of_4 (by decide) ?_
  refine nf_iconst (pc := 6) (v := 5) dX6_of_6 (by decide) ?_
  refine nf_iln (pc := 7) dX6_of_7 rfl ?_
  refine nf_imulI (pc := 8) (a := 5) (b := a) dX6_of_8 ?_
  refine nf_iaddI (pc := 9) (a := 50) (b := (5 * a)) dX6_of_9 ?_
  refine nf_iln (pc := 10) dX6_of_10 rfl ?_
  refine nf_iaddI (pc := 11) (a := (50 + (5 * a))) (b := x) dX6_of_11 ?_
  refine mo_ld1 (pc := 12) (k := ((50 + (5 * a)) + x)) (by omega) dX6_of_12 ?_
  exact nf_iret (pc := 13) dX6_of_13
set_option maxRecDepth 100000 in
set_option maxHeartbeats 4000000 in
theorem sp_X6_known {L : nf_L} {S : nf_S} {r sv er wk : Nat → Int32} {j : Int32} {h a : Nat} (hh : h < 6) (ha : a < 30) : nf_Sp L 0 yX6_known cX6_known 3 (some .int) [.ref (L.2.2 (8, 0, 0, 0)), .int (nI h), .int (nI a)] (mm S r sv er wk j) (some (.int (mf_kn r h a))) (mm S r sv er wk j) := by
  refine nf_start (own := RX6) (ls0 := [some (.ref (L.2.2 (8, 0, 0, 0))), some (.int (nI h)), some (.int (nI a))]) (by decide) (Nat.le_of_ble_eq_true rfl) rfl rfl ?_
  refine nf_aln (pc := 0) dX6_known_0 rfl ?_
  refine gf_X6_all (pc := 1) lk_X6_7 dX6_known_1 ?_
  refine nf_sipush (pc := 4) (v := 200) dX6_known_4 (by decide) ?_
  refine nf_bipush (pc := 7) (v := 30) dX6_known_7 (by decide) ?_
  refine nf_iln (pc := 9) dX6_known_9 rfl ?_
  refine nf_imulI (pc := 10) (a := 30) (b := h) dX6_known_10 ?_
  refine nf_iaddI (pc := 11) (a := 200) (b := (30 * h)) dX6_known_11 ?_
  refine nf_iln (pc := 12) dX6_known_12 rfl ?_
  refine nf_iaddI (pc := 13) (a := (200 + (30 * h))) (b := a) dX6_known_13 ?_
  refine mo_ld1 (pc := 14) (k := ((200 + (30 * h)) + a)) (by omega) dX6_known_14 ?_
  exact nf_iret (pc := 15) dX6_known_15
set_option maxRecDepth 100000 in
set_option maxHeartbeats 4000000 in
theorem sp_X6_isIn {L : nf_L} {S : nf_S} {r sv er wk : Nat → Int32} {j : Int32} {h : Nat} {x : Int32} (hh : h < 6) : nf_Sp L 0 yX6_isIn cX6_isIn 3 (some .boolean) [.ref (L.2.2 (8, 0, 0, 0)), .int (nI h), .int x] (mm S r sv er wk j) (some (.int (nf_b (mf_tst (r (380 + h)) x)))) (mm S r sv er wk j) := by
  refine nf_start (own := RX6) (ls0 := [some (.ref (L.2.2 (8, 0, 0, 0))), some (.int (nI h)), some (.int x)]) (by decide) (Nat.le_of_ble_eq_true rfl) rfl rfl ?_
  refine nf_aln (pc := 0) dX6_isIn_0 rfl ?_
  refine gf_X6_all (pc := 1) lk_X6_7 dX6_isIn_1 ?_
  refine nf_sipush (pc := 4) (v := 380) dX6_isIn_4 (by decide) ?_
  refine nf_iln (pc := 7) dX6_isIn_7 rfl ?_
  refine nf_iaddI (pc := 8) (a := 380) (b := h) dX6_isIn_8 ?_
  refine mo_ld1 (pc := 9) (k := (380 + h)) (by omega) dX6_isIn_9 ?_
  refine nf_iln (pc := 10) dX6_isIn_10 rfl ?_
  refine nf_ishr (pc := 11) dX6_isIn_11 ?_
  refine nf_iconst (pc := 12) (v := 1) dX6_isIn_12 (by decide) ?_
  refine nf_iand (pc := 13) dX6_isIn_13 ?_
  refine nf_iconst (pc := 14) (v := 1) dX6_isIn_14 (by decide) ?_
  refine nf_ic_ne (pc := 15) 22 dX6_isIn_15 (by decide) (fun c_15 => ?_) (fun c_15 => ?_)
  · refine nf_iconst (pc := 22) (v := 0) dX6_isIn_22 (by decide) ?_
    exact nf_to (by simp [nf_b, mf_tst, c_15]) rfl (nf_zret0 (pc := 23) dX6_isIn_23)
  · refine nf_iconst (pc := 18) (v := 1) dX6_isIn_18 (by decide) ?_
    refine nf_goto (pc := 19) 23 dX6_isIn_19 (by decide) ?_
    exact nf_to (by simp [nf_b, mf_tst, c_15]) rfl (nf_zret1 (pc := 23) dX6_isIn_23)
set_option maxRecDepth 100000 in
set_option maxHeartbeats 4000000 in
theorem lp_linkOf {L : nf_L} {S : nf_S} {r sv er wk : Nat → Int32} {j : Int32} {a b : Int32} {nl : Nat} (hr : r 6 = nI nl) (hnl : nl ≤ 12) : ∀ (m : Nat) (k : Nat), (k + m = nl) → nf_V L 1 cX6_linkOf RX6 4 (some .int) (some (.int (cf_btw (mf_lk r 0) (mf_lk r 1) a b k m))) (mm S r sv er wk j) 2 [some (.ref (L.2.2 (8, 0, 0, 0))), some (.int a), some (.int b), some (.int (nI k))] [] (mm S r sv er wk j) := by
  intro m
  induction m with
  | zero =>
    intro k hkm
    refine nf_iln (pc := 2) dX6_linkOf_2 rfl ?_
    refine nf_aln (pc := 3) dX6_linkOf_3 rfl ?_
    refine gf_X6_all (pc := 4) lk_X6_7 dX6_linkOf_4 ?_
    refine nf_bipush (pc := 7) (v := 6) dX6_linkOf_7 (by decide) ?_
    refine mo_ld1 (pc := 9) (k := 6) (by decide) dX6_linkOf_9 ?_
    refine nf_topI (y := nI (nl)) hr ?_
    refine nf_ic_ge (pc := 10) 61 dX6_linkOf_10 (by decide) (fun c_10 => ?_) (fun c_10 => ?_)
    · refine nf_iconst (pc := 61) (v := (-1)) dX6_linkOf_61 (by decide) ?_
      exact (nf_iret (pc := 62) dX6_linkOf_62)
    · exact absurd (nI_le (by omega) (by omega)) c_10
  | succ m ih =>
    intro k hkm
    refine nf_iln (pc := 2) dX6_linkOf_2 rfl ?_
    refine nf_aln (pc := 3) dX6_linkOf_3 rfl ?_
    refine gf_X6_all (pc := 4) lk_X6_7 dX6_linkOf_4 ?_
    refine nf_bipush (pc := 7) (v := 6) dX6_linkOf_7 (by decide) ?_
    refine mo_ld1 (pc := 9) (k := 6) (by decide) dX6_linkOf_9 ?_
    refine nf_topI (y := nI (nl)) hr ?_
    refine nf_ic_ge (pc := 10) 61 dX6_linkOf_10 (by decide) (fun c_10 => ?_) (fun c_10 => ?_)
    · exact absurd c_10 (nI_ge (by omega) (by omega))
    · refine nf_aln (pc := 13) dX6_linkOf_13 rfl ?_
      refine nf_iln (pc := 14) dX6_linkOf_14 rfl ?_
      refine nf_iconst (pc := 15) (v := 0) dX6_linkOf_15 (by decide) ?_
      refine nf_cVi2 (pc := 16) (sp_X6_link (show _ < 12 by omega) (by decide)) rfl rfl rfl mk_X6_34 im_X6_link se_X6_link nm_X6_link ⟨by decide, by decide⟩ (Nat.le_of_ble_eq_true rfl) dX6_linkOf_16 ?_
      refine nf_iln (pc := 19) dX6_linkOf_19 rfl ?_
      refine nf_ic_ne (pc := 20) 33 dX6_linkOf_20 (by decide) (fun c_20 => ?_) (fun c_20 => ?_)
      · refine nf_aln (pc := 33) dX6_linkOf_33 rfl ?_
        refine nf_iln (pc := 34) dX6_linkOf_34 rfl ?_
        refine nf_iconst (pc := 35) (v := 0) dX6_linkOf_35 (by decide) ?_
        refine nf_cVi2 (pc := 36) (sp_X6_link (show _ < 12 by omega) (by decide)) rfl rfl rfl mk_X6_34 im_X6_link se_X6_link nm_X6_link ⟨by decide, by decide⟩ (Nat.le_of_ble_eq_true rfl) dX6_linkOf_36 ?_
        refine nf_iln (pc := 39) dX6_linkOf_39 rfl ?_
        refine nf_ic_ne (pc := 40) 55 dX6_linkOf_40 (by decide) (fun c_40 => ?_) (fun c_40 => ?_)
        · refine nf_iinc3 (pc := 55) (v := nI (k + 1)) dX6_linkOf_55 (nI_succ (k)).symm rfl (by decide) ?_
          refine nf_goto (pc := 58) 2 dX6_linkOf_58 (by decide) ?_
          exact nf_to (by simp only [cf_btw]; rw [if_neg (by simp_all)]) rfl (ih (k + 1) (by omega))
        · refine nf_aln (pc := 43) dX6_linkOf_43 rfl ?_
          refine nf_iln (pc := 44) dX6_linkOf_44 rfl ?_
          refine nf_iconst (pc := 45) (v := 1) dX6_linkOf_45 (by decide) ?_
          refine nf_cVi2 (pc := 46) (sp_X6_link (show _ < 12 by omega) (by decide)) rfl rfl rfl mk_X6_34 im_X6_link se_X6_link nm_X6_link ⟨by decide, by decide⟩ (Nat.le_of_ble_eq_true rfl) dX6_linkOf_46 ?_
          refine nf_iln (pc := 49) dX6_linkOf_49 rfl ?_
          refine nf_ic_ne (pc := 50) 55 dX6_linkOf_50 (by decide) (fun c_50 => ?_) (fun c_50 => ?_)
          · refine nf_iinc3 (pc := 55) (v := nI (k + 1)) dX6_linkOf_55 (nI_succ (k)).symm rfl (by decide) ?_
            refine nf_goto (pc := 58) 2 dX6_linkOf_58 (by decide) ?_
            exact nf_to (by simp only [cf_btw]; rw [if_neg (by simp_all)]) rfl (ih (k + 1) (by omega))
          · refine nf_iln (pc := 53) dX6_linkOf_53 rfl ?_
            exact nf_to (by simp only [cf_btw]; rw [if_pos (by simp_all)]) rfl (nf_iret (pc := 54) dX6_linkOf_54)
      · refine nf_aln (pc := 23) dX6_linkOf_23 rfl ?_
        refine nf_iln (pc := 24) dX6_linkOf_24 rfl ?_
        refine nf_iconst (pc := 25) (v := 1) dX6_linkOf_25 (by decide) ?_
        refine nf_cVi2 (pc := 26) (sp_X6_link (show _ < 12 by omega) (by decide)) rfl rfl rfl mk_X6_34 im_X6_link se_X6_link nm_X6_link ⟨by decide, by decide⟩ (Nat.le_of_ble_eq_true rfl) dX6_linkOf_26 ?_
        refine nf_iln (pc := 29) dX6_linkOf_29 rfl ?_
        refine nf_ic_eq (pc := 30) 53 dX6_linkOf_30 (by decide) (fun c_30 => ?_) (fun c_30 => ?_)
        · refine nf_iln (pc := 53) dX6_linkOf_53 rfl ?_
          exact nf_to (by simp only [cf_btw]; rw [if_pos (by simp_all)]) rfl (nf_iret (pc := 54) dX6_linkOf_54)
        · refine nf_aln (pc := 33) dX6_linkOf_33 rfl ?_
          refine nf_iln (pc := 34) dX6_linkOf_34 rfl ?_
          refine nf_iconst (pc := 35) (v := 0) dX6_linkOf_35 (by decide) ?_
          refine nf_cVi2 (pc := 36) (sp_X6_link (show _ < 12 by omega) (by decide)) rfl rfl rfl mk_X6_34 im_X6_link se_X6_link nm_X6_link ⟨by decide, by decide⟩ (Nat.le_of_ble_eq_true rfl) dX6_linkOf_36 ?_
          refine nf_iln (pc := 39) dX6_linkOf_39 rfl ?_
          refine nf_ic_ne (pc := 40) 55 dX6_linkOf_40 (by decide) (fun c_40 => ?_) (fun c_40 => ?_)
          · refine nf_iinc3 (pc := 55) (v := nI (k + 1)) dX6_linkOf_55 (nI_succ (k)).symm rfl (by decide) ?_
            refine nf_goto (pc := 58) 2 dX6_linkOf_58 (by decide) ?_
            exact nf_to (by simp only [cf_btw]; rw [if_neg (by simp_all)]) rfl (ih (k + 1) (by omega))
          · refine nf_aln (pc := 43) dX6_linkOf_43 rfl ?_
            refine nf_iln (pc := 44) dX6_linkOf_44 rfl ?_
            refine nf_iconst (pc := 45) (v := 1) dX6_linkOf_45 (by decide) ?_
            refine nf_cVi2 (pc := 46) (sp_X6_link (show _ < 12 by omega) (by decide)) rfl rfl rfl mk_X6_34 im_X6_link se_X6_link nm_X6_link ⟨by decide, by decide⟩ (Nat.le_of_ble_eq_true rfl) dX6_linkOf_46 ?_
            refine nf_iln (pc := 49) dX6_linkOf_49 rfl ?_
            refine nf_ic_ne (pc := 50) 55 dX6_linkOf_50 (by decide) (fun c_50 => ?_) (fun c_50 => ?_)
            · refine nf_iinc3 (pc := 55) (v := nI (k + 1)) dX6_linkOf_55 (nI_succ (k)).symm rfl (by decide) ?_
              refine nf_goto (pc := 58) 2 dX6_linkOf_58 (by decide) ?_
              exact nf_to (by simp only [cf_btw]; rw [if_neg (by simp_all)]) rfl (ih (k + 1) (by omega))
            · refine nf_iln (pc := 53) dX6_linkOf_53 rfl ?_
              exact nf_to (by simp only [cf_btw]; rw [if_pos (by simp_all)]) rfl (nf_iret (pc := 54) dX6_linkOf_54)
set_option maxRecDepth 100000 in
set_option maxHeartbeats 4000000 in
theorem sp_X6_linkOf {L : nf_L} {S : nf_S} {r sv er wk : Nat → Int32} {j : Int32} {a b : Int32} {nl : Nat} (hr : r 6 = nI nl) (hnl : nl ≤ 12) : nf_Sp L 1 yX6_linkOf cX6_linkOf 4 (some .int) [.ref (L.2.2 (8, 0, 0, 0)), .int a, .int b] (mm S r sv er wk j) (some (.int (cf_btw (mf_lk r 0) (mf_lk r 1) a b 0 nl))) (mm S r sv er wk j) := by
  refine nf_start (own := RX6) (ls0 := [some (.ref (L.2.2 (8, 0, 0, 0))), some (.int a), some (.int b), none]) (by decide) (Nat.le_of_ble_eq_true rfl) rfl rfl ?_
  refine nf_iconst (pc := 0) (v := 0) dX6_linkOf_0 (by decide) ?_
  refine nf_is3 (pc := 1) dX6_linkOf_1 rfl (by decide) ?_
  exact lp_linkOf hr hnl nl 0 (by omega)
set_option maxRecDepth 100000 in
set_option maxHeartbeats 4000000 in
theorem lp_msh {L : nf_L} {rr : Option Value} {S2 S : nf_S} {r sv er wk : Nat → Int32} {j : Int32}  : ∀ (m : Nat) (k : Nat), (k + m = 4791) → (nf_V L 0 cX6_save RX6 2 none rr S2 39 [some (.ref (L.2.2 (8, 0, 0, 0))), some (.int (nI 4791))] [] (mm S r (ms_shift sv 4791) er wk j)) → nf_V L 0 cX6_save RX6 2 none rr S2 10 [some (.ref (L.2.2 (8, 0, 0, 0))), some (.int (nI k))] [] (mm S r (ms_shift sv k) er wk j) := by
  intro m
  induction m with
  | zero =>
    intro k hkm hK
    refine nf_iln (pc := 10) dX6_save_10 rfl ?_
    refine nf_sipush (pc := 11) (v := 4791) dX6_save_11 (by decide) ?_
    refine nf_ic_ge (pc := 14) 39 dX6_save_14 (by decide) (fun c_14 => ?_) (fun c_14 => ?_)
    · rw [show k = 4791 by omega]
      exact hK
    · exact absurd (nI_le (a := 4791) (by omega) (by omega)) c_14
  | succ m ih =>
    intro k hkm hK
    refine nf_iln (pc := 10) dX6_save_10 rfl ?_
    refine nf_sipush (pc := 11) (v := 4791) dX6_save_11 (by decide) ?_
    refine nf_ic_ge (pc := 14) 39 dX6_save_14 (by decide) (fun c_14 => ?_) (fun c_14 => ?_)
    · exact absurd c_14 (nI_ge (b := 4791) (by omega) (by omega))
    · refine nf_aln (pc := 17) dX6_save_17 rfl ?_
      refine gf_X6_saved (pc := 18) lk_X6_13 dX6_save_18 ?_
      refine nf_iln (pc := 21) dX6_save_21 rfl ?_
      refine nf_aln (pc := 22) dX6_save_22 rfl ?_
      refine gf_X6_saved (pc := 23) lk_X6_13 dX6_save_23 ?_
      refine nf_iln (pc := 26) dX6_save_26 rfl ?_
      refine nf_sipush (pc := 27) (v := 1597) dX6_save_27 (by decide) ?_
      refine nf_iaddI (pc := 30) (a := k) (b := 1597) dX6_save_30 ?_
      refine mo_ld2 (pc := 31) (k := (k + 1597)) (by omega) dX6_save_31 ?_
      refine mo_st2 (pc := 32) (k := k) (by omega) dX6_save_32 ?_
      refine nf_iinc1 (pc := 33) (v := nI (k + 1)) dX6_save_33 (nI_succ (k)).symm rfl (by decide) ?_
      refine nf_goto (pc := 36) 10 dX6_save_36 (by decide) ?_
      rw [ms_shift_step]
      exact ih (k + 1) (by omega) hK
set_option maxRecDepth 100000 in
set_option maxHeartbeats 4000000 in
theorem lp_msc {L : nf_L} {rr : Option Value} {S2 S : nf_S} {r sv er wk : Nat → Int32} {c : Nat} (hc : c < 4) : ∀ (m : Nat) (k : Nat), (k + m = 1597) → (nf_V L 0 cX6_save RX6 2 none rr S2 85 [some (.ref (L.2.2 (8, 0, 0, 0))), some (.int (nI 1597))] [] (mm S r (ms_copy sv r (1597 * c) 1597) er wk (nI c))) → nf_V L 0 cX6_save RX6 2 none rr S2 51 [some (.ref (L.2.2 (8, 0, 0, 0))), some (.int (nI k))] [] (mm S r (ms_copy sv r (1597 * c) k) er wk (nI c)) := by
  intro m
  induction m with
  | zero =>
    intro k hkm hK
    refine nf_iln (pc := 51) dX6_save_51 rfl ?_
    refine nf_sipush (pc := 52) (v := 1597) dX6_save_52 (by decide) ?_
    refine nf_ic_ge (pc := 55) 85 dX6_save_55 (by decide) (fun c_55 => ?_) (fun c_55 => ?_)
    · rw [show k = 1597 by omega]
      exact hK
    · exact absurd (nI_le (a := 1597) (by omega) (by omega)) c_55
  | succ m ih =>
    intro k hkm hK
    refine nf_iln (pc := 51) dX6_save_51 rfl ?_
    refine nf_sipush (pc := 52) (v := 1597) dX6_save_52 (by decide) ?_
    refine nf_ic_ge (pc := 55) 85 dX6_save_55 (by decide) (fun c_55 => ?_) (fun c_55 => ?_)
    · exact absurd c_55 (nI_ge (b := 1597) (by omega) (by omega))
    · refine nf_aln (pc := 58) dX6_save_58 rfl ?_
      refine gf_X6_saved (pc := 59) lk_X6_13 dX6_save_59 ?_
      refine nf_sipush (pc := 62) (v := 1597) dX6_save_62 (by decide) ?_
      refine nf_aln (pc := 65) dX6_save_65 rfl ?_
      refine mo_gj (pc := 66) lk_X6_22 dX6_save_66 ?_
      refine nf_topI (y := nI (c)) rfl ?_
      refine nf_imulI (pc := 69) (a := 1597) (b := c) dX6_save_69 ?_
      refine nf_iln (pc := 70) dX6_save_70 rfl ?_
      refine nf_iaddI (pc := 71) (a := (1597 * c)) (b := k) dX6_save_71 ?_
      refine nf_aln (pc := 72) dX6_save_72 rfl ?_
      refine gf_X6_all (pc := 73) lk_X6_7 dX6_save_73 ?_
      refine nf_iln (pc := 76) dX6_save_76 rfl ?_
      refine mo_ld1 (pc := 77) (k := k) (by omega) dX6_save_77 ?_
      refine mo_st2 (pc := 78) (k := ((1597 * c) + k)) (by omega) dX6_save_78 ?_
      refine nf_iinc1 (pc := 79) (v := nI (k + 1)) dX6_save_79 (nI_succ (k)).symm rfl (by decide) ?_
      refine nf_goto (pc := 82) 51 dX6_save_82 (by decide) ?_
      rw [ms_copy_step]
      exact ih (k + 1) (by omega) hK
set_option maxRecDepth 100000 in
set_option maxHeartbeats 4000000 in
theorem sp_X6_save {L : nf_L} {S : nf_S} {r sv er wk : Nat → Int32} {c : Nat} (hc : c ≤ 4) : nf_Sp L 0 yX6_save cX6_save 2 none [.ref (L.2.2 (8, 0, 0, 0))] (mm S r sv er wk (nI c)) none (mm S r (ms_save sv r c) er wk (nI (ms_cnt c))) := by
  refine nf_start (own := RX6) (ls0 := [some (.ref (L.2.2 (8, 0, 0, 0))), none]) (by decide) (Nat.le_of_ble_eq_true rfl) rfl rfl ?_
  refine nf_aln (pc := 0) dX6_save_0 rfl ?_
  refine mo_gj (pc := 1) lk_X6_22 dX6_save_1 ?_
  refine nf_topI (y := nI (c)) rfl ?_
  refine nf_iconst (pc := 4) (v := 4) dX6_save_4 (by decide) ?_
  refine nf_ic_ne (pc := 5) 49 dX6_save_5 (by decide) (fun c_5 => ?_) (fun c_5 => ?_)
  · have hc4 : c < 4 := by
      rcases Nat.lt_or_ge c 4 with h | h
      · exact h
      · exact absurd (show nI c = 4 by rw [show c = 4 by omega]; rfl) c_5
    refine nf_iconst (pc := 49) (v := 0) dX6_save_49 (by decide) ?_
    refine nf_is1 (pc := 50) dX6_save_50 rfl (by decide) ?_
    refine nf_from (S' := mm S r (ms_copy sv r (1597 * c) 0) er wk (nI c)) (by rw [ms_copy_0]) ?_
    refine lp_msc hc4 1597 0 (by omega) ?_
    refine nf_aln (pc := 85) dX6_save_85 rfl ?_
    refine nf_dup (pc := 86) dX6_save_86 rfl ?_
    refine mo_gj (pc := 87) lk_X6_22 dX6_save_87 ?_
    refine nf_topI (y := nI (c)) rfl ?_
    refine nf_iconst (pc := 90) (v := 1) dX6_save_90 (by decide) ?_
    refine nf_iaddI (pc := 91) (a := c) (b := 1) dX6_save_91 ?_
    refine mo_pj (pc := 92) lk_X6_22 dX6_save_92 ?_
    exact nf_to rfl (by rw [ms_save, if_neg (by omega), ms_cnt, if_neg (by omega)]) (nf_vret (pc := 95) dX6_save_95)
  · obtain rfl : c = 4 := by
      rcases Nat.lt_or_ge c 4 with h | h
      · exact absurd c_5 (fun e => absurd (nI_lt h (by decide)) (by rw [e]; decide))
      · omega
    refine nf_iconst (pc := 8) (v := 0) dX6_save_8 (by decide) ?_
    refine nf_is1 (pc := 9) dX6_save_9 rfl (by decide) ?_
    refine nf_from (S' := mm S r (ms_shift sv 0) er wk (nI 4)) (by rw [ms_shift_0]) ?_
    refine lp_msh 4791 0 (by omega) ?_
    refine nf_aln (pc := 39) dX6_save_39 rfl ?_
    refine nf_dup (pc := 40) dX6_save_40 rfl ?_
    refine mo_gj (pc := 41) lk_X6_22 dX6_save_41 ?_
    refine nf_topI (y := nI (3 + 1)) rfl ?_
    refine nf_iconst (pc := 44) (v := 1) dX6_save_44 (by decide) ?_
    refine nf_isub (pc := 45) dX6_save_45 ?_
    refine nf_topI (y := nI (3)) (nf_succ_sub _) ?_
    refine mo_pj (pc := 46) lk_X6_22 dX6_save_46 ?_
    refine nf_iconst (pc := 49) (v := 0) dX6_save_49 (by decide) ?_
    refine nf_is1 (pc := 50) dX6_save_50 rfl (by decide) ?_
    refine nf_from (S' := mm S r (ms_copy (ms_shift sv 4791) r (1597 * 3) 0) er wk (nI 3)) (by rw [ms_copy_0]) ?_
    refine lp_msc (c := 3) (by decide) 1597 0 (by omega) ?_
    refine nf_aln (pc := 85) dX6_save_85 rfl ?_
    refine nf_dup (pc := 86) dX6_save_86 rfl ?_
    refine mo_gj (pc := 87) lk_X6_22 dX6_save_87 ?_
    refine nf_topI (y := nI (3)) rfl ?_
    refine nf_iconst (pc := 90) (v := 1) dX6_save_90 (by decide) ?_
    refine nf_iaddI (pc := 91) (a := 3) (b := 1) dX6_save_91 ?_
    refine mo_pj (pc := 92) lk_X6_22 dX6_save_92 ?_
    exact nf_to rfl (by rw [ms_save, if_pos rfl, ms_cnt, if_pos rfl]) (nf_vret (pc := 95) dX6_save_95)
end
