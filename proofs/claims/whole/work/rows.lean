section
-- ===== PART A: goes FIRST, ahead of the names: the tables' words, and 'selects' of the private methods out of them =====
/-- a private method of a class that the tables say can be made, by its rows of tables_1 -/
def lw_okq (q : MethodName × Nat) : Prop := (q.1.cls ≠ "java/lang/invoke/MethodHandle" ∧ q.1.cls ≠ "java/lang/invoke/VarHandle") ∧ Cond.instantiable q.1.cls q.2 ∈ tables_1 ∧ Cond.privateMethod q.1 ∈ tables_1 ∧ Cond.instanceMethod q.1 ∈ tables_1
theorem lw_p0 : lw_okq (⟨"WatchList", "placeOf", "(I)I"⟩, 11) := ⟨⟨by decide +kernel, by decide +kernel⟩, List.mem_of_getElem? (i := 8) (by decide +kernel), List.mem_of_getElem? (i := 152) (by decide +kernel), List.mem_of_getElem? (i := 153) (by decide +kernel)⟩
theorem lw_p1 : lw_okq (⟨"WatchList", "openPlaceFor", "(I)LWatchList$Limit;"⟩, 11) := ⟨⟨by decide +kernel, by decide +kernel⟩, List.mem_of_getElem? (i := 8) (by decide +kernel), List.mem_of_getElem? (i := 156) (by decide +kernel), List.mem_of_getElem? (i := 157) (by decide +kernel)⟩
theorem lw_p2 : lw_okq (⟨"WatchList$Limit", "begin", "(IIIIIIZ)V"⟩, 9) := ⟨⟨by decide +kernel, by decide +kernel⟩, List.mem_of_getElem? (i := 40) (by decide +kernel), List.mem_of_getElem? (i := 160) (by decide +kernel), List.mem_of_getElem? (i := 161) (by decide +kernel)⟩
theorem lw_p3 : lw_okq (⟨"WatchList$Limit", "turn", "(Z)V"⟩, 9) := ⟨⟨by decide +kernel, by decide +kernel⟩, List.mem_of_getElem? (i := 40) (by decide +kernel), List.mem_of_getElem? (i := 164) (by decide +kernel), List.mem_of_getElem? (i := 165) (by decide +kernel)⟩
theorem lw_p4 : lw_okq (⟨"WatchList", "closePlace", "(I)V"⟩, 11) := ⟨⟨by decide +kernel, by decide +kernel⟩, List.mem_of_getElem? (i := 8) (by decide +kernel), List.mem_of_getElem? (i := 172) (by decide +kernel), List.mem_of_getElem? (i := 173) (by decide +kernel)⟩
theorem lw_p5 : lw_okq (⟨"WatchList$Limit", "breaksAt", "(I)Z"⟩, 9) := ⟨⟨by decide +kernel, by decide +kernel⟩, List.mem_of_getElem? (i := 40) (by decide +kernel), List.mem_of_getElem? (i := 185) (by decide +kernel), List.mem_of_getElem? (i := 186) (by decide +kernel)⟩
theorem lw_p6 : lw_okq (⟨"WatchList", "waitOrLose", "(II)Z"⟩, 11) := ⟨⟨by decide +kernel, by decide +kernel⟩, List.mem_of_getElem? (i := 8) (by decide +kernel), List.mem_of_getElem? (i := 189) (by decide +kernel), List.mem_of_getElem? (i := 190) (by decide +kernel)⟩
theorem lw_p7 : lw_okq (⟨"WatchList$Queue", "append", "(II)V"⟩, 4) := ⟨⟨by decide +kernel, by decide +kernel⟩, List.mem_of_getElem? (i := 20) (by decide +kernel), List.mem_of_getElem? (i := 193) (by decide +kernel), List.mem_of_getElem? (i := 194) (by decide +kernel)⟩
theorem lw_p8 : lw_okq (⟨"WatchList$Queue", "firstEvent", "()I"⟩, 4) := ⟨⟨by decide +kernel, by decide +kernel⟩, List.mem_of_getElem? (i := 20) (by decide +kernel), List.mem_of_getElem? (i := 209) (by decide +kernel), List.mem_of_getElem? (i := 210) (by decide +kernel)⟩
theorem lw_p9 : lw_okq (⟨"WatchList$Queue", "firstNumber", "()I"⟩, 4) := ⟨⟨by decide +kernel, by decide +kernel⟩, List.mem_of_getElem? (i := 20) (by decide +kernel), List.mem_of_getElem? (i := 213) (by decide +kernel), List.mem_of_getElem? (i := 214) (by decide +kernel)⟩
theorem lw_p10 : lw_okq (⟨"WatchList$Queue", "takeFirst", "()V"⟩, 4) := ⟨⟨by decide +kernel, by decide +kernel⟩, List.mem_of_getElem? (i := 20) (by decide +kernel), List.mem_of_getElem? (i := 217) (by decide +kernel), List.mem_of_getElem? (i := 218) (by decide +kernel)⟩
theorem lw_p11 : lw_okq (⟨"WatchList$Queue", "empty", "()V"⟩, 4) := ⟨⟨by decide +kernel, by decide +kernel⟩, List.mem_of_getElem? (i := 20) (by decide +kernel), List.mem_of_getElem? (i := 225) (by decide +kernel), List.mem_of_getElem? (i := 226) (by decide +kernel)⟩
theorem lw_p12 : lw_okq (⟨"WatchList$Event", "hasAction", "()Z"⟩, 4) := ⟨⟨by decide +kernel, by decide +kernel⟩, List.mem_of_getElem? (i := 79) (by decide +kernel), List.mem_of_getElem? (i := 241) (by decide +kernel), List.mem_of_getElem? (i := 242) (by decide +kernel)⟩
theorem lw_p13 : lw_okq (⟨"WatchList$Event", "takeAction", "([BI)V"⟩, 4) := ⟨⟨by decide +kernel, by decide +kernel⟩, List.mem_of_getElem? (i := 79) (by decide +kernel), List.mem_of_getElem? (i := 245) (by decide +kernel), List.mem_of_getElem? (i := 246) (by decide +kernel)⟩
theorem lw_p14 : lw_okq (⟨"WatchList", "actionFailure", "(I)I"⟩, 11) := ⟨⟨by decide +kernel, by decide +kernel⟩, List.mem_of_getElem? (i := 8) (by decide +kernel), List.mem_of_getElem? (i := 256) (by decide +kernel), List.mem_of_getElem? (i := 257) (by decide +kernel)⟩
theorem lw_p15 : lw_okq (⟨"WatchList$Limit", "tellOf", "(I)I"⟩, 9) := ⟨⟨by decide +kernel, by decide +kernel⟩, List.mem_of_getElem? (i := 40) (by decide +kernel), List.mem_of_getElem? (i := 268) (by decide +kernel), List.mem_of_getElem? (i := 269) (by decide +kernel)⟩
def lw_privs_1 : List (MethodName × Nat) := [(⟨"WatchList", "placeOf", "(I)I"⟩, 11), (⟨"WatchList", "openPlaceFor", "(I)LWatchList$Limit;"⟩, 11), (⟨"WatchList$Limit", "begin", "(IIIIIIZ)V"⟩, 9), (⟨"WatchList$Limit", "turn", "(Z)V"⟩, 9), (⟨"WatchList", "closePlace", "(I)V"⟩, 11), (⟨"WatchList$Limit", "breaksAt", "(I)Z"⟩, 9), (⟨"WatchList", "waitOrLose", "(II)Z"⟩, 11), (⟨"WatchList$Queue", "append", "(II)V"⟩, 4), (⟨"WatchList$Queue", "firstEvent", "()I"⟩, 4), (⟨"WatchList$Queue", "firstNumber", "()I"⟩, 4), (⟨"WatchList$Queue", "takeFirst", "()V"⟩, 4), (⟨"WatchList$Queue", "empty", "()V"⟩, 4), (⟨"WatchList$Event", "hasAction", "()Z"⟩, 4), (⟨"WatchList$Event", "takeAction", "([BI)V"⟩, 4), (⟨"WatchList", "actionFailure", "(I)I"⟩, 11), (⟨"WatchList$Limit", "tellOf", "(I)I"⟩, 9)]
theorem lw_r1 : ∀ q ∈ lw_privs_1, lw_okq q := List.forall_mem_cons.mpr ⟨lw_p0, List.forall_mem_cons.mpr ⟨lw_p1, List.forall_mem_cons.mpr ⟨lw_p2, List.forall_mem_cons.mpr ⟨lw_p3, List.forall_mem_cons.mpr ⟨lw_p4, List.forall_mem_cons.mpr ⟨lw_p5, List.forall_mem_cons.mpr ⟨lw_p6, List.forall_mem_cons.mpr ⟨lw_p7, List.forall_mem_cons.mpr ⟨lw_p8, List.forall_mem_cons.mpr ⟨lw_p9, List.forall_mem_cons.mpr ⟨lw_p10, List.forall_mem_cons.mpr ⟨lw_p11, List.forall_mem_cons.mpr ⟨lw_p12, List.forall_mem_cons.mpr ⟨lw_p13, List.forall_mem_cons.mpr ⟨lw_p14, List.forall_mem_cons.mpr ⟨lw_p15, fun _ h => absurd h List.not_mem_nil⟩⟩⟩⟩⟩⟩⟩⟩⟩⟩⟩⟩⟩⟩⟩⟩
theorem lw_p16 : lw_okq (⟨"WatchList$Event", "tellOf", "(I)I"⟩, 4) := ⟨⟨by decide +kernel, by decide +kernel⟩, List.mem_of_getElem? (i := 79) (by decide +kernel), List.mem_of_getElem? (i := 279) (by decide +kernel), List.mem_of_getElem? (i := 280) (by decide +kernel)⟩
theorem lw_p17 : lw_okq (⟨"WatchList$Event", "byteAt", "(I)I"⟩, 4) := ⟨⟨by decide +kernel, by decide +kernel⟩, List.mem_of_getElem? (i := 79) (by decide +kernel), List.mem_of_getElem? (i := 288) (by decide +kernel), List.mem_of_getElem? (i := 289) (by decide +kernel)⟩
theorem lw_p18 : lw_okq (⟨"WatchListModel", "limits", "()I"⟩, 24) := ⟨⟨by decide +kernel, by decide +kernel⟩, List.mem_of_getElem? (i := 296) (by decide +kernel), List.mem_of_getElem? (i := 387) (by decide +kernel), List.mem_of_getElem? (i := 388) (by decide +kernel)⟩
theorem lw_p19 : lw_okq (⟨"WatchListModel", "isThere", "(I)Z"⟩, 24) := ⟨⟨by decide +kernel, by decide +kernel⟩, List.mem_of_getElem? (i := 296) (by decide +kernel), List.mem_of_getElem? (i := 395) (by decide +kernel), List.mem_of_getElem? (i := 396) (by decide +kernel)⟩
theorem lw_p20 : lw_okq (⟨"WatchListModel", "waits", "(II)Z"⟩, 24) := ⟨⟨by decide +kernel, by decide +kernel⟩, List.mem_of_getElem? (i := 296) (by decide +kernel), List.mem_of_getElem? (i := 407) (by decide +kernel), List.mem_of_getElem? (i := 408) (by decide +kernel)⟩
def lw_privs_2 : List (MethodName × Nat) := [(⟨"WatchList$Event", "tellOf", "(I)I"⟩, 4), (⟨"WatchList$Event", "byteAt", "(I)I"⟩, 4), (⟨"WatchListModel", "limits", "()I"⟩, 24), (⟨"WatchListModel", "isThere", "(I)Z"⟩, 24), (⟨"WatchListModel", "waits", "(II)Z"⟩, 24)]
theorem lw_r2 : ∀ q ∈ lw_privs_2, lw_okq q := List.forall_mem_cons.mpr ⟨lw_p16, List.forall_mem_cons.mpr ⟨lw_p17, List.forall_mem_cons.mpr ⟨lw_p18, List.forall_mem_cons.mpr ⟨lw_p19, List.forall_mem_cons.mpr ⟨lw_p20, fun _ h => absurd h List.not_mem_nil⟩⟩⟩⟩⟩
def lw_privs : List (MethodName × Nat) := lw_privs_1 ++ (lw_privs_2)
def lw_tbl : List Cond := k2_sels lw_privs ++ tables_1
theorem lw_privs_ok : ∀ q ∈ lw_privs, lw_okq q := by
  show ∀ q ∈ lw_privs_1 ++ (lw_privs_2), lw_okq q
  exact List.forall_mem_append.mpr ⟨lw_r1, lw_r2⟩
end
section
def RX0 : String := "WatchList$Event"
def TX0 : u_T := fun k => match k with
  | 0 => ("WatchList$Event", "told", "Z", false)
  | 1 => ("WatchList$Event", "action", "[B", true)
  | 2 => ("WatchList$Event", "actionSize", "I", false)
  | _ => ("WatchList$Event", "actionOn", "Z", false)
def tyX0 : Nat → FieldType := fun k => match k with
  | 0 => .boolean
  | 1 => (.array .byte)
  | 2 => .int
  | _ => .boolean
abbrev wsX00 : List Cond := u_ws RX0 TX0 4
theorem nmX0 : ∀ a, a < 4 → ∀ b, b < 4 → a ≠ b → (TX0 a).2.1 ≠ (TX0 b).2.1 := by decide +kernel
theorem okX0 : ∀ k, k < 4 → parseFieldDescriptor (TX0 k).2.2.1 = some (tyX0 k) := by decide +kernel
def RX1 : String := "WatchList$Limit"
def TX1 : u_T := fun k => match k with
  | 0 => ("WatchList$Limit", "id", "I", false)
  | 1 => ("WatchList$Limit", "parameter", "I", false)
  | 2 => ("WatchList$Limit", "times", "I", false)
  | 3 => ("WatchList$Limit", "low", "I", false)
  | 4 => ("WatchList$Limit", "high", "I", false)
  | 5 => ("WatchList$Limit", "event", "I", false)
  | 6 => ("WatchList$Limit", "linked", "Z", false)
  | 7 => ("WatchList$Limit", "on", "Z", false)
  | _ => ("WatchList$Limit", "outside", "I", false)
def tyX1 : Nat → FieldType := fun k => match k with
  | 0 => .int
  | 1 => .int
  | 2 => .int
  | 3 => .int
  | 4 => .int
  | 5 => .int
  | 6 => .boolean
  | 7 => .boolean
  | _ => .int
abbrev wsX10 : List Cond := u_ws RX1 TX1 9
theorem nmX1 : ∀ a, a < 9 → ∀ b, b < 9 → a ≠ b → (TX1 a).2.1 ≠ (TX1 b).2.1 := by decide +kernel
theorem okX1 : ∀ k, k < 9 → parseFieldDescriptor (TX1 k).2.2.1 = some (tyX1 k) := by decide +kernel
def RX2 : String := "WatchList$Queue"
def TX2 : u_T := fun k => match k with
  | 0 => ("WatchList$Queue", "events", "[I", true)
  | 1 => ("WatchList$Queue", "numbers", "[I", true)
  | 2 => ("WatchList$Queue", "first", "I", false)
  | _ => ("WatchList$Queue", "size", "I", false)
def tyX2 : Nat → FieldType := fun k => match k with
  | 0 => (.array .int)
  | 1 => (.array .int)
  | 2 => .int
  | _ => .int
abbrev wsX20 : List Cond := u_ws RX2 TX2 4
theorem nmX2 : ∀ a, a < 4 → ∀ b, b < 4 → a ≠ b → (TX2 a).2.1 ≠ (TX2 b).2.1 := by decide +kernel
theorem okX2 : ∀ k, k < 4 → parseFieldDescriptor (TX2 k).2.2.1 = some (tyX2 k) := by decide +kernel
def RX3 : String := "WatchList"
def TX3 : u_T := fun k => match k with
  | 0 => ("WatchList", "parameters", "[I", true)
  | 1 => ("WatchList", "limits", "[LWatchList$Limit;", true)
  | 2 => ("WatchList", "limitCount", "I", false)
  | 3 => ("WatchList", "brokenSoFar", "I", false)
  | 4 => ("WatchList", "linkedBroken", "Z", false)
  | 5 => ("WatchList", "events", "[LWatchList$Event;", true)
  | 6 => ("WatchList", "waiting", "LWatchList$Queue;", true)
  | 7 => ("WatchList", "lostSoFar", "I", false)
  | 8 => ("WatchList", "workedNumber", "I", false)
  | 9 => ("WatchList", "text", "[B", true)
  | _ => ("WatchList", "textSize", "I", false)
def tyX3 : Nat → FieldType := fun k => match k with
  | 0 => (.array .int)
  | 1 => (.array (.object "WatchList$Limit"))
  | 2 => .int
  | 3 => .int
  | 4 => .boolean
  | 5 => (.array (.object "WatchList$Event"))
  | 6 => (.object "WatchList$Queue")
  | 7 => .int
  | 8 => .int
  | 9 => (.array .byte)
  | _ => .int
abbrev wsX30 : List Cond := u_ws RX3 TX3 11
theorem nmX3 : ∀ a, a < 11 → ∀ b, b < 11 → a ≠ b → (TX3 a).2.1 ≠ (TX3 b).2.1 := by decide +kernel
theorem okX3 : ∀ k, k < 11 → parseFieldDescriptor (TX3 k).2.2.1 = some (tyX3 k) := by decide +kernel
def RX4 : String := "WatchListModel"
def TX4 : u_T := fun k => match k with
  | 0 => ("WatchListModel", "thrown", "I", false)
  | 1 => ("WatchListModel", "parameters", "[I", true)
  | 2 => ("WatchListModel", "there", "[Z", true)
  | 3 => ("WatchListModel", "on", "[Z", true)
  | 4 => ("WatchListModel", "links", "[Z", true)
  | 5 => ("WatchListModel", "of", "[I", true)
  | 6 => ("WatchListModel", "times", "[I", true)
  | 7 => ("WatchListModel", "low", "[I", true)
  | 8 => ("WatchListModel", "high", "[I", true)
  | 9 => ("WatchListModel", "raises", "[I", true)
  | 10 => ("WatchListModel", "counts", "[I", true)
  | 11 => ("WatchListModel", "broken", "I", false)
  | 12 => ("WatchListModel", "linked", "Z", false)
  | 13 => ("WatchListModel", "waiting", "I", false)
  | 14 => ("WatchListModel", "events", "[I", true)
  | 15 => ("WatchListModel", "numbers", "[I", true)
  | 16 => ("WatchListModel", "lost", "I", false)
  | 17 => ("WatchListModel", "worked", "I", false)
  | 18 => ("WatchListModel", "silent", "[Z", true)
  | 19 => ("WatchListModel", "sizes", "[I", true)
  | 20 => ("WatchListModel", "armed", "[Z", true)
  | 21 => ("WatchListModel", "actions", "[B", true)
  | 22 => ("WatchListModel", "size", "I", false)
  | _ => ("WatchListModel", "text", "[B", true)
def tyX4 : Nat → FieldType := fun k => match k with
  | 0 => .int
  | 1 => (.array .int)
  | 2 => (.array .boolean)
  | 3 => (.array .boolean)
  | 4 => (.array .boolean)
  | 5 => (.array .int)
  | 6 => (.array .int)
  | 7 => (.array .int)
  | 8 => (.array .int)
  | 9 => (.array .int)
  | 10 => (.array .int)
  | 11 => .int
  | 12 => .boolean
  | 13 => .int
  | 14 => (.array .int)
  | 15 => (.array .int)
  | 16 => .int
  | 17 => .int
  | 18 => (.array .boolean)
  | 19 => (.array .int)
  | 20 => (.array .boolean)
  | 21 => (.array .byte)
  | 22 => .int
  | _ => (.array .byte)
abbrev wsX40 : List Cond := u_ws RX4 TX4 24
theorem nmX4 : ∀ a, a < 24 → ∀ b, b < 24 → a ≠ b → (TX4 a).2.1 ≠ (TX4 b).2.1 := by decide +kernel
theorem okX4 : ∀ k, k < 24 → parseFieldDescriptor (TX4 k).2.2.1 = some (tyX4 k) := by decide +kernel
abbrev vwCl : List vw_C := [(RX0, TX0, 4), (RX1, TX1, 9), (RX2, TX2, 4), (RX3, TX3, 11), (RX4, TX4, 24)]
def RL : String := "WatchListLaw"
abbrev cL_law : ByteArray := code
abbrev cX3_init : ByteArray := prog_1_method_1_code
def yX3_init : MethodName := ⟨RX3, "<init>", "()V"⟩
abbrev cX2_init : ByteArray := prog_4_method_1_code
def yX2_init : MethodName := ⟨RX2, "<init>", "()V"⟩
abbrev cX1_init : ByteArray := prog_3_method_1_code
def yX1_init : MethodName := ⟨RX1, "<init>", "()V"⟩
abbrev cX0_init : ByteArray := prog_2_method_1_code
def yX0_init : MethodName := ⟨RX0, "<init>", "()V"⟩
abbrev cX3_set : ByteArray := prog_1_method_2_code
def yX3_set : MethodName := ⟨RX3, "set", "(II)Z"⟩
abbrev cX3_isParameter : ByteArray := prog_1_method_20_code
def yX3_isParameter : MethodName := ⟨RX3, "isParameter", "(I)Z"⟩
abbrev cX3_add : ByteArray := prog_1_method_3_code
def yX3_add : MethodName := ⟨RX3, "add", "(IIIIIIZ)I"⟩
abbrev cX3_isId : ByteArray := prog_1_method_21_code
def yX3_isId : MethodName := ⟨RX3, "isId", "(I)Z"⟩
abbrev cX3_isEvent : ByteArray := prog_1_method_22_code
def yX3_isEvent : MethodName := ⟨RX3, "isEvent", "(I)Z"⟩
abbrev cX3_placeOf : ByteArray := prog_1_method_24_code
def yX3_placeOf : MethodName := ⟨RX3, "placeOf", "(I)I"⟩
abbrev cX3_openPlaceFor : ByteArray := prog_1_method_25_code
def yX3_openPlaceFor : MethodName := ⟨RX3, "openPlaceFor", "(I)LWatchList$Limit;"⟩
abbrev cX1_begin : ByteArray := prog_3_method_2_code
def yX1_begin : MethodName := ⟨RX1, "begin", "(IIIIIIZ)V"⟩
abbrev cX1_turn : ByteArray := prog_3_method_3_code
def yX1_turn : MethodName := ⟨RX1, "turn", "(Z)V"⟩
abbrev cX3_remove : ByteArray := prog_1_method_4_code
def yX3_remove : MethodName := ⟨RX3, "remove", "(I)I"⟩
abbrev cX3_closePlace : ByteArray := prog_1_method_26_code
def yX3_closePlace : MethodName := ⟨RX3, "closePlace", "(I)V"⟩
abbrev cX3_enable : ByteArray := prog_1_method_5_code
def yX3_enable : MethodName := ⟨RX3, "enable", "(IZ)I"⟩
abbrev cX3_watch : ByteArray := prog_1_method_6_code
def yX3_watch : MethodName := ⟨RX3, "watch", "()I"⟩
abbrev cX1_breaksAt : ByteArray := prog_3_method_4_code
def yX1_breaksAt : MethodName := ⟨RX1, "breaksAt", "(I)Z"⟩
abbrev cX3_waitOrLose : ByteArray := prog_1_method_27_code
def yX3_waitOrLose : MethodName := ⟨RX3, "waitOrLose", "(II)Z"⟩
abbrev cX2_append : ByteArray := prog_4_method_2_code
def yX2_append : MethodName := ⟨RX2, "append", "(II)V"⟩
abbrev cX3_linked : ByteArray := prog_1_method_7_code
def yX3_linked : MethodName := ⟨RX3, "linked", "()Z"⟩
abbrev cX3_raise : ByteArray := prog_1_method_8_code
def yX3_raise : MethodName := ⟨RX3, "raise", "(II)Z"⟩
abbrev cX3_work : ByteArray := prog_1_method_9_code
def yX3_work : MethodName := ⟨RX3, "work", "()I"⟩
abbrev cX2_firstEvent : ByteArray := prog_4_method_3_code
def yX2_firstEvent : MethodName := ⟨RX2, "firstEvent", "()I"⟩
abbrev cX2_firstNumber : ByteArray := prog_4_method_4_code
def yX2_firstNumber : MethodName := ⟨RX2, "firstNumber", "()I"⟩
abbrev cX2_takeFirst : ByteArray := prog_4_method_5_code
def yX2_takeFirst : MethodName := ⟨RX2, "takeFirst", "()V"⟩
abbrev cX3_lose : ByteArray := prog_1_method_10_code
def yX3_lose : MethodName := ⟨RX3, "lose", "()I"⟩
abbrev cX2_empty : ByteArray := prog_4_method_6_code
def yX2_empty : MethodName := ⟨RX2, "empty", "()V"⟩
abbrev cX3_tell : ByteArray := prog_1_method_11_code
def yX3_tell : MethodName := ⟨RX3, "tell", "(IZ)I"⟩
abbrev cX3_put : ByteArray := prog_1_method_12_code
def yX3_put : MethodName := ⟨RX3, "put", "(I)I"⟩
abbrev cX3_act : ByteArray := prog_1_method_13_code
def yX3_act : MethodName := ⟨RX3, "act", "(I)I"⟩
abbrev cX0_hasAction : ByteArray := prog_2_method_2_code
def yX0_hasAction : MethodName := ⟨RX0, "hasAction", "()Z"⟩
abbrev cX0_takeAction : ByteArray := prog_2_method_3_code
def yX0_takeAction : MethodName := ⟨RX0, "takeAction", "([BI)V"⟩
abbrev cX3_drop : ByteArray := prog_1_method_14_code
def yX3_drop : MethodName := ⟨RX3, "drop", "(I)I"⟩
abbrev cX3_actionFailure : ByteArray := prog_1_method_28_code
def yX3_actionFailure : MethodName := ⟨RX3, "actionFailure", "(I)I"⟩
abbrev cX3_arm : ByteArray := prog_1_method_15_code
def yX3_arm : MethodName := ⟨RX3, "arm", "(IZ)I"⟩
abbrev cX3_limit : ByteArray := prog_1_method_16_code
def yX3_limit : MethodName := ⟨RX3, "limit", "(II)I"⟩
abbrev cX1_tellOf : ByteArray := prog_3_method_5_code
def yX1_tellOf : MethodName := ⟨RX1, "tellOf", "(I)I"⟩
abbrev cX3_oneIf : ByteArray := prog_1_method_23_code
def yX3_oneIf : MethodName := ⟨RX3, "oneIf", "(Z)I"⟩
abbrev cX3_event : ByteArray := prog_1_method_17_code
def yX3_event : MethodName := ⟨RX3, "event", "(II)I"⟩
abbrev cX0_tellOf : ByteArray := prog_2_method_5_code
def yX0_tellOf : MethodName := ⟨RX0, "tellOf", "(I)I"⟩
abbrev cX3_actionAt : ByteArray := prog_1_method_18_code
def yX3_actionAt : MethodName := ⟨RX3, "actionAt", "(II)I"⟩
abbrev cX0_byteAt : ByteArray := prog_2_method_4_code
def yX0_byteAt : MethodName := ⟨RX0, "byteAt", "(I)I"⟩
abbrev cX3_count : ByteArray := prog_1_method_19_code
def yX3_count : MethodName := ⟨RX3, "count", "(I)I"⟩
abbrev cX4_init : ByteArray := prog_6_method_1_code
def yX4_init : MethodName := ⟨RX4, "<init>", "()V"⟩
abbrev cX4_set : ByteArray := prog_6_method_3_code
def yX4_set : MethodName := ⟨RX4, "set", "(II)Z"⟩
abbrev cX4_add : ByteArray := prog_6_method_7_code
def yX4_add : MethodName := ⟨RX4, "add", "(IIIIIIZ)I"⟩
abbrev cX4_isIn : ByteArray := prog_6_method_6_code
def yX4_isIn : MethodName := ⟨RX4, "isIn", "(III)Z"⟩
abbrev cX4_limits : ByteArray := prog_6_method_5_code
def yX4_limits : MethodName := ⟨RX4, "limits", "()I"⟩
abbrev cX4_remove : ByteArray := prog_6_method_8_code
def yX4_remove : MethodName := ⟨RX4, "remove", "(I)I"⟩
abbrev cX4_isThere : ByteArray := prog_6_method_4_code
def yX4_isThere : MethodName := ⟨RX4, "isThere", "(I)Z"⟩
abbrev cX4_enable : ByteArray := prog_6_method_9_code
def yX4_enable : MethodName := ⟨RX4, "enable", "(IZ)I"⟩
abbrev cX4_watch : ByteArray := prog_6_method_11_code
def yX4_watch : MethodName := ⟨RX4, "watch", "()I"⟩
abbrev cX4_waits : ByteArray := prog_6_method_10_code
def yX4_waits : MethodName := ⟨RX4, "waits", "(II)Z"⟩
abbrev cX4_linked : ByteArray := prog_6_method_12_code
def yX4_linked : MethodName := ⟨RX4, "linked", "()Z"⟩
abbrev cX4_raise : ByteArray := prog_6_method_14_code
def yX4_raise : MethodName := ⟨RX4, "raise", "(II)Z"⟩
abbrev cX4_isEvent : ByteArray := prog_6_method_13_code
def yX4_isEvent : MethodName := ⟨RX4, "isEvent", "(I)Z"⟩
abbrev cX4_work : ByteArray := prog_6_method_15_code
def yX4_work : MethodName := ⟨RX4, "work", "()I"⟩
abbrev cX4_lose : ByteArray := prog_6_method_16_code
def yX4_lose : MethodName := ⟨RX4, "lose", "()I"⟩
abbrev cX4_tell : ByteArray := prog_6_method_17_code
def yX4_tell : MethodName := ⟨RX4, "tell", "(IZ)I"⟩
abbrev cX4_put : ByteArray := prog_6_method_18_code
def yX4_put : MethodName := ⟨RX4, "put", "(I)I"⟩
abbrev cX4_act : ByteArray := prog_6_method_19_code
def yX4_act : MethodName := ⟨RX4, "act", "(I)I"⟩
abbrev cX4_drop : ByteArray := prog_6_method_20_code
def yX4_drop : MethodName := ⟨RX4, "drop", "(I)I"⟩
abbrev cX4_arm : ByteArray := prog_6_method_21_code
def yX4_arm : MethodName := ⟨RX4, "arm", "(IZ)I"⟩
abbrev cX4_limit : ByteArray := prog_6_method_22_code
def yX4_limit : MethodName := ⟨RX4, "limit", "(II)I"⟩
abbrev cX4_event : ByteArray := prog_6_method_23_code
def yX4_event : MethodName := ⟨RX4, "event", "(II)I"⟩
abbrev cX4_actionAt : ByteArray := prog_6_method_24_code
def yX4_actionAt : MethodName := ⟨RX4, "actionAt", "(II)I"⟩
abbrev cX4_count : ByteArray := prog_6_method_25_code
def yX4_count : MethodName := ⟨RX4, "count", "(I)I"⟩
end
section
def gG_0 : List Cond := [.selects "WatchList" yX3_placeOf yX3_placeOf, .selects "WatchList" yX3_openPlaceFor yX3_openPlaceFor, .selects "WatchList$Limit" yX1_begin yX1_begin, .selects "WatchList$Limit" yX1_turn yX1_turn, .selects "WatchList" yX3_closePlace yX3_closePlace, .selects "WatchList$Limit" yX1_breaksAt yX1_breaksAt, .selects "WatchList" yX3_waitOrLose yX3_waitOrLose, .selects "WatchList$Queue" yX2_append yX2_append, .selects "WatchList$Queue" yX2_firstEvent yX2_firstEvent, .selects "WatchList$Queue" yX2_firstNumber yX2_firstNumber, .selects "WatchList$Queue" yX2_takeFirst yX2_takeFirst, .selects "WatchList$Queue" yX2_empty yX2_empty, .selects "WatchList$Event" yX0_hasAction yX0_hasAction, .selects "WatchList$Event" yX0_takeAction yX0_takeAction, .selects "WatchList" yX3_actionFailure yX3_actionFailure, .selects "WatchList$Limit" yX1_tellOf yX1_tellOf, .selects "WatchList$Event" yX0_tellOf yX0_tellOf, .selects "WatchList$Event" yX0_byteAt yX0_byteAt, .selects "WatchListModel" yX4_limits yX4_limits, .selects "WatchListModel" yX4_isThere yX4_isThere, .selects "WatchListModel" yX4_waits yX4_waits, .initialized "WatchListLaw", .initialized "WatchList", .initialized "WatchList$Queue", .initialized "WatchList$Limit", .initialized "WatchList$Event", .initialized "WatchListModel", .initialized "java/lang/System", .classLink "WatchListLaw" 7 "WatchList", .instantiable "WatchList" 11, .methodLink "WatchListLaw" 9 yX3_init, .instanceMethod yX3_init, .code yX3_init prog_1_method_1_code 2 none, .methodLink "WatchList" 1 objectInit, .instanceMethod objectInit, .code objectInit object_method_1_code 1 none, .classLink "WatchList" 13 "WatchList$Limit", .classLink "WatchList" 19 "WatchList$Event", .classLink "WatchList" 25 "WatchList$Queue", .instantiable "WatchList$Queue" 4, .instanceMethod yX2_init, .code yX2_init prog_4_method_1_code 1 none, .methodLink "WatchList$Queue" 3 objectInit, .fieldLink "WatchList$Queue" 9 "WatchList$Queue" "events" "[I", .fieldLink "WatchList$Queue" 15 "WatchList$Queue" "numbers" "[I", .fieldLink "WatchList$Queue" 18 "WatchList$Queue" "first" "I", .fieldLink "WatchList$Queue" 22 "WatchList$Queue" "size" "I", .arrayClass .int, .instantiable "WatchList$Limit" 9, .instanceMethod yX1_init, .code yX1_init prog_3_method_1_code 1 none, .methodLink "WatchList$Limit" 3 objectInit, .fieldLink "WatchList$Limit" 9 "WatchList$Limit" "id" "I", .fieldLink "WatchList$Limit" 15 "WatchList$Limit" "parameter" "I", .fieldLink "WatchList$Limit" 18 "WatchList$Limit" "times" "I", .fieldLink "WatchList$Limit" 21 "WatchList$Limit" "low" "I", .fieldLink "WatchList$Limit" 24 "WatchList$Limit" "high" "I", .fieldLink "WatchList$Limit" 27 "WatchList$Limit" "event" "I", .fieldLink "WatchList$Limit" 30 "WatchList$Limit" "linked" "Z", .fieldLink "WatchList$Limit" 38 "WatchList$Limit" "on" "Z"]
def gG_1 : List Cond := [.fieldLink "WatchList$Limit" 41 "WatchList$Limit" "outside" "I", .arrayClass .byte, .instantiable "WatchList$Event" 4, .instanceMethod yX0_init, .code yX0_init prog_2_method_1_code 1 none, .methodLink "WatchList$Event" 3 objectInit, .fieldLink "WatchList$Event" 9 "WatchList$Event" "told" "Z", .fieldLink "WatchList$Event" 15 "WatchList$Event" "action" "[B", .fieldLink "WatchList$Event" 19 "WatchList$Event" "actionSize" "I", .fieldLink "WatchList$Event" 29 "WatchList$Event" "actionOn" "Z", .fieldLink "WatchList" 9 "WatchList" "parameters" "[I", .fieldLink "WatchList" 15 "WatchList" "limits" "[LWatchList$Limit;", .fieldLink "WatchList" 52 "WatchList" "limitCount" "I", .fieldLink "WatchList" 95 "WatchList" "brokenSoFar" "I", .fieldLink "WatchList" 76 "WatchList" "linkedBroken" "Z", .fieldLink "WatchList" 21 "WatchList" "events" "[LWatchList$Event;", .fieldLink "WatchList" 28 "WatchList" "waiting" "LWatchList$Queue;", .fieldLink "WatchList" 117 "WatchList" "lostSoFar" "I", .fieldLink "WatchList" 108 "WatchList" "workedNumber" "I", .fieldLink "WatchList" 32 "WatchList" "text" "[B", .fieldLink "WatchList" 123 "WatchList" "textSize" "I", .methodLink "WatchListLaw" 13 yX3_set, .instanceMethod yX3_set, .selects "WatchList" yX3_set yX3_set, .code yX3_set prog_1_method_2_code 3 (some .boolean), .methodLink "WatchList" 38 yX3_isParameter, .static yX3_isParameter, .code yX3_isParameter prog_1_method_20_code 1 (some .boolean), .methodLink "WatchListLaw" 18 yX3_add, .instanceMethod yX3_add, .selects "WatchList" yX3_add yX3_add, .code yX3_add prog_1_method_3_code 10 (some .int), .methodLink "WatchList" 42 yX3_isId, .static yX3_isId, .code yX3_isId prog_1_method_21_code 1 (some .boolean), .methodLink "WatchList" 45 yX3_isEvent, .static yX3_isEvent, .code yX3_isEvent prog_1_method_22_code 1 (some .boolean), .methodLink "WatchList" 48 yX3_placeOf, .instanceMethod yX3_placeOf, .code yX3_placeOf prog_1_method_24_code 3 (some .int), .methodLink "WatchList" 56 yX3_openPlaceFor, .instanceMethod yX3_openPlaceFor, .code yX3_openPlaceFor prog_1_method_25_code 4 (Option.some (.object "WatchList$Limit")), .instanceMethod yX1_begin, .code yX1_begin prog_3_method_2_code 8 none, .methodLink "WatchList$Limit" 34 yX1_turn, .instanceMethod yX1_turn, .code yX1_turn prog_3_method_3_code 2 none, .methodLink "WatchListLaw" 23 yX3_remove, .instanceMethod yX3_remove, .selects "WatchList" yX3_remove yX3_remove, .code yX3_remove prog_1_method_4_code 3 (some .int), .methodLink "WatchList" 68 yX3_closePlace, .instanceMethod yX3_closePlace, .code yX3_closePlace prog_1_method_26_code 4 none, .methodLink "WatchListLaw" 28 yX3_enable, .instanceMethod yX3_enable, .selects "WatchList" yX3_enable yX3_enable, .code yX3_enable prog_1_method_5_code 4 (some .int)]
def gG_2 : List Cond := [.methodLink "WatchListLaw" 33 yX3_watch, .instanceMethod yX3_watch, .selects "WatchList" yX3_watch yX3_watch, .code yX3_watch prog_1_method_6_code 5 (some .int), .instanceMethod yX1_breaksAt, .code yX1_breaksAt prog_3_method_4_code 2 (some .boolean), .methodLink "WatchList" 91 yX3_waitOrLose, .instanceMethod yX3_waitOrLose, .code yX3_waitOrLose prog_1_method_27_code 3 (some .boolean), .instanceMethod yX2_append, .code yX2_append prog_4_method_2_code 4 none, .methodLink "WatchListLaw" 38 yX3_linked, .instanceMethod yX3_linked, .selects "WatchList" yX3_linked yX3_linked, .code yX3_linked prog_1_method_7_code 1 (some .boolean), .methodLink "WatchListLaw" 43 yX3_raise, .instanceMethod yX3_raise, .selects "WatchList" yX3_raise yX3_raise, .code yX3_raise prog_1_method_8_code 3 (some .boolean), .methodLink "WatchListLaw" 47 yX3_work, .instanceMethod yX3_work, .selects "WatchList" yX3_work yX3_work, .code yX3_work prog_1_method_9_code 2 (some .int), .instanceMethod yX2_firstEvent, .code yX2_firstEvent prog_4_method_3_code 1 (some .int), .instanceMethod yX2_firstNumber, .code yX2_firstNumber prog_4_method_4_code 1 (some .int), .instanceMethod yX2_takeFirst, .code yX2_takeFirst prog_4_method_5_code 1 none, .methodLink "WatchListLaw" 51 yX3_lose, .instanceMethod yX3_lose, .selects "WatchList" yX3_lose yX3_lose, .code yX3_lose prog_1_method_10_code 2 (some .int), .instanceMethod yX2_empty, .code yX2_empty prog_4_method_6_code 1 none, .methodLink "WatchListLaw" 55 yX3_tell, .instanceMethod yX3_tell, .selects "WatchList" yX3_tell yX3_tell, .code yX3_tell prog_1_method_11_code 3 (some .int), .methodLink "WatchListLaw" 59 yX3_put, .instanceMethod yX3_put, .selects "WatchList" yX3_put yX3_put, .code yX3_put prog_1_method_12_code 2 (some .int), .methodLink "WatchListLaw" 63 yX3_act, .instanceMethod yX3_act, .selects "WatchList" yX3_act yX3_act, .code yX3_act prog_1_method_13_code 3 (some .int), .instanceMethod yX0_hasAction, .code yX0_hasAction prog_2_method_2_code 1 (some .boolean), .instanceMethod yX0_takeAction, .code yX0_takeAction prog_2_method_3_code 3 none, .methodLink "WatchList$Event" 23 arraycopyName, .static arraycopyName, .native arraycopyName, .methodLink "WatchListLaw" 67 yX3_drop, .instanceMethod yX3_drop, .selects "WatchList" yX3_drop yX3_drop, .code yX3_drop prog_1_method_14_code 3 (some .int), .methodLink "WatchList" 134 yX3_actionFailure, .instanceMethod yX3_actionFailure]
def gG_3 : List Cond := [.code yX3_actionFailure prog_1_method_28_code 2 (some .int), .methodLink "WatchListLaw" 71 yX3_arm, .instanceMethod yX3_arm, .selects "WatchList" yX3_arm yX3_arm, .code yX3_arm prog_1_method_15_code 4 (some .int), .methodLink "WatchListLaw" 75 yX3_limit, .instanceMethod yX3_limit, .selects "WatchList" yX3_limit yX3_limit, .code yX3_limit prog_1_method_16_code 4 (some .int), .instanceMethod yX1_tellOf, .code yX1_tellOf prog_3_method_5_code 2 (some .int), .static yX3_oneIf, .code yX3_oneIf prog_1_method_23_code 1 (some .int), .methodLink "WatchListLaw" 80 yX3_event, .instanceMethod yX3_event, .selects "WatchList" yX3_event yX3_event, .code yX3_event prog_1_method_17_code 3 (some .int), .instanceMethod yX0_tellOf, .code yX0_tellOf prog_2_method_5_code 2 (some .int), .methodLink "WatchListLaw" 84 yX3_actionAt, .instanceMethod yX3_actionAt, .selects "WatchList" yX3_actionAt yX3_actionAt, .code yX3_actionAt prog_1_method_18_code 3 (some .int), .instanceMethod yX0_byteAt, .code yX0_byteAt prog_2_method_4_code 2 (some .int), .methodLink "WatchListLaw" 88 yX3_count, .instanceMethod yX3_count, .selects "WatchList" yX3_count yX3_count, .code yX3_count prog_1_method_19_code 2 (some .int), .classLink "WatchListLaw" 10 "WatchListModel", .instantiable "WatchListModel" 24, .methodLink "WatchListLaw" 12 yX4_init, .instanceMethod yX4_init, .code yX4_init prog_6_method_1_code 1 none, .methodLink "WatchListModel" 1 objectInit, .fieldLink "WatchListModel" 63 "WatchListModel" "thrown" "I", .fieldLink "WatchListModel" 7 "WatchListModel" "parameters" "[I", .fieldLink "WatchListModel" 13 "WatchListModel" "there" "[Z", .fieldLink "WatchListModel" 17 "WatchListModel" "on" "[Z", .fieldLink "WatchListModel" 20 "WatchListModel" "links" "[Z", .fieldLink "WatchListModel" 23 "WatchListModel" "of" "[I", .fieldLink "WatchListModel" 26 "WatchListModel" "times" "[I", .fieldLink "WatchListModel" 29 "WatchListModel" "low" "[I", .fieldLink "WatchListModel" 32 "WatchListModel" "high" "[I", .fieldLink "WatchListModel" 35 "WatchListModel" "raises" "[I", .fieldLink "WatchListModel" 38 "WatchListModel" "counts" "[I", .fieldLink "WatchListModel" 93 "WatchListModel" "broken" "I", .fieldLink "WatchListModel" 85 "WatchListModel" "linked" "Z", .fieldLink "WatchListModel" 79 "WatchListModel" "waiting" "I", .fieldLink "WatchListModel" 41 "WatchListModel" "events" "[I", .fieldLink "WatchListModel" 44 "WatchListModel" "numbers" "[I", .fieldLink "WatchListModel" 82 "WatchListModel" "lost" "I", .fieldLink "WatchListModel" 99 "WatchListModel" "worked" "I", .fieldLink "WatchListModel" 47 "WatchListModel" "silent" "[Z", .fieldLink "WatchListModel" 50 "WatchListModel" "sizes" "[I", .fieldLink "WatchListModel" 53 "WatchListModel" "armed" "[Z", .fieldLink "WatchListModel" 56 "WatchListModel" "actions" "[B", .fieldLink "WatchListModel" 102 "WatchListModel" "size" "I", .fieldLink "WatchListModel" 60 "WatchListModel" "text" "[B", .arrayClass .boolean]
def gG_4 : List Cond := [.methodLink "WatchListLaw" 17 yX4_set, .instanceMethod yX4_set, .selects "WatchListModel" yX4_set yX4_set, .code yX4_set prog_6_method_3_code 3 (some .boolean), .methodLink "WatchListLaw" 22 yX4_add, .instanceMethod yX4_add, .selects "WatchListModel" yX4_add yX4_add, .code yX4_add prog_6_method_7_code 8 (some .int), .methodLink "WatchListModel" 67 yX4_isIn, .static yX4_isIn, .code yX4_isIn prog_6_method_6_code 3 (some .boolean), .methodLink "WatchListModel" 71 yX4_limits, .instanceMethod yX4_limits, .code yX4_limits prog_6_method_5_code 3 (some .int), .methodLink "WatchListLaw" 27 yX4_remove, .instanceMethod yX4_remove, .selects "WatchListModel" yX4_remove yX4_remove, .code yX4_remove prog_6_method_8_code 2 (some .int), .methodLink "WatchListModel" 75 yX4_isThere, .instanceMethod yX4_isThere, .code yX4_isThere prog_6_method_4_code 2 (some .boolean), .methodLink "WatchListLaw" 32 yX4_enable, .instanceMethod yX4_enable, .selects "WatchListModel" yX4_enable yX4_enable, .code yX4_enable prog_6_method_9_code 3 (some .int), .methodLink "WatchListLaw" 37 yX4_watch, .instanceMethod yX4_watch, .selects "WatchListModel" yX4_watch yX4_watch, .code yX4_watch prog_6_method_11_code 5 (some .int), .methodLink "WatchListModel" 89 yX4_waits, .instanceMethod yX4_waits, .code yX4_waits prog_6_method_10_code 3 (some .boolean), .methodLink "WatchListLaw" 42 yX4_linked, .instanceMethod yX4_linked, .selects "WatchListModel" yX4_linked yX4_linked, .code yX4_linked prog_6_method_12_code 1 (some .boolean), .methodLink "WatchListLaw" 46 yX4_raise, .instanceMethod yX4_raise, .selects "WatchListModel" yX4_raise yX4_raise, .code yX4_raise prog_6_method_14_code 3 (some .boolean), .methodLink "WatchListModel" 96 yX4_isEvent, .static yX4_isEvent, .code yX4_isEvent prog_6_method_13_code 1 (some .boolean), .methodLink "WatchListLaw" 50 yX4_work, .instanceMethod yX4_work, .selects "WatchListModel" yX4_work yX4_work, .code yX4_work prog_6_method_15_code 3 (some .int), .methodLink "WatchListLaw" 54 yX4_lose, .instanceMethod yX4_lose, .selects "WatchListModel" yX4_lose yX4_lose, .code yX4_lose prog_6_method_16_code 2 (some .int), .methodLink "WatchListLaw" 58 yX4_tell, .instanceMethod yX4_tell, .selects "WatchListModel" yX4_tell yX4_tell, .code yX4_tell prog_6_method_17_code 3 (some .int), .methodLink "WatchListLaw" 62 yX4_put, .instanceMethod yX4_put, .selects "WatchListModel" yX4_put yX4_put, .code yX4_put prog_6_method_18_code 2 (some .int), .methodLink "WatchListLaw" 66 yX4_act]
def gG_5 : List Cond := [.instanceMethod yX4_act, .selects "WatchListModel" yX4_act yX4_act, .code yX4_act prog_6_method_19_code 4 (some .int), .methodLink "WatchListLaw" 70 yX4_drop, .instanceMethod yX4_drop, .selects "WatchListModel" yX4_drop yX4_drop, .code yX4_drop prog_6_method_20_code 2 (some .int), .methodLink "WatchListLaw" 74 yX4_arm, .instanceMethod yX4_arm, .selects "WatchListModel" yX4_arm yX4_arm, .code yX4_arm prog_6_method_21_code 3 (some .int), .methodLink "WatchListLaw" 79 yX4_limit, .instanceMethod yX4_limit, .selects "WatchListModel" yX4_limit yX4_limit, .code yX4_limit prog_6_method_22_code 3 (some .int), .methodLink "WatchListLaw" 83 yX4_event, .instanceMethod yX4_event, .selects "WatchListModel" yX4_event yX4_event, .code yX4_event prog_6_method_23_code 3 (some .int), .methodLink "WatchListLaw" 87 yX4_actionAt, .instanceMethod yX4_actionAt, .selects "WatchListModel" yX4_actionAt yX4_actionAt, .code yX4_actionAt prog_6_method_24_code 3 (some .int), .methodLink "WatchListLaw" 91 yX4_count, .instanceMethod yX4_count, .selects "WatchListModel" yX4_count yX4_count, .code yX4_count prog_6_method_25_code 2 (some .int)]
def gG : List Cond := gG_0 ++ (gG_1 ++ (gG_2 ++ (gG_3 ++ (gG_4 ++ (gG_5 ++ (wsX00 ++ wsX10 ++ wsX20 ++ wsX30 ++ wsX40))))))
theorem mG_0 : (.selects "WatchList" yX3_placeOf yX3_placeOf : Cond) ∈ gG := (List.mem_append_left _ (List.mem_of_getElem? (i := 0) rfl))
theorem mG_1 : (.selects "WatchList" yX3_openPlaceFor yX3_openPlaceFor : Cond) ∈ gG := (List.mem_append_left _ (List.mem_of_getElem? (i := 1) rfl))
theorem mG_2 : (.selects "WatchList$Limit" yX1_begin yX1_begin : Cond) ∈ gG := (List.mem_append_left _ (List.mem_of_getElem? (i := 2) rfl))
theorem mG_3 : (.selects "WatchList$Limit" yX1_turn yX1_turn : Cond) ∈ gG := (List.mem_append_left _ (List.mem_of_getElem? (i := 3) rfl))
theorem mG_4 : (.selects "WatchList" yX3_closePlace yX3_closePlace : Cond) ∈ gG := (List.mem_append_left _ (List.mem_of_getElem? (i := 4) rfl))
theorem mG_5 : (.selects "WatchList$Limit" yX1_breaksAt yX1_breaksAt : Cond) ∈ gG := (List.mem_append_left _ (List.mem_of_getElem? (i := 5) rfl))
theorem mG_6 : (.selects "WatchList" yX3_waitOrLose yX3_waitOrLose : Cond) ∈ gG := (List.mem_append_left _ (List.mem_of_getElem? (i := 6) rfl))
theorem mG_7 : (.selects "WatchList$Queue" yX2_append yX2_append : Cond) ∈ gG := (List.mem_append_left _ (List.mem_of_getElem? (i := 7) rfl))
theorem mG_8 : (.selects "WatchList$Queue" yX2_firstEvent yX2_firstEvent : Cond) ∈ gG := (List.mem_append_left _ (List.mem_of_getElem? (i := 8) rfl))
theorem mG_9 : (.selects "WatchList$Queue" yX2_firstNumber yX2_firstNumber : Cond) ∈ gG := (List.mem_append_left _ (List.mem_of_getElem? (i := 9) rfl))
theorem mG_10 : (.selects "WatchList$Queue" yX2_takeFirst yX2_takeFirst : Cond) ∈ gG := (List.mem_append_left _ (List.mem_of_getElem? (i := 10) rfl))
theorem mG_11 : (.selects "WatchList$Queue" yX2_empty yX2_empty : Cond) ∈ gG := (List.mem_append_left _ (List.mem_of_getElem? (i := 11) rfl))
theorem mG_12 : (.selects "WatchList$Event" yX0_hasAction yX0_hasAction : Cond) ∈ gG := (List.mem_append_left _ (List.mem_of_getElem? (i := 12) rfl))
theorem mG_13 : (.selects "WatchList$Event" yX0_takeAction yX0_takeAction : Cond) ∈ gG := (List.mem_append_left _ (List.mem_of_getElem? (i := 13) rfl))
theorem mG_14 : (.selects "WatchList" yX3_actionFailure yX3_actionFailure : Cond) ∈ gG := (List.mem_append_left _ (List.mem_of_getElem? (i := 14) rfl))
theorem mG_15 : (.selects "WatchList$Limit" yX1_tellOf yX1_tellOf : Cond) ∈ gG := (List.mem_append_left _ (List.mem_of_getElem? (i := 15) rfl))
theorem mG_16 : (.selects "WatchList$Event" yX0_tellOf yX0_tellOf : Cond) ∈ gG := (List.mem_append_left _ (List.mem_of_getElem? (i := 16) rfl))
theorem mG_17 : (.selects "WatchList$Event" yX0_byteAt yX0_byteAt : Cond) ∈ gG := (List.mem_append_left _ (List.mem_of_getElem? (i := 17) rfl))
theorem mG_18 : (.selects "WatchListModel" yX4_limits yX4_limits : Cond) ∈ gG := (List.mem_append_left _ (List.mem_of_getElem? (i := 18) rfl))
theorem mG_19 : (.selects "WatchListModel" yX4_isThere yX4_isThere : Cond) ∈ gG := (List.mem_append_left _ (List.mem_of_getElem? (i := 19) rfl))
theorem mG_20 : (.selects "WatchListModel" yX4_waits yX4_waits : Cond) ∈ gG := (List.mem_append_left _ (List.mem_of_getElem? (i := 20) rfl))
theorem mG_21 : (.initialized "WatchListLaw" : Cond) ∈ gG := (List.mem_append_left _ (List.mem_of_getElem? (i := 21) rfl))
theorem mG_22 : (.initialized "WatchList" : Cond) ∈ gG := (List.mem_append_left _ (List.mem_of_getElem? (i := 22) rfl))
theorem mG_23 : (.initialized "WatchList$Queue" : Cond) ∈ gG := (List.mem_append_left _ (List.mem_of_getElem? (i := 23) rfl))
theorem mG_24 : (.initialized "WatchList$Limit" : Cond) ∈ gG := (List.mem_append_left _ (List.mem_of_getElem? (i := 24) rfl))
theorem mG_25 : (.initialized "WatchList$Event" : Cond) ∈ gG := (List.mem_append_left _ (List.mem_of_getElem? (i := 25) rfl))
theorem mG_26 : (.initialized "WatchListModel" : Cond) ∈ gG := (List.mem_append_left _ (List.mem_of_getElem? (i := 26) rfl))
theorem mG_27 : (.initialized "java/lang/System" : Cond) ∈ gG := (List.mem_append_left _ (List.mem_of_getElem? (i := 27) rfl))
theorem mG_28 : (.classLink "WatchListLaw" 7 "WatchList" : Cond) ∈ gG := (List.mem_append_left _ (List.mem_of_getElem? (i := 28) rfl))
theorem mG_29 : (.instantiable "WatchList" 11 : Cond) ∈ gG := (List.mem_append_left _ (List.mem_of_getElem? (i := 29) rfl))
theorem mG_30 : (.methodLink "WatchListLaw" 9 yX3_init : Cond) ∈ gG := (List.mem_append_left _ (List.mem_of_getElem? (i := 30) rfl))
theorem mG_31 : (.instanceMethod yX3_init : Cond) ∈ gG := (List.mem_append_left _ (List.mem_of_getElem? (i := 31) rfl))
theorem mG_32 : (.code yX3_init prog_1_method_1_code 2 none : Cond) ∈ gG := (List.mem_append_left _ (List.mem_of_getElem? (i := 32) rfl))
theorem mG_33 : (.methodLink "WatchList" 1 objectInit : Cond) ∈ gG := (List.mem_append_left _ (List.mem_of_getElem? (i := 33) rfl))
theorem mG_34 : (.instanceMethod objectInit : Cond) ∈ gG := (List.mem_append_left _ (List.mem_of_getElem? (i := 34) rfl))
theorem mG_35 : (.code objectInit object_method_1_code 1 none : Cond) ∈ gG := (List.mem_append_left _ (List.mem_of_getElem? (i := 35) rfl))
theorem mG_36 : (.classLink "WatchList" 13 "WatchList$Limit" : Cond) ∈ gG := (List.mem_append_left _ (List.mem_of_getElem? (i := 36) rfl))
theorem mG_37 : (.classLink "WatchList" 19 "WatchList$Event" : Cond) ∈ gG := (List.mem_append_left _ (List.mem_of_getElem? (i := 37) rfl))
theorem mG_38 : (.classLink "WatchList" 25 "WatchList$Queue" : Cond) ∈ gG := (List.mem_append_left _ (List.mem_of_getElem? (i := 38) rfl))
theorem mG_39 : (.instantiable "WatchList$Queue" 4 : Cond) ∈ gG := (List.mem_append_left _ (List.mem_of_getElem? (i := 39) rfl))
theorem mG_40 : (.instanceMethod yX2_init : Cond) ∈ gG := (List.mem_append_left _ (List.mem_of_getElem? (i := 40) rfl))
theorem mG_41 : (.code yX2_init prog_4_method_1_code 1 none : Cond) ∈ gG := (List.mem_append_left _ (List.mem_of_getElem? (i := 41) rfl))
theorem mG_42 : (.methodLink "WatchList$Queue" 3 objectInit : Cond) ∈ gG := (List.mem_append_left _ (List.mem_of_getElem? (i := 42) rfl))
theorem mG_43 : (.fieldLink "WatchList$Queue" 9 "WatchList$Queue" "events" "[I" : Cond) ∈ gG := (List.mem_append_left _ (List.mem_of_getElem? (i := 43) rfl))
theorem mG_44 : (.fieldLink "WatchList$Queue" 15 "WatchList$Queue" "numbers" "[I" : Cond) ∈ gG := (List.mem_append_left _ (List.mem_of_getElem? (i := 44) rfl))
theorem mG_45 : (.fieldLink "WatchList$Queue" 18 "WatchList$Queue" "first" "I" : Cond) ∈ gG := (List.mem_append_left _ (List.mem_of_getElem? (i := 45) rfl))
theorem mG_46 : (.fieldLink "WatchList$Queue" 22 "WatchList$Queue" "size" "I" : Cond) ∈ gG := (List.mem_append_left _ (List.mem_of_getElem? (i := 46) rfl))
theorem mG_47 : (.arrayClass .int : Cond) ∈ gG := (List.mem_append_left _ (List.mem_of_getElem? (i := 47) rfl))
theorem mG_48 : (.instantiable "WatchList$Limit" 9 : Cond) ∈ gG := (List.mem_append_left _ (List.mem_of_getElem? (i := 48) rfl))
theorem mG_49 : (.instanceMethod yX1_init : Cond) ∈ gG := (List.mem_append_left _ (List.mem_of_getElem? (i := 49) rfl))
theorem mG_50 : (.code yX1_init prog_3_method_1_code 1 none : Cond) ∈ gG := (List.mem_append_left _ (List.mem_of_getElem? (i := 50) rfl))
theorem mG_51 : (.methodLink "WatchList$Limit" 3 objectInit : Cond) ∈ gG := (List.mem_append_left _ (List.mem_of_getElem? (i := 51) rfl))
theorem mG_52 : (.fieldLink "WatchList$Limit" 9 "WatchList$Limit" "id" "I" : Cond) ∈ gG := (List.mem_append_left _ (List.mem_of_getElem? (i := 52) rfl))
theorem mG_53 : (.fieldLink "WatchList$Limit" 15 "WatchList$Limit" "parameter" "I" : Cond) ∈ gG := (List.mem_append_left _ (List.mem_of_getElem? (i := 53) rfl))
theorem mG_54 : (.fieldLink "WatchList$Limit" 18 "WatchList$Limit" "times" "I" : Cond) ∈ gG := (List.mem_append_left _ (List.mem_of_getElem? (i := 54) rfl))
theorem mG_55 : (.fieldLink "WatchList$Limit" 21 "WatchList$Limit" "low" "I" : Cond) ∈ gG := (List.mem_append_left _ (List.mem_of_getElem? (i := 55) rfl))
theorem mG_56 : (.fieldLink "WatchList$Limit" 24 "WatchList$Limit" "high" "I" : Cond) ∈ gG := (List.mem_append_left _ (List.mem_of_getElem? (i := 56) rfl))
theorem mG_57 : (.fieldLink "WatchList$Limit" 27 "WatchList$Limit" "event" "I" : Cond) ∈ gG := (List.mem_append_left _ (List.mem_of_getElem? (i := 57) rfl))
theorem mG_58 : (.fieldLink "WatchList$Limit" 30 "WatchList$Limit" "linked" "Z" : Cond) ∈ gG := (List.mem_append_left _ (List.mem_of_getElem? (i := 58) rfl))
theorem mG_59 : (.fieldLink "WatchList$Limit" 38 "WatchList$Limit" "on" "Z" : Cond) ∈ gG := (List.mem_append_left _ (List.mem_of_getElem? (i := 59) rfl))
theorem mG_60 : (.fieldLink "WatchList$Limit" 41 "WatchList$Limit" "outside" "I" : Cond) ∈ gG := (List.mem_append_right _ (List.mem_append_left _ (List.mem_of_getElem? (i := 0) rfl)))
theorem mG_61 : (.arrayClass .byte : Cond) ∈ gG := (List.mem_append_right _ (List.mem_append_left _ (List.mem_of_getElem? (i := 1) rfl)))
theorem mG_62 : (.instantiable "WatchList$Event" 4 : Cond) ∈ gG := (List.mem_append_right _ (List.mem_append_left _ (List.mem_of_getElem? (i := 2) rfl)))
theorem mG_63 : (.instanceMethod yX0_init : Cond) ∈ gG := (List.mem_append_right _ (List.mem_append_left _ (List.mem_of_getElem? (i := 3) rfl)))
theorem mG_64 : (.code yX0_init prog_2_method_1_code 1 none : Cond) ∈ gG := (List.mem_append_right _ (List.mem_append_left _ (List.mem_of_getElem? (i := 4) rfl)))
theorem mG_65 : (.methodLink "WatchList$Event" 3 objectInit : Cond) ∈ gG := (List.mem_append_right _ (List.mem_append_left _ (List.mem_of_getElem? (i := 5) rfl)))
theorem mG_66 : (.fieldLink "WatchList$Event" 9 "WatchList$Event" "told" "Z" : Cond) ∈ gG := (List.mem_append_right _ (List.mem_append_left _ (List.mem_of_getElem? (i := 6) rfl)))
theorem mG_67 : (.fieldLink "WatchList$Event" 15 "WatchList$Event" "action" "[B" : Cond) ∈ gG := (List.mem_append_right _ (List.mem_append_left _ (List.mem_of_getElem? (i := 7) rfl)))
theorem mG_68 : (.fieldLink "WatchList$Event" 19 "WatchList$Event" "actionSize" "I" : Cond) ∈ gG := (List.mem_append_right _ (List.mem_append_left _ (List.mem_of_getElem? (i := 8) rfl)))
theorem mG_69 : (.fieldLink "WatchList$Event" 29 "WatchList$Event" "actionOn" "Z" : Cond) ∈ gG := (List.mem_append_right _ (List.mem_append_left _ (List.mem_of_getElem? (i := 9) rfl)))
theorem mG_70 : (.fieldLink "WatchList" 9 "WatchList" "parameters" "[I" : Cond) ∈ gG := (List.mem_append_right _ (List.mem_append_left _ (List.mem_of_getElem? (i := 10) rfl)))
theorem mG_71 : (.fieldLink "WatchList" 15 "WatchList" "limits" "[LWatchList$Limit;" : Cond) ∈ gG := (List.mem_append_right _ (List.mem_append_left _ (List.mem_of_getElem? (i := 11) rfl)))
theorem mG_72 : (.fieldLink "WatchList" 52 "WatchList" "limitCount" "I" : Cond) ∈ gG := (List.mem_append_right _ (List.mem_append_left _ (List.mem_of_getElem? (i := 12) rfl)))
theorem mG_73 : (.fieldLink "WatchList" 95 "WatchList" "brokenSoFar" "I" : Cond) ∈ gG := (List.mem_append_right _ (List.mem_append_left _ (List.mem_of_getElem? (i := 13) rfl)))
theorem mG_74 : (.fieldLink "WatchList" 76 "WatchList" "linkedBroken" "Z" : Cond) ∈ gG := (List.mem_append_right _ (List.mem_append_left _ (List.mem_of_getElem? (i := 14) rfl)))
theorem mG_75 : (.fieldLink "WatchList" 21 "WatchList" "events" "[LWatchList$Event;" : Cond) ∈ gG := (List.mem_append_right _ (List.mem_append_left _ (List.mem_of_getElem? (i := 15) rfl)))
theorem mG_76 : (.fieldLink "WatchList" 28 "WatchList" "waiting" "LWatchList$Queue;" : Cond) ∈ gG := (List.mem_append_right _ (List.mem_append_left _ (List.mem_of_getElem? (i := 16) rfl)))
theorem mG_77 : (.fieldLink "WatchList" 117 "WatchList" "lostSoFar" "I" : Cond) ∈ gG := (List.mem_append_right _ (List.mem_append_left _ (List.mem_of_getElem? (i := 17) rfl)))
theorem mG_78 : (.fieldLink "WatchList" 108 "WatchList" "workedNumber" "I" : Cond) ∈ gG := (List.mem_append_right _ (List.mem_append_left _ (List.mem_of_getElem? (i := 18) rfl)))
theorem mG_79 : (.fieldLink "WatchList" 32 "WatchList" "text" "[B" : Cond) ∈ gG := (List.mem_append_right _ (List.mem_append_left _ (List.mem_of_getElem? (i := 19) rfl)))
theorem mG_80 : (.fieldLink "WatchList" 123 "WatchList" "textSize" "I" : Cond) ∈ gG := (List.mem_append_right _ (List.mem_append_left _ (List.mem_of_getElem? (i := 20) rfl)))
theorem mG_81 : (.methodLink "WatchListLaw" 13 yX3_set : Cond) ∈ gG := (List.mem_append_right _ (List.mem_append_left _ (List.mem_of_getElem? (i := 21) rfl)))
theorem mG_82 : (.instanceMethod yX3_set : Cond) ∈ gG := (List.mem_append_right _ (List.mem_append_left _ (List.mem_of_getElem? (i := 22) rfl)))
theorem mG_83 : (.selects "WatchList" yX3_set yX3_set : Cond) ∈ gG := (List.mem_append_right _ (List.mem_append_left _ (List.mem_of_getElem? (i := 23) rfl)))
theorem mG_84 : (.code yX3_set prog_1_method_2_code 3 (some .boolean) : Cond) ∈ gG := (List.mem_append_right _ (List.mem_append_left _ (List.mem_of_getElem? (i := 24) rfl)))
theorem mG_85 : (.methodLink "WatchList" 38 yX3_isParameter : Cond) ∈ gG := (List.mem_append_right _ (List.mem_append_left _ (List.mem_of_getElem? (i := 25) rfl)))
theorem mG_86 : (.static yX3_isParameter : Cond) ∈ gG := (List.mem_append_right _ (List.mem_append_left _ (List.mem_of_getElem? (i := 26) rfl)))
theorem mG_87 : (.code yX3_isParameter prog_1_method_20_code 1 (some .boolean) : Cond) ∈ gG := (List.mem_append_right _ (List.mem_append_left _ (List.mem_of_getElem? (i := 27) rfl)))
theorem mG_88 : (.methodLink "WatchListLaw" 18 yX3_add : Cond) ∈ gG := (List.mem_append_right _ (List.mem_append_left _ (List.mem_of_getElem? (i := 28) rfl)))
theorem mG_89 : (.instanceMethod yX3_add : Cond) ∈ gG := (List.mem_append_right _ (List.mem_append_left _ (List.mem_of_getElem? (i := 29) rfl)))
theorem mG_90 : (.selects "WatchList" yX3_add yX3_add : Cond) ∈ gG := (List.mem_append_right _ (List.mem_append_left _ (List.mem_of_getElem? (i := 30) rfl)))
theorem mG_91 : (.code yX3_add prog_1_method_3_code 10 (some .int) : Cond) ∈ gG := (List.mem_append_right _ (List.mem_append_left _ (List.mem_of_getElem? (i := 31) rfl)))
theorem mG_92 : (.methodLink "WatchList" 42 yX3_isId : Cond) ∈ gG := (List.mem_append_right _ (List.mem_append_left _ (List.mem_of_getElem? (i := 32) rfl)))
theorem mG_93 : (.static yX3_isId : Cond) ∈ gG := (List.mem_append_right _ (List.mem_append_left _ (List.mem_of_getElem? (i := 33) rfl)))
theorem mG_94 : (.code yX3_isId prog_1_method_21_code 1 (some .boolean) : Cond) ∈ gG := (List.mem_append_right _ (List.mem_append_left _ (List.mem_of_getElem? (i := 34) rfl)))
theorem mG_95 : (.methodLink "WatchList" 45 yX3_isEvent : Cond) ∈ gG := (List.mem_append_right _ (List.mem_append_left _ (List.mem_of_getElem? (i := 35) rfl)))
theorem mG_96 : (.static yX3_isEvent : Cond) ∈ gG := (List.mem_append_right _ (List.mem_append_left _ (List.mem_of_getElem? (i := 36) rfl)))
theorem mG_97 : (.code yX3_isEvent prog_1_method_22_code 1 (some .boolean) : Cond) ∈ gG := (List.mem_append_right _ (List.mem_append_left _ (List.mem_of_getElem? (i := 37) rfl)))
theorem mG_98 : (.methodLink "WatchList" 48 yX3_placeOf : Cond) ∈ gG := (List.mem_append_right _ (List.mem_append_left _ (List.mem_of_getElem? (i := 38) rfl)))
theorem mG_99 : (.instanceMethod yX3_placeOf : Cond) ∈ gG := (List.mem_append_right _ (List.mem_append_left _ (List.mem_of_getElem? (i := 39) rfl)))
theorem mG_100 : (.code yX3_placeOf prog_1_method_24_code 3 (some .int) : Cond) ∈ gG := (List.mem_append_right _ (List.mem_append_left _ (List.mem_of_getElem? (i := 40) rfl)))
theorem mG_101 : (.methodLink "WatchList" 56 yX3_openPlaceFor : Cond) ∈ gG := (List.mem_append_right _ (List.mem_append_left _ (List.mem_of_getElem? (i := 41) rfl)))
theorem mG_102 : (.instanceMethod yX3_openPlaceFor : Cond) ∈ gG := (List.mem_append_right _ (List.mem_append_left _ (List.mem_of_getElem? (i := 42) rfl)))
theorem mG_103 : (.code yX3_openPlaceFor prog_1_method_25_code 4 (Option.some (.object "WatchList$Limit")) : Cond) ∈ gG := (List.mem_append_right _ (List.mem_append_left _ (List.mem_of_getElem? (i := 43) rfl)))
theorem mG_104 : (.instanceMethod yX1_begin : Cond) ∈ gG := (List.mem_append_right _ (List.mem_append_left _ (List.mem_of_getElem? (i := 44) rfl)))
theorem mG_105 : (.code yX1_begin prog_3_method_2_code 8 none : Cond) ∈ gG := (List.mem_append_right _ (List.mem_append_left _ (List.mem_of_getElem? (i := 45) rfl)))
theorem mG_106 : (.methodLink "WatchList$Limit" 34 yX1_turn : Cond) ∈ gG := (List.mem_append_right _ (List.mem_append_left _ (List.mem_of_getElem? (i := 46) rfl)))
theorem mG_107 : (.instanceMethod yX1_turn : Cond) ∈ gG := (List.mem_append_right _ (List.mem_append_left _ (List.mem_of_getElem? (i := 47) rfl)))
theorem mG_108 : (.code yX1_turn prog_3_method_3_code 2 none : Cond) ∈ gG := (List.mem_append_right _ (List.mem_append_left _ (List.mem_of_getElem? (i := 48) rfl)))
theorem mG_109 : (.methodLink "WatchListLaw" 23 yX3_remove : Cond) ∈ gG := (List.mem_append_right _ (List.mem_append_left _ (List.mem_of_getElem? (i := 49) rfl)))
theorem mG_110 : (.instanceMethod yX3_remove : Cond) ∈ gG := (List.mem_append_right _ (List.mem_append_left _ (List.mem_of_getElem? (i := 50) rfl)))
theorem mG_111 : (.selects "WatchList" yX3_remove yX3_remove : Cond) ∈ gG := (List.mem_append_right _ (List.mem_append_left _ (List.mem_of_getElem? (i := 51) rfl)))
theorem mG_112 : (.code yX3_remove prog_1_method_4_code 3 (some .int) : Cond) ∈ gG := (List.mem_append_right _ (List.mem_append_left _ (List.mem_of_getElem? (i := 52) rfl)))
theorem mG_113 : (.methodLink "WatchList" 68 yX3_closePlace : Cond) ∈ gG := (List.mem_append_right _ (List.mem_append_left _ (List.mem_of_getElem? (i := 53) rfl)))
theorem mG_114 : (.instanceMethod yX3_closePlace : Cond) ∈ gG := (List.mem_append_right _ (List.mem_append_left _ (List.mem_of_getElem? (i := 54) rfl)))
theorem mG_115 : (.code yX3_closePlace prog_1_method_26_code 4 none : Cond) ∈ gG := (List.mem_append_right _ (List.mem_append_left _ (List.mem_of_getElem? (i := 55) rfl)))
theorem mG_116 : (.methodLink "WatchListLaw" 28 yX3_enable : Cond) ∈ gG := (List.mem_append_right _ (List.mem_append_left _ (List.mem_of_getElem? (i := 56) rfl)))
theorem mG_117 : (.instanceMethod yX3_enable : Cond) ∈ gG := (List.mem_append_right _ (List.mem_append_left _ (List.mem_of_getElem? (i := 57) rfl)))
theorem mG_118 : (.selects "WatchList" yX3_enable yX3_enable : Cond) ∈ gG := (List.mem_append_right _ (List.mem_append_left _ (List.mem_of_getElem? (i := 58) rfl)))
theorem mG_119 : (.code yX3_enable prog_1_method_5_code 4 (some .int) : Cond) ∈ gG := (List.mem_append_right _ (List.mem_append_left _ (List.mem_of_getElem? (i := 59) rfl)))
theorem mG_120 : (.methodLink "WatchListLaw" 33 yX3_watch : Cond) ∈ gG := (List.mem_append_right _ (List.mem_append_right _ (List.mem_append_left _ (List.mem_of_getElem? (i := 0) rfl))))
theorem mG_121 : (.instanceMethod yX3_watch : Cond) ∈ gG := (List.mem_append_right _ (List.mem_append_right _ (List.mem_append_left _ (List.mem_of_getElem? (i := 1) rfl))))
theorem mG_122 : (.selects "WatchList" yX3_watch yX3_watch : Cond) ∈ gG := (List.mem_append_right _ (List.mem_append_right _ (List.mem_append_left _ (List.mem_of_getElem? (i := 2) rfl))))
theorem mG_123 : (.code yX3_watch prog_1_method_6_code 5 (some .int) : Cond) ∈ gG := (List.mem_append_right _ (List.mem_append_right _ (List.mem_append_left _ (List.mem_of_getElem? (i := 3) rfl))))
theorem mG_124 : (.instanceMethod yX1_breaksAt : Cond) ∈ gG := (List.mem_append_right _ (List.mem_append_right _ (List.mem_append_left _ (List.mem_of_getElem? (i := 4) rfl))))
theorem mG_125 : (.code yX1_breaksAt prog_3_method_4_code 2 (some .boolean) : Cond) ∈ gG := (List.mem_append_right _ (List.mem_append_right _ (List.mem_append_left _ (List.mem_of_getElem? (i := 5) rfl))))
theorem mG_126 : (.methodLink "WatchList" 91 yX3_waitOrLose : Cond) ∈ gG := (List.mem_append_right _ (List.mem_append_right _ (List.mem_append_left _ (List.mem_of_getElem? (i := 6) rfl))))
theorem mG_127 : (.instanceMethod yX3_waitOrLose : Cond) ∈ gG := (List.mem_append_right _ (List.mem_append_right _ (List.mem_append_left _ (List.mem_of_getElem? (i := 7) rfl))))
theorem mG_128 : (.code yX3_waitOrLose prog_1_method_27_code 3 (some .boolean) : Cond) ∈ gG := (List.mem_append_right _ (List.mem_append_right _ (List.mem_append_left _ (List.mem_of_getElem? (i := 8) rfl))))
theorem mG_129 : (.instanceMethod yX2_append : Cond) ∈ gG := (List.mem_append_right _ (List.mem_append_right _ (List.mem_append_left _ (List.mem_of_getElem? (i := 9) rfl))))
theorem mG_130 : (.code yX2_append prog_4_method_2_code 4 none : Cond) ∈ gG := (List.mem_append_right _ (List.mem_append_right _ (List.mem_append_left _ (List.mem_of_getElem? (i := 10) rfl))))
theorem mG_131 : (.methodLink "WatchListLaw" 38 yX3_linked : Cond) ∈ gG := (List.mem_append_right _ (List.mem_append_right _ (List.mem_append_left _ (List.mem_of_getElem? (i := 11) rfl))))
theorem mG_132 : (.instanceMethod yX3_linked : Cond) ∈ gG := (List.mem_append_right _ (List.mem_append_right _ (List.mem_append_left _ (List.mem_of_getElem? (i := 12) rfl))))
theorem mG_133 : (.selects "WatchList" yX3_linked yX3_linked : Cond) ∈ gG := (List.mem_append_right _ (List.mem_append_right _ (List.mem_append_left _ (List.mem_of_getElem? (i := 13) rfl))))
theorem mG_134 : (.code yX3_linked prog_1_method_7_code 1 (some .boolean) : Cond) ∈ gG := (List.mem_append_right _ (List.mem_append_right _ (List.mem_append_left _ (List.mem_of_getElem? (i := 14) rfl))))
theorem mG_135 : (.methodLink "WatchListLaw" 43 yX3_raise : Cond) ∈ gG := (List.mem_append_right _ (List.mem_append_right _ (List.mem_append_left _ (List.mem_of_getElem? (i := 15) rfl))))
theorem mG_136 : (.instanceMethod yX3_raise : Cond) ∈ gG := (List.mem_append_right _ (List.mem_append_right _ (List.mem_append_left _ (List.mem_of_getElem? (i := 16) rfl))))
theorem mG_137 : (.selects "WatchList" yX3_raise yX3_raise : Cond) ∈ gG := (List.mem_append_right _ (List.mem_append_right _ (List.mem_append_left _ (List.mem_of_getElem? (i := 17) rfl))))
theorem mG_138 : (.code yX3_raise prog_1_method_8_code 3 (some .boolean) : Cond) ∈ gG := (List.mem_append_right _ (List.mem_append_right _ (List.mem_append_left _ (List.mem_of_getElem? (i := 18) rfl))))
theorem mG_139 : (.methodLink "WatchListLaw" 47 yX3_work : Cond) ∈ gG := (List.mem_append_right _ (List.mem_append_right _ (List.mem_append_left _ (List.mem_of_getElem? (i := 19) rfl))))
theorem mG_140 : (.instanceMethod yX3_work : Cond) ∈ gG := (List.mem_append_right _ (List.mem_append_right _ (List.mem_append_left _ (List.mem_of_getElem? (i := 20) rfl))))
theorem mG_141 : (.selects "WatchList" yX3_work yX3_work : Cond) ∈ gG := (List.mem_append_right _ (List.mem_append_right _ (List.mem_append_left _ (List.mem_of_getElem? (i := 21) rfl))))
theorem mG_142 : (.code yX3_work prog_1_method_9_code 2 (some .int) : Cond) ∈ gG := (List.mem_append_right _ (List.mem_append_right _ (List.mem_append_left _ (List.mem_of_getElem? (i := 22) rfl))))
theorem mG_143 : (.instanceMethod yX2_firstEvent : Cond) ∈ gG := (List.mem_append_right _ (List.mem_append_right _ (List.mem_append_left _ (List.mem_of_getElem? (i := 23) rfl))))
theorem mG_144 : (.code yX2_firstEvent prog_4_method_3_code 1 (some .int) : Cond) ∈ gG := (List.mem_append_right _ (List.mem_append_right _ (List.mem_append_left _ (List.mem_of_getElem? (i := 24) rfl))))
theorem mG_145 : (.instanceMethod yX2_firstNumber : Cond) ∈ gG := (List.mem_append_right _ (List.mem_append_right _ (List.mem_append_left _ (List.mem_of_getElem? (i := 25) rfl))))
theorem mG_146 : (.code yX2_firstNumber prog_4_method_4_code 1 (some .int) : Cond) ∈ gG := (List.mem_append_right _ (List.mem_append_right _ (List.mem_append_left _ (List.mem_of_getElem? (i := 26) rfl))))
theorem mG_147 : (.instanceMethod yX2_takeFirst : Cond) ∈ gG := (List.mem_append_right _ (List.mem_append_right _ (List.mem_append_left _ (List.mem_of_getElem? (i := 27) rfl))))
theorem mG_148 : (.code yX2_takeFirst prog_4_method_5_code 1 none : Cond) ∈ gG := (List.mem_append_right _ (List.mem_append_right _ (List.mem_append_left _ (List.mem_of_getElem? (i := 28) rfl))))
theorem mG_149 : (.methodLink "WatchListLaw" 51 yX3_lose : Cond) ∈ gG := (List.mem_append_right _ (List.mem_append_right _ (List.mem_append_left _ (List.mem_of_getElem? (i := 29) rfl))))
theorem mG_150 : (.instanceMethod yX3_lose : Cond) ∈ gG := (List.mem_append_right _ (List.mem_append_right _ (List.mem_append_left _ (List.mem_of_getElem? (i := 30) rfl))))
theorem mG_151 : (.selects "WatchList" yX3_lose yX3_lose : Cond) ∈ gG := (List.mem_append_right _ (List.mem_append_right _ (List.mem_append_left _ (List.mem_of_getElem? (i := 31) rfl))))
theorem mG_152 : (.code yX3_lose prog_1_method_10_code 2 (some .int) : Cond) ∈ gG := (List.mem_append_right _ (List.mem_append_right _ (List.mem_append_left _ (List.mem_of_getElem? (i := 32) rfl))))
theorem mG_153 : (.instanceMethod yX2_empty : Cond) ∈ gG := (List.mem_append_right _ (List.mem_append_right _ (List.mem_append_left _ (List.mem_of_getElem? (i := 33) rfl))))
theorem mG_154 : (.code yX2_empty prog_4_method_6_code 1 none : Cond) ∈ gG := (List.mem_append_right _ (List.mem_append_right _ (List.mem_append_left _ (List.mem_of_getElem? (i := 34) rfl))))
theorem mG_155 : (.methodLink "WatchListLaw" 55 yX3_tell : Cond) ∈ gG := (List.mem_append_right _ (List.mem_append_right _ (List.mem_append_left _ (List.mem_of_getElem? (i := 35) rfl))))
theorem mG_156 : (.instanceMethod yX3_tell : Cond) ∈ gG := (List.mem_append_right _ (List.mem_append_right _ (List.mem_append_left _ (List.mem_of_getElem? (i := 36) rfl))))
theorem mG_157 : (.selects "WatchList" yX3_tell yX3_tell : Cond) ∈ gG := (List.mem_append_right _ (List.mem_append_right _ (List.mem_append_left _ (List.mem_of_getElem? (i := 37) rfl))))
theorem mG_158 : (.code yX3_tell prog_1_method_11_code 3 (some .int) : Cond) ∈ gG := (List.mem_append_right _ (List.mem_append_right _ (List.mem_append_left _ (List.mem_of_getElem? (i := 38) rfl))))
theorem mG_159 : (.methodLink "WatchListLaw" 59 yX3_put : Cond) ∈ gG := (List.mem_append_right _ (List.mem_append_right _ (List.mem_append_left _ (List.mem_of_getElem? (i := 39) rfl))))
theorem mG_160 : (.instanceMethod yX3_put : Cond) ∈ gG := (List.mem_append_right _ (List.mem_append_right _ (List.mem_append_left _ (List.mem_of_getElem? (i := 40) rfl))))
theorem mG_161 : (.selects "WatchList" yX3_put yX3_put : Cond) ∈ gG := (List.mem_append_right _ (List.mem_append_right _ (List.mem_append_left _ (List.mem_of_getElem? (i := 41) rfl))))
theorem mG_162 : (.code yX3_put prog_1_method_12_code 2 (some .int) : Cond) ∈ gG := (List.mem_append_right _ (List.mem_append_right _ (List.mem_append_left _ (List.mem_of_getElem? (i := 42) rfl))))
theorem mG_163 : (.methodLink "WatchListLaw" 63 yX3_act : Cond) ∈ gG := (List.mem_append_right _ (List.mem_append_right _ (List.mem_append_left _ (List.mem_of_getElem? (i := 43) rfl))))
theorem mG_164 : (.instanceMethod yX3_act : Cond) ∈ gG := (List.mem_append_right _ (List.mem_append_right _ (List.mem_append_left _ (List.mem_of_getElem? (i := 44) rfl))))
theorem mG_165 : (.selects "WatchList" yX3_act yX3_act : Cond) ∈ gG := (List.mem_append_right _ (List.mem_append_right _ (List.mem_append_left _ (List.mem_of_getElem? (i := 45) rfl))))
theorem mG_166 : (.code yX3_act prog_1_method_13_code 3 (some .int) : Cond) ∈ gG := (List.mem_append_right _ (List.mem_append_right _ (List.mem_append_left _ (List.mem_of_getElem? (i := 46) rfl))))
theorem mG_167 : (.instanceMethod yX0_hasAction : Cond) ∈ gG := (List.mem_append_right _ (List.mem_append_right _ (List.mem_append_left _ (List.mem_of_getElem? (i := 47) rfl))))
theorem mG_168 : (.code yX0_hasAction prog_2_method_2_code 1 (some .boolean) : Cond) ∈ gG := (List.mem_append_right _ (List.mem_append_right _ (List.mem_append_left _ (List.mem_of_getElem? (i := 48) rfl))))
theorem mG_169 : (.instanceMethod yX0_takeAction : Cond) ∈ gG := (List.mem_append_right _ (List.mem_append_right _ (List.mem_append_left _ (List.mem_of_getElem? (i := 49) rfl))))
theorem mG_170 : (.code yX0_takeAction prog_2_method_3_code 3 none : Cond) ∈ gG := (List.mem_append_right _ (List.mem_append_right _ (List.mem_append_left _ (List.mem_of_getElem? (i := 50) rfl))))
theorem mG_171 : (.methodLink "WatchList$Event" 23 arraycopyName : Cond) ∈ gG := (List.mem_append_right _ (List.mem_append_right _ (List.mem_append_left _ (List.mem_of_getElem? (i := 51) rfl))))
theorem mG_172 : (.static arraycopyName : Cond) ∈ gG := (List.mem_append_right _ (List.mem_append_right _ (List.mem_append_left _ (List.mem_of_getElem? (i := 52) rfl))))
theorem mG_173 : (.native arraycopyName : Cond) ∈ gG := (List.mem_append_right _ (List.mem_append_right _ (List.mem_append_left _ (List.mem_of_getElem? (i := 53) rfl))))
theorem mG_174 : (.methodLink "WatchListLaw" 67 yX3_drop : Cond) ∈ gG := (List.mem_append_right _ (List.mem_append_right _ (List.mem_append_left _ (List.mem_of_getElem? (i := 54) rfl))))
theorem mG_175 : (.instanceMethod yX3_drop : Cond) ∈ gG := (List.mem_append_right _ (List.mem_append_right _ (List.mem_append_left _ (List.mem_of_getElem? (i := 55) rfl))))
theorem mG_176 : (.selects "WatchList" yX3_drop yX3_drop : Cond) ∈ gG := (List.mem_append_right _ (List.mem_append_right _ (List.mem_append_left _ (List.mem_of_getElem? (i := 56) rfl))))
theorem mG_177 : (.code yX3_drop prog_1_method_14_code 3 (some .int) : Cond) ∈ gG := (List.mem_append_right _ (List.mem_append_right _ (List.mem_append_left _ (List.mem_of_getElem? (i := 57) rfl))))
theorem mG_178 : (.methodLink "WatchList" 134 yX3_actionFailure : Cond) ∈ gG := (List.mem_append_right _ (List.mem_append_right _ (List.mem_append_left _ (List.mem_of_getElem? (i := 58) rfl))))
theorem mG_179 : (.instanceMethod yX3_actionFailure : Cond) ∈ gG := (List.mem_append_right _ (List.mem_append_right _ (List.mem_append_left _ (List.mem_of_getElem? (i := 59) rfl))))
theorem mG_180 : (.code yX3_actionFailure prog_1_method_28_code 2 (some .int) : Cond) ∈ gG := (List.mem_append_right _ (List.mem_append_right _ (List.mem_append_right _ (List.mem_append_left _ (List.mem_of_getElem? (i := 0) rfl)))))
theorem mG_181 : (.methodLink "WatchListLaw" 71 yX3_arm : Cond) ∈ gG := (List.mem_append_right _ (List.mem_append_right _ (List.mem_append_right _ (List.mem_append_left _ (List.mem_of_getElem? (i := 1) rfl)))))
theorem mG_182 : (.instanceMethod yX3_arm : Cond) ∈ gG := (List.mem_append_right _ (List.mem_append_right _ (List.mem_append_right _ (List.mem_append_left _ (List.mem_of_getElem? (i := 2) rfl)))))
theorem mG_183 : (.selects "WatchList" yX3_arm yX3_arm : Cond) ∈ gG := (List.mem_append_right _ (List.mem_append_right _ (List.mem_append_right _ (List.mem_append_left _ (List.mem_of_getElem? (i := 3) rfl)))))
theorem mG_184 : (.code yX3_arm prog_1_method_15_code 4 (some .int) : Cond) ∈ gG := (List.mem_append_right _ (List.mem_append_right _ (List.mem_append_right _ (List.mem_append_left _ (List.mem_of_getElem? (i := 4) rfl)))))
theorem mG_185 : (.methodLink "WatchListLaw" 75 yX3_limit : Cond) ∈ gG := (List.mem_append_right _ (List.mem_append_right _ (List.mem_append_right _ (List.mem_append_left _ (List.mem_of_getElem? (i := 5) rfl)))))
theorem mG_186 : (.instanceMethod yX3_limit : Cond) ∈ gG := (List.mem_append_right _ (List.mem_append_right _ (List.mem_append_right _ (List.mem_append_left _ (List.mem_of_getElem? (i := 6) rfl)))))
theorem mG_187 : (.selects "WatchList" yX3_limit yX3_limit : Cond) ∈ gG := (List.mem_append_right _ (List.mem_append_right _ (List.mem_append_right _ (List.mem_append_left _ (List.mem_of_getElem? (i := 7) rfl)))))
theorem mG_188 : (.code yX3_limit prog_1_method_16_code 4 (some .int) : Cond) ∈ gG := (List.mem_append_right _ (List.mem_append_right _ (List.mem_append_right _ (List.mem_append_left _ (List.mem_of_getElem? (i := 8) rfl)))))
theorem mG_189 : (.instanceMethod yX1_tellOf : Cond) ∈ gG := (List.mem_append_right _ (List.mem_append_right _ (List.mem_append_right _ (List.mem_append_left _ (List.mem_of_getElem? (i := 9) rfl)))))
theorem mG_190 : (.code yX1_tellOf prog_3_method_5_code 2 (some .int) : Cond) ∈ gG := (List.mem_append_right _ (List.mem_append_right _ (List.mem_append_right _ (List.mem_append_left _ (List.mem_of_getElem? (i := 10) rfl)))))
theorem mG_191 : (.static yX3_oneIf : Cond) ∈ gG := (List.mem_append_right _ (List.mem_append_right _ (List.mem_append_right _ (List.mem_append_left _ (List.mem_of_getElem? (i := 11) rfl)))))
theorem mG_192 : (.code yX3_oneIf prog_1_method_23_code 1 (some .int) : Cond) ∈ gG := (List.mem_append_right _ (List.mem_append_right _ (List.mem_append_right _ (List.mem_append_left _ (List.mem_of_getElem? (i := 12) rfl)))))
theorem mG_193 : (.methodLink "WatchListLaw" 80 yX3_event : Cond) ∈ gG := (List.mem_append_right _ (List.mem_append_right _ (List.mem_append_right _ (List.mem_append_left _ (List.mem_of_getElem? (i := 13) rfl)))))
theorem mG_194 : (.instanceMethod yX3_event : Cond) ∈ gG := (List.mem_append_right _ (List.mem_append_right _ (List.mem_append_right _ (List.mem_append_left _ (List.mem_of_getElem? (i := 14) rfl)))))
theorem mG_195 : (.selects "WatchList" yX3_event yX3_event : Cond) ∈ gG := (List.mem_append_right _ (List.mem_append_right _ (List.mem_append_right _ (List.mem_append_left _ (List.mem_of_getElem? (i := 15) rfl)))))
theorem mG_196 : (.code yX3_event prog_1_method_17_code 3 (some .int) : Cond) ∈ gG := (List.mem_append_right _ (List.mem_append_right _ (List.mem_append_right _ (List.mem_append_left _ (List.mem_of_getElem? (i := 16) rfl)))))
theorem mG_197 : (.instanceMethod yX0_tellOf : Cond) ∈ gG := (List.mem_append_right _ (List.mem_append_right _ (List.mem_append_right _ (List.mem_append_left _ (List.mem_of_getElem? (i := 17) rfl)))))
theorem mG_198 : (.code yX0_tellOf prog_2_method_5_code 2 (some .int) : Cond) ∈ gG := (List.mem_append_right _ (List.mem_append_right _ (List.mem_append_right _ (List.mem_append_left _ (List.mem_of_getElem? (i := 18) rfl)))))
theorem mG_199 : (.methodLink "WatchListLaw" 84 yX3_actionAt : Cond) ∈ gG := (List.mem_append_right _ (List.mem_append_right _ (List.mem_append_right _ (List.mem_append_left _ (List.mem_of_getElem? (i := 19) rfl)))))
theorem mG_200 : (.instanceMethod yX3_actionAt : Cond) ∈ gG := (List.mem_append_right _ (List.mem_append_right _ (List.mem_append_right _ (List.mem_append_left _ (List.mem_of_getElem? (i := 20) rfl)))))
theorem mG_201 : (.selects "WatchList" yX3_actionAt yX3_actionAt : Cond) ∈ gG := (List.mem_append_right _ (List.mem_append_right _ (List.mem_append_right _ (List.mem_append_left _ (List.mem_of_getElem? (i := 21) rfl)))))
theorem mG_202 : (.code yX3_actionAt prog_1_method_18_code 3 (some .int) : Cond) ∈ gG := (List.mem_append_right _ (List.mem_append_right _ (List.mem_append_right _ (List.mem_append_left _ (List.mem_of_getElem? (i := 22) rfl)))))
theorem mG_203 : (.instanceMethod yX0_byteAt : Cond) ∈ gG := (List.mem_append_right _ (List.mem_append_right _ (List.mem_append_right _ (List.mem_append_left _ (List.mem_of_getElem? (i := 23) rfl)))))
theorem mG_204 : (.code yX0_byteAt prog_2_method_4_code 2 (some .int) : Cond) ∈ gG := (List.mem_append_right _ (List.mem_append_right _ (List.mem_append_right _ (List.mem_append_left _ (List.mem_of_getElem? (i := 24) rfl)))))
theorem mG_205 : (.methodLink "WatchListLaw" 88 yX3_count : Cond) ∈ gG := (List.mem_append_right _ (List.mem_append_right _ (List.mem_append_right _ (List.mem_append_left _ (List.mem_of_getElem? (i := 25) rfl)))))
theorem mG_206 : (.instanceMethod yX3_count : Cond) ∈ gG := (List.mem_append_right _ (List.mem_append_right _ (List.mem_append_right _ (List.mem_append_left _ (List.mem_of_getElem? (i := 26) rfl)))))
theorem mG_207 : (.selects "WatchList" yX3_count yX3_count : Cond) ∈ gG := (List.mem_append_right _ (List.mem_append_right _ (List.mem_append_right _ (List.mem_append_left _ (List.mem_of_getElem? (i := 27) rfl)))))
theorem mG_208 : (.code yX3_count prog_1_method_19_code 2 (some .int) : Cond) ∈ gG := (List.mem_append_right _ (List.mem_append_right _ (List.mem_append_right _ (List.mem_append_left _ (List.mem_of_getElem? (i := 28) rfl)))))
theorem mG_209 : (.classLink "WatchListLaw" 10 "WatchListModel" : Cond) ∈ gG := (List.mem_append_right _ (List.mem_append_right _ (List.mem_append_right _ (List.mem_append_left _ (List.mem_of_getElem? (i := 29) rfl)))))
theorem mG_210 : (.instantiable "WatchListModel" 24 : Cond) ∈ gG := (List.mem_append_right _ (List.mem_append_right _ (List.mem_append_right _ (List.mem_append_left _ (List.mem_of_getElem? (i := 30) rfl)))))
theorem mG_211 : (.methodLink "WatchListLaw" 12 yX4_init : Cond) ∈ gG := (List.mem_append_right _ (List.mem_append_right _ (List.mem_append_right _ (List.mem_append_left _ (List.mem_of_getElem? (i := 31) rfl)))))
theorem mG_212 : (.instanceMethod yX4_init : Cond) ∈ gG := (List.mem_append_right _ (List.mem_append_right _ (List.mem_append_right _ (List.mem_append_left _ (List.mem_of_getElem? (i := 32) rfl)))))
theorem mG_213 : (.code yX4_init prog_6_method_1_code 1 none : Cond) ∈ gG := (List.mem_append_right _ (List.mem_append_right _ (List.mem_append_right _ (List.mem_append_left _ (List.mem_of_getElem? (i := 33) rfl)))))
theorem mG_214 : (.methodLink "WatchListModel" 1 objectInit : Cond) ∈ gG := (List.mem_append_right _ (List.mem_append_right _ (List.mem_append_right _ (List.mem_append_left _ (List.mem_of_getElem? (i := 34) rfl)))))
theorem mG_215 : (.fieldLink "WatchListModel" 63 "WatchListModel" "thrown" "I" : Cond) ∈ gG := (List.mem_append_right _ (List.mem_append_right _ (List.mem_append_right _ (List.mem_append_left _ (List.mem_of_getElem? (i := 35) rfl)))))
theorem mG_216 : (.fieldLink "WatchListModel" 7 "WatchListModel" "parameters" "[I" : Cond) ∈ gG := (List.mem_append_right _ (List.mem_append_right _ (List.mem_append_right _ (List.mem_append_left _ (List.mem_of_getElem? (i := 36) rfl)))))
theorem mG_217 : (.fieldLink "WatchListModel" 13 "WatchListModel" "there" "[Z" : Cond) ∈ gG := (List.mem_append_right _ (List.mem_append_right _ (List.mem_append_right _ (List.mem_append_left _ (List.mem_of_getElem? (i := 37) rfl)))))
theorem mG_218 : (.fieldLink "WatchListModel" 17 "WatchListModel" "on" "[Z" : Cond) ∈ gG := (List.mem_append_right _ (List.mem_append_right _ (List.mem_append_right _ (List.mem_append_left _ (List.mem_of_getElem? (i := 38) rfl)))))
theorem mG_219 : (.fieldLink "WatchListModel" 20 "WatchListModel" "links" "[Z" : Cond) ∈ gG := (List.mem_append_right _ (List.mem_append_right _ (List.mem_append_right _ (List.mem_append_left _ (List.mem_of_getElem? (i := 39) rfl)))))
theorem mG_220 : (.fieldLink "WatchListModel" 23 "WatchListModel" "of" "[I" : Cond) ∈ gG := (List.mem_append_right _ (List.mem_append_right _ (List.mem_append_right _ (List.mem_append_left _ (List.mem_of_getElem? (i := 40) rfl)))))
theorem mG_221 : (.fieldLink "WatchListModel" 26 "WatchListModel" "times" "[I" : Cond) ∈ gG := (List.mem_append_right _ (List.mem_append_right _ (List.mem_append_right _ (List.mem_append_left _ (List.mem_of_getElem? (i := 41) rfl)))))
theorem mG_222 : (.fieldLink "WatchListModel" 29 "WatchListModel" "low" "[I" : Cond) ∈ gG := (List.mem_append_right _ (List.mem_append_right _ (List.mem_append_right _ (List.mem_append_left _ (List.mem_of_getElem? (i := 42) rfl)))))
theorem mG_223 : (.fieldLink "WatchListModel" 32 "WatchListModel" "high" "[I" : Cond) ∈ gG := (List.mem_append_right _ (List.mem_append_right _ (List.mem_append_right _ (List.mem_append_left _ (List.mem_of_getElem? (i := 43) rfl)))))
theorem mG_224 : (.fieldLink "WatchListModel" 35 "WatchListModel" "raises" "[I" : Cond) ∈ gG := (List.mem_append_right _ (List.mem_append_right _ (List.mem_append_right _ (List.mem_append_left _ (List.mem_of_getElem? (i := 44) rfl)))))
theorem mG_225 : (.fieldLink "WatchListModel" 38 "WatchListModel" "counts" "[I" : Cond) ∈ gG := (List.mem_append_right _ (List.mem_append_right _ (List.mem_append_right _ (List.mem_append_left _ (List.mem_of_getElem? (i := 45) rfl)))))
theorem mG_226 : (.fieldLink "WatchListModel" 93 "WatchListModel" "broken" "I" : Cond) ∈ gG := (List.mem_append_right _ (List.mem_append_right _ (List.mem_append_right _ (List.mem_append_left _ (List.mem_of_getElem? (i := 46) rfl)))))
theorem mG_227 : (.fieldLink "WatchListModel" 85 "WatchListModel" "linked" "Z" : Cond) ∈ gG := (List.mem_append_right _ (List.mem_append_right _ (List.mem_append_right _ (List.mem_append_left _ (List.mem_of_getElem? (i := 47) rfl)))))
theorem mG_228 : (.fieldLink "WatchListModel" 79 "WatchListModel" "waiting" "I" : Cond) ∈ gG := (List.mem_append_right _ (List.mem_append_right _ (List.mem_append_right _ (List.mem_append_left _ (List.mem_of_getElem? (i := 48) rfl)))))
theorem mG_229 : (.fieldLink "WatchListModel" 41 "WatchListModel" "events" "[I" : Cond) ∈ gG := (List.mem_append_right _ (List.mem_append_right _ (List.mem_append_right _ (List.mem_append_left _ (List.mem_of_getElem? (i := 49) rfl)))))
theorem mG_230 : (.fieldLink "WatchListModel" 44 "WatchListModel" "numbers" "[I" : Cond) ∈ gG := (List.mem_append_right _ (List.mem_append_right _ (List.mem_append_right _ (List.mem_append_left _ (List.mem_of_getElem? (i := 50) rfl)))))
theorem mG_231 : (.fieldLink "WatchListModel" 82 "WatchListModel" "lost" "I" : Cond) ∈ gG := (List.mem_append_right _ (List.mem_append_right _ (List.mem_append_right _ (List.mem_append_left _ (List.mem_of_getElem? (i := 51) rfl)))))
theorem mG_232 : (.fieldLink "WatchListModel" 99 "WatchListModel" "worked" "I" : Cond) ∈ gG := (List.mem_append_right _ (List.mem_append_right _ (List.mem_append_right _ (List.mem_append_left _ (List.mem_of_getElem? (i := 52) rfl)))))
theorem mG_233 : (.fieldLink "WatchListModel" 47 "WatchListModel" "silent" "[Z" : Cond) ∈ gG := (List.mem_append_right _ (List.mem_append_right _ (List.mem_append_right _ (List.mem_append_left _ (List.mem_of_getElem? (i := 53) rfl)))))
theorem mG_234 : (.fieldLink "WatchListModel" 50 "WatchListModel" "sizes" "[I" : Cond) ∈ gG := (List.mem_append_right _ (List.mem_append_right _ (List.mem_append_right _ (List.mem_append_left _ (List.mem_of_getElem? (i := 54) rfl)))))
theorem mG_235 : (.fieldLink "WatchListModel" 53 "WatchListModel" "armed" "[Z" : Cond) ∈ gG := (List.mem_append_right _ (List.mem_append_right _ (List.mem_append_right _ (List.mem_append_left _ (List.mem_of_getElem? (i := 55) rfl)))))
theorem mG_236 : (.fieldLink "WatchListModel" 56 "WatchListModel" "actions" "[B" : Cond) ∈ gG := (List.mem_append_right _ (List.mem_append_right _ (List.mem_append_right _ (List.mem_append_left _ (List.mem_of_getElem? (i := 56) rfl)))))
theorem mG_237 : (.fieldLink "WatchListModel" 102 "WatchListModel" "size" "I" : Cond) ∈ gG := (List.mem_append_right _ (List.mem_append_right _ (List.mem_append_right _ (List.mem_append_left _ (List.mem_of_getElem? (i := 57) rfl)))))
theorem mG_238 : (.fieldLink "WatchListModel" 60 "WatchListModel" "text" "[B" : Cond) ∈ gG := (List.mem_append_right _ (List.mem_append_right _ (List.mem_append_right _ (List.mem_append_left _ (List.mem_of_getElem? (i := 58) rfl)))))
theorem mG_239 : (.arrayClass .boolean : Cond) ∈ gG := (List.mem_append_right _ (List.mem_append_right _ (List.mem_append_right _ (List.mem_append_left _ (List.mem_of_getElem? (i := 59) rfl)))))
theorem mG_240 : (.methodLink "WatchListLaw" 17 yX4_set : Cond) ∈ gG := (List.mem_append_right _ (List.mem_append_right _ (List.mem_append_right _ (List.mem_append_right _ (List.mem_append_left _ (List.mem_of_getElem? (i := 0) rfl))))))
theorem mG_241 : (.instanceMethod yX4_set : Cond) ∈ gG := (List.mem_append_right _ (List.mem_append_right _ (List.mem_append_right _ (List.mem_append_right _ (List.mem_append_left _ (List.mem_of_getElem? (i := 1) rfl))))))
theorem mG_242 : (.selects "WatchListModel" yX4_set yX4_set : Cond) ∈ gG := (List.mem_append_right _ (List.mem_append_right _ (List.mem_append_right _ (List.mem_append_right _ (List.mem_append_left _ (List.mem_of_getElem? (i := 2) rfl))))))
theorem mG_243 : (.code yX4_set prog_6_method_3_code 3 (some .boolean) : Cond) ∈ gG := (List.mem_append_right _ (List.mem_append_right _ (List.mem_append_right _ (List.mem_append_right _ (List.mem_append_left _ (List.mem_of_getElem? (i := 3) rfl))))))
theorem mG_244 : (.methodLink "WatchListLaw" 22 yX4_add : Cond) ∈ gG := (List.mem_append_right _ (List.mem_append_right _ (List.mem_append_right _ (List.mem_append_right _ (List.mem_append_left _ (List.mem_of_getElem? (i := 4) rfl))))))
theorem mG_245 : (.instanceMethod yX4_add : Cond) ∈ gG := (List.mem_append_right _ (List.mem_append_right _ (List.mem_append_right _ (List.mem_append_right _ (List.mem_append_left _ (List.mem_of_getElem? (i := 5) rfl))))))
theorem mG_246 : (.selects "WatchListModel" yX4_add yX4_add : Cond) ∈ gG := (List.mem_append_right _ (List.mem_append_right _ (List.mem_append_right _ (List.mem_append_right _ (List.mem_append_left _ (List.mem_of_getElem? (i := 6) rfl))))))
theorem mG_247 : (.code yX4_add prog_6_method_7_code 8 (some .int) : Cond) ∈ gG := (List.mem_append_right _ (List.mem_append_right _ (List.mem_append_right _ (List.mem_append_right _ (List.mem_append_left _ (List.mem_of_getElem? (i := 7) rfl))))))
theorem mG_248 : (.methodLink "WatchListModel" 67 yX4_isIn : Cond) ∈ gG := (List.mem_append_right _ (List.mem_append_right _ (List.mem_append_right _ (List.mem_append_right _ (List.mem_append_left _ (List.mem_of_getElem? (i := 8) rfl))))))
theorem mG_249 : (.static yX4_isIn : Cond) ∈ gG := (List.mem_append_right _ (List.mem_append_right _ (List.mem_append_right _ (List.mem_append_right _ (List.mem_append_left _ (List.mem_of_getElem? (i := 9) rfl))))))
theorem mG_250 : (.code yX4_isIn prog_6_method_6_code 3 (some .boolean) : Cond) ∈ gG := (List.mem_append_right _ (List.mem_append_right _ (List.mem_append_right _ (List.mem_append_right _ (List.mem_append_left _ (List.mem_of_getElem? (i := 10) rfl))))))
theorem mG_251 : (.methodLink "WatchListModel" 71 yX4_limits : Cond) ∈ gG := (List.mem_append_right _ (List.mem_append_right _ (List.mem_append_right _ (List.mem_append_right _ (List.mem_append_left _ (List.mem_of_getElem? (i := 11) rfl))))))
theorem mG_252 : (.instanceMethod yX4_limits : Cond) ∈ gG := (List.mem_append_right _ (List.mem_append_right _ (List.mem_append_right _ (List.mem_append_right _ (List.mem_append_left _ (List.mem_of_getElem? (i := 12) rfl))))))
theorem mG_253 : (.code yX4_limits prog_6_method_5_code 3 (some .int) : Cond) ∈ gG := (List.mem_append_right _ (List.mem_append_right _ (List.mem_append_right _ (List.mem_append_right _ (List.mem_append_left _ (List.mem_of_getElem? (i := 13) rfl))))))
theorem mG_254 : (.methodLink "WatchListLaw" 27 yX4_remove : Cond) ∈ gG := (List.mem_append_right _ (List.mem_append_right _ (List.mem_append_right _ (List.mem_append_right _ (List.mem_append_left _ (List.mem_of_getElem? (i := 14) rfl))))))
theorem mG_255 : (.instanceMethod yX4_remove : Cond) ∈ gG := (List.mem_append_right _ (List.mem_append_right _ (List.mem_append_right _ (List.mem_append_right _ (List.mem_append_left _ (List.mem_of_getElem? (i := 15) rfl))))))
theorem mG_256 : (.selects "WatchListModel" yX4_remove yX4_remove : Cond) ∈ gG := (List.mem_append_right _ (List.mem_append_right _ (List.mem_append_right _ (List.mem_append_right _ (List.mem_append_left _ (List.mem_of_getElem? (i := 16) rfl))))))
theorem mG_257 : (.code yX4_remove prog_6_method_8_code 2 (some .int) : Cond) ∈ gG := (List.mem_append_right _ (List.mem_append_right _ (List.mem_append_right _ (List.mem_append_right _ (List.mem_append_left _ (List.mem_of_getElem? (i := 17) rfl))))))
theorem mG_258 : (.methodLink "WatchListModel" 75 yX4_isThere : Cond) ∈ gG := (List.mem_append_right _ (List.mem_append_right _ (List.mem_append_right _ (List.mem_append_right _ (List.mem_append_left _ (List.mem_of_getElem? (i := 18) rfl))))))
theorem mG_259 : (.instanceMethod yX4_isThere : Cond) ∈ gG := (List.mem_append_right _ (List.mem_append_right _ (List.mem_append_right _ (List.mem_append_right _ (List.mem_append_left _ (List.mem_of_getElem? (i := 19) rfl))))))
theorem mG_260 : (.code yX4_isThere prog_6_method_4_code 2 (some .boolean) : Cond) ∈ gG := (List.mem_append_right _ (List.mem_append_right _ (List.mem_append_right _ (List.mem_append_right _ (List.mem_append_left _ (List.mem_of_getElem? (i := 20) rfl))))))
theorem mG_261 : (.methodLink "WatchListLaw" 32 yX4_enable : Cond) ∈ gG := (List.mem_append_right _ (List.mem_append_right _ (List.mem_append_right _ (List.mem_append_right _ (List.mem_append_left _ (List.mem_of_getElem? (i := 21) rfl))))))
theorem mG_262 : (.instanceMethod yX4_enable : Cond) ∈ gG := (List.mem_append_right _ (List.mem_append_right _ (List.mem_append_right _ (List.mem_append_right _ (List.mem_append_left _ (List.mem_of_getElem? (i := 22) rfl))))))
theorem mG_263 : (.selects "WatchListModel" yX4_enable yX4_enable : Cond) ∈ gG := (List.mem_append_right _ (List.mem_append_right _ (List.mem_append_right _ (List.mem_append_right _ (List.mem_append_left _ (List.mem_of_getElem? (i := 23) rfl))))))
theorem mG_264 : (.code yX4_enable prog_6_method_9_code 3 (some .int) : Cond) ∈ gG := (List.mem_append_right _ (List.mem_append_right _ (List.mem_append_right _ (List.mem_append_right _ (List.mem_append_left _ (List.mem_of_getElem? (i := 24) rfl))))))
theorem mG_265 : (.methodLink "WatchListLaw" 37 yX4_watch : Cond) ∈ gG := (List.mem_append_right _ (List.mem_append_right _ (List.mem_append_right _ (List.mem_append_right _ (List.mem_append_left _ (List.mem_of_getElem? (i := 25) rfl))))))
theorem mG_266 : (.instanceMethod yX4_watch : Cond) ∈ gG := (List.mem_append_right _ (List.mem_append_right _ (List.mem_append_right _ (List.mem_append_right _ (List.mem_append_left _ (List.mem_of_getElem? (i := 26) rfl))))))
theorem mG_267 : (.selects "WatchListModel" yX4_watch yX4_watch : Cond) ∈ gG := (List.mem_append_right _ (List.mem_append_right _ (List.mem_append_right _ (List.mem_append_right _ (List.mem_append_left _ (List.mem_of_getElem? (i := 27) rfl))))))
theorem mG_268 : (.code yX4_watch prog_6_method_11_code 5 (some .int) : Cond) ∈ gG := (List.mem_append_right _ (List.mem_append_right _ (List.mem_append_right _ (List.mem_append_right _ (List.mem_append_left _ (List.mem_of_getElem? (i := 28) rfl))))))
theorem mG_269 : (.methodLink "WatchListModel" 89 yX4_waits : Cond) ∈ gG := (List.mem_append_right _ (List.mem_append_right _ (List.mem_append_right _ (List.mem_append_right _ (List.mem_append_left _ (List.mem_of_getElem? (i := 29) rfl))))))
theorem mG_270 : (.instanceMethod yX4_waits : Cond) ∈ gG := (List.mem_append_right _ (List.mem_append_right _ (List.mem_append_right _ (List.mem_append_right _ (List.mem_append_left _ (List.mem_of_getElem? (i := 30) rfl))))))
theorem mG_271 : (.code yX4_waits prog_6_method_10_code 3 (some .boolean) : Cond) ∈ gG := (List.mem_append_right _ (List.mem_append_right _ (List.mem_append_right _ (List.mem_append_right _ (List.mem_append_left _ (List.mem_of_getElem? (i := 31) rfl))))))
theorem mG_272 : (.methodLink "WatchListLaw" 42 yX4_linked : Cond) ∈ gG := (List.mem_append_right _ (List.mem_append_right _ (List.mem_append_right _ (List.mem_append_right _ (List.mem_append_left _ (List.mem_of_getElem? (i := 32) rfl))))))
theorem mG_273 : (.instanceMethod yX4_linked : Cond) ∈ gG := (List.mem_append_right _ (List.mem_append_right _ (List.mem_append_right _ (List.mem_append_right _ (List.mem_append_left _ (List.mem_of_getElem? (i := 33) rfl))))))
theorem mG_274 : (.selects "WatchListModel" yX4_linked yX4_linked : Cond) ∈ gG := (List.mem_append_right _ (List.mem_append_right _ (List.mem_append_right _ (List.mem_append_right _ (List.mem_append_left _ (List.mem_of_getElem? (i := 34) rfl))))))
theorem mG_275 : (.code yX4_linked prog_6_method_12_code 1 (some .boolean) : Cond) ∈ gG := (List.mem_append_right _ (List.mem_append_right _ (List.mem_append_right _ (List.mem_append_right _ (List.mem_append_left _ (List.mem_of_getElem? (i := 35) rfl))))))
theorem mG_276 : (.methodLink "WatchListLaw" 46 yX4_raise : Cond) ∈ gG := (List.mem_append_right _ (List.mem_append_right _ (List.mem_append_right _ (List.mem_append_right _ (List.mem_append_left _ (List.mem_of_getElem? (i := 36) rfl))))))
theorem mG_277 : (.instanceMethod yX4_raise : Cond) ∈ gG := (List.mem_append_right _ (List.mem_append_right _ (List.mem_append_right _ (List.mem_append_right _ (List.mem_append_left _ (List.mem_of_getElem? (i := 37) rfl))))))
theorem mG_278 : (.selects "WatchListModel" yX4_raise yX4_raise : Cond) ∈ gG := (List.mem_append_right _ (List.mem_append_right _ (List.mem_append_right _ (List.mem_append_right _ (List.mem_append_left _ (List.mem_of_getElem? (i := 38) rfl))))))
theorem mG_279 : (.code yX4_raise prog_6_method_14_code 3 (some .boolean) : Cond) ∈ gG := (List.mem_append_right _ (List.mem_append_right _ (List.mem_append_right _ (List.mem_append_right _ (List.mem_append_left _ (List.mem_of_getElem? (i := 39) rfl))))))
theorem mG_280 : (.methodLink "WatchListModel" 96 yX4_isEvent : Cond) ∈ gG := (List.mem_append_right _ (List.mem_append_right _ (List.mem_append_right _ (List.mem_append_right _ (List.mem_append_left _ (List.mem_of_getElem? (i := 40) rfl))))))
theorem mG_281 : (.static yX4_isEvent : Cond) ∈ gG := (List.mem_append_right _ (List.mem_append_right _ (List.mem_append_right _ (List.mem_append_right _ (List.mem_append_left _ (List.mem_of_getElem? (i := 41) rfl))))))
theorem mG_282 : (.code yX4_isEvent prog_6_method_13_code 1 (some .boolean) : Cond) ∈ gG := (List.mem_append_right _ (List.mem_append_right _ (List.mem_append_right _ (List.mem_append_right _ (List.mem_append_left _ (List.mem_of_getElem? (i := 42) rfl))))))
theorem mG_283 : (.methodLink "WatchListLaw" 50 yX4_work : Cond) ∈ gG := (List.mem_append_right _ (List.mem_append_right _ (List.mem_append_right _ (List.mem_append_right _ (List.mem_append_left _ (List.mem_of_getElem? (i := 43) rfl))))))
theorem mG_284 : (.instanceMethod yX4_work : Cond) ∈ gG := (List.mem_append_right _ (List.mem_append_right _ (List.mem_append_right _ (List.mem_append_right _ (List.mem_append_left _ (List.mem_of_getElem? (i := 44) rfl))))))
theorem mG_285 : (.selects "WatchListModel" yX4_work yX4_work : Cond) ∈ gG := (List.mem_append_right _ (List.mem_append_right _ (List.mem_append_right _ (List.mem_append_right _ (List.mem_append_left _ (List.mem_of_getElem? (i := 45) rfl))))))
theorem mG_286 : (.code yX4_work prog_6_method_15_code 3 (some .int) : Cond) ∈ gG := (List.mem_append_right _ (List.mem_append_right _ (List.mem_append_right _ (List.mem_append_right _ (List.mem_append_left _ (List.mem_of_getElem? (i := 46) rfl))))))
theorem mG_287 : (.methodLink "WatchListLaw" 54 yX4_lose : Cond) ∈ gG := (List.mem_append_right _ (List.mem_append_right _ (List.mem_append_right _ (List.mem_append_right _ (List.mem_append_left _ (List.mem_of_getElem? (i := 47) rfl))))))
theorem mG_288 : (.instanceMethod yX4_lose : Cond) ∈ gG := (List.mem_append_right _ (List.mem_append_right _ (List.mem_append_right _ (List.mem_append_right _ (List.mem_append_left _ (List.mem_of_getElem? (i := 48) rfl))))))
theorem mG_289 : (.selects "WatchListModel" yX4_lose yX4_lose : Cond) ∈ gG := (List.mem_append_right _ (List.mem_append_right _ (List.mem_append_right _ (List.mem_append_right _ (List.mem_append_left _ (List.mem_of_getElem? (i := 49) rfl))))))
theorem mG_290 : (.code yX4_lose prog_6_method_16_code 2 (some .int) : Cond) ∈ gG := (List.mem_append_right _ (List.mem_append_right _ (List.mem_append_right _ (List.mem_append_right _ (List.mem_append_left _ (List.mem_of_getElem? (i := 50) rfl))))))
theorem mG_291 : (.methodLink "WatchListLaw" 58 yX4_tell : Cond) ∈ gG := (List.mem_append_right _ (List.mem_append_right _ (List.mem_append_right _ (List.mem_append_right _ (List.mem_append_left _ (List.mem_of_getElem? (i := 51) rfl))))))
theorem mG_292 : (.instanceMethod yX4_tell : Cond) ∈ gG := (List.mem_append_right _ (List.mem_append_right _ (List.mem_append_right _ (List.mem_append_right _ (List.mem_append_left _ (List.mem_of_getElem? (i := 52) rfl))))))
theorem mG_293 : (.selects "WatchListModel" yX4_tell yX4_tell : Cond) ∈ gG := (List.mem_append_right _ (List.mem_append_right _ (List.mem_append_right _ (List.mem_append_right _ (List.mem_append_left _ (List.mem_of_getElem? (i := 53) rfl))))))
theorem mG_294 : (.code yX4_tell prog_6_method_17_code 3 (some .int) : Cond) ∈ gG := (List.mem_append_right _ (List.mem_append_right _ (List.mem_append_right _ (List.mem_append_right _ (List.mem_append_left _ (List.mem_of_getElem? (i := 54) rfl))))))
theorem mG_295 : (.methodLink "WatchListLaw" 62 yX4_put : Cond) ∈ gG := (List.mem_append_right _ (List.mem_append_right _ (List.mem_append_right _ (List.mem_append_right _ (List.mem_append_left _ (List.mem_of_getElem? (i := 55) rfl))))))
theorem mG_296 : (.instanceMethod yX4_put : Cond) ∈ gG := (List.mem_append_right _ (List.mem_append_right _ (List.mem_append_right _ (List.mem_append_right _ (List.mem_append_left _ (List.mem_of_getElem? (i := 56) rfl))))))
theorem mG_297 : (.selects "WatchListModel" yX4_put yX4_put : Cond) ∈ gG := (List.mem_append_right _ (List.mem_append_right _ (List.mem_append_right _ (List.mem_append_right _ (List.mem_append_left _ (List.mem_of_getElem? (i := 57) rfl))))))
theorem mG_298 : (.code yX4_put prog_6_method_18_code 2 (some .int) : Cond) ∈ gG := (List.mem_append_right _ (List.mem_append_right _ (List.mem_append_right _ (List.mem_append_right _ (List.mem_append_left _ (List.mem_of_getElem? (i := 58) rfl))))))
theorem mG_299 : (.methodLink "WatchListLaw" 66 yX4_act : Cond) ∈ gG := (List.mem_append_right _ (List.mem_append_right _ (List.mem_append_right _ (List.mem_append_right _ (List.mem_append_left _ (List.mem_of_getElem? (i := 59) rfl))))))
theorem mG_300 : (.instanceMethod yX4_act : Cond) ∈ gG := (List.mem_append_right _ (List.mem_append_right _ (List.mem_append_right _ (List.mem_append_right _ (List.mem_append_right _ (List.mem_append_left _ (List.mem_of_getElem? (i := 0) rfl)))))))
theorem mG_301 : (.selects "WatchListModel" yX4_act yX4_act : Cond) ∈ gG := (List.mem_append_right _ (List.mem_append_right _ (List.mem_append_right _ (List.mem_append_right _ (List.mem_append_right _ (List.mem_append_left _ (List.mem_of_getElem? (i := 1) rfl)))))))
theorem mG_302 : (.code yX4_act prog_6_method_19_code 4 (some .int) : Cond) ∈ gG := (List.mem_append_right _ (List.mem_append_right _ (List.mem_append_right _ (List.mem_append_right _ (List.mem_append_right _ (List.mem_append_left _ (List.mem_of_getElem? (i := 2) rfl)))))))
theorem mG_303 : (.methodLink "WatchListLaw" 70 yX4_drop : Cond) ∈ gG := (List.mem_append_right _ (List.mem_append_right _ (List.mem_append_right _ (List.mem_append_right _ (List.mem_append_right _ (List.mem_append_left _ (List.mem_of_getElem? (i := 3) rfl)))))))
theorem mG_304 : (.instanceMethod yX4_drop : Cond) ∈ gG := (List.mem_append_right _ (List.mem_append_right _ (List.mem_append_right _ (List.mem_append_right _ (List.mem_append_right _ (List.mem_append_left _ (List.mem_of_getElem? (i := 4) rfl)))))))
theorem mG_305 : (.selects "WatchListModel" yX4_drop yX4_drop : Cond) ∈ gG := (List.mem_append_right _ (List.mem_append_right _ (List.mem_append_right _ (List.mem_append_right _ (List.mem_append_right _ (List.mem_append_left _ (List.mem_of_getElem? (i := 5) rfl)))))))
theorem mG_306 : (.code yX4_drop prog_6_method_20_code 2 (some .int) : Cond) ∈ gG := (List.mem_append_right _ (List.mem_append_right _ (List.mem_append_right _ (List.mem_append_right _ (List.mem_append_right _ (List.mem_append_left _ (List.mem_of_getElem? (i := 6) rfl)))))))
theorem mG_307 : (.methodLink "WatchListLaw" 74 yX4_arm : Cond) ∈ gG := (List.mem_append_right _ (List.mem_append_right _ (List.mem_append_right _ (List.mem_append_right _ (List.mem_append_right _ (List.mem_append_left _ (List.mem_of_getElem? (i := 7) rfl)))))))
theorem mG_308 : (.instanceMethod yX4_arm : Cond) ∈ gG := (List.mem_append_right _ (List.mem_append_right _ (List.mem_append_right _ (List.mem_append_right _ (List.mem_append_right _ (List.mem_append_left _ (List.mem_of_getElem? (i := 8) rfl)))))))
theorem mG_309 : (.selects "WatchListModel" yX4_arm yX4_arm : Cond) ∈ gG := (List.mem_append_right _ (List.mem_append_right _ (List.mem_append_right _ (List.mem_append_right _ (List.mem_append_right _ (List.mem_append_left _ (List.mem_of_getElem? (i := 9) rfl)))))))
theorem mG_310 : (.code yX4_arm prog_6_method_21_code 3 (some .int) : Cond) ∈ gG := (List.mem_append_right _ (List.mem_append_right _ (List.mem_append_right _ (List.mem_append_right _ (List.mem_append_right _ (List.mem_append_left _ (List.mem_of_getElem? (i := 10) rfl)))))))
theorem mG_311 : (.methodLink "WatchListLaw" 79 yX4_limit : Cond) ∈ gG := (List.mem_append_right _ (List.mem_append_right _ (List.mem_append_right _ (List.mem_append_right _ (List.mem_append_right _ (List.mem_append_left _ (List.mem_of_getElem? (i := 11) rfl)))))))
theorem mG_312 : (.instanceMethod yX4_limit : Cond) ∈ gG := (List.mem_append_right _ (List.mem_append_right _ (List.mem_append_right _ (List.mem_append_right _ (List.mem_append_right _ (List.mem_append_left _ (List.mem_of_getElem? (i := 12) rfl)))))))
theorem mG_313 : (.selects "WatchListModel" yX4_limit yX4_limit : Cond) ∈ gG := (List.mem_append_right _ (List.mem_append_right _ (List.mem_append_right _ (List.mem_append_right _ (List.mem_append_right _ (List.mem_append_left _ (List.mem_of_getElem? (i := 13) rfl)))))))
theorem mG_314 : (.code yX4_limit prog_6_method_22_code 3 (some .int) : Cond) ∈ gG := (List.mem_append_right _ (List.mem_append_right _ (List.mem_append_right _ (List.mem_append_right _ (List.mem_append_right _ (List.mem_append_left _ (List.mem_of_getElem? (i := 14) rfl)))))))
theorem mG_315 : (.methodLink "WatchListLaw" 83 yX4_event : Cond) ∈ gG := (List.mem_append_right _ (List.mem_append_right _ (List.mem_append_right _ (List.mem_append_right _ (List.mem_append_right _ (List.mem_append_left _ (List.mem_of_getElem? (i := 15) rfl)))))))
theorem mG_316 : (.instanceMethod yX4_event : Cond) ∈ gG := (List.mem_append_right _ (List.mem_append_right _ (List.mem_append_right _ (List.mem_append_right _ (List.mem_append_right _ (List.mem_append_left _ (List.mem_of_getElem? (i := 16) rfl)))))))
theorem mG_317 : (.selects "WatchListModel" yX4_event yX4_event : Cond) ∈ gG := (List.mem_append_right _ (List.mem_append_right _ (List.mem_append_right _ (List.mem_append_right _ (List.mem_append_right _ (List.mem_append_left _ (List.mem_of_getElem? (i := 17) rfl)))))))
theorem mG_318 : (.code yX4_event prog_6_method_23_code 3 (some .int) : Cond) ∈ gG := (List.mem_append_right _ (List.mem_append_right _ (List.mem_append_right _ (List.mem_append_right _ (List.mem_append_right _ (List.mem_append_left _ (List.mem_of_getElem? (i := 18) rfl)))))))
theorem mG_319 : (.methodLink "WatchListLaw" 87 yX4_actionAt : Cond) ∈ gG := (List.mem_append_right _ (List.mem_append_right _ (List.mem_append_right _ (List.mem_append_right _ (List.mem_append_right _ (List.mem_append_left _ (List.mem_of_getElem? (i := 19) rfl)))))))
theorem mG_320 : (.instanceMethod yX4_actionAt : Cond) ∈ gG := (List.mem_append_right _ (List.mem_append_right _ (List.mem_append_right _ (List.mem_append_right _ (List.mem_append_right _ (List.mem_append_left _ (List.mem_of_getElem? (i := 20) rfl)))))))
theorem mG_321 : (.selects "WatchListModel" yX4_actionAt yX4_actionAt : Cond) ∈ gG := (List.mem_append_right _ (List.mem_append_right _ (List.mem_append_right _ (List.mem_append_right _ (List.mem_append_right _ (List.mem_append_left _ (List.mem_of_getElem? (i := 21) rfl)))))))
theorem mG_322 : (.code yX4_actionAt prog_6_method_24_code 3 (some .int) : Cond) ∈ gG := (List.mem_append_right _ (List.mem_append_right _ (List.mem_append_right _ (List.mem_append_right _ (List.mem_append_right _ (List.mem_append_left _ (List.mem_of_getElem? (i := 22) rfl)))))))
theorem mG_323 : (.methodLink "WatchListLaw" 91 yX4_count : Cond) ∈ gG := (List.mem_append_right _ (List.mem_append_right _ (List.mem_append_right _ (List.mem_append_right _ (List.mem_append_right _ (List.mem_append_left _ (List.mem_of_getElem? (i := 23) rfl)))))))
theorem mG_324 : (.instanceMethod yX4_count : Cond) ∈ gG := (List.mem_append_right _ (List.mem_append_right _ (List.mem_append_right _ (List.mem_append_right _ (List.mem_append_right _ (List.mem_append_left _ (List.mem_of_getElem? (i := 24) rfl)))))))
theorem mG_325 : (.selects "WatchListModel" yX4_count yX4_count : Cond) ∈ gG := (List.mem_append_right _ (List.mem_append_right _ (List.mem_append_right _ (List.mem_append_right _ (List.mem_append_right _ (List.mem_append_left _ (List.mem_of_getElem? (i := 25) rfl)))))))
theorem mG_326 : (.code yX4_count prog_6_method_25_code 2 (some .int) : Cond) ∈ gG := (List.mem_append_right _ (List.mem_append_right _ (List.mem_append_right _ (List.mem_append_right _ (List.mem_append_right _ (List.mem_append_left _ (List.mem_of_getElem? (i := 26) rfl)))))))
theorem inX0 : ∀ w ∈ wsX00, w ∈ gG := fun _ h => (List.mem_append_right _ (List.mem_append_right _ (List.mem_append_right _ (List.mem_append_right _ (List.mem_append_right _ (List.mem_append_right _ (List.mem_append_left _ (List.mem_append_left _ (List.mem_append_left _ (List.mem_append_left _ h))))))))))
theorem inX1 : ∀ w ∈ wsX10, w ∈ gG := fun _ h => (List.mem_append_right _ (List.mem_append_right _ (List.mem_append_right _ (List.mem_append_right _ (List.mem_append_right _ (List.mem_append_right _ (List.mem_append_left _ (List.mem_append_left _ (List.mem_append_left _ (List.mem_append_right _ h))))))))))
theorem inX2 : ∀ w ∈ wsX20, w ∈ gG := fun _ h => (List.mem_append_right _ (List.mem_append_right _ (List.mem_append_right _ (List.mem_append_right _ (List.mem_append_right _ (List.mem_append_right _ (List.mem_append_left _ (List.mem_append_left _ (List.mem_append_right _ h)))))))))
theorem inX3 : ∀ w ∈ wsX30, w ∈ gG := fun _ h => (List.mem_append_right _ (List.mem_append_right _ (List.mem_append_right _ (List.mem_append_right _ (List.mem_append_right _ (List.mem_append_right _ (List.mem_append_left _ (List.mem_append_right _ h))))))))
theorem inX4 : ∀ w ∈ wsX40, w ∈ gG := fun _ h => (List.mem_append_right _ (List.mem_append_right _ (List.mem_append_right _ (List.mem_append_right _ (List.mem_append_right _ (List.mem_append_right _ (List.mem_append_right _ h)))))))
theorem gG_ok : gG.all goodWord = true := by decide +kernel
theorem gG_in {b : Cond} (hb : b ∈ gG) : GoodIn gG (b :: gG) := by
  intro w hw
  have hm : w ∈ gG := by
    rcases List.mem_cons.mp hw with h | h
    · rw [h]; exact hb
    · exact h
  exact ⟨hm, good_of_word (List.all_eq_true.mp gG_ok w hm)⟩
def wsX3_init : List Cond := .code yX3_init prog_1_method_1_code 2 none :: gG
theorem pdX3_init : yX3_init.cls ≠ "java/lang/invoke/MethodHandle" ∧ yX3_init.cls ≠ "java/lang/invoke/VarHandle" ∧ (parseMethodDescriptor yX3_init.desc).map (fun d => d.parameters.length) = some 0 := by decide +kernel
theorem giX3_init : GoodIn gG wsX3_init := gG_in mG_32
def wsX2_init : List Cond := .code yX2_init prog_4_method_1_code 1 none :: gG
theorem pdX2_init : yX2_init.cls ≠ "java/lang/invoke/MethodHandle" ∧ yX2_init.cls ≠ "java/lang/invoke/VarHandle" ∧ (parseMethodDescriptor yX2_init.desc).map (fun d => d.parameters.length) = some 0 := by decide +kernel
theorem giX2_init : GoodIn gG wsX2_init := gG_in mG_41
def wsX1_init : List Cond := .code yX1_init prog_3_method_1_code 1 none :: gG
theorem pdX1_init : yX1_init.cls ≠ "java/lang/invoke/MethodHandle" ∧ yX1_init.cls ≠ "java/lang/invoke/VarHandle" ∧ (parseMethodDescriptor yX1_init.desc).map (fun d => d.parameters.length) = some 0 := by decide +kernel
theorem giX1_init : GoodIn gG wsX1_init := gG_in mG_50
def wsX0_init : List Cond := .code yX0_init prog_2_method_1_code 1 none :: gG
theorem pdX0_init : yX0_init.cls ≠ "java/lang/invoke/MethodHandle" ∧ yX0_init.cls ≠ "java/lang/invoke/VarHandle" ∧ (parseMethodDescriptor yX0_init.desc).map (fun d => d.parameters.length) = some 0 := by decide +kernel
theorem giX0_init : GoodIn gG wsX0_init := gG_in mG_64
def wsX3_set : List Cond := .code yX3_set prog_1_method_2_code 3 (some .boolean) :: gG
theorem pdX3_set : yX3_set.cls ≠ "java/lang/invoke/MethodHandle" ∧ yX3_set.cls ≠ "java/lang/invoke/VarHandle" ∧ (parseMethodDescriptor yX3_set.desc).map (fun d => d.parameters.length) = some 2 := by decide +kernel
theorem giX3_set : GoodIn gG wsX3_set := gG_in mG_84
def wsX3_isParameter : List Cond := .code yX3_isParameter prog_1_method_20_code 1 (some .boolean) :: gG
theorem pdX3_isParameter : yX3_isParameter.cls ≠ "java/lang/invoke/MethodHandle" ∧ yX3_isParameter.cls ≠ "java/lang/invoke/VarHandle" ∧ (parseMethodDescriptor yX3_isParameter.desc).map (fun d => d.parameters.length) = some 1 := by decide +kernel
theorem giX3_isParameter : GoodIn gG wsX3_isParameter := gG_in mG_87
def wsX3_add : List Cond := .code yX3_add prog_1_method_3_code 10 (some .int) :: gG
theorem pdX3_add : yX3_add.cls ≠ "java/lang/invoke/MethodHandle" ∧ yX3_add.cls ≠ "java/lang/invoke/VarHandle" ∧ (parseMethodDescriptor yX3_add.desc).map (fun d => d.parameters.length) = some 7 := by decide +kernel
theorem giX3_add : GoodIn gG wsX3_add := gG_in mG_91
def wsX3_isId : List Cond := .code yX3_isId prog_1_method_21_code 1 (some .boolean) :: gG
theorem pdX3_isId : yX3_isId.cls ≠ "java/lang/invoke/MethodHandle" ∧ yX3_isId.cls ≠ "java/lang/invoke/VarHandle" ∧ (parseMethodDescriptor yX3_isId.desc).map (fun d => d.parameters.length) = some 1 := by decide +kernel
theorem giX3_isId : GoodIn gG wsX3_isId := gG_in mG_94
def wsX3_isEvent : List Cond := .code yX3_isEvent prog_1_method_22_code 1 (some .boolean) :: gG
theorem pdX3_isEvent : yX3_isEvent.cls ≠ "java/lang/invoke/MethodHandle" ∧ yX3_isEvent.cls ≠ "java/lang/invoke/VarHandle" ∧ (parseMethodDescriptor yX3_isEvent.desc).map (fun d => d.parameters.length) = some 1 := by decide +kernel
theorem giX3_isEvent : GoodIn gG wsX3_isEvent := gG_in mG_97
def wsX3_placeOf : List Cond := .code yX3_placeOf prog_1_method_24_code 3 (some .int) :: gG
theorem pdX3_placeOf : yX3_placeOf.cls ≠ "java/lang/invoke/MethodHandle" ∧ yX3_placeOf.cls ≠ "java/lang/invoke/VarHandle" ∧ (parseMethodDescriptor yX3_placeOf.desc).map (fun d => d.parameters.length) = some 1 := by decide +kernel
theorem giX3_placeOf : GoodIn gG wsX3_placeOf := gG_in mG_100
def wsX3_openPlaceFor : List Cond := .code yX3_openPlaceFor prog_1_method_25_code 4 (Option.some (.object "WatchList$Limit")) :: gG
theorem pdX3_openPlaceFor : yX3_openPlaceFor.cls ≠ "java/lang/invoke/MethodHandle" ∧ yX3_openPlaceFor.cls ≠ "java/lang/invoke/VarHandle" ∧ (parseMethodDescriptor yX3_openPlaceFor.desc).map (fun d => d.parameters.length) = some 1 := by decide +kernel
theorem giX3_openPlaceFor : GoodIn gG wsX3_openPlaceFor := gG_in mG_103
def wsX1_begin : List Cond := .code yX1_begin prog_3_method_2_code 8 none :: gG
theorem pdX1_begin : yX1_begin.cls ≠ "java/lang/invoke/MethodHandle" ∧ yX1_begin.cls ≠ "java/lang/invoke/VarHandle" ∧ (parseMethodDescriptor yX1_begin.desc).map (fun d => d.parameters.length) = some 7 := by decide +kernel
theorem giX1_begin : GoodIn gG wsX1_begin := gG_in mG_105
def wsX1_turn : List Cond := .code yX1_turn prog_3_method_3_code 2 none :: gG
theorem pdX1_turn : yX1_turn.cls ≠ "java/lang/invoke/MethodHandle" ∧ yX1_turn.cls ≠ "java/lang/invoke/VarHandle" ∧ (parseMethodDescriptor yX1_turn.desc).map (fun d => d.parameters.length) = some 1 := by decide +kernel
theorem giX1_turn : GoodIn gG wsX1_turn := gG_in mG_108
def wsX3_remove : List Cond := .code yX3_remove prog_1_method_4_code 3 (some .int) :: gG
theorem pdX3_remove : yX3_remove.cls ≠ "java/lang/invoke/MethodHandle" ∧ yX3_remove.cls ≠ "java/lang/invoke/VarHandle" ∧ (parseMethodDescriptor yX3_remove.desc).map (fun d => d.parameters.length) = some 1 := by decide +kernel
theorem giX3_remove : GoodIn gG wsX3_remove := gG_in mG_112
def wsX3_closePlace : List Cond := .code yX3_closePlace prog_1_method_26_code 4 none :: gG
theorem pdX3_closePlace : yX3_closePlace.cls ≠ "java/lang/invoke/MethodHandle" ∧ yX3_closePlace.cls ≠ "java/lang/invoke/VarHandle" ∧ (parseMethodDescriptor yX3_closePlace.desc).map (fun d => d.parameters.length) = some 1 := by decide +kernel
theorem giX3_closePlace : GoodIn gG wsX3_closePlace := gG_in mG_115
def wsX3_enable : List Cond := .code yX3_enable prog_1_method_5_code 4 (some .int) :: gG
theorem pdX3_enable : yX3_enable.cls ≠ "java/lang/invoke/MethodHandle" ∧ yX3_enable.cls ≠ "java/lang/invoke/VarHandle" ∧ (parseMethodDescriptor yX3_enable.desc).map (fun d => d.parameters.length) = some 2 := by decide +kernel
theorem giX3_enable : GoodIn gG wsX3_enable := gG_in mG_119
def wsX3_watch : List Cond := .code yX3_watch prog_1_method_6_code 5 (some .int) :: gG
theorem pdX3_watch : yX3_watch.cls ≠ "java/lang/invoke/MethodHandle" ∧ yX3_watch.cls ≠ "java/lang/invoke/VarHandle" ∧ (parseMethodDescriptor yX3_watch.desc).map (fun d => d.parameters.length) = some 0 := by decide +kernel
theorem giX3_watch : GoodIn gG wsX3_watch := gG_in mG_123
def wsX1_breaksAt : List Cond := .code yX1_breaksAt prog_3_method_4_code 2 (some .boolean) :: gG
theorem pdX1_breaksAt : yX1_breaksAt.cls ≠ "java/lang/invoke/MethodHandle" ∧ yX1_breaksAt.cls ≠ "java/lang/invoke/VarHandle" ∧ (parseMethodDescriptor yX1_breaksAt.desc).map (fun d => d.parameters.length) = some 1 := by decide +kernel
theorem giX1_breaksAt : GoodIn gG wsX1_breaksAt := gG_in mG_125
def wsX3_waitOrLose : List Cond := .code yX3_waitOrLose prog_1_method_27_code 3 (some .boolean) :: gG
theorem pdX3_waitOrLose : yX3_waitOrLose.cls ≠ "java/lang/invoke/MethodHandle" ∧ yX3_waitOrLose.cls ≠ "java/lang/invoke/VarHandle" ∧ (parseMethodDescriptor yX3_waitOrLose.desc).map (fun d => d.parameters.length) = some 2 := by decide +kernel
theorem giX3_waitOrLose : GoodIn gG wsX3_waitOrLose := gG_in mG_128
def wsX2_append : List Cond := .code yX2_append prog_4_method_2_code 4 none :: gG
theorem pdX2_append : yX2_append.cls ≠ "java/lang/invoke/MethodHandle" ∧ yX2_append.cls ≠ "java/lang/invoke/VarHandle" ∧ (parseMethodDescriptor yX2_append.desc).map (fun d => d.parameters.length) = some 2 := by decide +kernel
theorem giX2_append : GoodIn gG wsX2_append := gG_in mG_130
def wsX3_linked : List Cond := .code yX3_linked prog_1_method_7_code 1 (some .boolean) :: gG
theorem pdX3_linked : yX3_linked.cls ≠ "java/lang/invoke/MethodHandle" ∧ yX3_linked.cls ≠ "java/lang/invoke/VarHandle" ∧ (parseMethodDescriptor yX3_linked.desc).map (fun d => d.parameters.length) = some 0 := by decide +kernel
theorem giX3_linked : GoodIn gG wsX3_linked := gG_in mG_134
def wsX3_raise : List Cond := .code yX3_raise prog_1_method_8_code 3 (some .boolean) :: gG
theorem pdX3_raise : yX3_raise.cls ≠ "java/lang/invoke/MethodHandle" ∧ yX3_raise.cls ≠ "java/lang/invoke/VarHandle" ∧ (parseMethodDescriptor yX3_raise.desc).map (fun d => d.parameters.length) = some 2 := by decide +kernel
theorem giX3_raise : GoodIn gG wsX3_raise := gG_in mG_138
def wsX3_work : List Cond := .code yX3_work prog_1_method_9_code 2 (some .int) :: gG
theorem pdX3_work : yX3_work.cls ≠ "java/lang/invoke/MethodHandle" ∧ yX3_work.cls ≠ "java/lang/invoke/VarHandle" ∧ (parseMethodDescriptor yX3_work.desc).map (fun d => d.parameters.length) = some 0 := by decide +kernel
theorem giX3_work : GoodIn gG wsX3_work := gG_in mG_142
def wsX2_firstEvent : List Cond := .code yX2_firstEvent prog_4_method_3_code 1 (some .int) :: gG
theorem pdX2_firstEvent : yX2_firstEvent.cls ≠ "java/lang/invoke/MethodHandle" ∧ yX2_firstEvent.cls ≠ "java/lang/invoke/VarHandle" ∧ (parseMethodDescriptor yX2_firstEvent.desc).map (fun d => d.parameters.length) = some 0 := by decide +kernel
theorem giX2_firstEvent : GoodIn gG wsX2_firstEvent := gG_in mG_144
def wsX2_firstNumber : List Cond := .code yX2_firstNumber prog_4_method_4_code 1 (some .int) :: gG
theorem pdX2_firstNumber : yX2_firstNumber.cls ≠ "java/lang/invoke/MethodHandle" ∧ yX2_firstNumber.cls ≠ "java/lang/invoke/VarHandle" ∧ (parseMethodDescriptor yX2_firstNumber.desc).map (fun d => d.parameters.length) = some 0 := by decide +kernel
theorem giX2_firstNumber : GoodIn gG wsX2_firstNumber := gG_in mG_146
def wsX2_takeFirst : List Cond := .code yX2_takeFirst prog_4_method_5_code 1 none :: gG
theorem pdX2_takeFirst : yX2_takeFirst.cls ≠ "java/lang/invoke/MethodHandle" ∧ yX2_takeFirst.cls ≠ "java/lang/invoke/VarHandle" ∧ (parseMethodDescriptor yX2_takeFirst.desc).map (fun d => d.parameters.length) = some 0 := by decide +kernel
theorem giX2_takeFirst : GoodIn gG wsX2_takeFirst := gG_in mG_148
def wsX3_lose : List Cond := .code yX3_lose prog_1_method_10_code 2 (some .int) :: gG
theorem pdX3_lose : yX3_lose.cls ≠ "java/lang/invoke/MethodHandle" ∧ yX3_lose.cls ≠ "java/lang/invoke/VarHandle" ∧ (parseMethodDescriptor yX3_lose.desc).map (fun d => d.parameters.length) = some 0 := by decide +kernel
theorem giX3_lose : GoodIn gG wsX3_lose := gG_in mG_152
def wsX2_empty : List Cond := .code yX2_empty prog_4_method_6_code 1 none :: gG
theorem pdX2_empty : yX2_empty.cls ≠ "java/lang/invoke/MethodHandle" ∧ yX2_empty.cls ≠ "java/lang/invoke/VarHandle" ∧ (parseMethodDescriptor yX2_empty.desc).map (fun d => d.parameters.length) = some 0 := by decide +kernel
theorem giX2_empty : GoodIn gG wsX2_empty := gG_in mG_154
def wsX3_tell : List Cond := .code yX3_tell prog_1_method_11_code 3 (some .int) :: gG
theorem pdX3_tell : yX3_tell.cls ≠ "java/lang/invoke/MethodHandle" ∧ yX3_tell.cls ≠ "java/lang/invoke/VarHandle" ∧ (parseMethodDescriptor yX3_tell.desc).map (fun d => d.parameters.length) = some 2 := by decide +kernel
theorem giX3_tell : GoodIn gG wsX3_tell := gG_in mG_158
def wsX3_put : List Cond := .code yX3_put prog_1_method_12_code 2 (some .int) :: gG
theorem pdX3_put : yX3_put.cls ≠ "java/lang/invoke/MethodHandle" ∧ yX3_put.cls ≠ "java/lang/invoke/VarHandle" ∧ (parseMethodDescriptor yX3_put.desc).map (fun d => d.parameters.length) = some 1 := by decide +kernel
theorem giX3_put : GoodIn gG wsX3_put := gG_in mG_162
def wsX3_act : List Cond := .code yX3_act prog_1_method_13_code 3 (some .int) :: gG
theorem pdX3_act : yX3_act.cls ≠ "java/lang/invoke/MethodHandle" ∧ yX3_act.cls ≠ "java/lang/invoke/VarHandle" ∧ (parseMethodDescriptor yX3_act.desc).map (fun d => d.parameters.length) = some 1 := by decide +kernel
theorem giX3_act : GoodIn gG wsX3_act := gG_in mG_166
def wsX0_hasAction : List Cond := .code yX0_hasAction prog_2_method_2_code 1 (some .boolean) :: gG
theorem pdX0_hasAction : yX0_hasAction.cls ≠ "java/lang/invoke/MethodHandle" ∧ yX0_hasAction.cls ≠ "java/lang/invoke/VarHandle" ∧ (parseMethodDescriptor yX0_hasAction.desc).map (fun d => d.parameters.length) = some 0 := by decide +kernel
theorem giX0_hasAction : GoodIn gG wsX0_hasAction := gG_in mG_168
def wsX0_takeAction : List Cond := .code yX0_takeAction prog_2_method_3_code 3 none :: gG
theorem pdX0_takeAction : yX0_takeAction.cls ≠ "java/lang/invoke/MethodHandle" ∧ yX0_takeAction.cls ≠ "java/lang/invoke/VarHandle" ∧ (parseMethodDescriptor yX0_takeAction.desc).map (fun d => d.parameters.length) = some 2 := by decide +kernel
theorem giX0_takeAction : GoodIn gG wsX0_takeAction := gG_in mG_170
def wsX3_drop : List Cond := .code yX3_drop prog_1_method_14_code 3 (some .int) :: gG
theorem pdX3_drop : yX3_drop.cls ≠ "java/lang/invoke/MethodHandle" ∧ yX3_drop.cls ≠ "java/lang/invoke/VarHandle" ∧ (parseMethodDescriptor yX3_drop.desc).map (fun d => d.parameters.length) = some 1 := by decide +kernel
theorem giX3_drop : GoodIn gG wsX3_drop := gG_in mG_177
def wsX3_actionFailure : List Cond := .code yX3_actionFailure prog_1_method_28_code 2 (some .int) :: gG
theorem pdX3_actionFailure : yX3_actionFailure.cls ≠ "java/lang/invoke/MethodHandle" ∧ yX3_actionFailure.cls ≠ "java/lang/invoke/VarHandle" ∧ (parseMethodDescriptor yX3_actionFailure.desc).map (fun d => d.parameters.length) = some 1 := by decide +kernel
theorem giX3_actionFailure : GoodIn gG wsX3_actionFailure := gG_in mG_180
def wsX3_arm : List Cond := .code yX3_arm prog_1_method_15_code 4 (some .int) :: gG
theorem pdX3_arm : yX3_arm.cls ≠ "java/lang/invoke/MethodHandle" ∧ yX3_arm.cls ≠ "java/lang/invoke/VarHandle" ∧ (parseMethodDescriptor yX3_arm.desc).map (fun d => d.parameters.length) = some 2 := by decide +kernel
theorem giX3_arm : GoodIn gG wsX3_arm := gG_in mG_184
def wsX3_limit : List Cond := .code yX3_limit prog_1_method_16_code 4 (some .int) :: gG
theorem pdX3_limit : yX3_limit.cls ≠ "java/lang/invoke/MethodHandle" ∧ yX3_limit.cls ≠ "java/lang/invoke/VarHandle" ∧ (parseMethodDescriptor yX3_limit.desc).map (fun d => d.parameters.length) = some 2 := by decide +kernel
theorem giX3_limit : GoodIn gG wsX3_limit := gG_in mG_188
def wsX1_tellOf : List Cond := .code yX1_tellOf prog_3_method_5_code 2 (some .int) :: gG
theorem pdX1_tellOf : yX1_tellOf.cls ≠ "java/lang/invoke/MethodHandle" ∧ yX1_tellOf.cls ≠ "java/lang/invoke/VarHandle" ∧ (parseMethodDescriptor yX1_tellOf.desc).map (fun d => d.parameters.length) = some 1 := by decide +kernel
theorem giX1_tellOf : GoodIn gG wsX1_tellOf := gG_in mG_190
def wsX3_oneIf : List Cond := .code yX3_oneIf prog_1_method_23_code 1 (some .int) :: gG
theorem pdX3_oneIf : yX3_oneIf.cls ≠ "java/lang/invoke/MethodHandle" ∧ yX3_oneIf.cls ≠ "java/lang/invoke/VarHandle" ∧ (parseMethodDescriptor yX3_oneIf.desc).map (fun d => d.parameters.length) = some 1 := by decide +kernel
theorem giX3_oneIf : GoodIn gG wsX3_oneIf := gG_in mG_192
def wsX3_event : List Cond := .code yX3_event prog_1_method_17_code 3 (some .int) :: gG
theorem pdX3_event : yX3_event.cls ≠ "java/lang/invoke/MethodHandle" ∧ yX3_event.cls ≠ "java/lang/invoke/VarHandle" ∧ (parseMethodDescriptor yX3_event.desc).map (fun d => d.parameters.length) = some 2 := by decide +kernel
theorem giX3_event : GoodIn gG wsX3_event := gG_in mG_196
def wsX0_tellOf : List Cond := .code yX0_tellOf prog_2_method_5_code 2 (some .int) :: gG
theorem pdX0_tellOf : yX0_tellOf.cls ≠ "java/lang/invoke/MethodHandle" ∧ yX0_tellOf.cls ≠ "java/lang/invoke/VarHandle" ∧ (parseMethodDescriptor yX0_tellOf.desc).map (fun d => d.parameters.length) = some 1 := by decide +kernel
theorem giX0_tellOf : GoodIn gG wsX0_tellOf := gG_in mG_198
def wsX3_actionAt : List Cond := .code yX3_actionAt prog_1_method_18_code 3 (some .int) :: gG
theorem pdX3_actionAt : yX3_actionAt.cls ≠ "java/lang/invoke/MethodHandle" ∧ yX3_actionAt.cls ≠ "java/lang/invoke/VarHandle" ∧ (parseMethodDescriptor yX3_actionAt.desc).map (fun d => d.parameters.length) = some 2 := by decide +kernel
theorem giX3_actionAt : GoodIn gG wsX3_actionAt := gG_in mG_202
def wsX0_byteAt : List Cond := .code yX0_byteAt prog_2_method_4_code 2 (some .int) :: gG
theorem pdX0_byteAt : yX0_byteAt.cls ≠ "java/lang/invoke/MethodHandle" ∧ yX0_byteAt.cls ≠ "java/lang/invoke/VarHandle" ∧ (parseMethodDescriptor yX0_byteAt.desc).map (fun d => d.parameters.length) = some 1 := by decide +kernel
theorem giX0_byteAt : GoodIn gG wsX0_byteAt := gG_in mG_204
def wsX3_count : List Cond := .code yX3_count prog_1_method_19_code 2 (some .int) :: gG
theorem pdX3_count : yX3_count.cls ≠ "java/lang/invoke/MethodHandle" ∧ yX3_count.cls ≠ "java/lang/invoke/VarHandle" ∧ (parseMethodDescriptor yX3_count.desc).map (fun d => d.parameters.length) = some 1 := by decide +kernel
theorem giX3_count : GoodIn gG wsX3_count := gG_in mG_208
def wsX4_init : List Cond := .code yX4_init prog_6_method_1_code 1 none :: gG
theorem pdX4_init : yX4_init.cls ≠ "java/lang/invoke/MethodHandle" ∧ yX4_init.cls ≠ "java/lang/invoke/VarHandle" ∧ (parseMethodDescriptor yX4_init.desc).map (fun d => d.parameters.length) = some 0 := by decide +kernel
theorem giX4_init : GoodIn gG wsX4_init := gG_in mG_213
def wsX4_set : List Cond := .code yX4_set prog_6_method_3_code 3 (some .boolean) :: gG
theorem pdX4_set : yX4_set.cls ≠ "java/lang/invoke/MethodHandle" ∧ yX4_set.cls ≠ "java/lang/invoke/VarHandle" ∧ (parseMethodDescriptor yX4_set.desc).map (fun d => d.parameters.length) = some 2 := by decide +kernel
theorem giX4_set : GoodIn gG wsX4_set := gG_in mG_243
def wsX4_add : List Cond := .code yX4_add prog_6_method_7_code 8 (some .int) :: gG
theorem pdX4_add : yX4_add.cls ≠ "java/lang/invoke/MethodHandle" ∧ yX4_add.cls ≠ "java/lang/invoke/VarHandle" ∧ (parseMethodDescriptor yX4_add.desc).map (fun d => d.parameters.length) = some 7 := by decide +kernel
theorem giX4_add : GoodIn gG wsX4_add := gG_in mG_247
def wsX4_isIn : List Cond := .code yX4_isIn prog_6_method_6_code 3 (some .boolean) :: gG
theorem pdX4_isIn : yX4_isIn.cls ≠ "java/lang/invoke/MethodHandle" ∧ yX4_isIn.cls ≠ "java/lang/invoke/VarHandle" ∧ (parseMethodDescriptor yX4_isIn.desc).map (fun d => d.parameters.length) = some 3 := by decide +kernel
theorem giX4_isIn : GoodIn gG wsX4_isIn := gG_in mG_250
def wsX4_limits : List Cond := .code yX4_limits prog_6_method_5_code 3 (some .int) :: gG
theorem pdX4_limits : yX4_limits.cls ≠ "java/lang/invoke/MethodHandle" ∧ yX4_limits.cls ≠ "java/lang/invoke/VarHandle" ∧ (parseMethodDescriptor yX4_limits.desc).map (fun d => d.parameters.length) = some 0 := by decide +kernel
theorem giX4_limits : GoodIn gG wsX4_limits := gG_in mG_253
def wsX4_remove : List Cond := .code yX4_remove prog_6_method_8_code 2 (some .int) :: gG
theorem pdX4_remove : yX4_remove.cls ≠ "java/lang/invoke/MethodHandle" ∧ yX4_remove.cls ≠ "java/lang/invoke/VarHandle" ∧ (parseMethodDescriptor yX4_remove.desc).map (fun d => d.parameters.length) = some 1 := by decide +kernel
theorem giX4_remove : GoodIn gG wsX4_remove := gG_in mG_257
def wsX4_isThere : List Cond := .code yX4_isThere prog_6_method_4_code 2 (some .boolean) :: gG
theorem pdX4_isThere : yX4_isThere.cls ≠ "java/lang/invoke/MethodHandle" ∧ yX4_isThere.cls ≠ "java/lang/invoke/VarHandle" ∧ (parseMethodDescriptor yX4_isThere.desc).map (fun d => d.parameters.length) = some 1 := by decide +kernel
theorem giX4_isThere : GoodIn gG wsX4_isThere := gG_in mG_260
def wsX4_enable : List Cond := .code yX4_enable prog_6_method_9_code 3 (some .int) :: gG
theorem pdX4_enable : yX4_enable.cls ≠ "java/lang/invoke/MethodHandle" ∧ yX4_enable.cls ≠ "java/lang/invoke/VarHandle" ∧ (parseMethodDescriptor yX4_enable.desc).map (fun d => d.parameters.length) = some 2 := by decide +kernel
theorem giX4_enable : GoodIn gG wsX4_enable := gG_in mG_264
def wsX4_watch : List Cond := .code yX4_watch prog_6_method_11_code 5 (some .int) :: gG
theorem pdX4_watch : yX4_watch.cls ≠ "java/lang/invoke/MethodHandle" ∧ yX4_watch.cls ≠ "java/lang/invoke/VarHandle" ∧ (parseMethodDescriptor yX4_watch.desc).map (fun d => d.parameters.length) = some 0 := by decide +kernel
theorem giX4_watch : GoodIn gG wsX4_watch := gG_in mG_268
def wsX4_waits : List Cond := .code yX4_waits prog_6_method_10_code 3 (some .boolean) :: gG
theorem pdX4_waits : yX4_waits.cls ≠ "java/lang/invoke/MethodHandle" ∧ yX4_waits.cls ≠ "java/lang/invoke/VarHandle" ∧ (parseMethodDescriptor yX4_waits.desc).map (fun d => d.parameters.length) = some 2 := by decide +kernel
theorem giX4_waits : GoodIn gG wsX4_waits := gG_in mG_271
def wsX4_linked : List Cond := .code yX4_linked prog_6_method_12_code 1 (some .boolean) :: gG
theorem pdX4_linked : yX4_linked.cls ≠ "java/lang/invoke/MethodHandle" ∧ yX4_linked.cls ≠ "java/lang/invoke/VarHandle" ∧ (parseMethodDescriptor yX4_linked.desc).map (fun d => d.parameters.length) = some 0 := by decide +kernel
theorem giX4_linked : GoodIn gG wsX4_linked := gG_in mG_275
def wsX4_raise : List Cond := .code yX4_raise prog_6_method_14_code 3 (some .boolean) :: gG
theorem pdX4_raise : yX4_raise.cls ≠ "java/lang/invoke/MethodHandle" ∧ yX4_raise.cls ≠ "java/lang/invoke/VarHandle" ∧ (parseMethodDescriptor yX4_raise.desc).map (fun d => d.parameters.length) = some 2 := by decide +kernel
theorem giX4_raise : GoodIn gG wsX4_raise := gG_in mG_279
def wsX4_isEvent : List Cond := .code yX4_isEvent prog_6_method_13_code 1 (some .boolean) :: gG
theorem pdX4_isEvent : yX4_isEvent.cls ≠ "java/lang/invoke/MethodHandle" ∧ yX4_isEvent.cls ≠ "java/lang/invoke/VarHandle" ∧ (parseMethodDescriptor yX4_isEvent.desc).map (fun d => d.parameters.length) = some 1 := by decide +kernel
theorem giX4_isEvent : GoodIn gG wsX4_isEvent := gG_in mG_282
def wsX4_work : List Cond := .code yX4_work prog_6_method_15_code 3 (some .int) :: gG
theorem pdX4_work : yX4_work.cls ≠ "java/lang/invoke/MethodHandle" ∧ yX4_work.cls ≠ "java/lang/invoke/VarHandle" ∧ (parseMethodDescriptor yX4_work.desc).map (fun d => d.parameters.length) = some 0 := by decide +kernel
theorem giX4_work : GoodIn gG wsX4_work := gG_in mG_286
def wsX4_lose : List Cond := .code yX4_lose prog_6_method_16_code 2 (some .int) :: gG
theorem pdX4_lose : yX4_lose.cls ≠ "java/lang/invoke/MethodHandle" ∧ yX4_lose.cls ≠ "java/lang/invoke/VarHandle" ∧ (parseMethodDescriptor yX4_lose.desc).map (fun d => d.parameters.length) = some 0 := by decide +kernel
theorem giX4_lose : GoodIn gG wsX4_lose := gG_in mG_290
def wsX4_tell : List Cond := .code yX4_tell prog_6_method_17_code 3 (some .int) :: gG
theorem pdX4_tell : yX4_tell.cls ≠ "java/lang/invoke/MethodHandle" ∧ yX4_tell.cls ≠ "java/lang/invoke/VarHandle" ∧ (parseMethodDescriptor yX4_tell.desc).map (fun d => d.parameters.length) = some 2 := by decide +kernel
theorem giX4_tell : GoodIn gG wsX4_tell := gG_in mG_294
def wsX4_put : List Cond := .code yX4_put prog_6_method_18_code 2 (some .int) :: gG
theorem pdX4_put : yX4_put.cls ≠ "java/lang/invoke/MethodHandle" ∧ yX4_put.cls ≠ "java/lang/invoke/VarHandle" ∧ (parseMethodDescriptor yX4_put.desc).map (fun d => d.parameters.length) = some 1 := by decide +kernel
theorem giX4_put : GoodIn gG wsX4_put := gG_in mG_298
def wsX4_act : List Cond := .code yX4_act prog_6_method_19_code 4 (some .int) :: gG
theorem pdX4_act : yX4_act.cls ≠ "java/lang/invoke/MethodHandle" ∧ yX4_act.cls ≠ "java/lang/invoke/VarHandle" ∧ (parseMethodDescriptor yX4_act.desc).map (fun d => d.parameters.length) = some 1 := by decide +kernel
theorem giX4_act : GoodIn gG wsX4_act := gG_in mG_302
def wsX4_drop : List Cond := .code yX4_drop prog_6_method_20_code 2 (some .int) :: gG
theorem pdX4_drop : yX4_drop.cls ≠ "java/lang/invoke/MethodHandle" ∧ yX4_drop.cls ≠ "java/lang/invoke/VarHandle" ∧ (parseMethodDescriptor yX4_drop.desc).map (fun d => d.parameters.length) = some 1 := by decide +kernel
theorem giX4_drop : GoodIn gG wsX4_drop := gG_in mG_306
def wsX4_arm : List Cond := .code yX4_arm prog_6_method_21_code 3 (some .int) :: gG
theorem pdX4_arm : yX4_arm.cls ≠ "java/lang/invoke/MethodHandle" ∧ yX4_arm.cls ≠ "java/lang/invoke/VarHandle" ∧ (parseMethodDescriptor yX4_arm.desc).map (fun d => d.parameters.length) = some 2 := by decide +kernel
theorem giX4_arm : GoodIn gG wsX4_arm := gG_in mG_310
def wsX4_limit : List Cond := .code yX4_limit prog_6_method_22_code 3 (some .int) :: gG
theorem pdX4_limit : yX4_limit.cls ≠ "java/lang/invoke/MethodHandle" ∧ yX4_limit.cls ≠ "java/lang/invoke/VarHandle" ∧ (parseMethodDescriptor yX4_limit.desc).map (fun d => d.parameters.length) = some 2 := by decide +kernel
theorem giX4_limit : GoodIn gG wsX4_limit := gG_in mG_314
def wsX4_event : List Cond := .code yX4_event prog_6_method_23_code 3 (some .int) :: gG
theorem pdX4_event : yX4_event.cls ≠ "java/lang/invoke/MethodHandle" ∧ yX4_event.cls ≠ "java/lang/invoke/VarHandle" ∧ (parseMethodDescriptor yX4_event.desc).map (fun d => d.parameters.length) = some 2 := by decide +kernel
theorem giX4_event : GoodIn gG wsX4_event := gG_in mG_318
def wsX4_actionAt : List Cond := .code yX4_actionAt prog_6_method_24_code 3 (some .int) :: gG
theorem pdX4_actionAt : yX4_actionAt.cls ≠ "java/lang/invoke/MethodHandle" ∧ yX4_actionAt.cls ≠ "java/lang/invoke/VarHandle" ∧ (parseMethodDescriptor yX4_actionAt.desc).map (fun d => d.parameters.length) = some 2 := by decide +kernel
theorem giX4_actionAt : GoodIn gG wsX4_actionAt := gG_in mG_322
def wsX4_count : List Cond := .code yX4_count prog_6_method_25_code 2 (some .int) :: gG
theorem pdX4_count : yX4_count.cls ≠ "java/lang/invoke/MethodHandle" ∧ yX4_count.cls ≠ "java/lang/invoke/VarHandle" ∧ (parseMethodDescriptor yX4_count.desc).map (fun d => d.parameters.length) = some 1 := by decide +kernel
theorem giX4_count : GoodIn gG wsX4_count := gG_in mG_326
end
section
theorem dX3_init_0 : decode cX3_init 0 = .ok (.aload_n 0, 1) := by decide +kernel
theorem dX3_init_1 : decode cX3_init 1 = .ok (.invokespecial 1, 3) := by decide +kernel
theorem dX3_init_4 : decode cX3_init 4 = .ok (.aload_n 0, 1) := by decide +kernel
theorem dX3_init_5 : decode cX3_init 5 = .ok (.bipush 32, 2) := by decide +kernel
theorem dX3_init_7 : decode cX3_init 7 = .ok (.newarray .int, 2) := by decide +kernel
theorem dX3_init_9 : decode cX3_init 9 = .ok (.putfield 9, 3) := by decide +kernel
theorem dX3_init_12 : decode cX3_init 12 = .ok (.aload_n 0, 1) := by decide +kernel
theorem dX3_init_13 : decode cX3_init 13 = .ok (.bipush 16, 2) := by decide +kernel
theorem dX3_init_15 : decode cX3_init 15 = .ok (.anewarray 13, 3) := by decide +kernel
theorem dX3_init_18 : decode cX3_init 18 = .ok (.putfield 15, 3) := by decide +kernel
theorem dX3_init_21 : decode cX3_init 21 = .ok (.aload_n 0, 1) := by decide +kernel
theorem dX3_init_22 : decode cX3_init 22 = .ok (.bipush 32, 2) := by decide +kernel
theorem dX3_init_24 : decode cX3_init 24 = .ok (.anewarray 19, 3) := by decide +kernel
theorem dX3_init_27 : decode cX3_init 27 = .ok (.putfield 21, 3) := by decide +kernel
theorem dX3_init_30 : decode cX3_init 30 = .ok (.aload_n 0, 1) := by decide +kernel
theorem dX3_init_31 : decode cX3_init 31 = .ok (.new 25, 3) := by decide +kernel
theorem dX3_init_34 : decode cX3_init 34 = .ok (.dup, 1) := by decide +kernel
theorem dX3_init_35 : decode cX3_init 35 = .ok (.invokespecial 27, 3) := by decide +kernel
theorem dX3_init_38 : decode cX3_init 38 = .ok (.putfield 28, 3) := by decide +kernel
theorem dX3_init_41 : decode cX3_init 41 = .ok (.aload_n 0, 1) := by decide +kernel
theorem dX3_init_42 : decode cX3_init 42 = .ok (.sipush 256, 3) := by decide +kernel
theorem dX3_init_45 : decode cX3_init 45 = .ok (.newarray .byte, 2) := by decide +kernel
theorem dX3_init_47 : decode cX3_init 47 = .ok (.putfield 32, 3) := by decide +kernel
theorem dX3_init_50 : decode cX3_init 50 = .ok (.iconst 0, 1) := by decide +kernel
theorem dX3_init_51 : decode cX3_init 51 = .ok (.istore_n 1, 1) := by decide +kernel
theorem dX3_init_52 : decode cX3_init 52 = .ok (.iload_n 1, 1) := by decide +kernel
theorem dX3_init_53 : decode cX3_init 53 = .ok (.bipush 16, 2) := by decide +kernel
theorem dX3_init_55 : decode cX3_init 55 = .ok (.if_icmp .ge 22, 3) := by decide +kernel
theorem dX3_init_58 : decode cX3_init 58 = .ok (.aload_n 0, 1) := by decide +kernel
theorem dX3_init_59 : decode cX3_init 59 = .ok (.getfield 15, 3) := by decide +kernel
theorem dX3_init_62 : decode cX3_init 62 = .ok (.iload_n 1, 1) := by decide +kernel
theorem dX3_init_63 : decode cX3_init 63 = .ok (.new 13, 3) := by decide +kernel
theorem dX3_init_66 : decode cX3_init 66 = .ok (.dup, 1) := by decide +kernel
theorem dX3_init_67 : decode cX3_init 67 = .ok (.invokespecial 36, 3) := by decide +kernel
theorem dX3_init_70 : decode cX3_init 70 = .ok (.aastore, 1) := by decide +kernel
theorem dX3_init_71 : decode cX3_init 71 = .ok (.iinc 1 1, 3) := by decide +kernel
theorem dX3_init_74 : decode cX3_init 74 = .ok (.goto (-22), 3) := by decide +kernel
theorem dX3_init_77 : decode cX3_init 77 = .ok (.iconst 0, 1) := by decide +kernel
theorem dX3_init_78 : decode cX3_init 78 = .ok (.istore_n 1, 1) := by decide +kernel
theorem dX3_init_79 : decode cX3_init 79 = .ok (.iload_n 1, 1) := by decide +kernel
theorem dX3_init_80 : decode cX3_init 80 = .ok (.bipush 32, 2) := by decide +kernel
theorem dX3_init_82 : decode cX3_init 82 = .ok (.if_icmp .ge 22, 3) := by decide +kernel
theorem dX3_init_85 : decode cX3_init 85 = .ok (.aload_n 0, 1) := by decide +kernel
theorem dX3_init_86 : decode cX3_init 86 = .ok (.getfield 21, 3) := by decide +kernel
theorem dX3_init_89 : decode cX3_init 89 = .ok (.iload_n 1, 1) := by decide +kernel
theorem dX3_init_90 : decode cX3_init 90 = .ok (.new 19, 3) := by decide +kernel
theorem dX3_init_93 : decode cX3_init 93 = .ok (.dup, 1) := by decide +kernel
theorem dX3_init_94 : decode cX3_init 94 = .ok (.invokespecial 37, 3) := by decide +kernel
theorem dX3_init_97 : decode cX3_init 97 = .ok (.aastore, 1) := by decide +kernel
theorem dX3_init_98 : decode cX3_init 98 = .ok (.iinc 1 1, 3) := by decide +kernel
theorem dX3_init_101 : decode cX3_init 101 = .ok (.goto (-22), 3) := by decide +kernel
theorem dX3_init_104 : decode cX3_init 104 = .ok (.return_, 1) := by decide +kernel
theorem dX2_init_0 : decode cX2_init 0 = .ok (.aload_n 0, 1) := by decide +kernel
theorem dX2_init_1 : decode cX2_init 1 = .ok (.invokespecial 3, 3) := by decide +kernel
theorem dX2_init_4 : decode cX2_init 4 = .ok (.aload_n 0, 1) := by decide +kernel
theorem dX2_init_5 : decode cX2_init 5 = .ok (.bipush 64, 2) := by decide +kernel
theorem dX2_init_7 : decode cX2_init 7 = .ok (.newarray .int, 2) := by decide +kernel
theorem dX2_init_9 : decode cX2_init 9 = .ok (.putfield 9, 3) := by decide +kernel
theorem dX2_init_12 : decode cX2_init 12 = .ok (.aload_n 0, 1) := by decide +kernel
theorem dX2_init_13 : decode cX2_init 13 = .ok (.bipush 64, 2) := by decide +kernel
theorem dX2_init_15 : decode cX2_init 15 = .ok (.newarray .int, 2) := by decide +kernel
theorem dX2_init_17 : decode cX2_init 17 = .ok (.putfield 15, 3) := by decide +kernel
theorem dX2_init_20 : decode cX2_init 20 = .ok (.return_, 1) := by decide +kernel
theorem dX1_init_0 : decode cX1_init 0 = .ok (.aload_n 0, 1) := by decide +kernel
theorem dX1_init_1 : decode cX1_init 1 = .ok (.invokespecial 3, 3) := by decide +kernel
theorem dX1_init_4 : decode cX1_init 4 = .ok (.return_, 1) := by decide +kernel
theorem dX0_init_0 : decode cX0_init 0 = .ok (.aload_n 0, 1) := by decide +kernel
theorem dX0_init_1 : decode cX0_init 1 = .ok (.invokespecial 3, 3) := by decide +kernel
theorem dX0_init_4 : decode cX0_init 4 = .ok (.aload_n 0, 1) := by decide +kernel
theorem dX0_init_5 : decode cX0_init 5 = .ok (.iconst 1, 1) := by decide +kernel
theorem dX0_init_6 : decode cX0_init 6 = .ok (.putfield 9, 3) := by decide +kernel
theorem dX0_init_9 : decode cX0_init 9 = .ok (.aload_n 0, 1) := by decide +kernel
theorem dX0_init_10 : decode cX0_init 10 = .ok (.sipush 256, 3) := by decide +kernel
theorem dX0_init_13 : decode cX0_init 13 = .ok (.newarray .byte, 2) := by decide +kernel
theorem dX0_init_15 : decode cX0_init 15 = .ok (.putfield 15, 3) := by decide +kernel
theorem dX0_init_18 : decode cX0_init 18 = .ok (.return_, 1) := by decide +kernel
theorem dX3_set_0 : decode cX3_set 0 = .ok (.iload_n 1, 1) := by decide +kernel
theorem dX3_set_1 : decode cX3_set 1 = .ok (.invokestatic 38, 3) := by decide +kernel
theorem dX3_set_4 : decode cX3_set 4 = .ok (.ifCond .ne 5, 3) := by decide +kernel
theorem dX3_set_7 : decode cX3_set 7 = .ok (.iconst 0, 1) := by decide +kernel
theorem dX3_set_8 : decode cX3_set 8 = .ok (.ireturn, 1) := by decide +kernel
theorem dX3_set_9 : decode cX3_set 9 = .ok (.aload_n 0, 1) := by decide +kernel
theorem dX3_set_10 : decode cX3_set 10 = .ok (.getfield 9, 3) := by decide +kernel
theorem dX3_set_13 : decode cX3_set 13 = .ok (.iload_n 1, 1) := by decide +kernel
theorem dX3_set_14 : decode cX3_set 14 = .ok (.iload_n 2, 1) := by decide +kernel
theorem dX3_set_15 : decode cX3_set 15 = .ok (.iastore, 1) := by decide +kernel
theorem dX3_set_16 : decode cX3_set 16 = .ok (.iconst 1, 1) := by decide +kernel
theorem dX3_set_17 : decode cX3_set 17 = .ok (.ireturn, 1) := by decide +kernel
theorem dX3_isParameter_0 : decode cX3_isParameter 0 = .ok (.iload_n 0, 1) := by decide +kernel
theorem dX3_isParameter_1 : decode cX3_isParameter 1 = .ok (.ifCond .lt 13, 3) := by decide +kernel
theorem dX3_isParameter_4 : decode cX3_isParameter 4 = .ok (.iload_n 0, 1) := by decide +kernel
theorem dX3_isParameter_5 : decode cX3_isParameter 5 = .ok (.bipush 32, 2) := by decide +kernel
theorem dX3_isParameter_7 : decode cX3_isParameter 7 = .ok (.if_icmp .ge 7, 3) := by decide +kernel
theorem dX3_isParameter_10 : decode cX3_isParameter 10 = .ok (.iconst 1, 1) := by decide +kernel
theorem dX3_isParameter_11 : decode cX3_isParameter 11 = .ok (.goto 4, 3) := by decide +kernel
theorem dX3_isParameter_14 : decode cX3_isParameter 14 = .ok (.iconst 0, 1) := by decide +kernel
theorem dX3_isParameter_15 : decode cX3_isParameter 15 = .ok (.ireturn, 1) := by decide +kernel
theorem dX3_add_0 : decode cX3_add 0 = .ok (.iload_n 1, 1) := by decide +kernel
theorem dX3_add_1 : decode cX3_add 1 = .ok (.invokestatic 42, 3) := by decide +kernel
theorem dX3_add_4 : decode cX3_add 4 = .ok (.ifCond .eq 22, 3) := by decide +kernel
theorem dX3_add_7 : decode cX3_add 7 = .ok (.iload_n 2, 1) := by decide +kernel
theorem dX3_add_8 : decode cX3_add 8 = .ok (.invokestatic 38, 3) := by decide +kernel
theorem dX3_add_11 : decode cX3_add 11 = .ok (.ifCond .eq 15, 3) := by decide +kernel
theorem dX3_add_14 : decode cX3_add 14 = .ok (.iload 6, 2) := by decide +kernel
theorem dX3_add_16 : decode cX3_add 16 = .ok (.invokestatic 45, 3) := by decide +kernel
theorem dX3_add_19 : decode cX3_add 19 = .ok (.ifCond .eq 7, 3) := by decide +kernel
theorem dX3_add_22 : decode cX3_add 22 = .ok (.iconst 1, 1) := by decide +kernel
theorem dX3_add_23 : decode cX3_add 23 = .ok (.goto 4, 3) := by decide +kernel
theorem dX3_add_26 : decode cX3_add 26 = .ok (.iconst 0, 1) := by decide +kernel
theorem dX3_add_27 : decode cX3_add 27 = .ok (.istore 8, 2) := by decide +kernel
theorem dX3_add_29 : decode cX3_add 29 = .ok (.iload 8, 2) := by decide +kernel
theorem dX3_add_31 : decode cX3_add 31 = .ok (.ifCond .eq 22, 3) := by decide +kernel
theorem dX3_add_34 : decode cX3_add 34 = .ok (.iload_n 3, 1) := by decide +kernel
theorem dX3_add_35 : decode cX3_add 35 = .ok (.iconst 1, 1) := by decide +kernel
theorem dX3_add_36 : decode cX3_add 36 = .ok (.if_icmp .lt 17, 3) := by decide +kernel
theorem dX3_add_39 : decode cX3_add 39 = .ok (.iload_n 3, 1) := by decide +kernel
theorem dX3_add_40 : decode cX3_add 40 = .ok (.sipush 255, 3) := by decide +kernel
theorem dX3_add_43 : decode cX3_add 43 = .ok (.if_icmp .gt 10, 3) := by decide +kernel
theorem dX3_add_46 : decode cX3_add 46 = .ok (.iload 4, 2) := by decide +kernel
theorem dX3_add_48 : decode cX3_add 48 = .ok (.iload 5, 2) := by decide +kernel
theorem dX3_add_50 : decode cX3_add 50 = .ok (.if_icmp .le 6, 3) := by decide +kernel
theorem dX3_add_53 : decode cX3_add 53 = .ok (.bipush 13, 2) := by decide +kernel
theorem dX3_add_55 : decode cX3_add 55 = .ok (.ireturn, 1) := by decide +kernel
theorem dX3_add_56 : decode cX3_add 56 = .ok (.aload_n 0, 1) := by decide +kernel
theorem dX3_add_57 : decode cX3_add 57 = .ok (.iload_n 1, 1) := by decide +kernel
theorem dX3_add_58 : decode cX3_add 58 = .ok (.invokevirtual 48, 3) := by decide +kernel
theorem dX3_add_61 : decode cX3_add 61 = .ok (.iconst (-1), 1) := by decide +kernel
theorem dX3_add_62 : decode cX3_add 62 = .ok (.if_icmp .eq 6, 3) := by decide +kernel
theorem dX3_add_65 : decode cX3_add 65 = .ok (.bipush 25, 2) := by decide +kernel
theorem dX3_add_67 : decode cX3_add 67 = .ok (.ireturn, 1) := by decide +kernel
theorem dX3_add_68 : decode cX3_add 68 = .ok (.aload_n 0, 1) := by decide +kernel
theorem dX3_add_69 : decode cX3_add 69 = .ok (.getfield 52, 3) := by decide +kernel
theorem dX3_add_72 : decode cX3_add 72 = .ok (.bipush 16, 2) := by decide +kernel
theorem dX3_add_74 : decode cX3_add 74 = .ok (.if_icmp .lt 6, 3) := by decide +kernel
theorem dX3_add_77 : decode cX3_add 77 = .ok (.bipush 26, 2) := by decide +kernel
theorem dX3_add_79 : decode cX3_add 79 = .ok (.ireturn, 1) := by decide +kernel
theorem dX3_add_80 : decode cX3_add 80 = .ok (.aload_n 0, 1) := by decide +kernel
theorem dX3_add_81 : decode cX3_add 81 = .ok (.iload_n 1, 1) := by decide +kernel
theorem dX3_add_82 : decode cX3_add 82 = .ok (.invokevirtual 56, 3) := by decide +kernel
theorem dX3_add_85 : decode cX3_add 85 = .ok (.astore 9, 2) := by decide +kernel
theorem dX3_add_87 : decode cX3_add 87 = .ok (.aload 9, 2) := by decide +kernel
theorem dX3_add_89 : decode cX3_add 89 = .ok (.iload_n 1, 1) := by decide +kernel
theorem dX3_add_90 : decode cX3_add 90 = .ok (.iload_n 2, 1) := by decide +kernel
theorem dX3_add_91 : decode cX3_add 91 = .ok (.iload_n 3, 1) := by decide +kernel
theorem dX3_add_92 : decode cX3_add 92 = .ok (.iload 4, 2) := by decide +kernel
theorem dX3_add_94 : decode cX3_add 94 = .ok (.iload 5, 2) := by decide +kernel
theorem dX3_add_96 : decode cX3_add 96 = .ok (.iload 6, 2) := by decide +kernel
theorem dX3_add_98 : decode cX3_add 98 = .ok (.iload 7, 2) := by decide +kernel
theorem dX3_add_100 : decode cX3_add 100 = .ok (.invokevirtual 60, 3) := by decide +kernel
theorem dX3_add_103 : decode cX3_add 103 = .ok (.iconst 0, 1) := by decide +kernel
theorem dX3_add_104 : decode cX3_add 104 = .ok (.ireturn, 1) := by decide +kernel
theorem dX3_isId_0 : decode cX3_isId 0 = .ok (.iload_n 0, 1) := by decide +kernel
theorem dX3_isId_1 : decode cX3_isId 1 = .ok (.ifCond .lt 14, 3) := by decide +kernel
theorem dX3_isId_4 : decode cX3_isId 4 = .ok (.iload_n 0, 1) := by decide +kernel
theorem dX3_isId_5 : decode cX3_isId 5 = .ok (.sipush 256, 3) := by decide +kernel
theorem dX3_isId_8 : decode cX3_isId 8 = .ok (.if_icmp .ge 7, 3) := by decide +kernel
theorem dX3_isId_11 : decode cX3_isId 11 = .ok (.iconst 1, 1) := by decide +kernel
theorem dX3_isId_12 : decode cX3_isId 12 = .ok (.goto 4, 3) := by decide +kernel
theorem dX3_isId_15 : decode cX3_isId 15 = .ok (.iconst 0, 1) := by decide +kernel
theorem dX3_isId_16 : decode cX3_isId 16 = .ok (.ireturn, 1) := by decide +kernel
theorem dX3_isEvent_0 : decode cX3_isEvent 0 = .ok (.iload_n 0, 1) := by decide +kernel
theorem dX3_isEvent_1 : decode cX3_isEvent 1 = .ok (.ifCond .lt 13, 3) := by decide +kernel
theorem dX3_isEvent_4 : decode cX3_isEvent 4 = .ok (.iload_n 0, 1) := by decide +kernel
theorem dX3_isEvent_5 : decode cX3_isEvent 5 = .ok (.bipush 32, 2) := by decide +kernel
theorem dX3_isEvent_7 : decode cX3_isEvent 7 = .ok (.if_icmp .ge 7, 3) := by decide +kernel
theorem dX3_isEvent_10 : decode cX3_isEvent 10 = .ok (.iconst 1, 1) := by decide +kernel
theorem dX3_isEvent_11 : decode cX3_isEvent 11 = .ok (.goto 4, 3) := by decide +kernel
theorem dX3_isEvent_14 : decode cX3_isEvent 14 = .ok (.iconst 0, 1) := by decide +kernel
theorem dX3_isEvent_15 : decode cX3_isEvent 15 = .ok (.ireturn, 1) := by decide +kernel
theorem dX3_placeOf_0 : decode cX3_placeOf 0 = .ok (.iconst 0, 1) := by decide +kernel
theorem dX3_placeOf_1 : decode cX3_placeOf 1 = .ok (.istore_n 2, 1) := by decide +kernel
theorem dX3_placeOf_2 : decode cX3_placeOf 2 = .ok (.iload_n 2, 1) := by decide +kernel
theorem dX3_placeOf_3 : decode cX3_placeOf 3 = .ok (.aload_n 0, 1) := by decide +kernel
theorem dX3_placeOf_4 : decode cX3_placeOf 4 = .ok (.getfield 52, 3) := by decide +kernel
theorem dX3_placeOf_7 : decode cX3_placeOf 7 = .ok (.if_icmp .ge 24, 3) := by decide +kernel
theorem dX3_placeOf_10 : decode cX3_placeOf 10 = .ok (.aload_n 0, 1) := by decide +kernel
theorem dX3_placeOf_11 : decode cX3_placeOf 11 = .ok (.getfield 15, 3) := by decide +kernel
theorem dX3_placeOf_14 : decode cX3_placeOf 14 = .ok (.iload_n 2, 1) := by decide +kernel
theorem dX3_placeOf_15 : decode cX3_placeOf 15 = .ok (.aaload, 1) := by decide +kernel
theorem dX3_placeOf_16 : decode cX3_placeOf 16 = .ok (.getfield 150, 3) := by decide +kernel
theorem dX3_placeOf_19 : decode cX3_placeOf 19 = .ok (.iload_n 1, 1) := by decide +kernel
theorem dX3_placeOf_20 : decode cX3_placeOf 20 = .ok (.if_icmp .ne 5, 3) := by decide +kernel
theorem dX3_placeOf_23 : decode cX3_placeOf 23 = .ok (.iload_n 2, 1) := by decide +kernel
theorem dX3_placeOf_24 : decode cX3_placeOf 24 = .ok (.ireturn, 1) := by decide +kernel
theorem dX3_placeOf_25 : decode cX3_placeOf 25 = .ok (.iinc 2 1, 3) := by decide +kernel
theorem dX3_placeOf_28 : decode cX3_placeOf 28 = .ok (.goto (-26), 3) := by decide +kernel
theorem dX3_placeOf_31 : decode cX3_placeOf 31 = .ok (.iconst (-1), 1) := by decide +kernel
theorem dX3_placeOf_32 : decode cX3_placeOf 32 = .ok (.ireturn, 1) := by decide +kernel
theorem dX3_openPlaceFor_0 : decode cX3_openPlaceFor 0 = .ok (.aload_n 0, 1) := by decide +kernel
theorem dX3_openPlaceFor_1 : decode cX3_openPlaceFor 1 = .ok (.getfield 15, 3) := by decide +kernel
theorem dX3_openPlaceFor_4 : decode cX3_openPlaceFor 4 = .ok (.aload_n 0, 1) := by decide +kernel
theorem dX3_openPlaceFor_5 : decode cX3_openPlaceFor 5 = .ok (.getfield 52, 3) := by decide +kernel
theorem dX3_openPlaceFor_8 : decode cX3_openPlaceFor 8 = .ok (.aaload, 1) := by decide +kernel
theorem dX3_openPlaceFor_9 : decode cX3_openPlaceFor 9 = .ok (.astore_n 2, 1) := by decide +kernel
theorem dX3_openPlaceFor_10 : decode cX3_openPlaceFor 10 = .ok (.aload_n 0, 1) := by decide +kernel
theorem dX3_openPlaceFor_11 : decode cX3_openPlaceFor 11 = .ok (.getfield 52, 3) := by decide +kernel
theorem dX3_openPlaceFor_14 : decode cX3_openPlaceFor 14 = .ok (.istore_n 3, 1) := by decide +kernel
theorem dX3_openPlaceFor_15 : decode cX3_openPlaceFor 15 = .ok (.iload_n 3, 1) := by decide +kernel
theorem dX3_openPlaceFor_16 : decode cX3_openPlaceFor 16 = .ok (.ifCond .le 38, 3) := by decide +kernel
theorem dX3_openPlaceFor_19 : decode cX3_openPlaceFor 19 = .ok (.aload_n 0, 1) := by decide +kernel
theorem dX3_openPlaceFor_20 : decode cX3_openPlaceFor 20 = .ok (.getfield 15, 3) := by decide +kernel
theorem dX3_openPlaceFor_23 : decode cX3_openPlaceFor 23 = .ok (.iload_n 3, 1) := by decide +kernel
theorem dX3_openPlaceFor_24 : decode cX3_openPlaceFor 24 = .ok (.iconst 1, 1) := by decide +kernel
theorem dX3_openPlaceFor_25 : decode cX3_openPlaceFor 25 = .ok (.isub, 1) := by decide +kernel
theorem dX3_openPlaceFor_26 : decode cX3_openPlaceFor 26 = .ok (.aaload, 1) := by decide +kernel
theorem dX3_openPlaceFor_27 : decode cX3_openPlaceFor 27 = .ok (.getfield 150, 3) := by decide +kernel
theorem dX3_openPlaceFor_30 : decode cX3_openPlaceFor 30 = .ok (.iload_n 1, 1) := by decide +kernel
theorem dX3_openPlaceFor_31 : decode cX3_openPlaceFor 31 = .ok (.if_icmp .le 23, 3) := by decide +kernel
theorem dX3_openPlaceFor_34 : decode cX3_openPlaceFor 34 = .ok (.aload_n 0, 1) := by decide +kernel
theorem dX3_openPlaceFor_35 : decode cX3_openPlaceFor 35 = .ok (.getfield 15, 3) := by decide +kernel
theorem dX3_openPlaceFor_38 : decode cX3_openPlaceFor 38 = .ok (.iload_n 3, 1) := by decide +kernel
theorem dX3_openPlaceFor_39 : decode cX3_openPlaceFor 39 = .ok (.aload_n 0, 1) := by decide +kernel
theorem dX3_openPlaceFor_40 : decode cX3_openPlaceFor 40 = .ok (.getfield 15, 3) := by decide +kernel
theorem dX3_openPlaceFor_43 : decode cX3_openPlaceFor 43 = .ok (.iload_n 3, 1) := by decide +kernel
theorem dX3_openPlaceFor_44 : decode cX3_openPlaceFor 44 = .ok (.iconst 1, 1) := by decide +kernel
theorem dX3_openPlaceFor_45 : decode cX3_openPlaceFor 45 = .ok (.isub, 1) := by decide +kernel
theorem dX3_openPlaceFor_46 : decode cX3_openPlaceFor 46 = .ok (.aaload, 1) := by decide +kernel
theorem dX3_openPlaceFor_47 : decode cX3_openPlaceFor 47 = .ok (.aastore, 1) := by decide +kernel
theorem dX3_openPlaceFor_48 : decode cX3_openPlaceFor 48 = .ok (.iinc 3 (-1), 3) := by decide +kernel
theorem dX3_openPlaceFor_51 : decode cX3_openPlaceFor 51 = .ok (.goto (-36), 3) := by decide +kernel
theorem dX3_openPlaceFor_54 : decode cX3_openPlaceFor 54 = .ok (.aload_n 0, 1) := by decide +kernel
theorem dX3_openPlaceFor_55 : decode cX3_openPlaceFor 55 = .ok (.getfield 15, 3) := by decide +kernel
theorem dX3_openPlaceFor_58 : decode cX3_openPlaceFor 58 = .ok (.iload_n 3, 1) := by decide +kernel
theorem dX3_openPlaceFor_59 : decode cX3_openPlaceFor 59 = .ok (.aload_n 2, 1) := by decide +kernel
theorem dX3_openPlaceFor_60 : decode cX3_openPlaceFor 60 = .ok (.aastore, 1) := by decide +kernel
theorem dX3_openPlaceFor_61 : decode cX3_openPlaceFor 61 = .ok (.aload_n 0, 1) := by decide +kernel
theorem dX3_openPlaceFor_62 : decode cX3_openPlaceFor 62 = .ok (.dup, 1) := by decide +kernel
theorem dX3_openPlaceFor_63 : decode cX3_openPlaceFor 63 = .ok (.getfield 52, 3) := by decide +kernel
theorem dX3_openPlaceFor_66 : decode cX3_openPlaceFor 66 = .ok (.iconst 1, 1) := by decide +kernel
theorem dX3_openPlaceFor_67 : decode cX3_openPlaceFor 67 = .ok (.iadd, 1) := by decide +kernel
theorem dX3_openPlaceFor_68 : decode cX3_openPlaceFor 68 = .ok (.putfield 52, 3) := by decide +kernel
theorem dX3_openPlaceFor_71 : decode cX3_openPlaceFor 71 = .ok (.aload_n 2, 1) := by decide +kernel
theorem dX3_openPlaceFor_72 : decode cX3_openPlaceFor 72 = .ok (.areturn, 1) := by decide +kernel
theorem dX1_begin_0 : decode cX1_begin 0 = .ok (.aload_n 0, 1) := by decide +kernel
theorem dX1_begin_1 : decode cX1_begin 1 = .ok (.iload_n 1, 1) := by decide +kernel
theorem dX1_begin_2 : decode cX1_begin 2 = .ok (.putfield 9, 3) := by decide +kernel
theorem dX1_begin_5 : decode cX1_begin 5 = .ok (.aload_n 0, 1) := by decide +kernel
theorem dX1_begin_6 : decode cX1_begin 6 = .ok (.iload_n 2, 1) := by decide +kernel
theorem dX1_begin_7 : decode cX1_begin 7 = .ok (.putfield 15, 3) := by decide +kernel
theorem dX1_begin_10 : decode cX1_begin 10 = .ok (.aload_n 0, 1) := by decide +kernel
theorem dX1_begin_11 : decode cX1_begin 11 = .ok (.iload_n 3, 1) := by decide +kernel
theorem dX1_begin_12 : decode cX1_begin 12 = .ok (.putfield 18, 3) := by decide +kernel
theorem dX1_begin_15 : decode cX1_begin 15 = .ok (.aload_n 0, 1) := by decide +kernel
theorem dX1_begin_16 : decode cX1_begin 16 = .ok (.iload 4, 2) := by decide +kernel
theorem dX1_begin_18 : decode cX1_begin 18 = .ok (.putfield 21, 3) := by decide +kernel
theorem dX1_begin_21 : decode cX1_begin 21 = .ok (.aload_n 0, 1) := by decide +kernel
theorem dX1_begin_22 : decode cX1_begin 22 = .ok (.iload 5, 2) := by decide +kernel
theorem dX1_begin_24 : decode cX1_begin 24 = .ok (.putfield 24, 3) := by decide +kernel
theorem dX1_begin_27 : decode cX1_begin 27 = .ok (.aload_n 0, 1) := by decide +kernel
theorem dX1_begin_28 : decode cX1_begin 28 = .ok (.iload 6, 2) := by decide +kernel
theorem dX1_begin_30 : decode cX1_begin 30 = .ok (.putfield 27, 3) := by decide +kernel
theorem dX1_begin_33 : decode cX1_begin 33 = .ok (.aload_n 0, 1) := by decide +kernel
theorem dX1_begin_34 : decode cX1_begin 34 = .ok (.iload 7, 2) := by decide +kernel
theorem dX1_begin_36 : decode cX1_begin 36 = .ok (.putfield 30, 3) := by decide +kernel
theorem dX1_begin_39 : decode cX1_begin 39 = .ok (.aload_n 0, 1) := by decide +kernel
theorem dX1_begin_40 : decode cX1_begin 40 = .ok (.iconst 0, 1) := by decide +kernel
theorem dX1_begin_41 : decode cX1_begin 41 = .ok (.invokevirtual 34, 3) := by decide +kernel
theorem dX1_begin_44 : decode cX1_begin 44 = .ok (.return_, 1) := by decide +kernel
theorem dX1_turn_0 : decode cX1_turn 0 = .ok (.aload_n 0, 1) := by decide +kernel
theorem dX1_turn_1 : decode cX1_turn 1 = .ok (.iload_n 1, 1) := by decide +kernel
theorem dX1_turn_2 : decode cX1_turn 2 = .ok (.putfield 38, 3) := by decide +kernel
theorem dX1_turn_5 : decode cX1_turn 5 = .ok (.aload_n 0, 1) := by decide +kernel
theorem dX1_turn_6 : decode cX1_turn 6 = .ok (.iconst 0, 1) := by decide +kernel
theorem dX1_turn_7 : decode cX1_turn 7 = .ok (.putfield 41, 3) := by decide +kernel
theorem dX1_turn_10 : decode cX1_turn 10 = .ok (.return_, 1) := by decide +kernel
theorem dX3_remove_0 : decode cX3_remove 0 = .ok (.aload_n 0, 1) := by decide +kernel
theorem dX3_remove_1 : decode cX3_remove 1 = .ok (.iload_n 1, 1) := by decide +kernel
theorem dX3_remove_2 : decode cX3_remove 2 = .ok (.invokevirtual 48, 3) := by decide +kernel
theorem dX3_remove_5 : decode cX3_remove 5 = .ok (.istore_n 2, 1) := by decide +kernel
theorem dX3_remove_6 : decode cX3_remove 6 = .ok (.iload_n 2, 1) := by decide +kernel
theorem dX3_remove_7 : decode cX3_remove 7 = .ok (.iconst (-1), 1) := by decide +kernel
theorem dX3_remove_8 : decode cX3_remove 8 = .ok (.if_icmp .ne 6, 3) := by decide +kernel
theorem dX3_remove_11 : decode cX3_remove 11 = .ok (.bipush 27, 2) := by decide +kernel
theorem dX3_remove_13 : decode cX3_remove 13 = .ok (.ireturn, 1) := by decide +kernel
theorem dX3_remove_14 : decode cX3_remove 14 = .ok (.aload_n 0, 1) := by decide +kernel
theorem dX3_remove_15 : decode cX3_remove 15 = .ok (.getfield 15, 3) := by decide +kernel
theorem dX3_remove_18 : decode cX3_remove 18 = .ok (.iload_n 2, 1) := by decide +kernel
theorem dX3_remove_19 : decode cX3_remove 19 = .ok (.aaload, 1) := by decide +kernel
theorem dX3_remove_20 : decode cX3_remove 20 = .ok (.getfield 64, 3) := by decide +kernel
theorem dX3_remove_23 : decode cX3_remove 23 = .ok (.ifCond .eq 6, 3) := by decide +kernel
theorem dX3_remove_26 : decode cX3_remove 26 = .ok (.bipush 15, 2) := by decide +kernel
theorem dX3_remove_28 : decode cX3_remove 28 = .ok (.ireturn, 1) := by decide +kernel
theorem dX3_remove_29 : decode cX3_remove 29 = .ok (.aload_n 0, 1) := by decide +kernel
theorem dX3_remove_30 : decode cX3_remove 30 = .ok (.iload_n 2, 1) := by decide +kernel
theorem dX3_remove_31 : decode cX3_remove 31 = .ok (.invokevirtual 68, 3) := by decide +kernel
theorem dX3_remove_34 : decode cX3_remove 34 = .ok (.iconst 0, 1) := by decide +kernel
theorem dX3_remove_35 : decode cX3_remove 35 = .ok (.ireturn, 1) := by decide +kernel
theorem dX3_closePlace_0 : decode cX3_closePlace 0 = .ok (.aload_n 0, 1) := by decide +kernel
theorem dX3_closePlace_1 : decode cX3_closePlace 1 = .ok (.getfield 15, 3) := by decide +kernel
theorem dX3_closePlace_4 : decode cX3_closePlace 4 = .ok (.iload_n 1, 1) := by decide +kernel
theorem dX3_closePlace_5 : decode cX3_closePlace 5 = .ok (.aaload, 1) := by decide +kernel
theorem dX3_closePlace_6 : decode cX3_closePlace 6 = .ok (.astore_n 2, 1) := by decide +kernel
theorem dX3_closePlace_7 : decode cX3_closePlace 7 = .ok (.aload_n 0, 1) := by decide +kernel
theorem dX3_closePlace_8 : decode cX3_closePlace 8 = .ok (.dup, 1) := by decide +kernel
theorem dX3_closePlace_9 : decode cX3_closePlace 9 = .ok (.getfield 52, 3) := by decide +kernel
theorem dX3_closePlace_12 : decode cX3_closePlace 12 = .ok (.iconst 1, 1) := by decide +kernel
theorem dX3_closePlace_13 : decode cX3_closePlace 13 = .ok (.isub, 1) := by decide +kernel
theorem dX3_closePlace_14 : decode cX3_closePlace 14 = .ok (.putfield 52, 3) := by decide +kernel
theorem dX3_closePlace_17 : decode cX3_closePlace 17 = .ok (.iload_n 1, 1) := by decide +kernel
theorem dX3_closePlace_18 : decode cX3_closePlace 18 = .ok (.istore_n 3, 1) := by decide +kernel
theorem dX3_closePlace_19 : decode cX3_closePlace 19 = .ok (.iload_n 3, 1) := by decide +kernel
theorem dX3_closePlace_20 : decode cX3_closePlace 20 = .ok (.aload_n 0, 1) := by decide +kernel
theorem dX3_closePlace_21 : decode cX3_closePlace 21 = .ok (.getfield 52, 3) := by decide +kernel
theorem dX3_closePlace_24 : decode cX3_closePlace 24 = .ok (.if_icmp .ge 23, 3) := by decide +kernel
theorem dX3_closePlace_27 : decode cX3_closePlace 27 = .ok (.aload_n 0, 1) := by decide +kernel
theorem dX3_closePlace_28 : decode cX3_closePlace 28 = .ok (.getfield 15, 3) := by decide +kernel
theorem dX3_closePlace_31 : decode cX3_closePlace 31 = .ok (.iload_n 3, 1) := by decide +kernel
theorem dX3_closePlace_32 : decode cX3_closePlace 32 = .ok (.aload_n 0, 1) := by decide +kernel
theorem dX3_closePlace_33 : decode cX3_closePlace 33 = .ok (.getfield 15, 3) := by decide +kernel
theorem dX3_closePlace_36 : decode cX3_closePlace 36 = .ok (.iload_n 3, 1) := by decide +kernel
theorem dX3_closePlace_37 : decode cX3_closePlace 37 = .ok (.iconst 1, 1) := by decide +kernel
theorem dX3_closePlace_38 : decode cX3_closePlace 38 = .ok (.iadd, 1) := by decide +kernel
theorem dX3_closePlace_39 : decode cX3_closePlace 39 = .ok (.aaload, 1) := by decide +kernel
theorem dX3_closePlace_40 : decode cX3_closePlace 40 = .ok (.aastore, 1) := by decide +kernel
theorem dX3_closePlace_41 : decode cX3_closePlace 41 = .ok (.iinc 3 1, 3) := by decide +kernel
theorem dX3_closePlace_44 : decode cX3_closePlace 44 = .ok (.goto (-25), 3) := by decide +kernel
theorem dX3_closePlace_47 : decode cX3_closePlace 47 = .ok (.aload_n 0, 1) := by decide +kernel
theorem dX3_closePlace_48 : decode cX3_closePlace 48 = .ok (.getfield 15, 3) := by decide +kernel
theorem dX3_closePlace_51 : decode cX3_closePlace 51 = .ok (.aload_n 0, 1) := by decide +kernel
theorem dX3_closePlace_52 : decode cX3_closePlace 52 = .ok (.getfield 52, 3) := by decide +kernel
theorem dX3_closePlace_55 : decode cX3_closePlace 55 = .ok (.aload_n 2, 1) := by decide +kernel
theorem dX3_closePlace_56 : decode cX3_closePlace 56 = .ok (.aastore, 1) := by decide +kernel
theorem dX3_closePlace_57 : decode cX3_closePlace 57 = .ok (.return_, 1) := by decide +kernel
theorem dX3_enable_0 : decode cX3_enable 0 = .ok (.aload_n 0, 1) := by decide +kernel
theorem dX3_enable_1 : decode cX3_enable 1 = .ok (.iload_n 1, 1) := by decide +kernel
theorem dX3_enable_2 : decode cX3_enable 2 = .ok (.invokevirtual 48, 3) := by decide +kernel
theorem dX3_enable_5 : decode cX3_enable 5 = .ok (.istore_n 3, 1) := by decide +kernel
theorem dX3_enable_6 : decode cX3_enable 6 = .ok (.iload_n 3, 1) := by decide +kernel
theorem dX3_enable_7 : decode cX3_enable 7 = .ok (.iconst (-1), 1) := by decide +kernel
theorem dX3_enable_8 : decode cX3_enable 8 = .ok (.if_icmp .ne 6, 3) := by decide +kernel
theorem dX3_enable_11 : decode cX3_enable 11 = .ok (.bipush 27, 2) := by decide +kernel
theorem dX3_enable_13 : decode cX3_enable 13 = .ok (.ireturn, 1) := by decide +kernel
theorem dX3_enable_14 : decode cX3_enable 14 = .ok (.aload_n 0, 1) := by decide +kernel
theorem dX3_enable_15 : decode cX3_enable 15 = .ok (.getfield 15, 3) := by decide +kernel
theorem dX3_enable_18 : decode cX3_enable 18 = .ok (.iload_n 3, 1) := by decide +kernel
theorem dX3_enable_19 : decode cX3_enable 19 = .ok (.aaload, 1) := by decide +kernel
theorem dX3_enable_20 : decode cX3_enable 20 = .ok (.iload_n 2, 1) := by decide +kernel
theorem dX3_enable_21 : decode cX3_enable 21 = .ok (.invokevirtual 72, 3) := by decide +kernel
theorem dX3_enable_24 : decode cX3_enable 24 = .ok (.iconst 0, 1) := by decide +kernel
theorem dX3_enable_25 : decode cX3_enable 25 = .ok (.ireturn, 1) := by decide +kernel
theorem dX3_watch_0 : decode cX3_watch 0 = .ok (.iconst 0, 1) := by decide +kernel
theorem dX3_watch_1 : decode cX3_watch 1 = .ok (.istore_n 1, 1) := by decide +kernel
theorem dX3_watch_2 : decode cX3_watch 2 = .ok (.aload_n 0, 1) := by decide +kernel
theorem dX3_watch_3 : decode cX3_watch 3 = .ok (.iconst 0, 1) := by decide +kernel
theorem dX3_watch_4 : decode cX3_watch 4 = .ok (.putfield 76, 3) := by decide +kernel
theorem dX3_watch_7 : decode cX3_watch 7 = .ok (.iconst 0, 1) := by decide +kernel
theorem dX3_watch_8 : decode cX3_watch 8 = .ok (.istore_n 2, 1) := by decide +kernel
theorem dX3_watch_9 : decode cX3_watch 9 = .ok (.iload_n 2, 1) := by decide +kernel
theorem dX3_watch_10 : decode cX3_watch 10 = .ok (.aload_n 0, 1) := by decide +kernel
theorem dX3_watch_11 : decode cX3_watch 11 = .ok (.getfield 52, 3) := by decide +kernel
theorem dX3_watch_14 : decode cX3_watch 14 = .ok (.if_icmp .ge 80, 3) := by decide +kernel
theorem dX3_watch_17 : decode cX3_watch 17 = .ok (.aload_n 0, 1) := by decide +kernel
theorem dX3_watch_18 : decode cX3_watch 18 = .ok (.getfield 15, 3) := by decide +kernel
theorem dX3_watch_21 : decode cX3_watch 21 = .ok (.iload_n 2, 1) := by decide +kernel
theorem dX3_watch_22 : decode cX3_watch 22 = .ok (.aaload, 1) := by decide +kernel
theorem dX3_watch_23 : decode cX3_watch 23 = .ok (.astore_n 3, 1) := by decide +kernel
theorem dX3_watch_24 : decode cX3_watch 24 = .ok (.aload_n 0, 1) := by decide +kernel
theorem dX3_watch_25 : decode cX3_watch 25 = .ok (.getfield 9, 3) := by decide +kernel
theorem dX3_watch_28 : decode cX3_watch 28 = .ok (.aload_n 3, 1) := by decide +kernel
theorem dX3_watch_29 : decode cX3_watch 29 = .ok (.getfield 79, 3) := by decide +kernel
theorem dX3_watch_32 : decode cX3_watch 32 = .ok (.iaload, 1) := by decide +kernel
theorem dX3_watch_33 : decode cX3_watch 33 = .ok (.istore 4, 2) := by decide +kernel
theorem dX3_watch_35 : decode cX3_watch 35 = .ok (.aload_n 3, 1) := by decide +kernel
theorem dX3_watch_36 : decode cX3_watch 36 = .ok (.getfield 64, 3) := by decide +kernel
theorem dX3_watch_39 : decode cX3_watch 39 = .ok (.ifCond .eq 49, 3) := by decide +kernel
theorem dX3_watch_42 : decode cX3_watch 42 = .ok (.aload_n 3, 1) := by decide +kernel
theorem dX3_watch_43 : decode cX3_watch 43 = .ok (.iload 4, 2) := by decide +kernel
theorem dX3_watch_45 : decode cX3_watch 45 = .ok (.invokevirtual 82, 3) := by decide +kernel
theorem dX3_watch_48 : decode cX3_watch 48 = .ok (.ifCond .eq 40, 3) := by decide +kernel
theorem dX3_watch_51 : decode cX3_watch 51 = .ok (.iinc 1 1, 3) := by decide +kernel
theorem dX3_watch_54 : decode cX3_watch 54 = .ok (.aload_n 0, 1) := by decide +kernel
theorem dX3_watch_55 : decode cX3_watch 55 = .ok (.aload_n 0, 1) := by decide +kernel
theorem dX3_watch_56 : decode cX3_watch 56 = .ok (.getfield 76, 3) := by decide +kernel
theorem dX3_watch_59 : decode cX3_watch 59 = .ok (.ifCond .ne 10, 3) := by decide +kernel
theorem dX3_watch_62 : decode cX3_watch 62 = .ok (.aload_n 3, 1) := by decide +kernel
theorem dX3_watch_63 : decode cX3_watch 63 = .ok (.getfield 85, 3) := by decide +kernel
theorem dX3_watch_66 : decode cX3_watch 66 = .ok (.ifCond .eq 7, 3) := by decide +kernel
theorem dX3_watch_69 : decode cX3_watch 69 = .ok (.iconst 1, 1) := by decide +kernel
theorem dX3_watch_70 : decode cX3_watch 70 = .ok (.goto 4, 3) := by decide +kernel
theorem dX3_watch_73 : decode cX3_watch 73 = .ok (.iconst 0, 1) := by decide +kernel
theorem dX3_watch_74 : decode cX3_watch 74 = .ok (.putfield 76, 3) := by decide +kernel
theorem dX3_watch_77 : decode cX3_watch 77 = .ok (.aload_n 0, 1) := by decide +kernel
theorem dX3_watch_78 : decode cX3_watch 78 = .ok (.aload_n 3, 1) := by decide +kernel
theorem dX3_watch_79 : decode cX3_watch 79 = .ok (.getfield 88, 3) := by decide +kernel
theorem dX3_watch_82 : decode cX3_watch 82 = .ok (.iload 4, 2) := by decide +kernel
theorem dX3_watch_84 : decode cX3_watch 84 = .ok (.invokevirtual 91, 3) := by decide +kernel
theorem dX3_watch_87 : decode cX3_watch 87 = .ok (.pop, 1) := by decide +kernel
theorem dX3_watch_88 : decode cX3_watch 88 = .ok (.iinc 2 1, 3) := by decide +kernel
theorem dX3_watch_91 : decode cX3_watch 91 = .ok (.goto (-82), 3) := by decide +kernel
theorem dX3_watch_94 : decode cX3_watch 94 = .ok (.aload_n 0, 1) := by decide +kernel
theorem dX3_watch_95 : decode cX3_watch 95 = .ok (.dup, 1) := by decide +kernel
theorem dX3_watch_96 : decode cX3_watch 96 = .ok (.getfield 95, 3) := by decide +kernel
theorem dX3_watch_99 : decode cX3_watch 99 = .ok (.iload_n 1, 1) := by decide +kernel
theorem dX3_watch_100 : decode cX3_watch 100 = .ok (.iadd, 1) := by decide +kernel
theorem dX3_watch_101 : decode cX3_watch 101 = .ok (.putfield 95, 3) := by decide +kernel
theorem dX3_watch_104 : decode cX3_watch 104 = .ok (.iload_n 1, 1) := by decide +kernel
theorem dX3_watch_105 : decode cX3_watch 105 = .ok (.ireturn, 1) := by decide +kernel
theorem dX1_breaksAt_0 : decode cX1_breaksAt 0 = .ok (.iload_n 1, 1) := by decide +kernel
theorem dX1_breaksAt_1 : decode cX1_breaksAt 1 = .ok (.aload_n 0, 1) := by decide +kernel
theorem dX1_breaksAt_2 : decode cX1_breaksAt 2 = .ok (.getfield 21, 3) := by decide +kernel
theorem dX1_breaksAt_5 : decode cX1_breaksAt 5 = .ok (.if_icmp .lt 18, 3) := by decide +kernel
theorem dX1_breaksAt_8 : decode cX1_breaksAt 8 = .ok (.iload_n 1, 1) := by decide +kernel
theorem dX1_breaksAt_9 : decode cX1_breaksAt 9 = .ok (.aload_n 0, 1) := by decide +kernel
theorem dX1_breaksAt_10 : decode cX1_breaksAt 10 = .ok (.getfield 24, 3) := by decide +kernel
theorem dX1_breaksAt_13 : decode cX1_breaksAt 13 = .ok (.if_icmp .gt 10, 3) := by decide +kernel
theorem dX1_breaksAt_16 : decode cX1_breaksAt 16 = .ok (.aload_n 0, 1) := by decide +kernel
theorem dX1_breaksAt_17 : decode cX1_breaksAt 17 = .ok (.iconst 0, 1) := by decide +kernel
theorem dX1_breaksAt_18 : decode cX1_breaksAt 18 = .ok (.putfield 41, 3) := by decide +kernel
theorem dX1_breaksAt_21 : decode cX1_breaksAt 21 = .ok (.iconst 0, 1) := by decide +kernel
theorem dX1_breaksAt_22 : decode cX1_breaksAt 22 = .ok (.ireturn, 1) := by decide +kernel
theorem dX1_breaksAt_23 : decode cX1_breaksAt 23 = .ok (.aload_n 0, 1) := by decide +kernel
theorem dX1_breaksAt_24 : decode cX1_breaksAt 24 = .ok (.dup, 1) := by decide +kernel
theorem dX1_breaksAt_25 : decode cX1_breaksAt 25 = .ok (.getfield 41, 3) := by decide +kernel
theorem dX1_breaksAt_28 : decode cX1_breaksAt 28 = .ok (.iconst 1, 1) := by decide +kernel
theorem dX1_breaksAt_29 : decode cX1_breaksAt 29 = .ok (.iadd, 1) := by decide +kernel
theorem dX1_breaksAt_30 : decode cX1_breaksAt 30 = .ok (.putfield 41, 3) := by decide +kernel
theorem dX1_breaksAt_33 : decode cX1_breaksAt 33 = .ok (.aload_n 0, 1) := by decide +kernel
theorem dX1_breaksAt_34 : decode cX1_breaksAt 34 = .ok (.getfield 41, 3) := by decide +kernel
theorem dX1_breaksAt_37 : decode cX1_breaksAt 37 = .ok (.aload_n 0, 1) := by decide +kernel
theorem dX1_breaksAt_38 : decode cX1_breaksAt 38 = .ok (.getfield 18, 3) := by decide +kernel
theorem dX1_breaksAt_41 : decode cX1_breaksAt 41 = .ok (.if_icmp .ne 7, 3) := by decide +kernel
theorem dX1_breaksAt_44 : decode cX1_breaksAt 44 = .ok (.iconst 1, 1) := by decide +kernel
theorem dX1_breaksAt_45 : decode cX1_breaksAt 45 = .ok (.goto 4, 3) := by decide +kernel
theorem dX1_breaksAt_48 : decode cX1_breaksAt 48 = .ok (.iconst 0, 1) := by decide +kernel
theorem dX1_breaksAt_49 : decode cX1_breaksAt 49 = .ok (.ireturn, 1) := by decide +kernel
theorem dX3_waitOrLose_0 : decode cX3_waitOrLose 0 = .ok (.aload_n 0, 1) := by decide +kernel
theorem dX3_waitOrLose_1 : decode cX3_waitOrLose 1 = .ok (.getfield 28, 3) := by decide +kernel
theorem dX3_waitOrLose_4 : decode cX3_waitOrLose 4 = .ok (.getfield 98, 3) := by decide +kernel
theorem dX3_waitOrLose_7 : decode cX3_waitOrLose 7 = .ok (.bipush 64, 2) := by decide +kernel
theorem dX3_waitOrLose_9 : decode cX3_waitOrLose 9 = .ok (.if_icmp .lt 15, 3) := by decide +kernel
theorem dX3_waitOrLose_12 : decode cX3_waitOrLose 12 = .ok (.aload_n 0, 1) := by decide +kernel
theorem dX3_waitOrLose_13 : decode cX3_waitOrLose 13 = .ok (.dup, 1) := by decide +kernel
theorem dX3_waitOrLose_14 : decode cX3_waitOrLose 14 = .ok (.getfield 117, 3) := by decide +kernel
theorem dX3_waitOrLose_17 : decode cX3_waitOrLose 17 = .ok (.iconst 1, 1) := by decide +kernel
theorem dX3_waitOrLose_18 : decode cX3_waitOrLose 18 = .ok (.iadd, 1) := by decide +kernel
theorem dX3_waitOrLose_19 : decode cX3_waitOrLose 19 = .ok (.putfield 117, 3) := by decide +kernel
theorem dX3_waitOrLose_22 : decode cX3_waitOrLose 22 = .ok (.iconst 0, 1) := by decide +kernel
theorem dX3_waitOrLose_23 : decode cX3_waitOrLose 23 = .ok (.ireturn, 1) := by decide +kernel
theorem dX3_waitOrLose_24 : decode cX3_waitOrLose 24 = .ok (.aload_n 0, 1) := by decide +kernel
theorem dX3_waitOrLose_25 : decode cX3_waitOrLose 25 = .ok (.getfield 28, 3) := by decide +kernel
theorem dX3_waitOrLose_28 : decode cX3_waitOrLose 28 = .ok (.iload_n 1, 1) := by decide +kernel
theorem dX3_waitOrLose_29 : decode cX3_waitOrLose 29 = .ok (.iload_n 2, 1) := by decide +kernel
theorem dX3_waitOrLose_30 : decode cX3_waitOrLose 30 = .ok (.invokevirtual 153, 3) := by decide +kernel
theorem dX3_waitOrLose_33 : decode cX3_waitOrLose 33 = .ok (.iconst 1, 1) := by decide +kernel
theorem dX3_waitOrLose_34 : decode cX3_waitOrLose 34 = .ok (.ireturn, 1) := by decide +kernel
theorem dX2_append_0 : decode cX2_append 0 = .ok (.aload_n 0, 1) := by decide +kernel
theorem dX2_append_1 : decode cX2_append 1 = .ok (.getfield 18, 3) := by decide +kernel
theorem dX2_append_4 : decode cX2_append 4 = .ok (.aload_n 0, 1) := by decide +kernel
theorem dX2_append_5 : decode cX2_append 5 = .ok (.getfield 22, 3) := by decide +kernel
theorem dX2_append_8 : decode cX2_append 8 = .ok (.iadd, 1) := by decide +kernel
theorem dX2_append_9 : decode cX2_append 9 = .ok (.bipush 64, 2) := by decide +kernel
theorem dX2_append_11 : decode cX2_append 11 = .ok (.irem, 1) := by decide +kernel
theorem dX2_append_12 : decode cX2_append 12 = .ok (.istore_n 3, 1) := by decide +kernel
theorem dX2_append_13 : decode cX2_append 13 = .ok (.aload_n 0, 1) := by decide +kernel
theorem dX2_append_14 : decode cX2_append 14 = .ok (.getfield 9, 3) := by decide +kernel
theorem dX2_append_17 : decode cX2_append 17 = .ok (.iload_n 3, 1) := by decide +kernel
theorem dX2_append_18 : decode cX2_append 18 = .ok (.iload_n 1, 1) := by decide +kernel
theorem dX2_append_19 : decode cX2_append 19 = .ok (.iastore, 1) := by decide +kernel
theorem dX2_append_20 : decode cX2_append 20 = .ok (.aload_n 0, 1) := by decide +kernel
theorem dX2_append_21 : decode cX2_append 21 = .ok (.getfield 15, 3) := by decide +kernel
theorem dX2_append_24 : decode cX2_append 24 = .ok (.iload_n 3, 1) := by decide +kernel
theorem dX2_append_25 : decode cX2_append 25 = .ok (.iload_n 2, 1) := by decide +kernel
theorem dX2_append_26 : decode cX2_append 26 = .ok (.iastore, 1) := by decide +kernel
theorem dX2_append_27 : decode cX2_append 27 = .ok (.aload_n 0, 1) := by decide +kernel
theorem dX2_append_28 : decode cX2_append 28 = .ok (.dup, 1) := by decide +kernel
theorem dX2_append_29 : decode cX2_append 29 = .ok (.getfield 22, 3) := by decide +kernel
theorem dX2_append_32 : decode cX2_append 32 = .ok (.iconst 1, 1) := by decide +kernel
theorem dX2_append_33 : decode cX2_append 33 = .ok (.iadd, 1) := by decide +kernel
theorem dX2_append_34 : decode cX2_append 34 = .ok (.putfield 22, 3) := by decide +kernel
theorem dX2_append_37 : decode cX2_append 37 = .ok (.return_, 1) := by decide +kernel
theorem dX3_linked_0 : decode cX3_linked 0 = .ok (.aload_n 0, 1) := by decide +kernel
theorem dX3_linked_1 : decode cX3_linked 1 = .ok (.getfield 76, 3) := by decide +kernel
theorem dX3_linked_4 : decode cX3_linked 4 = .ok (.ireturn, 1) := by decide +kernel
theorem dX3_raise_0 : decode cX3_raise 0 = .ok (.iload_n 1, 1) := by decide +kernel
theorem dX3_raise_1 : decode cX3_raise 1 = .ok (.invokestatic 45, 3) := by decide +kernel
theorem dX3_raise_4 : decode cX3_raise 4 = .ok (.ifCond .eq 16, 3) := by decide +kernel
theorem dX3_raise_7 : decode cX3_raise 7 = .ok (.aload_n 0, 1) := by decide +kernel
theorem dX3_raise_8 : decode cX3_raise 8 = .ok (.iload_n 1, 1) := by decide +kernel
theorem dX3_raise_9 : decode cX3_raise 9 = .ok (.iload_n 2, 1) := by decide +kernel
theorem dX3_raise_10 : decode cX3_raise 10 = .ok (.invokevirtual 91, 3) := by decide +kernel
theorem dX3_raise_13 : decode cX3_raise 13 = .ok (.ifCond .eq 7, 3) := by decide +kernel
theorem dX3_raise_16 : decode cX3_raise 16 = .ok (.iconst 1, 1) := by decide +kernel
theorem dX3_raise_17 : decode cX3_raise 17 = .ok (.goto 4, 3) := by decide +kernel
theorem dX3_raise_20 : decode cX3_raise 20 = .ok (.iconst 0, 1) := by decide +kernel
theorem dX3_raise_21 : decode cX3_raise 21 = .ok (.ireturn, 1) := by decide +kernel
theorem dX3_work_0 : decode cX3_work 0 = .ok (.aload_n 0, 1) := by decide +kernel
theorem dX3_work_1 : decode cX3_work 1 = .ok (.getfield 28, 3) := by decide +kernel
theorem dX3_work_4 : decode cX3_work 4 = .ok (.getfield 98, 3) := by decide +kernel
theorem dX3_work_7 : decode cX3_work 7 = .ok (.ifCond .ne 5, 3) := by decide +kernel
theorem dX3_work_10 : decode cX3_work 10 = .ok (.iconst (-1), 1) := by decide +kernel
theorem dX3_work_11 : decode cX3_work 11 = .ok (.ireturn, 1) := by decide +kernel
theorem dX3_work_12 : decode cX3_work 12 = .ok (.aload_n 0, 1) := by decide +kernel
theorem dX3_work_13 : decode cX3_work 13 = .ok (.getfield 28, 3) := by decide +kernel
theorem dX3_work_16 : decode cX3_work 16 = .ok (.invokevirtual 101, 3) := by decide +kernel
theorem dX3_work_19 : decode cX3_work 19 = .ok (.istore_n 1, 1) := by decide +kernel
theorem dX3_work_20 : decode cX3_work 20 = .ok (.aload_n 0, 1) := by decide +kernel
theorem dX3_work_21 : decode cX3_work 21 = .ok (.aload_n 0, 1) := by decide +kernel
theorem dX3_work_22 : decode cX3_work 22 = .ok (.getfield 28, 3) := by decide +kernel
theorem dX3_work_25 : decode cX3_work 25 = .ok (.invokevirtual 105, 3) := by decide +kernel
theorem dX3_work_28 : decode cX3_work 28 = .ok (.putfield 108, 3) := by decide +kernel
theorem dX3_work_31 : decode cX3_work 31 = .ok (.aload_n 0, 1) := by decide +kernel
theorem dX3_work_32 : decode cX3_work 32 = .ok (.getfield 28, 3) := by decide +kernel
theorem dX3_work_35 : decode cX3_work 35 = .ok (.invokevirtual 111, 3) := by decide +kernel
theorem dX3_work_38 : decode cX3_work 38 = .ok (.iload_n 1, 1) := by decide +kernel
theorem dX3_work_39 : decode cX3_work 39 = .ok (.ireturn, 1) := by decide +kernel
theorem dX2_firstEvent_0 : decode cX2_firstEvent 0 = .ok (.aload_n 0, 1) := by decide +kernel
theorem dX2_firstEvent_1 : decode cX2_firstEvent 1 = .ok (.getfield 9, 3) := by decide +kernel
theorem dX2_firstEvent_4 : decode cX2_firstEvent 4 = .ok (.aload_n 0, 1) := by decide +kernel
theorem dX2_firstEvent_5 : decode cX2_firstEvent 5 = .ok (.getfield 18, 3) := by decide +kernel
theorem dX2_firstEvent_8 : decode cX2_firstEvent 8 = .ok (.iaload, 1) := by decide +kernel
theorem dX2_firstEvent_9 : decode cX2_firstEvent 9 = .ok (.ireturn, 1) := by decide +kernel
theorem dX2_firstNumber_0 : decode cX2_firstNumber 0 = .ok (.aload_n 0, 1) := by decide +kernel
theorem dX2_firstNumber_1 : decode cX2_firstNumber 1 = .ok (.getfield 15, 3) := by decide +kernel
theorem dX2_firstNumber_4 : decode cX2_firstNumber 4 = .ok (.aload_n 0, 1) := by decide +kernel
theorem dX2_firstNumber_5 : decode cX2_firstNumber 5 = .ok (.getfield 18, 3) := by decide +kernel
theorem dX2_firstNumber_8 : decode cX2_firstNumber 8 = .ok (.iaload, 1) := by decide +kernel
theorem dX2_firstNumber_9 : decode cX2_firstNumber 9 = .ok (.ireturn, 1) := by decide +kernel
theorem dX2_takeFirst_0 : decode cX2_takeFirst 0 = .ok (.aload_n 0, 1) := by decide +kernel
theorem dX2_takeFirst_1 : decode cX2_takeFirst 1 = .ok (.aload_n 0, 1) := by decide +kernel
theorem dX2_takeFirst_2 : decode cX2_takeFirst 2 = .ok (.getfield 18, 3) := by decide +kernel
theorem dX2_takeFirst_5 : decode cX2_takeFirst 5 = .ok (.iconst 1, 1) := by decide +kernel
theorem dX2_takeFirst_6 : decode cX2_takeFirst 6 = .ok (.iadd, 1) := by decide +kernel
theorem dX2_takeFirst_7 : decode cX2_takeFirst 7 = .ok (.bipush 64, 2) := by decide +kernel
theorem dX2_takeFirst_9 : decode cX2_takeFirst 9 = .ok (.irem, 1) := by decide +kernel
theorem dX2_takeFirst_10 : decode cX2_takeFirst 10 = .ok (.putfield 18, 3) := by decide +kernel
theorem dX2_takeFirst_13 : decode cX2_takeFirst 13 = .ok (.aload_n 0, 1) := by decide +kernel
theorem dX2_takeFirst_14 : decode cX2_takeFirst 14 = .ok (.dup, 1) := by decide +kernel
theorem dX2_takeFirst_15 : decode cX2_takeFirst 15 = .ok (.getfield 22, 3) := by decide +kernel
theorem dX2_takeFirst_18 : decode cX2_takeFirst 18 = .ok (.iconst 1, 1) := by decide +kernel
theorem dX2_takeFirst_19 : decode cX2_takeFirst 19 = .ok (.isub, 1) := by decide +kernel
theorem dX2_takeFirst_20 : decode cX2_takeFirst 20 = .ok (.putfield 22, 3) := by decide +kernel
theorem dX2_takeFirst_23 : decode cX2_takeFirst 23 = .ok (.return_, 1) := by decide +kernel
theorem dX3_lose_0 : decode cX3_lose 0 = .ok (.aload_n 0, 1) := by decide +kernel
theorem dX3_lose_1 : decode cX3_lose 1 = .ok (.getfield 28, 3) := by decide +kernel
theorem dX3_lose_4 : decode cX3_lose 4 = .ok (.getfield 98, 3) := by decide +kernel
theorem dX3_lose_7 : decode cX3_lose 7 = .ok (.istore_n 1, 1) := by decide +kernel
theorem dX3_lose_8 : decode cX3_lose 8 = .ok (.aload_n 0, 1) := by decide +kernel
theorem dX3_lose_9 : decode cX3_lose 9 = .ok (.getfield 28, 3) := by decide +kernel
theorem dX3_lose_12 : decode cX3_lose 12 = .ok (.invokevirtual 114, 3) := by decide +kernel
theorem dX3_lose_15 : decode cX3_lose 15 = .ok (.aload_n 0, 1) := by decide +kernel
theorem dX3_lose_16 : decode cX3_lose 16 = .ok (.dup, 1) := by decide +kernel
theorem dX3_lose_17 : decode cX3_lose 17 = .ok (.getfield 117, 3) := by decide +kernel
theorem dX3_lose_20 : decode cX3_lose 20 = .ok (.iload_n 1, 1) := by decide +kernel
theorem dX3_lose_21 : decode cX3_lose 21 = .ok (.iadd, 1) := by decide +kernel
theorem dX3_lose_22 : decode cX3_lose 22 = .ok (.putfield 117, 3) := by decide +kernel
theorem dX3_lose_25 : decode cX3_lose 25 = .ok (.iload_n 1, 1) := by decide +kernel
theorem dX3_lose_26 : decode cX3_lose 26 = .ok (.ireturn, 1) := by decide +kernel
theorem dX2_empty_0 : decode cX2_empty 0 = .ok (.aload_n 0, 1) := by decide +kernel
theorem dX2_empty_1 : decode cX2_empty 1 = .ok (.iconst 0, 1) := by decide +kernel
theorem dX2_empty_2 : decode cX2_empty 2 = .ok (.putfield 22, 3) := by decide +kernel
theorem dX2_empty_5 : decode cX2_empty 5 = .ok (.return_, 1) := by decide +kernel
theorem dX3_tell_0 : decode cX3_tell 0 = .ok (.iload_n 1, 1) := by decide +kernel
theorem dX3_tell_1 : decode cX3_tell 1 = .ok (.invokestatic 45, 3) := by decide +kernel
theorem dX3_tell_4 : decode cX3_tell 4 = .ok (.ifCond .ne 6, 3) := by decide +kernel
theorem dX3_tell_7 : decode cX3_tell 7 = .ok (.bipush 16, 2) := by decide +kernel
theorem dX3_tell_9 : decode cX3_tell 9 = .ok (.ireturn, 1) := by decide +kernel
theorem dX3_tell_10 : decode cX3_tell 10 = .ok (.aload_n 0, 1) := by decide +kernel
theorem dX3_tell_11 : decode cX3_tell 11 = .ok (.getfield 21, 3) := by decide +kernel
theorem dX3_tell_14 : decode cX3_tell 14 = .ok (.iload_n 1, 1) := by decide +kernel
theorem dX3_tell_15 : decode cX3_tell 15 = .ok (.aaload, 1) := by decide +kernel
theorem dX3_tell_16 : decode cX3_tell 16 = .ok (.iload_n 2, 1) := by decide +kernel
theorem dX3_tell_17 : decode cX3_tell 17 = .ok (.putfield 120, 3) := by decide +kernel
theorem dX3_tell_20 : decode cX3_tell 20 = .ok (.iconst 0, 1) := by decide +kernel
theorem dX3_tell_21 : decode cX3_tell 21 = .ok (.ireturn, 1) := by decide +kernel
theorem dX3_put_0 : decode cX3_put 0 = .ok (.aload_n 0, 1) := by decide +kernel
theorem dX3_put_1 : decode cX3_put 1 = .ok (.getfield 123, 3) := by decide +kernel
theorem dX3_put_4 : decode cX3_put 4 = .ok (.sipush 256, 3) := by decide +kernel
theorem dX3_put_7 : decode cX3_put 7 = .ok (.if_icmp .lt 5, 3) := by decide +kernel
theorem dX3_put_10 : decode cX3_put 10 = .ok (.iconst (-1), 1) := by decide +kernel
theorem dX3_put_11 : decode cX3_put 11 = .ok (.ireturn, 1) := by decide +kernel
theorem dX3_put_12 : decode cX3_put 12 = .ok (.aload_n 0, 1) := by decide +kernel
theorem dX3_put_13 : decode cX3_put 13 = .ok (.getfield 32, 3) := by decide +kernel
theorem dX3_put_16 : decode cX3_put 16 = .ok (.aload_n 0, 1) := by decide +kernel
theorem dX3_put_17 : decode cX3_put 17 = .ok (.getfield 123, 3) := by decide +kernel
theorem dX3_put_20 : decode cX3_put 20 = .ok (.iload_n 1, 1) := by decide +kernel
theorem dX3_put_21 : decode cX3_put 21 = .ok (.i2b, 1) := by decide +kernel
theorem dX3_put_22 : decode cX3_put 22 = .ok (.bastore, 1) := by decide +kernel
theorem dX3_put_23 : decode cX3_put 23 = .ok (.aload_n 0, 1) := by decide +kernel
theorem dX3_put_24 : decode cX3_put 24 = .ok (.dup, 1) := by decide +kernel
theorem dX3_put_25 : decode cX3_put 25 = .ok (.getfield 123, 3) := by decide +kernel
theorem dX3_put_28 : decode cX3_put 28 = .ok (.iconst 1, 1) := by decide +kernel
theorem dX3_put_29 : decode cX3_put 29 = .ok (.iadd, 1) := by decide +kernel
theorem dX3_put_30 : decode cX3_put 30 = .ok (.putfield 123, 3) := by decide +kernel
theorem dX3_put_33 : decode cX3_put 33 = .ok (.aload_n 0, 1) := by decide +kernel
theorem dX3_put_34 : decode cX3_put 34 = .ok (.getfield 123, 3) := by decide +kernel
theorem dX3_put_37 : decode cX3_put 37 = .ok (.ireturn, 1) := by decide +kernel
theorem dX3_act_0 : decode cX3_act 0 = .ok (.aload_n 0, 1) := by decide +kernel
theorem dX3_act_1 : decode cX3_act 1 = .ok (.getfield 123, 3) := by decide +kernel
theorem dX3_act_4 : decode cX3_act 4 = .ok (.istore_n 2, 1) := by decide +kernel
theorem dX3_act_5 : decode cX3_act 5 = .ok (.aload_n 0, 1) := by decide +kernel
theorem dX3_act_6 : decode cX3_act 6 = .ok (.iconst 0, 1) := by decide +kernel
theorem dX3_act_7 : decode cX3_act 7 = .ok (.putfield 123, 3) := by decide +kernel
theorem dX3_act_10 : decode cX3_act 10 = .ok (.iload_n 1, 1) := by decide +kernel
theorem dX3_act_11 : decode cX3_act 11 = .ok (.invokestatic 45, 3) := by decide +kernel
theorem dX3_act_14 : decode cX3_act 14 = .ok (.ifCond .ne 6, 3) := by decide +kernel
theorem dX3_act_17 : decode cX3_act 17 = .ok (.bipush 16, 2) := by decide +kernel
theorem dX3_act_19 : decode cX3_act 19 = .ok (.ireturn, 1) := by decide +kernel
theorem dX3_act_20 : decode cX3_act 20 = .ok (.iload_n 2, 1) := by decide +kernel
theorem dX3_act_21 : decode cX3_act 21 = .ok (.ifCond .ne 6, 3) := by decide +kernel
theorem dX3_act_24 : decode cX3_act 24 = .ok (.bipush 22, 2) := by decide +kernel
theorem dX3_act_26 : decode cX3_act 26 = .ok (.ireturn, 1) := by decide +kernel
theorem dX3_act_27 : decode cX3_act 27 = .ok (.aload_n 0, 1) := by decide +kernel
theorem dX3_act_28 : decode cX3_act 28 = .ok (.getfield 21, 3) := by decide +kernel
theorem dX3_act_31 : decode cX3_act 31 = .ok (.iload_n 1, 1) := by decide +kernel
theorem dX3_act_32 : decode cX3_act 32 = .ok (.aaload, 1) := by decide +kernel
theorem dX3_act_33 : decode cX3_act 33 = .ok (.invokevirtual 126, 3) := by decide +kernel
theorem dX3_act_36 : decode cX3_act 36 = .ok (.ifCond .eq 6, 3) := by decide +kernel
theorem dX3_act_39 : decode cX3_act 39 = .ok (.bipush 29, 2) := by decide +kernel
theorem dX3_act_41 : decode cX3_act 41 = .ok (.ireturn, 1) := by decide +kernel
theorem dX3_act_42 : decode cX3_act 42 = .ok (.aload_n 0, 1) := by decide +kernel
theorem dX3_act_43 : decode cX3_act 43 = .ok (.getfield 21, 3) := by decide +kernel
theorem dX3_act_46 : decode cX3_act 46 = .ok (.iload_n 1, 1) := by decide +kernel
theorem dX3_act_47 : decode cX3_act 47 = .ok (.aaload, 1) := by decide +kernel
theorem dX3_act_48 : decode cX3_act 48 = .ok (.aload_n 0, 1) := by decide +kernel
theorem dX3_act_49 : decode cX3_act 49 = .ok (.getfield 32, 3) := by decide +kernel
theorem dX3_act_52 : decode cX3_act 52 = .ok (.iload_n 2, 1) := by decide +kernel
theorem dX3_act_53 : decode cX3_act 53 = .ok (.invokevirtual 130, 3) := by decide +kernel
theorem dX3_act_56 : decode cX3_act 56 = .ok (.iconst 0, 1) := by decide +kernel
theorem dX3_act_57 : decode cX3_act 57 = .ok (.ireturn, 1) := by decide +kernel
theorem dX0_hasAction_0 : decode cX0_hasAction 0 = .ok (.aload_n 0, 1) := by decide +kernel
theorem dX0_hasAction_1 : decode cX0_hasAction 1 = .ok (.getfield 19, 3) := by decide +kernel
theorem dX0_hasAction_4 : decode cX0_hasAction 4 = .ok (.ifCond .le 7, 3) := by decide +kernel
theorem dX0_hasAction_7 : decode cX0_hasAction 7 = .ok (.iconst 1, 1) := by decide +kernel
theorem dX0_hasAction_8 : decode cX0_hasAction 8 = .ok (.goto 4, 3) := by decide +kernel
theorem dX0_hasAction_11 : decode cX0_hasAction 11 = .ok (.iconst 0, 1) := by decide +kernel
theorem dX0_hasAction_12 : decode cX0_hasAction 12 = .ok (.ireturn, 1) := by decide +kernel
theorem dX0_takeAction_0 : decode cX0_takeAction 0 = .ok (.aload_n 1, 1) := by decide +kernel
theorem dX0_takeAction_1 : decode cX0_takeAction 1 = .ok (.iconst 0, 1) := by decide +kernel
theorem dX0_takeAction_2 : decode cX0_takeAction 2 = .ok (.aload_n 0, 1) := by decide +kernel
theorem dX0_takeAction_3 : decode cX0_takeAction 3 = .ok (.getfield 15, 3) := by decide +kernel
theorem dX0_takeAction_6 : decode cX0_takeAction 6 = .ok (.iconst 0, 1) := by decide +kernel
theorem dX0_takeAction_7 : decode cX0_takeAction 7 = .ok (.iload_n 2, 1) := by decide +kernel
theorem dX0_takeAction_8 : decode cX0_takeAction 8 = .ok (.invokestatic 23, 3) := by decide +kernel
theorem dX0_takeAction_11 : decode cX0_takeAction 11 = .ok (.aload_n 0, 1) := by decide +kernel
theorem dX0_takeAction_12 : decode cX0_takeAction 12 = .ok (.iload_n 2, 1) := by decide +kernel
theorem dX0_takeAction_13 : decode cX0_takeAction 13 = .ok (.putfield 19, 3) := by decide +kernel
theorem dX0_takeAction_16 : decode cX0_takeAction 16 = .ok (.aload_n 0, 1) := by decide +kernel
theorem dX0_takeAction_17 : decode cX0_takeAction 17 = .ok (.iconst 0, 1) := by decide +kernel
theorem dX0_takeAction_18 : decode cX0_takeAction 18 = .ok (.putfield 29, 3) := by decide +kernel
theorem dX0_takeAction_21 : decode cX0_takeAction 21 = .ok (.return_, 1) := by decide +kernel
theorem dX3_drop_0 : decode cX3_drop 0 = .ok (.aload_n 0, 1) := by decide +kernel
theorem dX3_drop_1 : decode cX3_drop 1 = .ok (.iload_n 1, 1) := by decide +kernel
theorem dX3_drop_2 : decode cX3_drop 2 = .ok (.invokevirtual 134, 3) := by decide +kernel
theorem dX3_drop_5 : decode cX3_drop 5 = .ok (.istore_n 2, 1) := by decide +kernel
theorem dX3_drop_6 : decode cX3_drop 6 = .ok (.iload_n 2, 1) := by decide +kernel
theorem dX3_drop_7 : decode cX3_drop 7 = .ok (.ifCond .eq 5, 3) := by decide +kernel
theorem dX3_drop_10 : decode cX3_drop 10 = .ok (.iload_n 2, 1) := by decide +kernel
theorem dX3_drop_11 : decode cX3_drop 11 = .ok (.ireturn, 1) := by decide +kernel
theorem dX3_drop_12 : decode cX3_drop 12 = .ok (.aload_n 0, 1) := by decide +kernel
theorem dX3_drop_13 : decode cX3_drop 13 = .ok (.getfield 21, 3) := by decide +kernel
theorem dX3_drop_16 : decode cX3_drop 16 = .ok (.iload_n 1, 1) := by decide +kernel
theorem dX3_drop_17 : decode cX3_drop 17 = .ok (.aaload, 1) := by decide +kernel
theorem dX3_drop_18 : decode cX3_drop 18 = .ok (.getfield 137, 3) := by decide +kernel
theorem dX3_drop_21 : decode cX3_drop 21 = .ok (.ifCond .eq 6, 3) := by decide +kernel
theorem dX3_drop_24 : decode cX3_drop 24 = .ok (.bipush 15, 2) := by decide +kernel
theorem dX3_drop_26 : decode cX3_drop 26 = .ok (.ireturn, 1) := by decide +kernel
theorem dX3_drop_27 : decode cX3_drop 27 = .ok (.aload_n 0, 1) := by decide +kernel
theorem dX3_drop_28 : decode cX3_drop 28 = .ok (.getfield 21, 3) := by decide +kernel
theorem dX3_drop_31 : decode cX3_drop 31 = .ok (.iload_n 1, 1) := by decide +kernel
theorem dX3_drop_32 : decode cX3_drop 32 = .ok (.aaload, 1) := by decide +kernel
theorem dX3_drop_33 : decode cX3_drop 33 = .ok (.iconst 0, 1) := by decide +kernel
theorem dX3_drop_34 : decode cX3_drop 34 = .ok (.putfield 140, 3) := by decide +kernel
theorem dX3_drop_37 : decode cX3_drop 37 = .ok (.iconst 0, 1) := by decide +kernel
theorem dX3_drop_38 : decode cX3_drop 38 = .ok (.ireturn, 1) := by decide +kernel
theorem dX3_actionFailure_0 : decode cX3_actionFailure 0 = .ok (.iload_n 1, 1) := by decide +kernel
theorem dX3_actionFailure_1 : decode cX3_actionFailure 1 = .ok (.invokestatic 45, 3) := by decide +kernel
theorem dX3_actionFailure_4 : decode cX3_actionFailure 4 = .ok (.ifCond .ne 6, 3) := by decide +kernel
theorem dX3_actionFailure_7 : decode cX3_actionFailure 7 = .ok (.bipush 16, 2) := by decide +kernel
theorem dX3_actionFailure_9 : decode cX3_actionFailure 9 = .ok (.ireturn, 1) := by decide +kernel
theorem dX3_actionFailure_10 : decode cX3_actionFailure 10 = .ok (.aload_n 0, 1) := by decide +kernel
theorem dX3_actionFailure_11 : decode cX3_actionFailure 11 = .ok (.getfield 21, 3) := by decide +kernel
theorem dX3_actionFailure_14 : decode cX3_actionFailure 14 = .ok (.iload_n 1, 1) := by decide +kernel
theorem dX3_actionFailure_15 : decode cX3_actionFailure 15 = .ok (.aaload, 1) := by decide +kernel
theorem dX3_actionFailure_16 : decode cX3_actionFailure 16 = .ok (.invokevirtual 126, 3) := by decide +kernel
theorem dX3_actionFailure_19 : decode cX3_actionFailure 19 = .ok (.ifCond .eq 7, 3) := by decide +kernel
theorem dX3_actionFailure_22 : decode cX3_actionFailure 22 = .ok (.iconst 0, 1) := by decide +kernel
theorem dX3_actionFailure_23 : decode cX3_actionFailure 23 = .ok (.goto 5, 3) := by decide +kernel
theorem dX3_actionFailure_26 : decode cX3_actionFailure 26 = .ok (.bipush 30, 2) := by decide +kernel
theorem dX3_actionFailure_28 : decode cX3_actionFailure 28 = .ok (.ireturn, 1) := by decide +kernel
theorem dX3_arm_0 : decode cX3_arm 0 = .ok (.aload_n 0, 1) := by decide +kernel
theorem dX3_arm_1 : decode cX3_arm 1 = .ok (.iload_n 1, 1) := by decide +kernel
theorem dX3_arm_2 : decode cX3_arm 2 = .ok (.invokevirtual 134, 3) := by decide +kernel
theorem dX3_arm_5 : decode cX3_arm 5 = .ok (.istore_n 3, 1) := by decide +kernel
theorem dX3_arm_6 : decode cX3_arm 6 = .ok (.iload_n 3, 1) := by decide +kernel
theorem dX3_arm_7 : decode cX3_arm 7 = .ok (.ifCond .eq 5, 3) := by decide +kernel
theorem dX3_arm_10 : decode cX3_arm 10 = .ok (.iload_n 3, 1) := by decide +kernel
theorem dX3_arm_11 : decode cX3_arm 11 = .ok (.ireturn, 1) := by decide +kernel
theorem dX3_arm_12 : decode cX3_arm 12 = .ok (.aload_n 0, 1) := by decide +kernel
theorem dX3_arm_13 : decode cX3_arm 13 = .ok (.getfield 21, 3) := by decide +kernel
theorem dX3_arm_16 : decode cX3_arm 16 = .ok (.iload_n 1, 1) := by decide +kernel
theorem dX3_arm_17 : decode cX3_arm 17 = .ok (.aaload, 1) := by decide +kernel
theorem dX3_arm_18 : decode cX3_arm 18 = .ok (.iload_n 2, 1) := by decide +kernel
theorem dX3_arm_19 : decode cX3_arm 19 = .ok (.putfield 137, 3) := by decide +kernel
theorem dX3_arm_22 : decode cX3_arm 22 = .ok (.iconst 0, 1) := by decide +kernel
theorem dX3_arm_23 : decode cX3_arm 23 = .ok (.ireturn, 1) := by decide +kernel
theorem dX3_limit_0 : decode cX3_limit 0 = .ok (.aload_n 0, 1) := by decide +kernel
theorem dX3_limit_1 : decode cX3_limit 1 = .ok (.iload_n 1, 1) := by decide +kernel
theorem dX3_limit_2 : decode cX3_limit 2 = .ok (.invokevirtual 48, 3) := by decide +kernel
theorem dX3_limit_5 : decode cX3_limit 5 = .ok (.istore_n 3, 1) := by decide +kernel
theorem dX3_limit_6 : decode cX3_limit 6 = .ok (.iload_n 3, 1) := by decide +kernel
theorem dX3_limit_7 : decode cX3_limit 7 = .ok (.iconst (-1), 1) := by decide +kernel
theorem dX3_limit_8 : decode cX3_limit 8 = .ok (.if_icmp .ne 7, 3) := by decide +kernel
theorem dX3_limit_11 : decode cX3_limit 11 = .ok (.iconst (-1), 1) := by decide +kernel
theorem dX3_limit_12 : decode cX3_limit 12 = .ok (.goto 13, 3) := by decide +kernel
theorem dX3_limit_15 : decode cX3_limit 15 = .ok (.aload_n 0, 1) := by decide +kernel
theorem dX3_limit_16 : decode cX3_limit 16 = .ok (.getfield 15, 3) := by decide +kernel
theorem dX3_limit_19 : decode cX3_limit 19 = .ok (.iload_n 3, 1) := by decide +kernel
theorem dX3_limit_20 : decode cX3_limit 20 = .ok (.aaload, 1) := by decide +kernel
theorem dX3_limit_21 : decode cX3_limit 21 = .ok (.iload_n 2, 1) := by decide +kernel
theorem dX3_limit_22 : decode cX3_limit 22 = .ok (.invokevirtual 143, 3) := by decide +kernel
theorem dX3_limit_25 : decode cX3_limit 25 = .ok (.ireturn, 1) := by decide +kernel
theorem dX1_tellOf_0 : decode cX1_tellOf 0 = .ok (.iload_n 1, 1) := by decide +kernel
theorem dX1_tellOf_1 : decode cX1_tellOf 1 = .ok (.tableswitch 75 0 5 #[39, 47, 52, 57, 62, 67], 39) := by decide +kernel
theorem dX1_tellOf_40 : decode cX1_tellOf 40 = .ok (.aload_n 0, 1) := by decide +kernel
theorem dX1_tellOf_41 : decode cX1_tellOf 41 = .ok (.getfield 38, 3) := by decide +kernel
theorem dX1_tellOf_44 : decode cX1_tellOf 44 = .ok (.invokestatic 44, 3) := by decide +kernel
theorem dX1_tellOf_47 : decode cX1_tellOf 47 = .ok (.ireturn, 1) := by decide +kernel
theorem dX1_tellOf_48 : decode cX1_tellOf 48 = .ok (.aload_n 0, 1) := by decide +kernel
theorem dX1_tellOf_49 : decode cX1_tellOf 49 = .ok (.getfield 41, 3) := by decide +kernel
theorem dX1_tellOf_52 : decode cX1_tellOf 52 = .ok (.ireturn, 1) := by decide +kernel
theorem dX1_tellOf_53 : decode cX1_tellOf 53 = .ok (.aload_n 0, 1) := by decide +kernel
theorem dX1_tellOf_54 : decode cX1_tellOf 54 = .ok (.getfield 15, 3) := by decide +kernel
theorem dX1_tellOf_57 : decode cX1_tellOf 57 = .ok (.ireturn, 1) := by decide +kernel
theorem dX1_tellOf_58 : decode cX1_tellOf 58 = .ok (.aload_n 0, 1) := by decide +kernel
theorem dX1_tellOf_59 : decode cX1_tellOf 59 = .ok (.getfield 18, 3) := by decide +kernel
theorem dX1_tellOf_62 : decode cX1_tellOf 62 = .ok (.ireturn, 1) := by decide +kernel
theorem dX1_tellOf_63 : decode cX1_tellOf 63 = .ok (.aload_n 0, 1) := by decide +kernel
theorem dX1_tellOf_64 : decode cX1_tellOf 64 = .ok (.getfield 27, 3) := by decide +kernel
theorem dX1_tellOf_67 : decode cX1_tellOf 67 = .ok (.ireturn, 1) := by decide +kernel
theorem dX1_tellOf_68 : decode cX1_tellOf 68 = .ok (.aload_n 0, 1) := by decide +kernel
theorem dX1_tellOf_69 : decode cX1_tellOf 69 = .ok (.getfield 30, 3) := by decide +kernel
theorem dX1_tellOf_72 : decode cX1_tellOf 72 = .ok (.invokestatic 44, 3) := by decide +kernel
theorem dX1_tellOf_75 : decode cX1_tellOf 75 = .ok (.ireturn, 1) := by decide +kernel
theorem dX1_tellOf_76 : decode cX1_tellOf 76 = .ok (.iconst (-1), 1) := by decide +kernel
theorem dX1_tellOf_77 : decode cX1_tellOf 77 = .ok (.ireturn, 1) := by decide +kernel
theorem dX3_oneIf_0 : decode cX3_oneIf 0 = .ok (.iload_n 0, 1) := by decide +kernel
theorem dX3_oneIf_1 : decode cX3_oneIf 1 = .ok (.ifCond .eq 7, 3) := by decide +kernel
theorem dX3_oneIf_4 : decode cX3_oneIf 4 = .ok (.iconst 1, 1) := by decide +kernel
theorem dX3_oneIf_5 : decode cX3_oneIf 5 = .ok (.goto 4, 3) := by decide +kernel
theorem dX3_oneIf_8 : decode cX3_oneIf 8 = .ok (.iconst 0, 1) := by decide +kernel
theorem dX3_oneIf_9 : decode cX3_oneIf 9 = .ok (.ireturn, 1) := by decide +kernel
theorem dX3_event_0 : decode cX3_event 0 = .ok (.iload_n 1, 1) := by decide +kernel
theorem dX3_event_1 : decode cX3_event 1 = .ok (.invokestatic 45, 3) := by decide +kernel
theorem dX3_event_4 : decode cX3_event 4 = .ok (.ifCond .eq 16, 3) := by decide +kernel
theorem dX3_event_7 : decode cX3_event 7 = .ok (.aload_n 0, 1) := by decide +kernel
theorem dX3_event_8 : decode cX3_event 8 = .ok (.getfield 21, 3) := by decide +kernel
theorem dX3_event_11 : decode cX3_event 11 = .ok (.iload_n 1, 1) := by decide +kernel
theorem dX3_event_12 : decode cX3_event 12 = .ok (.aaload, 1) := by decide +kernel
theorem dX3_event_13 : decode cX3_event 13 = .ok (.iload_n 2, 1) := by decide +kernel
theorem dX3_event_14 : decode cX3_event 14 = .ok (.invokevirtual 146, 3) := by decide +kernel
theorem dX3_event_17 : decode cX3_event 17 = .ok (.goto 4, 3) := by decide +kernel
theorem dX3_event_20 : decode cX3_event 20 = .ok (.iconst (-1), 1) := by decide +kernel
theorem dX3_event_21 : decode cX3_event 21 = .ok (.ireturn, 1) := by decide +kernel
theorem dX0_tellOf_0 : decode cX0_tellOf 0 = .ok (.iload_n 1, 1) := by decide +kernel
theorem dX0_tellOf_1 : decode cX0_tellOf 1 = .ok (.tableswitch 48 0 2 #[27, 35, 40], 27) := by decide +kernel
theorem dX0_tellOf_28 : decode cX0_tellOf 28 = .ok (.aload_n 0, 1) := by decide +kernel
theorem dX0_tellOf_29 : decode cX0_tellOf 29 = .ok (.getfield 9, 3) := by decide +kernel
theorem dX0_tellOf_32 : decode cX0_tellOf 32 = .ok (.invokestatic 32, 3) := by decide +kernel
theorem dX0_tellOf_35 : decode cX0_tellOf 35 = .ok (.ireturn, 1) := by decide +kernel
theorem dX0_tellOf_36 : decode cX0_tellOf 36 = .ok (.aload_n 0, 1) := by decide +kernel
theorem dX0_tellOf_37 : decode cX0_tellOf 37 = .ok (.getfield 19, 3) := by decide +kernel
theorem dX0_tellOf_40 : decode cX0_tellOf 40 = .ok (.ireturn, 1) := by decide +kernel
theorem dX0_tellOf_41 : decode cX0_tellOf 41 = .ok (.aload_n 0, 1) := by decide +kernel
theorem dX0_tellOf_42 : decode cX0_tellOf 42 = .ok (.getfield 29, 3) := by decide +kernel
theorem dX0_tellOf_45 : decode cX0_tellOf 45 = .ok (.invokestatic 32, 3) := by decide +kernel
theorem dX0_tellOf_48 : decode cX0_tellOf 48 = .ok (.ireturn, 1) := by decide +kernel
theorem dX0_tellOf_49 : decode cX0_tellOf 49 = .ok (.iconst (-1), 1) := by decide +kernel
theorem dX0_tellOf_50 : decode cX0_tellOf 50 = .ok (.ireturn, 1) := by decide +kernel
theorem dX3_actionAt_0 : decode cX3_actionAt 0 = .ok (.iload_n 1, 1) := by decide +kernel
theorem dX3_actionAt_1 : decode cX3_actionAt 1 = .ok (.invokestatic 45, 3) := by decide +kernel
theorem dX3_actionAt_4 : decode cX3_actionAt 4 = .ok (.ifCond .eq 16, 3) := by decide +kernel
theorem dX3_actionAt_7 : decode cX3_actionAt 7 = .ok (.aload_n 0, 1) := by decide +kernel
theorem dX3_actionAt_8 : decode cX3_actionAt 8 = .ok (.getfield 21, 3) := by decide +kernel
theorem dX3_actionAt_11 : decode cX3_actionAt 11 = .ok (.iload_n 1, 1) := by decide +kernel
theorem dX3_actionAt_12 : decode cX3_actionAt 12 = .ok (.aaload, 1) := by decide +kernel
theorem dX3_actionAt_13 : decode cX3_actionAt 13 = .ok (.iload_n 2, 1) := by decide +kernel
theorem dX3_actionAt_14 : decode cX3_actionAt 14 = .ok (.invokevirtual 147, 3) := by decide +kernel
theorem dX3_actionAt_17 : decode cX3_actionAt 17 = .ok (.goto 4, 3) := by decide +kernel
theorem dX3_actionAt_20 : decode cX3_actionAt 20 = .ok (.iconst (-1), 1) := by decide +kernel
theorem dX3_actionAt_21 : decode cX3_actionAt 21 = .ok (.ireturn, 1) := by decide +kernel
theorem dX0_byteAt_0 : decode cX0_byteAt 0 = .ok (.iload_n 1, 1) := by decide +kernel
theorem dX0_byteAt_1 : decode cX0_byteAt 1 = .ok (.ifCond .lt 24, 3) := by decide +kernel
theorem dX0_byteAt_4 : decode cX0_byteAt 4 = .ok (.iload_n 1, 1) := by decide +kernel
theorem dX0_byteAt_5 : decode cX0_byteAt 5 = .ok (.aload_n 0, 1) := by decide +kernel
theorem dX0_byteAt_6 : decode cX0_byteAt 6 = .ok (.getfield 19, 3) := by decide +kernel
theorem dX0_byteAt_9 : decode cX0_byteAt 9 = .ok (.if_icmp .ge 16, 3) := by decide +kernel
theorem dX0_byteAt_12 : decode cX0_byteAt 12 = .ok (.aload_n 0, 1) := by decide +kernel
theorem dX0_byteAt_13 : decode cX0_byteAt 13 = .ok (.getfield 15, 3) := by decide +kernel
theorem dX0_byteAt_16 : decode cX0_byteAt 16 = .ok (.iload_n 1, 1) := by decide +kernel
theorem dX0_byteAt_17 : decode cX0_byteAt 17 = .ok (.baload, 1) := by decide +kernel
theorem dX0_byteAt_18 : decode cX0_byteAt 18 = .ok (.sipush 255, 3) := by decide +kernel
theorem dX0_byteAt_21 : decode cX0_byteAt 21 = .ok (.iand, 1) := by decide +kernel
theorem dX0_byteAt_22 : decode cX0_byteAt 22 = .ok (.goto 4, 3) := by decide +kernel
theorem dX0_byteAt_25 : decode cX0_byteAt 25 = .ok (.iconst (-1), 1) := by decide +kernel
theorem dX0_byteAt_26 : decode cX0_byteAt 26 = .ok (.ireturn, 1) := by decide +kernel
theorem dX3_count_0 : decode cX3_count 0 = .ok (.iload_n 1, 1) := by decide +kernel
theorem dX3_count_1 : decode cX3_count 1 = .ok (.tableswitch 63 0 4 #[35, 40, 45, 53, 58], 35) := by decide +kernel
theorem dX3_count_36 : decode cX3_count 36 = .ok (.aload_n 0, 1) := by decide +kernel
theorem dX3_count_37 : decode cX3_count 37 = .ok (.getfield 52, 3) := by decide +kernel
theorem dX3_count_40 : decode cX3_count 40 = .ok (.ireturn, 1) := by decide +kernel
theorem dX3_count_41 : decode cX3_count 41 = .ok (.aload_n 0, 1) := by decide +kernel
theorem dX3_count_42 : decode cX3_count 42 = .ok (.getfield 95, 3) := by decide +kernel
theorem dX3_count_45 : decode cX3_count 45 = .ok (.ireturn, 1) := by decide +kernel
theorem dX3_count_46 : decode cX3_count 46 = .ok (.aload_n 0, 1) := by decide +kernel
theorem dX3_count_47 : decode cX3_count 47 = .ok (.getfield 28, 3) := by decide +kernel
theorem dX3_count_50 : decode cX3_count 50 = .ok (.getfield 98, 3) := by decide +kernel
theorem dX3_count_53 : decode cX3_count 53 = .ok (.ireturn, 1) := by decide +kernel
theorem dX3_count_54 : decode cX3_count 54 = .ok (.aload_n 0, 1) := by decide +kernel
theorem dX3_count_55 : decode cX3_count 55 = .ok (.getfield 117, 3) := by decide +kernel
theorem dX3_count_58 : decode cX3_count 58 = .ok (.ireturn, 1) := by decide +kernel
theorem dX3_count_59 : decode cX3_count 59 = .ok (.aload_n 0, 1) := by decide +kernel
theorem dX3_count_60 : decode cX3_count 60 = .ok (.getfield 108, 3) := by decide +kernel
theorem dX3_count_63 : decode cX3_count 63 = .ok (.ireturn, 1) := by decide +kernel
theorem dX3_count_64 : decode cX3_count 64 = .ok (.iconst (-1), 1) := by decide +kernel
theorem dX3_count_65 : decode cX3_count 65 = .ok (.ireturn, 1) := by decide +kernel
end
section
theorem dX4_init_0 : decode cX4_init 0 = .ok (.aload_n 0, 1) := by decide +kernel
theorem dX4_init_1 : decode cX4_init 1 = .ok (.invokespecial 1, 3) := by decide +kernel
theorem dX4_init_4 : decode cX4_init 4 = .ok (.aload_n 0, 1) := by decide +kernel
theorem dX4_init_5 : decode cX4_init 5 = .ok (.bipush 32, 2) := by decide +kernel
theorem dX4_init_7 : decode cX4_init 7 = .ok (.newarray .int, 2) := by decide +kernel
theorem dX4_init_9 : decode cX4_init 9 = .ok (.putfield 7, 3) := by decide +kernel
theorem dX4_init_12 : decode cX4_init 12 = .ok (.aload_n 0, 1) := by decide +kernel
theorem dX4_init_13 : decode cX4_init 13 = .ok (.sipush 256, 3) := by decide +kernel
theorem dX4_init_16 : decode cX4_init 16 = .ok (.newarray .boolean, 2) := by decide +kernel
theorem dX4_init_18 : decode cX4_init 18 = .ok (.putfield 13, 3) := by decide +kernel
theorem dX4_init_21 : decode cX4_init 21 = .ok (.aload_n 0, 1) := by decide +kernel
theorem dX4_init_22 : decode cX4_init 22 = .ok (.sipush 256, 3) := by decide +kernel
theorem dX4_init_25 : decode cX4_init 25 = .ok (.newarray .boolean, 2) := by decide +kernel
theorem dX4_init_27 : decode cX4_init 27 = .ok (.putfield 17, 3) := by decide +kernel
theorem dX4_init_30 : decode cX4_init 30 = .ok (.aload_n 0, 1) := by decide +kernel
theorem dX4_init_31 : decode cX4_init 31 = .ok (.sipush 256, 3) := by decide +kernel
theorem dX4_init_34 : decode cX4_init 34 = .ok (.newarray .boolean, 2) := by decide +kernel
theorem dX4_init_36 : decode cX4_init 36 = .ok (.putfield 20, 3) := by decide +kernel
theorem dX4_init_39 : decode cX4_init 39 = .ok (.aload_n 0, 1) := by decide +kernel
theorem dX4_init_40 : decode cX4_init 40 = .ok (.sipush 256, 3) := by decide +kernel
theorem dX4_init_43 : decode cX4_init 43 = .ok (.newarray .int, 2) := by decide +kernel
theorem dX4_init_45 : decode cX4_init 45 = .ok (.putfield 23, 3) := by decide +kernel
theorem dX4_init_48 : decode cX4_init 48 = .ok (.aload_n 0, 1) := by decide +kernel
theorem dX4_init_49 : decode cX4_init 49 = .ok (.sipush 256, 3) := by decide +kernel
theorem dX4_init_52 : decode cX4_init 52 = .ok (.newarray .int, 2) := by decide +kernel
theorem dX4_init_54 : decode cX4_init 54 = .ok (.putfield 26, 3) := by decide +kernel
theorem dX4_init_57 : decode cX4_init 57 = .ok (.aload_n 0, 1) := by decide +kernel
theorem dX4_init_58 : decode cX4_init 58 = .ok (.sipush 256, 3) := by decide +kernel
theorem dX4_init_61 : decode cX4_init 61 = .ok (.newarray .int, 2) := by decide +kernel
theorem dX4_init_63 : decode cX4_init 63 = .ok (.putfield 29, 3) := by decide +kernel
theorem dX4_init_66 : decode cX4_init 66 = .ok (.aload_n 0, 1) := by decide +kernel
theorem dX4_init_67 : decode cX4_init 67 = .ok (.sipush 256, 3) := by decide +kernel
theorem dX4_init_70 : decode cX4_init 70 = .ok (.newarray .int, 2) := by decide +kernel
theorem dX4_init_72 : decode cX4_init 72 = .ok (.putfield 32, 3) := by decide +kernel
theorem dX4_init_75 : decode cX4_init 75 = .ok (.aload_n 0, 1) := by decide +kernel
theorem dX4_init_76 : decode cX4_init 76 = .ok (.sipush 256, 3) := by decide +kernel
theorem dX4_init_79 : decode cX4_init 79 = .ok (.newarray .int, 2) := by decide +kernel
theorem dX4_init_81 : decode cX4_init 81 = .ok (.putfield 35, 3) := by decide +kernel
theorem dX4_init_84 : decode cX4_init 84 = .ok (.aload_n 0, 1) := by decide +kernel
theorem dX4_init_85 : decode cX4_init 85 = .ok (.sipush 256, 3) := by decide +kernel
theorem dX4_init_88 : decode cX4_init 88 = .ok (.newarray .int, 2) := by decide +kernel
theorem dX4_init_90 : decode cX4_init 90 = .ok (.putfield 38, 3) := by decide +kernel
theorem dX4_init_93 : decode cX4_init 93 = .ok (.aload_n 0, 1) := by decide +kernel
theorem dX4_init_94 : decode cX4_init 94 = .ok (.bipush 64, 2) := by decide +kernel
theorem dX4_init_96 : decode cX4_init 96 = .ok (.newarray .int, 2) := by decide +kernel
theorem dX4_init_98 : decode cX4_init 98 = .ok (.putfield 41, 3) := by decide +kernel
theorem dX4_init_101 : decode cX4_init 101 = .ok (.aload_n 0, 1) := by decide +kernel
theorem dX4_init_102 : decode cX4_init 102 = .ok (.bipush 64, 2) := by decide +kernel
theorem dX4_init_104 : decode cX4_init 104 = .ok (.newarray .int, 2) := by decide +kernel
theorem dX4_init_106 : decode cX4_init 106 = .ok (.putfield 44, 3) := by decide +kernel
theorem dX4_init_109 : decode cX4_init 109 = .ok (.aload_n 0, 1) := by decide +kernel
theorem dX4_init_110 : decode cX4_init 110 = .ok (.bipush 32, 2) := by decide +kernel
theorem dX4_init_112 : decode cX4_init 112 = .ok (.newarray .boolean, 2) := by decide +kernel
theorem dX4_init_114 : decode cX4_init 114 = .ok (.putfield 47, 3) := by decide +kernel
theorem dX4_init_117 : decode cX4_init 117 = .ok (.aload_n 0, 1) := by decide +kernel
theorem dX4_init_118 : decode cX4_init 118 = .ok (.bipush 32, 2) := by decide +kernel
theorem dX4_init_120 : decode cX4_init 120 = .ok (.newarray .int, 2) := by decide +kernel
theorem dX4_init_122 : decode cX4_init 122 = .ok (.putfield 50, 3) := by decide +kernel
theorem dX4_init_125 : decode cX4_init 125 = .ok (.aload_n 0, 1) := by decide +kernel
theorem dX4_init_126 : decode cX4_init 126 = .ok (.bipush 32, 2) := by decide +kernel
theorem dX4_init_128 : decode cX4_init 128 = .ok (.newarray .boolean, 2) := by decide +kernel
theorem dX4_init_130 : decode cX4_init 130 = .ok (.putfield 53, 3) := by decide +kernel
theorem dX4_init_133 : decode cX4_init 133 = .ok (.aload_n 0, 1) := by decide +kernel
theorem dX4_init_134 : decode cX4_init 134 = .ok (.sipush 8192, 3) := by decide +kernel
theorem dX4_init_137 : decode cX4_init 137 = .ok (.newarray .byte, 2) := by decide +kernel
theorem dX4_init_139 : decode cX4_init 139 = .ok (.putfield 56, 3) := by decide +kernel
theorem dX4_init_142 : decode cX4_init 142 = .ok (.aload_n 0, 1) := by decide +kernel
theorem dX4_init_143 : decode cX4_init 143 = .ok (.sipush 256, 3) := by decide +kernel
theorem dX4_init_146 : decode cX4_init 146 = .ok (.newarray .byte, 2) := by decide +kernel
theorem dX4_init_148 : decode cX4_init 148 = .ok (.putfield 60, 3) := by decide +kernel
theorem dX4_init_151 : decode cX4_init 151 = .ok (.return_, 1) := by decide +kernel
theorem dX4_set_0 : decode cX4_set 0 = .ok (.aload_n 0, 1) := by decide +kernel
theorem dX4_set_1 : decode cX4_set 1 = .ok (.iconst 0, 1) := by decide +kernel
theorem dX4_set_2 : decode cX4_set 2 = .ok (.putfield 63, 3) := by decide +kernel
theorem dX4_set_5 : decode cX4_set 5 = .ok (.iload_n 1, 1) := by decide +kernel
theorem dX4_set_6 : decode cX4_set 6 = .ok (.ifCond .lt 9, 3) := by decide +kernel
theorem dX4_set_9 : decode cX4_set 9 = .ok (.iload_n 1, 1) := by decide +kernel
theorem dX4_set_10 : decode cX4_set 10 = .ok (.bipush 31, 2) := by decide +kernel
theorem dX4_set_12 : decode cX4_set 12 = .ok (.if_icmp .le 5, 3) := by decide +kernel
theorem dX4_set_15 : decode cX4_set 15 = .ok (.iconst 0, 1) := by decide +kernel
theorem dX4_set_16 : decode cX4_set 16 = .ok (.ireturn, 1) := by decide +kernel
theorem dX4_set_17 : decode cX4_set 17 = .ok (.aload_n 0, 1) := by decide +kernel
theorem dX4_set_18 : decode cX4_set 18 = .ok (.getfield 7, 3) := by decide +kernel
theorem dX4_set_21 : decode cX4_set 21 = .ok (.iload_n 1, 1) := by decide +kernel
theorem dX4_set_22 : decode cX4_set 22 = .ok (.iload_n 2, 1) := by decide +kernel
theorem dX4_set_23 : decode cX4_set 23 = .ok (.iastore, 1) := by decide +kernel
theorem dX4_set_24 : decode cX4_set 24 = .ok (.iconst 1, 1) := by decide +kernel
theorem dX4_set_25 : decode cX4_set 25 = .ok (.ireturn, 1) := by decide +kernel
theorem dX4_add_0 : decode cX4_add 0 = .ok (.aload_n 0, 1) := by decide +kernel
theorem dX4_add_1 : decode cX4_add 1 = .ok (.iconst 0, 1) := by decide +kernel
theorem dX4_add_2 : decode cX4_add 2 = .ok (.putfield 63, 3) := by decide +kernel
theorem dX4_add_5 : decode cX4_add 5 = .ok (.iload_n 3, 1) := by decide +kernel
theorem dX4_add_6 : decode cX4_add 6 = .ok (.iconst 1, 1) := by decide +kernel
theorem dX4_add_7 : decode cX4_add 7 = .ok (.sipush 255, 3) := by decide +kernel
theorem dX4_add_10 : decode cX4_add 10 = .ok (.invokestatic 67, 3) := by decide +kernel
theorem dX4_add_13 : decode cX4_add 13 = .ok (.ifCond .eq 42, 3) := by decide +kernel
theorem dX4_add_16 : decode cX4_add 16 = .ok (.iload 4, 2) := by decide +kernel
theorem dX4_add_18 : decode cX4_add 18 = .ok (.iload 5, 2) := by decide +kernel
theorem dX4_add_20 : decode cX4_add 20 = .ok (.if_icmp .gt 35, 3) := by decide +kernel
theorem dX4_add_23 : decode cX4_add 23 = .ok (.iload_n 2, 1) := by decide +kernel
theorem dX4_add_24 : decode cX4_add 24 = .ok (.iconst 0, 1) := by decide +kernel
theorem dX4_add_25 : decode cX4_add 25 = .ok (.bipush 31, 2) := by decide +kernel
theorem dX4_add_27 : decode cX4_add 27 = .ok (.invokestatic 67, 3) := by decide +kernel
theorem dX4_add_30 : decode cX4_add 30 = .ok (.ifCond .eq 25, 3) := by decide +kernel
theorem dX4_add_33 : decode cX4_add 33 = .ok (.iload 6, 2) := by decide +kernel
theorem dX4_add_35 : decode cX4_add 35 = .ok (.iconst 0, 1) := by decide +kernel
theorem dX4_add_36 : decode cX4_add 36 = .ok (.bipush 31, 2) := by decide +kernel
theorem dX4_add_38 : decode cX4_add 38 = .ok (.invokestatic 67, 3) := by decide +kernel
theorem dX4_add_41 : decode cX4_add 41 = .ok (.ifCond .eq 14, 3) := by decide +kernel
theorem dX4_add_44 : decode cX4_add 44 = .ok (.iload_n 1, 1) := by decide +kernel
theorem dX4_add_45 : decode cX4_add 45 = .ok (.iconst 0, 1) := by decide +kernel
theorem dX4_add_46 : decode cX4_add 46 = .ok (.sipush 255, 3) := by decide +kernel
theorem dX4_add_49 : decode cX4_add 49 = .ok (.invokestatic 67, 3) := by decide +kernel
theorem dX4_add_52 : decode cX4_add 52 = .ok (.ifCond .ne 6, 3) := by decide +kernel
theorem dX4_add_55 : decode cX4_add 55 = .ok (.bipush 13, 2) := by decide +kernel
theorem dX4_add_57 : decode cX4_add 57 = .ok (.ireturn, 1) := by decide +kernel
theorem dX4_add_58 : decode cX4_add 58 = .ok (.aload_n 0, 1) := by decide +kernel
theorem dX4_add_59 : decode cX4_add 59 = .ok (.getfield 13, 3) := by decide +kernel
theorem dX4_add_62 : decode cX4_add 62 = .ok (.iload_n 1, 1) := by decide +kernel
theorem dX4_add_63 : decode cX4_add 63 = .ok (.baload, 1) := by decide +kernel
theorem dX4_add_64 : decode cX4_add 64 = .ok (.ifCond .eq 6, 3) := by decide +kernel
theorem dX4_add_67 : decode cX4_add 67 = .ok (.bipush 25, 2) := by decide +kernel
theorem dX4_add_69 : decode cX4_add 69 = .ok (.ireturn, 1) := by decide +kernel
theorem dX4_add_70 : decode cX4_add 70 = .ok (.aload_n 0, 1) := by decide +kernel
theorem dX4_add_71 : decode cX4_add 71 = .ok (.invokevirtual 71, 3) := by decide +kernel
theorem dX4_add_74 : decode cX4_add 74 = .ok (.bipush 16, 2) := by decide +kernel
theorem dX4_add_76 : decode cX4_add 76 = .ok (.if_icmp .ne 6, 3) := by decide +kernel
theorem dX4_add_79 : decode cX4_add 79 = .ok (.bipush 26, 2) := by decide +kernel
theorem dX4_add_81 : decode cX4_add 81 = .ok (.ireturn, 1) := by decide +kernel
theorem dX4_add_82 : decode cX4_add 82 = .ok (.aload_n 0, 1) := by decide +kernel
theorem dX4_add_83 : decode cX4_add 83 = .ok (.getfield 13, 3) := by decide +kernel
theorem dX4_add_86 : decode cX4_add 86 = .ok (.iload_n 1, 1) := by decide +kernel
theorem dX4_add_87 : decode cX4_add 87 = .ok (.iconst 1, 1) := by decide +kernel
theorem dX4_add_88 : decode cX4_add 88 = .ok (.bastore, 1) := by decide +kernel
theorem dX4_add_89 : decode cX4_add 89 = .ok (.aload_n 0, 1) := by decide +kernel
theorem dX4_add_90 : decode cX4_add 90 = .ok (.getfield 17, 3) := by decide +kernel
theorem dX4_add_93 : decode cX4_add 93 = .ok (.iload_n 1, 1) := by decide +kernel
theorem dX4_add_94 : decode cX4_add 94 = .ok (.iconst 0, 1) := by decide +kernel
theorem dX4_add_95 : decode cX4_add 95 = .ok (.bastore, 1) := by decide +kernel
theorem dX4_add_96 : decode cX4_add 96 = .ok (.aload_n 0, 1) := by decide +kernel
theorem dX4_add_97 : decode cX4_add 97 = .ok (.getfield 20, 3) := by decide +kernel
theorem dX4_add_100 : decode cX4_add 100 = .ok (.iload_n 1, 1) := by decide +kernel
theorem dX4_add_101 : decode cX4_add 101 = .ok (.iload 7, 2) := by decide +kernel
theorem dX4_add_103 : decode cX4_add 103 = .ok (.bastore, 1) := by decide +kernel
theorem dX4_add_104 : decode cX4_add 104 = .ok (.aload_n 0, 1) := by decide +kernel
theorem dX4_add_105 : decode cX4_add 105 = .ok (.getfield 23, 3) := by decide +kernel
theorem dX4_add_108 : decode cX4_add 108 = .ok (.iload_n 1, 1) := by decide +kernel
theorem dX4_add_109 : decode cX4_add 109 = .ok (.iload_n 2, 1) := by decide +kernel
theorem dX4_add_110 : decode cX4_add 110 = .ok (.iastore, 1) := by decide +kernel
theorem dX4_add_111 : decode cX4_add 111 = .ok (.aload_n 0, 1) := by decide +kernel
theorem dX4_add_112 : decode cX4_add 112 = .ok (.getfield 26, 3) := by decide +kernel
theorem dX4_add_115 : decode cX4_add 115 = .ok (.iload_n 1, 1) := by decide +kernel
theorem dX4_add_116 : decode cX4_add 116 = .ok (.iload_n 3, 1) := by decide +kernel
theorem dX4_add_117 : decode cX4_add 117 = .ok (.iastore, 1) := by decide +kernel
theorem dX4_add_118 : decode cX4_add 118 = .ok (.aload_n 0, 1) := by decide +kernel
theorem dX4_add_119 : decode cX4_add 119 = .ok (.getfield 29, 3) := by decide +kernel
theorem dX4_add_122 : decode cX4_add 122 = .ok (.iload_n 1, 1) := by decide +kernel
theorem dX4_add_123 : decode cX4_add 123 = .ok (.iload 4, 2) := by decide +kernel
theorem dX4_add_125 : decode cX4_add 125 = .ok (.iastore, 1) := by decide +kernel
theorem dX4_add_126 : decode cX4_add 126 = .ok (.aload_n 0, 1) := by decide +kernel
theorem dX4_add_127 : decode cX4_add 127 = .ok (.getfield 32, 3) := by decide +kernel
theorem dX4_add_130 : decode cX4_add 130 = .ok (.iload_n 1, 1) := by decide +kernel
theorem dX4_add_131 : decode cX4_add 131 = .ok (.iload 5, 2) := by decide +kernel
theorem dX4_add_133 : decode cX4_add 133 = .ok (.iastore, 1) := by decide +kernel
theorem dX4_add_134 : decode cX4_add 134 = .ok (.aload_n 0, 1) := by decide +kernel
theorem dX4_add_135 : decode cX4_add 135 = .ok (.getfield 35, 3) := by decide +kernel
theorem dX4_add_138 : decode cX4_add 138 = .ok (.iload_n 1, 1) := by decide +kernel
theorem dX4_add_139 : decode cX4_add 139 = .ok (.iload 6, 2) := by decide +kernel
theorem dX4_add_141 : decode cX4_add 141 = .ok (.iastore, 1) := by decide +kernel
theorem dX4_add_142 : decode cX4_add 142 = .ok (.aload_n 0, 1) := by decide +kernel
theorem dX4_add_143 : decode cX4_add 143 = .ok (.getfield 38, 3) := by decide +kernel
theorem dX4_add_146 : decode cX4_add 146 = .ok (.iload_n 1, 1) := by decide +kernel
theorem dX4_add_147 : decode cX4_add 147 = .ok (.iconst 0, 1) := by decide +kernel
theorem dX4_add_148 : decode cX4_add 148 = .ok (.iastore, 1) := by decide +kernel
theorem dX4_add_149 : decode cX4_add 149 = .ok (.iconst 0, 1) := by decide +kernel
theorem dX4_add_150 : decode cX4_add 150 = .ok (.ireturn, 1) := by decide +kernel
theorem dX4_isIn_0 : decode cX4_isIn 0 = .ok (.iload_n 0, 1) := by decide +kernel
theorem dX4_isIn_1 : decode cX4_isIn 1 = .ok (.iload_n 1, 1) := by decide +kernel
theorem dX4_isIn_2 : decode cX4_isIn 2 = .ok (.if_icmp .lt 12, 3) := by decide +kernel
theorem dX4_isIn_5 : decode cX4_isIn 5 = .ok (.iload_n 0, 1) := by decide +kernel
theorem dX4_isIn_6 : decode cX4_isIn 6 = .ok (.iload_n 2, 1) := by decide +kernel
theorem dX4_isIn_7 : decode cX4_isIn 7 = .ok (.if_icmp .gt 7, 3) := by decide +kernel
theorem dX4_isIn_10 : decode cX4_isIn 10 = .ok (.iconst 1, 1) := by decide +kernel
theorem dX4_isIn_11 : decode cX4_isIn 11 = .ok (.goto 4, 3) := by decide +kernel
theorem dX4_isIn_14 : decode cX4_isIn 14 = .ok (.iconst 0, 1) := by decide +kernel
theorem dX4_isIn_15 : decode cX4_isIn 15 = .ok (.ireturn, 1) := by decide +kernel
theorem dX4_limits_0 : decode cX4_limits 0 = .ok (.iconst 0, 1) := by decide +kernel
theorem dX4_limits_1 : decode cX4_limits 1 = .ok (.istore_n 1, 1) := by decide +kernel
theorem dX4_limits_2 : decode cX4_limits 2 = .ok (.iconst 0, 1) := by decide +kernel
theorem dX4_limits_3 : decode cX4_limits 3 = .ok (.istore_n 2, 1) := by decide +kernel
theorem dX4_limits_4 : decode cX4_limits 4 = .ok (.iload_n 2, 1) := by decide +kernel
theorem dX4_limits_5 : decode cX4_limits 5 = .ok (.sipush 256, 3) := by decide +kernel
theorem dX4_limits_8 : decode cX4_limits 8 = .ok (.if_icmp .ge 26, 3) := by decide +kernel
theorem dX4_limits_11 : decode cX4_limits 11 = .ok (.iload_n 1, 1) := by decide +kernel
theorem dX4_limits_12 : decode cX4_limits 12 = .ok (.aload_n 0, 1) := by decide +kernel
theorem dX4_limits_13 : decode cX4_limits 13 = .ok (.getfield 13, 3) := by decide +kernel
theorem dX4_limits_16 : decode cX4_limits 16 = .ok (.iload_n 2, 1) := by decide +kernel
theorem dX4_limits_17 : decode cX4_limits 17 = .ok (.baload, 1) := by decide +kernel
theorem dX4_limits_18 : decode cX4_limits 18 = .ok (.ifCond .eq 7, 3) := by decide +kernel
theorem dX4_limits_21 : decode cX4_limits 21 = .ok (.iconst 1, 1) := by decide +kernel
theorem dX4_limits_22 : decode cX4_limits 22 = .ok (.goto 4, 3) := by decide +kernel
theorem dX4_limits_25 : decode cX4_limits 25 = .ok (.iconst 0, 1) := by decide +kernel
theorem dX4_limits_26 : decode cX4_limits 26 = .ok (.iadd, 1) := by decide +kernel
theorem dX4_limits_27 : decode cX4_limits 27 = .ok (.istore_n 1, 1) := by decide +kernel
theorem dX4_limits_28 : decode cX4_limits 28 = .ok (.iinc 2 1, 3) := by decide +kernel
theorem dX4_limits_31 : decode cX4_limits 31 = .ok (.goto (-27), 3) := by decide +kernel
theorem dX4_limits_34 : decode cX4_limits 34 = .ok (.iload_n 1, 1) := by decide +kernel
theorem dX4_limits_35 : decode cX4_limits 35 = .ok (.ireturn, 1) := by decide +kernel
theorem dX4_remove_0 : decode cX4_remove 0 = .ok (.aload_n 0, 1) := by decide +kernel
theorem dX4_remove_1 : decode cX4_remove 1 = .ok (.iconst 0, 1) := by decide +kernel
theorem dX4_remove_2 : decode cX4_remove 2 = .ok (.putfield 63, 3) := by decide +kernel
theorem dX4_remove_5 : decode cX4_remove 5 = .ok (.aload_n 0, 1) := by decide +kernel
theorem dX4_remove_6 : decode cX4_remove 6 = .ok (.iload_n 1, 1) := by decide +kernel
theorem dX4_remove_7 : decode cX4_remove 7 = .ok (.invokevirtual 75, 3) := by decide +kernel
theorem dX4_remove_10 : decode cX4_remove 10 = .ok (.ifCond .ne 6, 3) := by decide +kernel
theorem dX4_remove_13 : decode cX4_remove 13 = .ok (.bipush 27, 2) := by decide +kernel
theorem dX4_remove_15 : decode cX4_remove 15 = .ok (.ireturn, 1) := by decide +kernel
theorem dX4_remove_16 : decode cX4_remove 16 = .ok (.aload_n 0, 1) := by decide +kernel
theorem dX4_remove_17 : decode cX4_remove 17 = .ok (.getfield 13, 3) := by decide +kernel
theorem dX4_remove_20 : decode cX4_remove 20 = .ok (.iload_n 1, 1) := by decide +kernel
theorem dX4_remove_21 : decode cX4_remove 21 = .ok (.aload_n 0, 1) := by decide +kernel
theorem dX4_remove_22 : decode cX4_remove 22 = .ok (.getfield 17, 3) := by decide +kernel
theorem dX4_remove_25 : decode cX4_remove 25 = .ok (.iload_n 1, 1) := by decide +kernel
theorem dX4_remove_26 : decode cX4_remove 26 = .ok (.baload, 1) := by decide +kernel
theorem dX4_remove_27 : decode cX4_remove 27 = .ok (.bastore, 1) := by decide +kernel
theorem dX4_remove_28 : decode cX4_remove 28 = .ok (.aload_n 0, 1) := by decide +kernel
theorem dX4_remove_29 : decode cX4_remove 29 = .ok (.getfield 17, 3) := by decide +kernel
theorem dX4_remove_32 : decode cX4_remove 32 = .ok (.iload_n 1, 1) := by decide +kernel
theorem dX4_remove_33 : decode cX4_remove 33 = .ok (.baload, 1) := by decide +kernel
theorem dX4_remove_34 : decode cX4_remove 34 = .ok (.ifCond .eq 8, 3) := by decide +kernel
theorem dX4_remove_37 : decode cX4_remove 37 = .ok (.bipush 15, 2) := by decide +kernel
theorem dX4_remove_39 : decode cX4_remove 39 = .ok (.goto 4, 3) := by decide +kernel
theorem dX4_remove_42 : decode cX4_remove 42 = .ok (.iconst 0, 1) := by decide +kernel
theorem dX4_remove_43 : decode cX4_remove 43 = .ok (.ireturn, 1) := by decide +kernel
theorem dX4_isThere_0 : decode cX4_isThere 0 = .ok (.iload_n 1, 1) := by decide +kernel
theorem dX4_isThere_1 : decode cX4_isThere 1 = .ok (.ifCond .lt 23, 3) := by decide +kernel
theorem dX4_isThere_4 : decode cX4_isThere 4 = .ok (.iload_n 1, 1) := by decide +kernel
theorem dX4_isThere_5 : decode cX4_isThere 5 = .ok (.sipush 256, 3) := by decide +kernel
theorem dX4_isThere_8 : decode cX4_isThere 8 = .ok (.if_icmp .ge 16, 3) := by decide +kernel
theorem dX4_isThere_11 : decode cX4_isThere 11 = .ok (.aload_n 0, 1) := by decide +kernel
theorem dX4_isThere_12 : decode cX4_isThere 12 = .ok (.getfield 13, 3) := by decide +kernel
theorem dX4_isThere_15 : decode cX4_isThere 15 = .ok (.iload_n 1, 1) := by decide +kernel
theorem dX4_isThere_16 : decode cX4_isThere 16 = .ok (.baload, 1) := by decide +kernel
theorem dX4_isThere_17 : decode cX4_isThere 17 = .ok (.ifCond .eq 7, 3) := by decide +kernel
theorem dX4_isThere_20 : decode cX4_isThere 20 = .ok (.iconst 1, 1) := by decide +kernel
theorem dX4_isThere_21 : decode cX4_isThere 21 = .ok (.goto 4, 3) := by decide +kernel
theorem dX4_isThere_24 : decode cX4_isThere 24 = .ok (.iconst 0, 1) := by decide +kernel
theorem dX4_isThere_25 : decode cX4_isThere 25 = .ok (.ireturn, 1) := by decide +kernel
theorem dX4_enable_0 : decode cX4_enable 0 = .ok (.aload_n 0, 1) := by decide +kernel
theorem dX4_enable_1 : decode cX4_enable 1 = .ok (.iconst 0, 1) := by decide +kernel
theorem dX4_enable_2 : decode cX4_enable 2 = .ok (.putfield 63, 3) := by decide +kernel
theorem dX4_enable_5 : decode cX4_enable 5 = .ok (.aload_n 0, 1) := by decide +kernel
theorem dX4_enable_6 : decode cX4_enable 6 = .ok (.iload_n 1, 1) := by decide +kernel
theorem dX4_enable_7 : decode cX4_enable 7 = .ok (.invokevirtual 75, 3) := by decide +kernel
theorem dX4_enable_10 : decode cX4_enable 10 = .ok (.ifCond .ne 6, 3) := by decide +kernel
theorem dX4_enable_13 : decode cX4_enable 13 = .ok (.bipush 27, 2) := by decide +kernel
theorem dX4_enable_15 : decode cX4_enable 15 = .ok (.ireturn, 1) := by decide +kernel
theorem dX4_enable_16 : decode cX4_enable 16 = .ok (.aload_n 0, 1) := by decide +kernel
theorem dX4_enable_17 : decode cX4_enable 17 = .ok (.getfield 17, 3) := by decide +kernel
theorem dX4_enable_20 : decode cX4_enable 20 = .ok (.iload_n 1, 1) := by decide +kernel
theorem dX4_enable_21 : decode cX4_enable 21 = .ok (.iload_n 2, 1) := by decide +kernel
theorem dX4_enable_22 : decode cX4_enable 22 = .ok (.bastore, 1) := by decide +kernel
theorem dX4_enable_23 : decode cX4_enable 23 = .ok (.aload_n 0, 1) := by decide +kernel
theorem dX4_enable_24 : decode cX4_enable 24 = .ok (.getfield 38, 3) := by decide +kernel
theorem dX4_enable_27 : decode cX4_enable 27 = .ok (.iload_n 1, 1) := by decide +kernel
theorem dX4_enable_28 : decode cX4_enable 28 = .ok (.iconst 0, 1) := by decide +kernel
theorem dX4_enable_29 : decode cX4_enable 29 = .ok (.iastore, 1) := by decide +kernel
theorem dX4_enable_30 : decode cX4_enable 30 = .ok (.iconst 0, 1) := by decide +kernel
theorem dX4_enable_31 : decode cX4_enable 31 = .ok (.ireturn, 1) := by decide +kernel
theorem dX4_watch_0 : decode cX4_watch 0 = .ok (.aload_n 0, 1) := by decide +kernel
theorem dX4_watch_1 : decode cX4_watch 1 = .ok (.iconst 0, 1) := by decide +kernel
theorem dX4_watch_2 : decode cX4_watch 2 = .ok (.putfield 63, 3) := by decide +kernel
theorem dX4_watch_5 : decode cX4_watch 5 = .ok (.iconst 0, 1) := by decide +kernel
theorem dX4_watch_6 : decode cX4_watch 6 = .ok (.istore_n 1, 1) := by decide +kernel
theorem dX4_watch_7 : decode cX4_watch 7 = .ok (.aload_n 0, 1) := by decide +kernel
theorem dX4_watch_8 : decode cX4_watch 8 = .ok (.iconst 0, 1) := by decide +kernel
theorem dX4_watch_9 : decode cX4_watch 9 = .ok (.putfield 85, 3) := by decide +kernel
theorem dX4_watch_12 : decode cX4_watch 12 = .ok (.iconst 0, 1) := by decide +kernel
theorem dX4_watch_13 : decode cX4_watch 13 = .ok (.istore_n 2, 1) := by decide +kernel
theorem dX4_watch_14 : decode cX4_watch 14 = .ok (.iload_n 2, 1) := by decide +kernel
theorem dX4_watch_15 : decode cX4_watch 15 = .ok (.sipush 256, 3) := by decide +kernel
theorem dX4_watch_18 : decode cX4_watch 18 = .ok (.if_icmp .ge 132, 3) := by decide +kernel
theorem dX4_watch_21 : decode cX4_watch 21 = .ok (.aload_n 0, 1) := by decide +kernel
theorem dX4_watch_22 : decode cX4_watch 22 = .ok (.getfield 7, 3) := by decide +kernel
theorem dX4_watch_25 : decode cX4_watch 25 = .ok (.aload_n 0, 1) := by decide +kernel
theorem dX4_watch_26 : decode cX4_watch 26 = .ok (.getfield 23, 3) := by decide +kernel
theorem dX4_watch_29 : decode cX4_watch 29 = .ok (.iload_n 2, 1) := by decide +kernel
theorem dX4_watch_30 : decode cX4_watch 30 = .ok (.iaload, 1) := by decide +kernel
theorem dX4_watch_31 : decode cX4_watch 31 = .ok (.iaload, 1) := by decide +kernel
theorem dX4_watch_32 : decode cX4_watch 32 = .ok (.istore_n 3, 1) := by decide +kernel
theorem dX4_watch_33 : decode cX4_watch 33 = .ok (.aload_n 0, 1) := by decide +kernel
theorem dX4_watch_34 : decode cX4_watch 34 = .ok (.getfield 13, 3) := by decide +kernel
theorem dX4_watch_37 : decode cX4_watch 37 = .ok (.iload_n 2, 1) := by decide +kernel
theorem dX4_watch_38 : decode cX4_watch 38 = .ok (.baload, 1) := by decide +kernel
theorem dX4_watch_39 : decode cX4_watch 39 = .ok (.ifCond .eq 105, 3) := by decide +kernel
theorem dX4_watch_42 : decode cX4_watch 42 = .ok (.aload_n 0, 1) := by decide +kernel
theorem dX4_watch_43 : decode cX4_watch 43 = .ok (.getfield 17, 3) := by decide +kernel
theorem dX4_watch_46 : decode cX4_watch 46 = .ok (.iload_n 2, 1) := by decide +kernel
theorem dX4_watch_47 : decode cX4_watch 47 = .ok (.baload, 1) := by decide +kernel
theorem dX4_watch_48 : decode cX4_watch 48 = .ok (.ifCond .eq 96, 3) := by decide +kernel
theorem dX4_watch_51 : decode cX4_watch 51 = .ok (.aload_n 0, 1) := by decide +kernel
theorem dX4_watch_52 : decode cX4_watch 52 = .ok (.getfield 38, 3) := by decide +kernel
theorem dX4_watch_55 : decode cX4_watch 55 = .ok (.iload_n 2, 1) := by decide +kernel
theorem dX4_watch_56 : decode cX4_watch 56 = .ok (.iload_n 3, 1) := by decide +kernel
theorem dX4_watch_57 : decode cX4_watch 57 = .ok (.aload_n 0, 1) := by decide +kernel
theorem dX4_watch_58 : decode cX4_watch 58 = .ok (.getfield 29, 3) := by decide +kernel
theorem dX4_watch_61 : decode cX4_watch 61 = .ok (.iload_n 2, 1) := by decide +kernel
theorem dX4_watch_62 : decode cX4_watch 62 = .ok (.iaload, 1) := by decide +kernel
theorem dX4_watch_63 : decode cX4_watch 63 = .ok (.aload_n 0, 1) := by decide +kernel
theorem dX4_watch_64 : decode cX4_watch 64 = .ok (.getfield 32, 3) := by decide +kernel
theorem dX4_watch_67 : decode cX4_watch 67 = .ok (.iload_n 2, 1) := by decide +kernel
theorem dX4_watch_68 : decode cX4_watch 68 = .ok (.iaload, 1) := by decide +kernel
theorem dX4_watch_69 : decode cX4_watch 69 = .ok (.invokestatic 67, 3) := by decide +kernel
theorem dX4_watch_72 : decode cX4_watch 72 = .ok (.ifCond .eq 7, 3) := by decide +kernel
theorem dX4_watch_75 : decode cX4_watch 75 = .ok (.iconst 0, 1) := by decide +kernel
theorem dX4_watch_76 : decode cX4_watch 76 = .ok (.goto 11, 3) := by decide +kernel
theorem dX4_watch_79 : decode cX4_watch 79 = .ok (.aload_n 0, 1) := by decide +kernel
theorem dX4_watch_80 : decode cX4_watch 80 = .ok (.getfield 38, 3) := by decide +kernel
theorem dX4_watch_83 : decode cX4_watch 83 = .ok (.iload_n 2, 1) := by decide +kernel
theorem dX4_watch_84 : decode cX4_watch 84 = .ok (.iaload, 1) := by decide +kernel
theorem dX4_watch_85 : decode cX4_watch 85 = .ok (.iconst 1, 1) := by decide +kernel
theorem dX4_watch_86 : decode cX4_watch 86 = .ok (.iadd, 1) := by decide +kernel
theorem dX4_watch_87 : decode cX4_watch 87 = .ok (.iastore, 1) := by decide +kernel
theorem dX4_watch_88 : decode cX4_watch 88 = .ok (.aload_n 0, 1) := by decide +kernel
theorem dX4_watch_89 : decode cX4_watch 89 = .ok (.getfield 38, 3) := by decide +kernel
theorem dX4_watch_92 : decode cX4_watch 92 = .ok (.iload_n 2, 1) := by decide +kernel
theorem dX4_watch_93 : decode cX4_watch 93 = .ok (.iaload, 1) := by decide +kernel
theorem dX4_watch_94 : decode cX4_watch 94 = .ok (.aload_n 0, 1) := by decide +kernel
theorem dX4_watch_95 : decode cX4_watch 95 = .ok (.getfield 26, 3) := by decide +kernel
theorem dX4_watch_98 : decode cX4_watch 98 = .ok (.iload_n 2, 1) := by decide +kernel
theorem dX4_watch_99 : decode cX4_watch 99 = .ok (.iaload, 1) := by decide +kernel
theorem dX4_watch_100 : decode cX4_watch 100 = .ok (.if_icmp .ne 44, 3) := by decide +kernel
theorem dX4_watch_103 : decode cX4_watch 103 = .ok (.aload_n 0, 1) := by decide +kernel
theorem dX4_watch_104 : decode cX4_watch 104 = .ok (.aload_n 0, 1) := by decide +kernel
theorem dX4_watch_105 : decode cX4_watch 105 = .ok (.getfield 35, 3) := by decide +kernel
theorem dX4_watch_108 : decode cX4_watch 108 = .ok (.iload_n 2, 1) := by decide +kernel
theorem dX4_watch_109 : decode cX4_watch 109 = .ok (.iaload, 1) := by decide +kernel
theorem dX4_watch_110 : decode cX4_watch 110 = .ok (.iload_n 3, 1) := by decide +kernel
theorem dX4_watch_111 : decode cX4_watch 111 = .ok (.invokevirtual 89, 3) := by decide +kernel
theorem dX4_watch_114 : decode cX4_watch 114 = .ok (.istore 4, 2) := by decide +kernel
theorem dX4_watch_116 : decode cX4_watch 116 = .ok (.aload_n 0, 1) := by decide +kernel
theorem dX4_watch_117 : decode cX4_watch 117 = .ok (.aload_n 0, 1) := by decide +kernel
theorem dX4_watch_118 : decode cX4_watch 118 = .ok (.getfield 85, 3) := by decide +kernel
theorem dX4_watch_121 : decode cX4_watch 121 = .ok (.ifCond .ne 12, 3) := by decide +kernel
theorem dX4_watch_124 : decode cX4_watch 124 = .ok (.aload_n 0, 1) := by decide +kernel
theorem dX4_watch_125 : decode cX4_watch 125 = .ok (.getfield 20, 3) := by decide +kernel
theorem dX4_watch_128 : decode cX4_watch 128 = .ok (.iload_n 2, 1) := by decide +kernel
theorem dX4_watch_129 : decode cX4_watch 129 = .ok (.baload, 1) := by decide +kernel
theorem dX4_watch_130 : decode cX4_watch 130 = .ok (.ifCond .eq 7, 3) := by decide +kernel
theorem dX4_watch_133 : decode cX4_watch 133 = .ok (.iconst 1, 1) := by decide +kernel
theorem dX4_watch_134 : decode cX4_watch 134 = .ok (.goto 4, 3) := by decide +kernel
theorem dX4_watch_137 : decode cX4_watch 137 = .ok (.iconst 0, 1) := by decide +kernel
theorem dX4_watch_138 : decode cX4_watch 138 = .ok (.putfield 85, 3) := by decide +kernel
theorem dX4_watch_141 : decode cX4_watch 141 = .ok (.iinc 1 1, 3) := by decide +kernel
theorem dX4_watch_144 : decode cX4_watch 144 = .ok (.iinc 2 1, 3) := by decide +kernel
theorem dX4_watch_147 : decode cX4_watch 147 = .ok (.goto (-133), 3) := by decide +kernel
theorem dX4_watch_150 : decode cX4_watch 150 = .ok (.aload_n 0, 1) := by decide +kernel
theorem dX4_watch_151 : decode cX4_watch 151 = .ok (.dup, 1) := by decide +kernel
theorem dX4_watch_152 : decode cX4_watch 152 = .ok (.getfield 93, 3) := by decide +kernel
theorem dX4_watch_155 : decode cX4_watch 155 = .ok (.iload_n 1, 1) := by decide +kernel
theorem dX4_watch_156 : decode cX4_watch 156 = .ok (.iadd, 1) := by decide +kernel
theorem dX4_watch_157 : decode cX4_watch 157 = .ok (.putfield 93, 3) := by decide +kernel
theorem dX4_watch_160 : decode cX4_watch 160 = .ok (.iload_n 1, 1) := by decide +kernel
theorem dX4_watch_161 : decode cX4_watch 161 = .ok (.ireturn, 1) := by decide +kernel
theorem dX4_waits_0 : decode cX4_waits 0 = .ok (.aload_n 0, 1) := by decide +kernel
theorem dX4_waits_1 : decode cX4_waits 1 = .ok (.getfield 79, 3) := by decide +kernel
theorem dX4_waits_4 : decode cX4_waits 4 = .ok (.bipush 64, 2) := by decide +kernel
theorem dX4_waits_6 : decode cX4_waits 6 = .ok (.if_icmp .ne 15, 3) := by decide +kernel
theorem dX4_waits_9 : decode cX4_waits 9 = .ok (.aload_n 0, 1) := by decide +kernel
theorem dX4_waits_10 : decode cX4_waits 10 = .ok (.dup, 1) := by decide +kernel
theorem dX4_waits_11 : decode cX4_waits 11 = .ok (.getfield 82, 3) := by decide +kernel
theorem dX4_waits_14 : decode cX4_waits 14 = .ok (.iconst 1, 1) := by decide +kernel
theorem dX4_waits_15 : decode cX4_waits 15 = .ok (.iadd, 1) := by decide +kernel
theorem dX4_waits_16 : decode cX4_waits 16 = .ok (.putfield 82, 3) := by decide +kernel
theorem dX4_waits_19 : decode cX4_waits 19 = .ok (.iconst 0, 1) := by decide +kernel
theorem dX4_waits_20 : decode cX4_waits 20 = .ok (.ireturn, 1) := by decide +kernel
theorem dX4_waits_21 : decode cX4_waits 21 = .ok (.aload_n 0, 1) := by decide +kernel
theorem dX4_waits_22 : decode cX4_waits 22 = .ok (.getfield 41, 3) := by decide +kernel
theorem dX4_waits_25 : decode cX4_waits 25 = .ok (.aload_n 0, 1) := by decide +kernel
theorem dX4_waits_26 : decode cX4_waits 26 = .ok (.getfield 79, 3) := by decide +kernel
theorem dX4_waits_29 : decode cX4_waits 29 = .ok (.iload_n 1, 1) := by decide +kernel
theorem dX4_waits_30 : decode cX4_waits 30 = .ok (.iastore, 1) := by decide +kernel
theorem dX4_waits_31 : decode cX4_waits 31 = .ok (.aload_n 0, 1) := by decide +kernel
theorem dX4_waits_32 : decode cX4_waits 32 = .ok (.getfield 44, 3) := by decide +kernel
theorem dX4_waits_35 : decode cX4_waits 35 = .ok (.aload_n 0, 1) := by decide +kernel
theorem dX4_waits_36 : decode cX4_waits 36 = .ok (.getfield 79, 3) := by decide +kernel
theorem dX4_waits_39 : decode cX4_waits 39 = .ok (.iload_n 2, 1) := by decide +kernel
theorem dX4_waits_40 : decode cX4_waits 40 = .ok (.iastore, 1) := by decide +kernel
theorem dX4_waits_41 : decode cX4_waits 41 = .ok (.aload_n 0, 1) := by decide +kernel
theorem dX4_waits_42 : decode cX4_waits 42 = .ok (.dup, 1) := by decide +kernel
theorem dX4_waits_43 : decode cX4_waits 43 = .ok (.getfield 79, 3) := by decide +kernel
theorem dX4_waits_46 : decode cX4_waits 46 = .ok (.iconst 1, 1) := by decide +kernel
theorem dX4_waits_47 : decode cX4_waits 47 = .ok (.iadd, 1) := by decide +kernel
theorem dX4_waits_48 : decode cX4_waits 48 = .ok (.putfield 79, 3) := by decide +kernel
theorem dX4_waits_51 : decode cX4_waits 51 = .ok (.iconst 1, 1) := by decide +kernel
theorem dX4_waits_52 : decode cX4_waits 52 = .ok (.ireturn, 1) := by decide +kernel
theorem dX4_linked_0 : decode cX4_linked 0 = .ok (.aload_n 0, 1) := by decide +kernel
theorem dX4_linked_1 : decode cX4_linked 1 = .ok (.iconst 0, 1) := by decide +kernel
theorem dX4_linked_2 : decode cX4_linked 2 = .ok (.putfield 63, 3) := by decide +kernel
theorem dX4_linked_5 : decode cX4_linked 5 = .ok (.aload_n 0, 1) := by decide +kernel
theorem dX4_linked_6 : decode cX4_linked 6 = .ok (.getfield 85, 3) := by decide +kernel
theorem dX4_linked_9 : decode cX4_linked 9 = .ok (.ireturn, 1) := by decide +kernel
theorem dX4_raise_0 : decode cX4_raise 0 = .ok (.aload_n 0, 1) := by decide +kernel
theorem dX4_raise_1 : decode cX4_raise 1 = .ok (.iconst 0, 1) := by decide +kernel
theorem dX4_raise_2 : decode cX4_raise 2 = .ok (.putfield 63, 3) := by decide +kernel
theorem dX4_raise_5 : decode cX4_raise 5 = .ok (.iload_n 1, 1) := by decide +kernel
theorem dX4_raise_6 : decode cX4_raise 6 = .ok (.invokestatic 96, 3) := by decide +kernel
theorem dX4_raise_9 : decode cX4_raise 9 = .ok (.ifCond .eq 16, 3) := by decide +kernel
theorem dX4_raise_12 : decode cX4_raise 12 = .ok (.aload_n 0, 1) := by decide +kernel
theorem dX4_raise_13 : decode cX4_raise 13 = .ok (.iload_n 1, 1) := by decide +kernel
theorem dX4_raise_14 : decode cX4_raise 14 = .ok (.iload_n 2, 1) := by decide +kernel
theorem dX4_raise_15 : decode cX4_raise 15 = .ok (.invokevirtual 89, 3) := by decide +kernel
theorem dX4_raise_18 : decode cX4_raise 18 = .ok (.ifCond .eq 7, 3) := by decide +kernel
theorem dX4_raise_21 : decode cX4_raise 21 = .ok (.iconst 1, 1) := by decide +kernel
theorem dX4_raise_22 : decode cX4_raise 22 = .ok (.goto 4, 3) := by decide +kernel
theorem dX4_raise_25 : decode cX4_raise 25 = .ok (.iconst 0, 1) := by decide +kernel
theorem dX4_raise_26 : decode cX4_raise 26 = .ok (.ireturn, 1) := by decide +kernel
theorem dX4_isEvent_0 : decode cX4_isEvent 0 = .ok (.iload_n 0, 1) := by decide +kernel
theorem dX4_isEvent_1 : decode cX4_isEvent 1 = .ok (.iconst 0, 1) := by decide +kernel
theorem dX4_isEvent_2 : decode cX4_isEvent 2 = .ok (.bipush 31, 2) := by decide +kernel
theorem dX4_isEvent_4 : decode cX4_isEvent 4 = .ok (.invokestatic 67, 3) := by decide +kernel
theorem dX4_isEvent_7 : decode cX4_isEvent 7 = .ok (.ireturn, 1) := by decide +kernel
theorem dX4_work_0 : decode cX4_work 0 = .ok (.aload_n 0, 1) := by decide +kernel
theorem dX4_work_1 : decode cX4_work 1 = .ok (.iconst 0, 1) := by decide +kernel
theorem dX4_work_2 : decode cX4_work 2 = .ok (.putfield 63, 3) := by decide +kernel
theorem dX4_work_5 : decode cX4_work 5 = .ok (.aload_n 0, 1) := by decide +kernel
theorem dX4_work_6 : decode cX4_work 6 = .ok (.getfield 79, 3) := by decide +kernel
theorem dX4_work_9 : decode cX4_work 9 = .ok (.ifCond .ne 5, 3) := by decide +kernel
theorem dX4_work_12 : decode cX4_work 12 = .ok (.iconst (-1), 1) := by decide +kernel
theorem dX4_work_13 : decode cX4_work 13 = .ok (.ireturn, 1) := by decide +kernel
theorem dX4_work_14 : decode cX4_work 14 = .ok (.aload_n 0, 1) := by decide +kernel
theorem dX4_work_15 : decode cX4_work 15 = .ok (.getfield 41, 3) := by decide +kernel
theorem dX4_work_18 : decode cX4_work 18 = .ok (.iconst 0, 1) := by decide +kernel
theorem dX4_work_19 : decode cX4_work 19 = .ok (.iaload, 1) := by decide +kernel
theorem dX4_work_20 : decode cX4_work 20 = .ok (.istore_n 1, 1) := by decide +kernel
theorem dX4_work_21 : decode cX4_work 21 = .ok (.aload_n 0, 1) := by decide +kernel
theorem dX4_work_22 : decode cX4_work 22 = .ok (.aload_n 0, 1) := by decide +kernel
theorem dX4_work_23 : decode cX4_work 23 = .ok (.getfield 44, 3) := by decide +kernel
theorem dX4_work_26 : decode cX4_work 26 = .ok (.iconst 0, 1) := by decide +kernel
theorem dX4_work_27 : decode cX4_work 27 = .ok (.iaload, 1) := by decide +kernel
theorem dX4_work_28 : decode cX4_work 28 = .ok (.putfield 99, 3) := by decide +kernel
theorem dX4_work_31 : decode cX4_work 31 = .ok (.aload_n 0, 1) := by decide +kernel
theorem dX4_work_32 : decode cX4_work 32 = .ok (.dup, 1) := by decide +kernel
theorem dX4_work_33 : decode cX4_work 33 = .ok (.getfield 79, 3) := by decide +kernel
theorem dX4_work_36 : decode cX4_work 36 = .ok (.iconst 1, 1) := by decide +kernel
theorem dX4_work_37 : decode cX4_work 37 = .ok (.isub, 1) := by decide +kernel
theorem dX4_work_38 : decode cX4_work 38 = .ok (.putfield 79, 3) := by decide +kernel
theorem dX4_work_41 : decode cX4_work 41 = .ok (.iconst 0, 1) := by decide +kernel
theorem dX4_work_42 : decode cX4_work 42 = .ok (.istore_n 2, 1) := by decide +kernel
theorem dX4_work_43 : decode cX4_work 43 = .ok (.iload_n 2, 1) := by decide +kernel
theorem dX4_work_44 : decode cX4_work 44 = .ok (.aload_n 0, 1) := by decide +kernel
theorem dX4_work_45 : decode cX4_work 45 = .ok (.getfield 79, 3) := by decide +kernel
theorem dX4_work_48 : decode cX4_work 48 = .ok (.if_icmp .ge 37, 3) := by decide +kernel
theorem dX4_work_51 : decode cX4_work 51 = .ok (.aload_n 0, 1) := by decide +kernel
theorem dX4_work_52 : decode cX4_work 52 = .ok (.getfield 41, 3) := by decide +kernel
theorem dX4_work_55 : decode cX4_work 55 = .ok (.iload_n 2, 1) := by decide +kernel
theorem dX4_work_56 : decode cX4_work 56 = .ok (.aload_n 0, 1) := by decide +kernel
theorem dX4_work_57 : decode cX4_work 57 = .ok (.getfield 41, 3) := by decide +kernel
theorem dX4_work_60 : decode cX4_work 60 = .ok (.iload_n 2, 1) := by decide +kernel
theorem dX4_work_61 : decode cX4_work 61 = .ok (.iconst 1, 1) := by decide +kernel
theorem dX4_work_62 : decode cX4_work 62 = .ok (.iadd, 1) := by decide +kernel
theorem dX4_work_63 : decode cX4_work 63 = .ok (.iaload, 1) := by decide +kernel
theorem dX4_work_64 : decode cX4_work 64 = .ok (.iastore, 1) := by decide +kernel
theorem dX4_work_65 : decode cX4_work 65 = .ok (.aload_n 0, 1) := by decide +kernel
theorem dX4_work_66 : decode cX4_work 66 = .ok (.getfield 44, 3) := by decide +kernel
theorem dX4_work_69 : decode cX4_work 69 = .ok (.iload_n 2, 1) := by decide +kernel
theorem dX4_work_70 : decode cX4_work 70 = .ok (.aload_n 0, 1) := by decide +kernel
theorem dX4_work_71 : decode cX4_work 71 = .ok (.getfield 44, 3) := by decide +kernel
theorem dX4_work_74 : decode cX4_work 74 = .ok (.iload_n 2, 1) := by decide +kernel
theorem dX4_work_75 : decode cX4_work 75 = .ok (.iconst 1, 1) := by decide +kernel
theorem dX4_work_76 : decode cX4_work 76 = .ok (.iadd, 1) := by decide +kernel
theorem dX4_work_77 : decode cX4_work 77 = .ok (.iaload, 1) := by decide +kernel
theorem dX4_work_78 : decode cX4_work 78 = .ok (.iastore, 1) := by decide +kernel
theorem dX4_work_79 : decode cX4_work 79 = .ok (.iinc 2 1, 3) := by decide +kernel
theorem dX4_work_82 : decode cX4_work 82 = .ok (.goto (-39), 3) := by decide +kernel
theorem dX4_work_85 : decode cX4_work 85 = .ok (.iload_n 1, 1) := by decide +kernel
theorem dX4_work_86 : decode cX4_work 86 = .ok (.ireturn, 1) := by decide +kernel
theorem dX4_lose_0 : decode cX4_lose 0 = .ok (.aload_n 0, 1) := by decide +kernel
theorem dX4_lose_1 : decode cX4_lose 1 = .ok (.iconst 0, 1) := by decide +kernel
theorem dX4_lose_2 : decode cX4_lose 2 = .ok (.putfield 63, 3) := by decide +kernel
theorem dX4_lose_5 : decode cX4_lose 5 = .ok (.aload_n 0, 1) := by decide +kernel
theorem dX4_lose_6 : decode cX4_lose 6 = .ok (.getfield 79, 3) := by decide +kernel
theorem dX4_lose_9 : decode cX4_lose 9 = .ok (.istore_n 1, 1) := by decide +kernel
theorem dX4_lose_10 : decode cX4_lose 10 = .ok (.aload_n 0, 1) := by decide +kernel
theorem dX4_lose_11 : decode cX4_lose 11 = .ok (.iconst 0, 1) := by decide +kernel
theorem dX4_lose_12 : decode cX4_lose 12 = .ok (.putfield 79, 3) := by decide +kernel
theorem dX4_lose_15 : decode cX4_lose 15 = .ok (.aload_n 0, 1) := by decide +kernel
theorem dX4_lose_16 : decode cX4_lose 16 = .ok (.dup, 1) := by decide +kernel
theorem dX4_lose_17 : decode cX4_lose 17 = .ok (.getfield 82, 3) := by decide +kernel
theorem dX4_lose_20 : decode cX4_lose 20 = .ok (.iload_n 1, 1) := by decide +kernel
theorem dX4_lose_21 : decode cX4_lose 21 = .ok (.iadd, 1) := by decide +kernel
theorem dX4_lose_22 : decode cX4_lose 22 = .ok (.putfield 82, 3) := by decide +kernel
theorem dX4_lose_25 : decode cX4_lose 25 = .ok (.iload_n 1, 1) := by decide +kernel
theorem dX4_lose_26 : decode cX4_lose 26 = .ok (.ireturn, 1) := by decide +kernel
theorem dX4_tell_0 : decode cX4_tell 0 = .ok (.aload_n 0, 1) := by decide +kernel
theorem dX4_tell_1 : decode cX4_tell 1 = .ok (.iconst 0, 1) := by decide +kernel
theorem dX4_tell_2 : decode cX4_tell 2 = .ok (.putfield 63, 3) := by decide +kernel
theorem dX4_tell_5 : decode cX4_tell 5 = .ok (.iload_n 1, 1) := by decide +kernel
theorem dX4_tell_6 : decode cX4_tell 6 = .ok (.invokestatic 96, 3) := by decide +kernel
theorem dX4_tell_9 : decode cX4_tell 9 = .ok (.ifCond .ne 6, 3) := by decide +kernel
theorem dX4_tell_12 : decode cX4_tell 12 = .ok (.bipush 16, 2) := by decide +kernel
theorem dX4_tell_14 : decode cX4_tell 14 = .ok (.ireturn, 1) := by decide +kernel
theorem dX4_tell_15 : decode cX4_tell 15 = .ok (.aload_n 0, 1) := by decide +kernel
theorem dX4_tell_16 : decode cX4_tell 16 = .ok (.getfield 47, 3) := by decide +kernel
theorem dX4_tell_19 : decode cX4_tell 19 = .ok (.iload_n 1, 1) := by decide +kernel
theorem dX4_tell_20 : decode cX4_tell 20 = .ok (.iload_n 2, 1) := by decide +kernel
theorem dX4_tell_21 : decode cX4_tell 21 = .ok (.ifCond .ne 7, 3) := by decide +kernel
theorem dX4_tell_24 : decode cX4_tell 24 = .ok (.iconst 1, 1) := by decide +kernel
theorem dX4_tell_25 : decode cX4_tell 25 = .ok (.goto 4, 3) := by decide +kernel
theorem dX4_tell_28 : decode cX4_tell 28 = .ok (.iconst 0, 1) := by decide +kernel
theorem dX4_tell_29 : decode cX4_tell 29 = .ok (.bastore, 1) := by decide +kernel
theorem dX4_tell_30 : decode cX4_tell 30 = .ok (.iconst 0, 1) := by decide +kernel
theorem dX4_tell_31 : decode cX4_tell 31 = .ok (.ireturn, 1) := by decide +kernel
theorem dX4_put_0 : decode cX4_put 0 = .ok (.aload_n 0, 1) := by decide +kernel
theorem dX4_put_1 : decode cX4_put 1 = .ok (.iconst 0, 1) := by decide +kernel
theorem dX4_put_2 : decode cX4_put 2 = .ok (.putfield 63, 3) := by decide +kernel
theorem dX4_put_5 : decode cX4_put 5 = .ok (.aload_n 0, 1) := by decide +kernel
theorem dX4_put_6 : decode cX4_put 6 = .ok (.getfield 102, 3) := by decide +kernel
theorem dX4_put_9 : decode cX4_put 9 = .ok (.sipush 256, 3) := by decide +kernel
theorem dX4_put_12 : decode cX4_put 12 = .ok (.if_icmp .ne 5, 3) := by decide +kernel
theorem dX4_put_15 : decode cX4_put 15 = .ok (.iconst (-1), 1) := by decide +kernel
theorem dX4_put_16 : decode cX4_put 16 = .ok (.ireturn, 1) := by decide +kernel
theorem dX4_put_17 : decode cX4_put 17 = .ok (.aload_n 0, 1) := by decide +kernel
theorem dX4_put_18 : decode cX4_put 18 = .ok (.getfield 60, 3) := by decide +kernel
theorem dX4_put_21 : decode cX4_put 21 = .ok (.aload_n 0, 1) := by decide +kernel
theorem dX4_put_22 : decode cX4_put 22 = .ok (.getfield 102, 3) := by decide +kernel
theorem dX4_put_25 : decode cX4_put 25 = .ok (.iload_n 1, 1) := by decide +kernel
theorem dX4_put_26 : decode cX4_put 26 = .ok (.i2b, 1) := by decide +kernel
theorem dX4_put_27 : decode cX4_put 27 = .ok (.bastore, 1) := by decide +kernel
theorem dX4_put_28 : decode cX4_put 28 = .ok (.aload_n 0, 1) := by decide +kernel
theorem dX4_put_29 : decode cX4_put 29 = .ok (.dup, 1) := by decide +kernel
theorem dX4_put_30 : decode cX4_put 30 = .ok (.getfield 102, 3) := by decide +kernel
theorem dX4_put_33 : decode cX4_put 33 = .ok (.iconst 1, 1) := by decide +kernel
theorem dX4_put_34 : decode cX4_put 34 = .ok (.iadd, 1) := by decide +kernel
theorem dX4_put_35 : decode cX4_put 35 = .ok (.putfield 102, 3) := by decide +kernel
theorem dX4_put_38 : decode cX4_put 38 = .ok (.aload_n 0, 1) := by decide +kernel
theorem dX4_put_39 : decode cX4_put 39 = .ok (.getfield 102, 3) := by decide +kernel
theorem dX4_put_42 : decode cX4_put 42 = .ok (.ireturn, 1) := by decide +kernel
theorem dX4_act_0 : decode cX4_act 0 = .ok (.aload_n 0, 1) := by decide +kernel
theorem dX4_act_1 : decode cX4_act 1 = .ok (.iconst 0, 1) := by decide +kernel
theorem dX4_act_2 : decode cX4_act 2 = .ok (.putfield 63, 3) := by decide +kernel
theorem dX4_act_5 : decode cX4_act 5 = .ok (.aload_n 0, 1) := by decide +kernel
theorem dX4_act_6 : decode cX4_act 6 = .ok (.getfield 102, 3) := by decide +kernel
theorem dX4_act_9 : decode cX4_act 9 = .ok (.istore_n 2, 1) := by decide +kernel
theorem dX4_act_10 : decode cX4_act 10 = .ok (.aload_n 0, 1) := by decide +kernel
theorem dX4_act_11 : decode cX4_act 11 = .ok (.iconst 0, 1) := by decide +kernel
theorem dX4_act_12 : decode cX4_act 12 = .ok (.putfield 102, 3) := by decide +kernel
theorem dX4_act_15 : decode cX4_act 15 = .ok (.iload_n 1, 1) := by decide +kernel
theorem dX4_act_16 : decode cX4_act 16 = .ok (.invokestatic 96, 3) := by decide +kernel
theorem dX4_act_19 : decode cX4_act 19 = .ok (.ifCond .eq 16, 3) := by decide +kernel
theorem dX4_act_22 : decode cX4_act 22 = .ok (.iload_n 2, 1) := by decide +kernel
theorem dX4_act_23 : decode cX4_act 23 = .ok (.ifCond .eq 12, 3) := by decide +kernel
theorem dX4_act_26 : decode cX4_act 26 = .ok (.aload_n 0, 1) := by decide +kernel
theorem dX4_act_27 : decode cX4_act 27 = .ok (.getfield 50, 3) := by decide +kernel
theorem dX4_act_30 : decode cX4_act 30 = .ok (.iload_n 1, 1) := by decide +kernel
theorem dX4_act_31 : decode cX4_act 31 = .ok (.iaload, 1) := by decide +kernel
theorem dX4_act_32 : decode cX4_act 32 = .ok (.ifCond .le 27, 3) := by decide +kernel
theorem dX4_act_35 : decode cX4_act 35 = .ok (.iload_n 1, 1) := by decide +kernel
theorem dX4_act_36 : decode cX4_act 36 = .ok (.invokestatic 96, 3) := by decide +kernel
theorem dX4_act_39 : decode cX4_act 39 = .ok (.ifCond .ne 8, 3) := by decide +kernel
theorem dX4_act_42 : decode cX4_act 42 = .ok (.bipush 16, 2) := by decide +kernel
theorem dX4_act_44 : decode cX4_act 44 = .ok (.goto 14, 3) := by decide +kernel
theorem dX4_act_47 : decode cX4_act 47 = .ok (.iload_n 2, 1) := by decide +kernel
theorem dX4_act_48 : decode cX4_act 48 = .ok (.ifCond .ne 8, 3) := by decide +kernel
theorem dX4_act_51 : decode cX4_act 51 = .ok (.bipush 22, 2) := by decide +kernel
theorem dX4_act_53 : decode cX4_act 53 = .ok (.goto 5, 3) := by decide +kernel
theorem dX4_act_56 : decode cX4_act 56 = .ok (.bipush 29, 2) := by decide +kernel
theorem dX4_act_58 : decode cX4_act 58 = .ok (.ireturn, 1) := by decide +kernel
theorem dX4_act_59 : decode cX4_act 59 = .ok (.aload_n 0, 1) := by decide +kernel
theorem dX4_act_60 : decode cX4_act 60 = .ok (.getfield 50, 3) := by decide +kernel
theorem dX4_act_63 : decode cX4_act 63 = .ok (.iload_n 1, 1) := by decide +kernel
theorem dX4_act_64 : decode cX4_act 64 = .ok (.iload_n 2, 1) := by decide +kernel
theorem dX4_act_65 : decode cX4_act 65 = .ok (.iastore, 1) := by decide +kernel
theorem dX4_act_66 : decode cX4_act 66 = .ok (.aload_n 0, 1) := by decide +kernel
theorem dX4_act_67 : decode cX4_act 67 = .ok (.getfield 53, 3) := by decide +kernel
theorem dX4_act_70 : decode cX4_act 70 = .ok (.iload_n 1, 1) := by decide +kernel
theorem dX4_act_71 : decode cX4_act 71 = .ok (.iconst 0, 1) := by decide +kernel
theorem dX4_act_72 : decode cX4_act 72 = .ok (.bastore, 1) := by decide +kernel
theorem dX4_act_73 : decode cX4_act 73 = .ok (.iconst 0, 1) := by decide +kernel
theorem dX4_act_74 : decode cX4_act 74 = .ok (.istore_n 3, 1) := by decide +kernel
theorem dX4_act_75 : decode cX4_act 75 = .ok (.iload_n 3, 1) := by decide +kernel
theorem dX4_act_76 : decode cX4_act 76 = .ok (.iload_n 2, 1) := by decide +kernel
theorem dX4_act_77 : decode cX4_act 77 = .ok (.if_icmp .ge 27, 3) := by decide +kernel
theorem dX4_act_80 : decode cX4_act 80 = .ok (.aload_n 0, 1) := by decide +kernel
theorem dX4_act_81 : decode cX4_act 81 = .ok (.getfield 56, 3) := by decide +kernel
theorem dX4_act_84 : decode cX4_act 84 = .ok (.sipush 256, 3) := by decide +kernel
theorem dX4_act_87 : decode cX4_act 87 = .ok (.iload_n 1, 1) := by decide +kernel
theorem dX4_act_88 : decode cX4_act 88 = .ok (.imul, 1) := by decide +kernel
theorem dX4_act_89 : decode cX4_act 89 = .ok (.iload_n 3, 1) := by decide +kernel
theorem dX4_act_90 : decode cX4_act 90 = .ok (.iadd, 1) := by decide +kernel
theorem dX4_act_91 : decode cX4_act 91 = .ok (.aload_n 0, 1) := by decide +kernel
theorem dX4_act_92 : decode cX4_act 92 = .ok (.getfield 60, 3) := by decide +kernel
theorem dX4_act_95 : decode cX4_act 95 = .ok (.iload_n 3, 1) := by decide +kernel
theorem dX4_act_96 : decode cX4_act 96 = .ok (.baload, 1) := by decide +kernel
theorem dX4_act_97 : decode cX4_act 97 = .ok (.bastore, 1) := by decide +kernel
theorem dX4_act_98 : decode cX4_act 98 = .ok (.iinc 3 1, 3) := by decide +kernel
theorem dX4_act_101 : decode cX4_act 101 = .ok (.goto (-26), 3) := by decide +kernel
theorem dX4_act_104 : decode cX4_act 104 = .ok (.iconst 0, 1) := by decide +kernel
theorem dX4_act_105 : decode cX4_act 105 = .ok (.ireturn, 1) := by decide +kernel
theorem dX4_drop_0 : decode cX4_drop 0 = .ok (.aload_n 0, 1) := by decide +kernel
theorem dX4_drop_1 : decode cX4_drop 1 = .ok (.iconst 0, 1) := by decide +kernel
theorem dX4_drop_2 : decode cX4_drop 2 = .ok (.putfield 63, 3) := by decide +kernel
theorem dX4_drop_5 : decode cX4_drop 5 = .ok (.iload_n 1, 1) := by decide +kernel
theorem dX4_drop_6 : decode cX4_drop 6 = .ok (.invokestatic 96, 3) := by decide +kernel
theorem dX4_drop_9 : decode cX4_drop 9 = .ok (.ifCond .eq 21, 3) := by decide +kernel
theorem dX4_drop_12 : decode cX4_drop 12 = .ok (.aload_n 0, 1) := by decide +kernel
theorem dX4_drop_13 : decode cX4_drop 13 = .ok (.getfield 50, 3) := by decide +kernel
theorem dX4_drop_16 : decode cX4_drop 16 = .ok (.iload_n 1, 1) := by decide +kernel
theorem dX4_drop_17 : decode cX4_drop 17 = .ok (.iaload, 1) := by decide +kernel
theorem dX4_drop_18 : decode cX4_drop 18 = .ok (.ifCond .eq 12, 3) := by decide +kernel
theorem dX4_drop_21 : decode cX4_drop 21 = .ok (.aload_n 0, 1) := by decide +kernel
theorem dX4_drop_22 : decode cX4_drop 22 = .ok (.getfield 53, 3) := by decide +kernel
theorem dX4_drop_25 : decode cX4_drop 25 = .ok (.iload_n 1, 1) := by decide +kernel
theorem dX4_drop_26 : decode cX4_drop 26 = .ok (.baload, 1) := by decide +kernel
theorem dX4_drop_27 : decode cX4_drop 27 = .ok (.ifCond .eq 32, 3) := by decide +kernel
theorem dX4_drop_30 : decode cX4_drop 30 = .ok (.iload_n 1, 1) := by decide +kernel
theorem dX4_drop_31 : decode cX4_drop 31 = .ok (.invokestatic 96, 3) := by decide +kernel
theorem dX4_drop_34 : decode cX4_drop 34 = .ok (.ifCond .ne 8, 3) := by decide +kernel
theorem dX4_drop_37 : decode cX4_drop 37 = .ok (.bipush 16, 2) := by decide +kernel
theorem dX4_drop_39 : decode cX4_drop 39 = .ok (.goto 19, 3) := by decide +kernel
theorem dX4_drop_42 : decode cX4_drop 42 = .ok (.aload_n 0, 1) := by decide +kernel
theorem dX4_drop_43 : decode cX4_drop 43 = .ok (.getfield 50, 3) := by decide +kernel
theorem dX4_drop_46 : decode cX4_drop 46 = .ok (.iload_n 1, 1) := by decide +kernel
theorem dX4_drop_47 : decode cX4_drop 47 = .ok (.iaload, 1) := by decide +kernel
theorem dX4_drop_48 : decode cX4_drop 48 = .ok (.ifCond .ne 8, 3) := by decide +kernel
theorem dX4_drop_51 : decode cX4_drop 51 = .ok (.bipush 30, 2) := by decide +kernel
theorem dX4_drop_53 : decode cX4_drop 53 = .ok (.goto 5, 3) := by decide +kernel
theorem dX4_drop_56 : decode cX4_drop 56 = .ok (.bipush 15, 2) := by decide +kernel
theorem dX4_drop_58 : decode cX4_drop 58 = .ok (.ireturn, 1) := by decide +kernel
theorem dX4_drop_59 : decode cX4_drop 59 = .ok (.aload_n 0, 1) := by decide +kernel
theorem dX4_drop_60 : decode cX4_drop 60 = .ok (.getfield 50, 3) := by decide +kernel
theorem dX4_drop_63 : decode cX4_drop 63 = .ok (.iload_n 1, 1) := by decide +kernel
theorem dX4_drop_64 : decode cX4_drop 64 = .ok (.iconst 0, 1) := by decide +kernel
theorem dX4_drop_65 : decode cX4_drop 65 = .ok (.iastore, 1) := by decide +kernel
theorem dX4_drop_66 : decode cX4_drop 66 = .ok (.iconst 0, 1) := by decide +kernel
theorem dX4_drop_67 : decode cX4_drop 67 = .ok (.ireturn, 1) := by decide +kernel
theorem dX4_arm_0 : decode cX4_arm 0 = .ok (.aload_n 0, 1) := by decide +kernel
theorem dX4_arm_1 : decode cX4_arm 1 = .ok (.iconst 0, 1) := by decide +kernel
theorem dX4_arm_2 : decode cX4_arm 2 = .ok (.putfield 63, 3) := by decide +kernel
theorem dX4_arm_5 : decode cX4_arm 5 = .ok (.iload_n 1, 1) := by decide +kernel
theorem dX4_arm_6 : decode cX4_arm 6 = .ok (.invokestatic 96, 3) := by decide +kernel
theorem dX4_arm_9 : decode cX4_arm 9 = .ok (.ifCond .eq 12, 3) := by decide +kernel
theorem dX4_arm_12 : decode cX4_arm 12 = .ok (.aload_n 0, 1) := by decide +kernel
theorem dX4_arm_13 : decode cX4_arm 13 = .ok (.getfield 50, 3) := by decide +kernel
theorem dX4_arm_16 : decode cX4_arm 16 = .ok (.iload_n 1, 1) := by decide +kernel
theorem dX4_arm_17 : decode cX4_arm 17 = .ok (.iaload, 1) := by decide +kernel
theorem dX4_arm_18 : decode cX4_arm 18 = .ok (.ifCond .ne 18, 3) := by decide +kernel
theorem dX4_arm_21 : decode cX4_arm 21 = .ok (.iload_n 1, 1) := by decide +kernel
theorem dX4_arm_22 : decode cX4_arm 22 = .ok (.invokestatic 96, 3) := by decide +kernel
theorem dX4_arm_25 : decode cX4_arm 25 = .ok (.ifCond .ne 8, 3) := by decide +kernel
theorem dX4_arm_28 : decode cX4_arm 28 = .ok (.bipush 16, 2) := by decide +kernel
theorem dX4_arm_30 : decode cX4_arm 30 = .ok (.goto 5, 3) := by decide +kernel
theorem dX4_arm_33 : decode cX4_arm 33 = .ok (.bipush 30, 2) := by decide +kernel
theorem dX4_arm_35 : decode cX4_arm 35 = .ok (.ireturn, 1) := by decide +kernel
theorem dX4_arm_36 : decode cX4_arm 36 = .ok (.aload_n 0, 1) := by decide +kernel
theorem dX4_arm_37 : decode cX4_arm 37 = .ok (.getfield 53, 3) := by decide +kernel
theorem dX4_arm_40 : decode cX4_arm 40 = .ok (.iload_n 1, 1) := by decide +kernel
theorem dX4_arm_41 : decode cX4_arm 41 = .ok (.iload_n 2, 1) := by decide +kernel
theorem dX4_arm_42 : decode cX4_arm 42 = .ok (.bastore, 1) := by decide +kernel
theorem dX4_arm_43 : decode cX4_arm 43 = .ok (.iconst 0, 1) := by decide +kernel
theorem dX4_arm_44 : decode cX4_arm 44 = .ok (.ireturn, 1) := by decide +kernel
theorem dX4_limit_0 : decode cX4_limit 0 = .ok (.aload_n 0, 1) := by decide +kernel
theorem dX4_limit_1 : decode cX4_limit 1 = .ok (.iconst 0, 1) := by decide +kernel
theorem dX4_limit_2 : decode cX4_limit 2 = .ok (.putfield 63, 3) := by decide +kernel
theorem dX4_limit_5 : decode cX4_limit 5 = .ok (.aload_n 0, 1) := by decide +kernel
theorem dX4_limit_6 : decode cX4_limit 6 = .ok (.iload_n 1, 1) := by decide +kernel
theorem dX4_limit_7 : decode cX4_limit 7 = .ok (.invokevirtual 75, 3) := by decide +kernel
theorem dX4_limit_10 : decode cX4_limit 10 = .ok (.ifCond .ne 5, 3) := by decide +kernel
theorem dX4_limit_13 : decode cX4_limit 13 = .ok (.iconst (-1), 1) := by decide +kernel
theorem dX4_limit_14 : decode cX4_limit 14 = .ok (.ireturn, 1) := by decide +kernel
theorem dX4_limit_15 : decode cX4_limit 15 = .ok (.iload_n 2, 1) := by decide +kernel
theorem dX4_limit_16 : decode cX4_limit 16 = .ok (.tableswitch 98 0 5 #[40, 55, 62, 69, 76, 83], 40) := by decide +kernel
theorem dX4_limit_56 : decode cX4_limit 56 = .ok (.aload_n 0, 1) := by decide +kernel
theorem dX4_limit_57 : decode cX4_limit 57 = .ok (.getfield 17, 3) := by decide +kernel
theorem dX4_limit_60 : decode cX4_limit 60 = .ok (.iload_n 1, 1) := by decide +kernel
theorem dX4_limit_61 : decode cX4_limit 61 = .ok (.baload, 1) := by decide +kernel
theorem dX4_limit_62 : decode cX4_limit 62 = .ok (.ifCond .eq 7, 3) := by decide +kernel
theorem dX4_limit_65 : decode cX4_limit 65 = .ok (.iconst 1, 1) := by decide +kernel
theorem dX4_limit_66 : decode cX4_limit 66 = .ok (.goto 4, 3) := by decide +kernel
theorem dX4_limit_69 : decode cX4_limit 69 = .ok (.iconst 0, 1) := by decide +kernel
theorem dX4_limit_70 : decode cX4_limit 70 = .ok (.ireturn, 1) := by decide +kernel
theorem dX4_limit_71 : decode cX4_limit 71 = .ok (.aload_n 0, 1) := by decide +kernel
theorem dX4_limit_72 : decode cX4_limit 72 = .ok (.getfield 38, 3) := by decide +kernel
theorem dX4_limit_75 : decode cX4_limit 75 = .ok (.iload_n 1, 1) := by decide +kernel
theorem dX4_limit_76 : decode cX4_limit 76 = .ok (.iaload, 1) := by decide +kernel
theorem dX4_limit_77 : decode cX4_limit 77 = .ok (.ireturn, 1) := by decide +kernel
theorem dX4_limit_78 : decode cX4_limit 78 = .ok (.aload_n 0, 1) := by decide +kernel
theorem dX4_limit_79 : decode cX4_limit 79 = .ok (.getfield 23, 3) := by decide +kernel
theorem dX4_limit_82 : decode cX4_limit 82 = .ok (.iload_n 1, 1) := by decide +kernel
theorem dX4_limit_83 : decode cX4_limit 83 = .ok (.iaload, 1) := by decide +kernel
theorem dX4_limit_84 : decode cX4_limit 84 = .ok (.ireturn, 1) := by decide +kernel
theorem dX4_limit_85 : decode cX4_limit 85 = .ok (.aload_n 0, 1) := by decide +kernel
theorem dX4_limit_86 : decode cX4_limit 86 = .ok (.getfield 26, 3) := by decide +kernel
theorem dX4_limit_89 : decode cX4_limit 89 = .ok (.iload_n 1, 1) := by decide +kernel
theorem dX4_limit_90 : decode cX4_limit 90 = .ok (.iaload, 1) := by decide +kernel
theorem dX4_limit_91 : decode cX4_limit 91 = .ok (.ireturn, 1) := by decide +kernel
theorem dX4_limit_92 : decode cX4_limit 92 = .ok (.aload_n 0, 1) := by decide +kernel
theorem dX4_limit_93 : decode cX4_limit 93 = .ok (.getfield 35, 3) := by decide +kernel
theorem dX4_limit_96 : decode cX4_limit 96 = .ok (.iload_n 1, 1) := by decide +kernel
theorem dX4_limit_97 : decode cX4_limit 97 = .ok (.iaload, 1) := by decide +kernel
theorem dX4_limit_98 : decode cX4_limit 98 = .ok (.ireturn, 1) := by decide +kernel
theorem dX4_limit_99 : decode cX4_limit 99 = .ok (.aload_n 0, 1) := by decide +kernel
theorem dX4_limit_100 : decode cX4_limit 100 = .ok (.getfield 20, 3) := by decide +kernel
theorem dX4_limit_103 : decode cX4_limit 103 = .ok (.iload_n 1, 1) := by decide +kernel
theorem dX4_limit_104 : decode cX4_limit 104 = .ok (.baload, 1) := by decide +kernel
theorem dX4_limit_105 : decode cX4_limit 105 = .ok (.ifCond .eq 7, 3) := by decide +kernel
theorem dX4_limit_108 : decode cX4_limit 108 = .ok (.iconst 1, 1) := by decide +kernel
theorem dX4_limit_109 : decode cX4_limit 109 = .ok (.goto 4, 3) := by decide +kernel
theorem dX4_limit_112 : decode cX4_limit 112 = .ok (.iconst 0, 1) := by decide +kernel
theorem dX4_limit_113 : decode cX4_limit 113 = .ok (.ireturn, 1) := by decide +kernel
theorem dX4_limit_114 : decode cX4_limit 114 = .ok (.iconst (-1), 1) := by decide +kernel
theorem dX4_limit_115 : decode cX4_limit 115 = .ok (.ireturn, 1) := by decide +kernel
theorem dX4_event_0 : decode cX4_event 0 = .ok (.aload_n 0, 1) := by decide +kernel
theorem dX4_event_1 : decode cX4_event 1 = .ok (.iconst 0, 1) := by decide +kernel
theorem dX4_event_2 : decode cX4_event 2 = .ok (.putfield 63, 3) := by decide +kernel
theorem dX4_event_5 : decode cX4_event 5 = .ok (.iload_n 1, 1) := by decide +kernel
theorem dX4_event_6 : decode cX4_event 6 = .ok (.invokestatic 96, 3) := by decide +kernel
theorem dX4_event_9 : decode cX4_event 9 = .ok (.ifCond .ne 5, 3) := by decide +kernel
theorem dX4_event_12 : decode cX4_event 12 = .ok (.iconst (-1), 1) := by decide +kernel
theorem dX4_event_13 : decode cX4_event 13 = .ok (.ireturn, 1) := by decide +kernel
theorem dX4_event_14 : decode cX4_event 14 = .ok (.iload_n 2, 1) := by decide +kernel
theorem dX4_event_15 : decode cX4_event 15 = .ok (.ifCond .ne 20, 3) := by decide +kernel
theorem dX4_event_18 : decode cX4_event 18 = .ok (.aload_n 0, 1) := by decide +kernel
theorem dX4_event_19 : decode cX4_event 19 = .ok (.getfield 47, 3) := by decide +kernel
theorem dX4_event_22 : decode cX4_event 22 = .ok (.iload_n 1, 1) := by decide +kernel
theorem dX4_event_23 : decode cX4_event 23 = .ok (.baload, 1) := by decide +kernel
theorem dX4_event_24 : decode cX4_event 24 = .ok (.ifCond .eq 7, 3) := by decide +kernel
theorem dX4_event_27 : decode cX4_event 27 = .ok (.iconst 0, 1) := by decide +kernel
theorem dX4_event_28 : decode cX4_event 28 = .ok (.goto 53, 3) := by decide +kernel
theorem dX4_event_31 : decode cX4_event 31 = .ok (.iconst 1, 1) := by decide +kernel
theorem dX4_event_32 : decode cX4_event 32 = .ok (.goto 49, 3) := by decide +kernel
theorem dX4_event_35 : decode cX4_event 35 = .ok (.iload_n 2, 1) := by decide +kernel
theorem dX4_event_36 : decode cX4_event 36 = .ok (.iconst 1, 1) := by decide +kernel
theorem dX4_event_37 : decode cX4_event 37 = .ok (.if_icmp .ne 12, 3) := by decide +kernel
theorem dX4_event_40 : decode cX4_event 40 = .ok (.aload_n 0, 1) := by decide +kernel
theorem dX4_event_41 : decode cX4_event 41 = .ok (.getfield 50, 3) := by decide +kernel
theorem dX4_event_44 : decode cX4_event 44 = .ok (.iload_n 1, 1) := by decide +kernel
theorem dX4_event_45 : decode cX4_event 45 = .ok (.iaload, 1) := by decide +kernel
theorem dX4_event_46 : decode cX4_event 46 = .ok (.goto 35, 3) := by decide +kernel
theorem dX4_event_49 : decode cX4_event 49 = .ok (.iload_n 2, 1) := by decide +kernel
theorem dX4_event_50 : decode cX4_event 50 = .ok (.iconst 2, 1) := by decide +kernel
theorem dX4_event_51 : decode cX4_event 51 = .ok (.if_icmp .ne 29, 3) := by decide +kernel
theorem dX4_event_54 : decode cX4_event 54 = .ok (.aload_n 0, 1) := by decide +kernel
theorem dX4_event_55 : decode cX4_event 55 = .ok (.getfield 50, 3) := by decide +kernel
theorem dX4_event_58 : decode cX4_event 58 = .ok (.iload_n 1, 1) := by decide +kernel
theorem dX4_event_59 : decode cX4_event 59 = .ok (.iaload, 1) := by decide +kernel
theorem dX4_event_60 : decode cX4_event 60 = .ok (.ifCond .le 16, 3) := by decide +kernel
theorem dX4_event_63 : decode cX4_event 63 = .ok (.aload_n 0, 1) := by decide +kernel
theorem dX4_event_64 : decode cX4_event 64 = .ok (.getfield 53, 3) := by decide +kernel
theorem dX4_event_67 : decode cX4_event 67 = .ok (.iload_n 1, 1) := by decide +kernel
theorem dX4_event_68 : decode cX4_event 68 = .ok (.baload, 1) := by decide +kernel
theorem dX4_event_69 : decode cX4_event 69 = .ok (.ifCond .eq 7, 3) := by decide +kernel
theorem dX4_event_72 : decode cX4_event 72 = .ok (.iconst 1, 1) := by decide +kernel
theorem dX4_event_73 : decode cX4_event 73 = .ok (.goto 8, 3) := by decide +kernel
theorem dX4_event_76 : decode cX4_event 76 = .ok (.iconst 0, 1) := by decide +kernel
theorem dX4_event_77 : decode cX4_event 77 = .ok (.goto 4, 3) := by decide +kernel
theorem dX4_event_80 : decode cX4_event 80 = .ok (.iconst (-1), 1) := by decide +kernel
theorem dX4_event_81 : decode cX4_event 81 = .ok (.ireturn, 1) := by decide +kernel
theorem dX4_actionAt_0 : decode cX4_actionAt 0 = .ok (.aload_n 0, 1) := by decide +kernel
theorem dX4_actionAt_1 : decode cX4_actionAt 1 = .ok (.iconst 0, 1) := by decide +kernel
theorem dX4_actionAt_2 : decode cX4_actionAt 2 = .ok (.putfield 63, 3) := by decide +kernel
theorem dX4_actionAt_5 : decode cX4_actionAt 5 = .ok (.iload_n 1, 1) := by decide +kernel
theorem dX4_actionAt_6 : decode cX4_actionAt 6 = .ok (.invokestatic 96, 3) := by decide +kernel
theorem dX4_actionAt_9 : decode cX4_actionAt 9 = .ok (.ifCond .eq 36, 3) := by decide +kernel
theorem dX4_actionAt_12 : decode cX4_actionAt 12 = .ok (.iload_n 2, 1) := by decide +kernel
theorem dX4_actionAt_13 : decode cX4_actionAt 13 = .ok (.ifCond .lt 32, 3) := by decide +kernel
theorem dX4_actionAt_16 : decode cX4_actionAt 16 = .ok (.iload_n 2, 1) := by decide +kernel
theorem dX4_actionAt_17 : decode cX4_actionAt 17 = .ok (.aload_n 0, 1) := by decide +kernel
theorem dX4_actionAt_18 : decode cX4_actionAt 18 = .ok (.getfield 50, 3) := by decide +kernel
theorem dX4_actionAt_21 : decode cX4_actionAt 21 = .ok (.iload_n 1, 1) := by decide +kernel
theorem dX4_actionAt_22 : decode cX4_actionAt 22 = .ok (.iaload, 1) := by decide +kernel
theorem dX4_actionAt_23 : decode cX4_actionAt 23 = .ok (.if_icmp .ge 22, 3) := by decide +kernel
theorem dX4_actionAt_26 : decode cX4_actionAt 26 = .ok (.aload_n 0, 1) := by decide +kernel
theorem dX4_actionAt_27 : decode cX4_actionAt 27 = .ok (.getfield 56, 3) := by decide +kernel
theorem dX4_actionAt_30 : decode cX4_actionAt 30 = .ok (.sipush 256, 3) := by decide +kernel
theorem dX4_actionAt_33 : decode cX4_actionAt 33 = .ok (.iload_n 1, 1) := by decide +kernel
theorem dX4_actionAt_34 : decode cX4_actionAt 34 = .ok (.imul, 1) := by decide +kernel
theorem dX4_actionAt_35 : decode cX4_actionAt 35 = .ok (.iload_n 2, 1) := by decide +kernel
theorem dX4_actionAt_36 : decode cX4_actionAt 36 = .ok (.iadd, 1) := by decide +kernel
theorem dX4_actionAt_37 : decode cX4_actionAt 37 = .ok (.baload, 1) := by decide +kernel
theorem dX4_actionAt_38 : decode cX4_actionAt 38 = .ok (.sipush 255, 3) := by decide +kernel
theorem dX4_actionAt_41 : decode cX4_actionAt 41 = .ok (.iand, 1) := by decide +kernel
theorem dX4_actionAt_42 : decode cX4_actionAt 42 = .ok (.goto 4, 3) := by decide +kernel
theorem dX4_actionAt_45 : decode cX4_actionAt 45 = .ok (.iconst (-1), 1) := by decide +kernel
theorem dX4_actionAt_46 : decode cX4_actionAt 46 = .ok (.ireturn, 1) := by decide +kernel
theorem dX4_count_0 : decode cX4_count 0 = .ok (.aload_n 0, 1) := by decide +kernel
theorem dX4_count_1 : decode cX4_count 1 = .ok (.iconst 0, 1) := by decide +kernel
theorem dX4_count_2 : decode cX4_count 2 = .ok (.putfield 63, 3) := by decide +kernel
theorem dX4_count_5 : decode cX4_count 5 = .ok (.iload_n 1, 1) := by decide +kernel
theorem dX4_count_6 : decode cX4_count 6 = .ok (.ifCond .ne 10, 3) := by decide +kernel
theorem dX4_count_9 : decode cX4_count 9 = .ok (.aload_n 0, 1) := by decide +kernel
theorem dX4_count_10 : decode cX4_count 10 = .ok (.invokevirtual 71, 3) := by decide +kernel
theorem dX4_count_13 : decode cX4_count 13 = .ok (.goto 52, 3) := by decide +kernel
theorem dX4_count_16 : decode cX4_count 16 = .ok (.iload_n 1, 1) := by decide +kernel
theorem dX4_count_17 : decode cX4_count 17 = .ok (.iconst 1, 1) := by decide +kernel
theorem dX4_count_18 : decode cX4_count 18 = .ok (.if_icmp .ne 10, 3) := by decide +kernel
theorem dX4_count_21 : decode cX4_count 21 = .ok (.aload_n 0, 1) := by decide +kernel
theorem dX4_count_22 : decode cX4_count 22 = .ok (.getfield 93, 3) := by decide +kernel
theorem dX4_count_25 : decode cX4_count 25 = .ok (.goto 40, 3) := by decide +kernel
theorem dX4_count_28 : decode cX4_count 28 = .ok (.iload_n 1, 1) := by decide +kernel
theorem dX4_count_29 : decode cX4_count 29 = .ok (.iconst 2, 1) := by decide +kernel
theorem dX4_count_30 : decode cX4_count 30 = .ok (.if_icmp .ne 10, 3) := by decide +kernel
theorem dX4_count_33 : decode cX4_count 33 = .ok (.aload_n 0, 1) := by decide +kernel
theorem dX4_count_34 : decode cX4_count 34 = .ok (.getfield 79, 3) := by decide +kernel
theorem dX4_count_37 : decode cX4_count 37 = .ok (.goto 28, 3) := by decide +kernel
theorem dX4_count_40 : decode cX4_count 40 = .ok (.iload_n 1, 1) := by decide +kernel
theorem dX4_count_41 : decode cX4_count 41 = .ok (.iconst 3, 1) := by decide +kernel
theorem dX4_count_42 : decode cX4_count 42 = .ok (.if_icmp .ne 10, 3) := by decide +kernel
theorem dX4_count_45 : decode cX4_count 45 = .ok (.aload_n 0, 1) := by decide +kernel
theorem dX4_count_46 : decode cX4_count 46 = .ok (.getfield 82, 3) := by decide +kernel
theorem dX4_count_49 : decode cX4_count 49 = .ok (.goto 16, 3) := by decide +kernel
theorem dX4_count_52 : decode cX4_count 52 = .ok (.iload_n 1, 1) := by decide +kernel
theorem dX4_count_53 : decode cX4_count 53 = .ok (.iconst 4, 1) := by decide +kernel
theorem dX4_count_54 : decode cX4_count 54 = .ok (.if_icmp .ne 10, 3) := by decide +kernel
theorem dX4_count_57 : decode cX4_count 57 = .ok (.aload_n 0, 1) := by decide +kernel
theorem dX4_count_58 : decode cX4_count 58 = .ok (.getfield 99, 3) := by decide +kernel
theorem dX4_count_61 : decode cX4_count 61 = .ok (.goto 4, 3) := by decide +kernel
theorem dX4_count_64 : decode cX4_count 64 = .ok (.iconst (-1), 1) := by decide +kernel
theorem dX4_count_65 : decode cX4_count 65 = .ok (.ireturn, 1) := by decide +kernel
end
section
theorem dL_law_0 : decode cL_law 0 = .ok (.new 7, 3) := by decide +kernel
theorem dL_law_3 : decode cL_law 3 = .ok (.dup, 1) := by decide +kernel
theorem dL_law_4 : decode cL_law 4 = .ok (.invokespecial 9, 3) := by decide +kernel
theorem dL_law_7 : decode cL_law 7 = .ok (.astore_n 1, 1) := by decide +kernel
theorem dL_law_8 : decode cL_law 8 = .ok (.new 10, 3) := by decide +kernel
theorem dL_law_11 : decode cL_law 11 = .ok (.dup, 1) := by decide +kernel
theorem dL_law_12 : decode cL_law 12 = .ok (.invokespecial 12, 3) := by decide +kernel
theorem dL_law_15 : decode cL_law 15 = .ok (.astore_n 2, 1) := by decide +kernel
theorem dL_law_16 : decode cL_law 16 = .ok (.iconst 0, 1) := by decide +kernel
theorem dL_law_17 : decode cL_law 17 = .ok (.istore_n 3, 1) := by decide +kernel
theorem dL_law_18 : decode cL_law 18 = .ok (.iload_n 3, 1) := by decide +kernel
theorem dL_law_19 : decode cL_law 19 = .ok (.aload_n 0, 1) := by decide +kernel
theorem dL_law_20 : decode cL_law 20 = .ok (.arraylength, 1) := by decide +kernel
theorem dL_law_21 : decode cL_law 21 = .ok (.bipush 8, 2) := by decide +kernel
theorem dL_law_23 : decode cL_law 23 = .ok (.isub, 1) := by decide +kernel
theorem dL_law_24 : decode cL_law 24 = .ok (.if_icmp .gt 684, 3) := by decide +kernel
theorem dL_law_27 : decode cL_law 27 = .ok (.aload_n 0, 1) := by decide +kernel
theorem dL_law_28 : decode cL_law 28 = .ok (.iload_n 3, 1) := by decide +kernel
theorem dL_law_29 : decode cL_law 29 = .ok (.iaload, 1) := by decide +kernel
theorem dL_law_30 : decode cL_law 30 = .ok (.bipush 31, 2) := by decide +kernel
theorem dL_law_32 : decode cL_law 32 = .ok (.iand, 1) := by decide +kernel
theorem dL_law_33 : decode cL_law 33 = .ok (.tableswitch 669 0 17 #[87, 120, 223, 246, 295, 308, 321, 354, 367, 380, 429, 452, 475, 498, 547, 580, 613, 646], 87) := by decide +kernel
theorem dL_law_120 : decode cL_law 120 = .ok (.aload_n 1, 1) := by decide +kernel
theorem dL_law_121 : decode cL_law 121 = .ok (.aload_n 0, 1) := by decide +kernel
theorem dL_law_122 : decode cL_law 122 = .ok (.iload_n 3, 1) := by decide +kernel
theorem dL_law_123 : decode cL_law 123 = .ok (.iconst 1, 1) := by decide +kernel
theorem dL_law_124 : decode cL_law 124 = .ok (.iadd, 1) := by decide +kernel
theorem dL_law_125 : decode cL_law 125 = .ok (.iaload, 1) := by decide +kernel
theorem dL_law_126 : decode cL_law 126 = .ok (.aload_n 0, 1) := by decide +kernel
theorem dL_law_127 : decode cL_law 127 = .ok (.iload_n 3, 1) := by decide +kernel
theorem dL_law_128 : decode cL_law 128 = .ok (.iconst 2, 1) := by decide +kernel
theorem dL_law_129 : decode cL_law 129 = .ok (.iadd, 1) := by decide +kernel
theorem dL_law_130 : decode cL_law 130 = .ok (.iaload, 1) := by decide +kernel
theorem dL_law_131 : decode cL_law 131 = .ok (.invokevirtual 13, 3) := by decide +kernel
theorem dL_law_134 : decode cL_law 134 = .ok (.aload_n 2, 1) := by decide +kernel
theorem dL_law_135 : decode cL_law 135 = .ok (.aload_n 0, 1) := by decide +kernel
theorem dL_law_136 : decode cL_law 136 = .ok (.iload_n 3, 1) := by decide +kernel
theorem dL_law_137 : decode cL_law 137 = .ok (.iconst 1, 1) := by decide +kernel
theorem dL_law_138 : decode cL_law 138 = .ok (.iadd, 1) := by decide +kernel
theorem dL_law_139 : decode cL_law 139 = .ok (.iaload, 1) := by decide +kernel
theorem dL_law_140 : decode cL_law 140 = .ok (.aload_n 0, 1) := by decide +kernel
theorem dL_law_141 : decode cL_law 141 = .ok (.iload_n 3, 1) := by decide +kernel
theorem dL_law_142 : decode cL_law 142 = .ok (.iconst 2, 1) := by decide +kernel
theorem dL_law_143 : decode cL_law 143 = .ok (.iadd, 1) := by decide +kernel
theorem dL_law_144 : decode cL_law 144 = .ok (.iaload, 1) := by decide +kernel
theorem dL_law_145 : decode cL_law 145 = .ok (.invokevirtual 17, 3) := by decide +kernel
theorem dL_law_148 : decode cL_law 148 = .ok (.if_icmp .eq 554, 3) := by decide +kernel
theorem dL_law_151 : decode cL_law 151 = .ok (.iconst 0, 1) := by decide +kernel
theorem dL_law_152 : decode cL_law 152 = .ok (.ireturn, 1) := by decide +kernel
theorem dL_law_153 : decode cL_law 153 = .ok (.aload_n 1, 1) := by decide +kernel
theorem dL_law_154 : decode cL_law 154 = .ok (.aload_n 0, 1) := by decide +kernel
theorem dL_law_155 : decode cL_law 155 = .ok (.iload_n 3, 1) := by decide +kernel
theorem dL_law_156 : decode cL_law 156 = .ok (.iconst 1, 1) := by decide +kernel
theorem dL_law_157 : decode cL_law 157 = .ok (.iadd, 1) := by decide +kernel
theorem dL_law_158 : decode cL_law 158 = .ok (.iaload, 1) := by decide +kernel
theorem dL_law_159 : decode cL_law 159 = .ok (.aload_n 0, 1) := by decide +kernel
theorem dL_law_160 : decode cL_law 160 = .ok (.iload_n 3, 1) := by decide +kernel
theorem dL_law_161 : decode cL_law 161 = .ok (.iconst 2, 1) := by decide +kernel
theorem dL_law_162 : decode cL_law 162 = .ok (.iadd, 1) := by decide +kernel
theorem dL_law_163 : decode cL_law 163 = .ok (.iaload, 1) := by decide +kernel
theorem dL_law_164 : decode cL_law 164 = .ok (.aload_n 0, 1) := by decide +kernel
theorem dL_law_165 : decode cL_law 165 = .ok (.iload_n 3, 1) := by decide +kernel
theorem dL_law_166 : decode cL_law 166 = .ok (.iconst 3, 1) := by decide +kernel
theorem dL_law_167 : decode cL_law 167 = .ok (.iadd, 1) := by decide +kernel
theorem dL_law_168 : decode cL_law 168 = .ok (.iaload, 1) := by decide +kernel
theorem dL_law_169 : decode cL_law 169 = .ok (.aload_n 0, 1) := by decide +kernel
theorem dL_law_170 : decode cL_law 170 = .ok (.iload_n 3, 1) := by decide +kernel
theorem dL_law_171 : decode cL_law 171 = .ok (.iconst 4, 1) := by decide +kernel
theorem dL_law_172 : decode cL_law 172 = .ok (.iadd, 1) := by decide +kernel
theorem dL_law_173 : decode cL_law 173 = .ok (.iaload, 1) := by decide +kernel
theorem dL_law_174 : decode cL_law 174 = .ok (.aload_n 0, 1) := by decide +kernel
theorem dL_law_175 : decode cL_law 175 = .ok (.iload_n 3, 1) := by decide +kernel
theorem dL_law_176 : decode cL_law 176 = .ok (.iconst 5, 1) := by decide +kernel
theorem dL_law_177 : decode cL_law 177 = .ok (.iadd, 1) := by decide +kernel
theorem dL_law_178 : decode cL_law 178 = .ok (.iaload, 1) := by decide +kernel
theorem dL_law_179 : decode cL_law 179 = .ok (.aload_n 0, 1) := by decide +kernel
theorem dL_law_180 : decode cL_law 180 = .ok (.iload_n 3, 1) := by decide +kernel
theorem dL_law_181 : decode cL_law 181 = .ok (.bipush 6, 2) := by decide +kernel
theorem dL_law_183 : decode cL_law 183 = .ok (.iadd, 1) := by decide +kernel
theorem dL_law_184 : decode cL_law 184 = .ok (.iaload, 1) := by decide +kernel
theorem dL_law_185 : decode cL_law 185 = .ok (.aload_n 0, 1) := by decide +kernel
theorem dL_law_186 : decode cL_law 186 = .ok (.iload_n 3, 1) := by decide +kernel
theorem dL_law_187 : decode cL_law 187 = .ok (.bipush 7, 2) := by decide +kernel
theorem dL_law_189 : decode cL_law 189 = .ok (.iadd, 1) := by decide +kernel
theorem dL_law_190 : decode cL_law 190 = .ok (.iaload, 1) := by decide +kernel
theorem dL_law_191 : decode cL_law 191 = .ok (.ifCond .eq 7, 3) := by decide +kernel
theorem dL_law_194 : decode cL_law 194 = .ok (.iconst 1, 1) := by decide +kernel
theorem dL_law_195 : decode cL_law 195 = .ok (.goto 4, 3) := by decide +kernel
theorem dL_law_198 : decode cL_law 198 = .ok (.iconst 0, 1) := by decide +kernel
theorem dL_law_199 : decode cL_law 199 = .ok (.invokevirtual 18, 3) := by decide +kernel
theorem dL_law_202 : decode cL_law 202 = .ok (.aload_n 2, 1) := by decide +kernel
theorem dL_law_203 : decode cL_law 203 = .ok (.aload_n 0, 1) := by decide +kernel
theorem dL_law_204 : decode cL_law 204 = .ok (.iload_n 3, 1) := by decide +kernel
theorem dL_law_205 : decode cL_law 205 = .ok (.iconst 1, 1) := by decide +kernel
theorem dL_law_206 : decode cL_law 206 = .ok (.iadd, 1) := by decide +kernel
theorem dL_law_207 : decode cL_law 207 = .ok (.iaload, 1) := by decide +kernel
theorem dL_law_208 : decode cL_law 208 = .ok (.aload_n 0, 1) := by decide +kernel
theorem dL_law_209 : decode cL_law 209 = .ok (.iload_n 3, 1) := by decide +kernel
theorem dL_law_210 : decode cL_law 210 = .ok (.iconst 2, 1) := by decide +kernel
theorem dL_law_211 : decode cL_law 211 = .ok (.iadd, 1) := by decide +kernel
theorem dL_law_212 : decode cL_law 212 = .ok (.iaload, 1) := by decide +kernel
theorem dL_law_213 : decode cL_law 213 = .ok (.aload_n 0, 1) := by decide +kernel
theorem dL_law_214 : decode cL_law 214 = .ok (.iload_n 3, 1) := by decide +kernel
theorem dL_law_215 : decode cL_law 215 = .ok (.iconst 3, 1) := by decide +kernel
theorem dL_law_216 : decode cL_law 216 = .ok (.iadd, 1) := by decide +kernel
theorem dL_law_217 : decode cL_law 217 = .ok (.iaload, 1) := by decide +kernel
theorem dL_law_218 : decode cL_law 218 = .ok (.aload_n 0, 1) := by decide +kernel
theorem dL_law_219 : decode cL_law 219 = .ok (.iload_n 3, 1) := by decide +kernel
theorem dL_law_220 : decode cL_law 220 = .ok (.iconst 4, 1) := by decide +kernel
theorem dL_law_221 : decode cL_law 221 = .ok (.iadd, 1) := by decide +kernel
theorem dL_law_222 : decode cL_law 222 = .ok (.iaload, 1) := by decide +kernel
theorem dL_law_223 : decode cL_law 223 = .ok (.aload_n 0, 1) := by decide +kernel
theorem dL_law_224 : decode cL_law 224 = .ok (.iload_n 3, 1) := by decide +kernel
theorem dL_law_225 : decode cL_law 225 = .ok (.iconst 5, 1) := by decide +kernel
theorem dL_law_226 : decode cL_law 226 = .ok (.iadd, 1) := by decide +kernel
theorem dL_law_227 : decode cL_law 227 = .ok (.iaload, 1) := by decide +kernel
theorem dL_law_228 : decode cL_law 228 = .ok (.aload_n 0, 1) := by decide +kernel
theorem dL_law_229 : decode cL_law 229 = .ok (.iload_n 3, 1) := by decide +kernel
theorem dL_law_230 : decode cL_law 230 = .ok (.bipush 6, 2) := by decide +kernel
theorem dL_law_232 : decode cL_law 232 = .ok (.iadd, 1) := by decide +kernel
theorem dL_law_233 : decode cL_law 233 = .ok (.iaload, 1) := by decide +kernel
theorem dL_law_234 : decode cL_law 234 = .ok (.aload_n 0, 1) := by decide +kernel
theorem dL_law_235 : decode cL_law 235 = .ok (.iload_n 3, 1) := by decide +kernel
theorem dL_law_236 : decode cL_law 236 = .ok (.bipush 7, 2) := by decide +kernel
theorem dL_law_238 : decode cL_law 238 = .ok (.iadd, 1) := by decide +kernel
theorem dL_law_239 : decode cL_law 239 = .ok (.iaload, 1) := by decide +kernel
theorem dL_law_240 : decode cL_law 240 = .ok (.ifCond .eq 7, 3) := by decide +kernel
theorem dL_law_243 : decode cL_law 243 = .ok (.iconst 1, 1) := by decide +kernel
theorem dL_law_244 : decode cL_law 244 = .ok (.goto 4, 3) := by decide +kernel
theorem dL_law_247 : decode cL_law 247 = .ok (.iconst 0, 1) := by decide +kernel
theorem dL_law_248 : decode cL_law 248 = .ok (.invokevirtual 22, 3) := by decide +kernel
theorem dL_law_251 : decode cL_law 251 = .ok (.if_icmp .eq 451, 3) := by decide +kernel
theorem dL_law_254 : decode cL_law 254 = .ok (.iconst 0, 1) := by decide +kernel
theorem dL_law_255 : decode cL_law 255 = .ok (.ireturn, 1) := by decide +kernel
theorem dL_law_256 : decode cL_law 256 = .ok (.aload_n 1, 1) := by decide +kernel
theorem dL_law_257 : decode cL_law 257 = .ok (.aload_n 0, 1) := by decide +kernel
theorem dL_law_258 : decode cL_law 258 = .ok (.iload_n 3, 1) := by decide +kernel
theorem dL_law_259 : decode cL_law 259 = .ok (.iconst 1, 1) := by decide +kernel
theorem dL_law_260 : decode cL_law 260 = .ok (.iadd, 1) := by decide +kernel
theorem dL_law_261 : decode cL_law 261 = .ok (.iaload, 1) := by decide +kernel
theorem dL_law_262 : decode cL_law 262 = .ok (.invokevirtual 23, 3) := by decide +kernel
theorem dL_law_265 : decode cL_law 265 = .ok (.aload_n 2, 1) := by decide +kernel
theorem dL_law_266 : decode cL_law 266 = .ok (.aload_n 0, 1) := by decide +kernel
theorem dL_law_267 : decode cL_law 267 = .ok (.iload_n 3, 1) := by decide +kernel
theorem dL_law_268 : decode cL_law 268 = .ok (.iconst 1, 1) := by decide +kernel
theorem dL_law_269 : decode cL_law 269 = .ok (.iadd, 1) := by decide +kernel
theorem dL_law_270 : decode cL_law 270 = .ok (.iaload, 1) := by decide +kernel
theorem dL_law_271 : decode cL_law 271 = .ok (.invokevirtual 27, 3) := by decide +kernel
theorem dL_law_274 : decode cL_law 274 = .ok (.if_icmp .eq 428, 3) := by decide +kernel
theorem dL_law_277 : decode cL_law 277 = .ok (.iconst 0, 1) := by decide +kernel
theorem dL_law_278 : decode cL_law 278 = .ok (.ireturn, 1) := by decide +kernel
theorem dL_law_279 : decode cL_law 279 = .ok (.aload_n 1, 1) := by decide +kernel
theorem dL_law_280 : decode cL_law 280 = .ok (.aload_n 0, 1) := by decide +kernel
theorem dL_law_281 : decode cL_law 281 = .ok (.iload_n 3, 1) := by decide +kernel
theorem dL_law_282 : decode cL_law 282 = .ok (.iconst 1, 1) := by decide +kernel
theorem dL_law_283 : decode cL_law 283 = .ok (.iadd, 1) := by decide +kernel
theorem dL_law_284 : decode cL_law 284 = .ok (.iaload, 1) := by decide +kernel
theorem dL_law_285 : decode cL_law 285 = .ok (.aload_n 0, 1) := by decide +kernel
theorem dL_law_286 : decode cL_law 286 = .ok (.iload_n 3, 1) := by decide +kernel
theorem dL_law_287 : decode cL_law 287 = .ok (.iconst 2, 1) := by decide +kernel
theorem dL_law_288 : decode cL_law 288 = .ok (.iadd, 1) := by decide +kernel
theorem dL_law_289 : decode cL_law 289 = .ok (.iaload, 1) := by decide +kernel
theorem dL_law_290 : decode cL_law 290 = .ok (.ifCond .eq 7, 3) := by decide +kernel
theorem dL_law_293 : decode cL_law 293 = .ok (.iconst 1, 1) := by decide +kernel
theorem dL_law_294 : decode cL_law 294 = .ok (.goto 4, 3) := by decide +kernel
theorem dL_law_297 : decode cL_law 297 = .ok (.iconst 0, 1) := by decide +kernel
theorem dL_law_298 : decode cL_law 298 = .ok (.invokevirtual 28, 3) := by decide +kernel
theorem dL_law_301 : decode cL_law 301 = .ok (.aload_n 2, 1) := by decide +kernel
theorem dL_law_302 : decode cL_law 302 = .ok (.aload_n 0, 1) := by decide +kernel
theorem dL_law_303 : decode cL_law 303 = .ok (.iload_n 3, 1) := by decide +kernel
theorem dL_law_304 : decode cL_law 304 = .ok (.iconst 1, 1) := by decide +kernel
theorem dL_law_305 : decode cL_law 305 = .ok (.iadd, 1) := by decide +kernel
theorem dL_law_306 : decode cL_law 306 = .ok (.iaload, 1) := by decide +kernel
theorem dL_law_307 : decode cL_law 307 = .ok (.aload_n 0, 1) := by decide +kernel
theorem dL_law_308 : decode cL_law 308 = .ok (.iload_n 3, 1) := by decide +kernel
theorem dL_law_309 : decode cL_law 309 = .ok (.iconst 2, 1) := by decide +kernel
theorem dL_law_310 : decode cL_law 310 = .ok (.iadd, 1) := by decide +kernel
theorem dL_law_311 : decode cL_law 311 = .ok (.iaload, 1) := by decide +kernel
theorem dL_law_312 : decode cL_law 312 = .ok (.ifCond .eq 7, 3) := by decide +kernel
theorem dL_law_315 : decode cL_law 315 = .ok (.iconst 1, 1) := by decide +kernel
theorem dL_law_316 : decode cL_law 316 = .ok (.goto 4, 3) := by decide +kernel
theorem dL_law_319 : decode cL_law 319 = .ok (.iconst 0, 1) := by decide +kernel
theorem dL_law_320 : decode cL_law 320 = .ok (.invokevirtual 32, 3) := by decide +kernel
theorem dL_law_323 : decode cL_law 323 = .ok (.if_icmp .eq 379, 3) := by decide +kernel
theorem dL_law_326 : decode cL_law 326 = .ok (.iconst 0, 1) := by decide +kernel
theorem dL_law_327 : decode cL_law 327 = .ok (.ireturn, 1) := by decide +kernel
theorem dL_law_328 : decode cL_law 328 = .ok (.aload_n 1, 1) := by decide +kernel
theorem dL_law_329 : decode cL_law 329 = .ok (.invokevirtual 33, 3) := by decide +kernel
theorem dL_law_332 : decode cL_law 332 = .ok (.aload_n 2, 1) := by decide +kernel
theorem dL_law_333 : decode cL_law 333 = .ok (.invokevirtual 37, 3) := by decide +kernel
theorem dL_law_336 : decode cL_law 336 = .ok (.if_icmp .eq 366, 3) := by decide +kernel
theorem dL_law_339 : decode cL_law 339 = .ok (.iconst 0, 1) := by decide +kernel
theorem dL_law_340 : decode cL_law 340 = .ok (.ireturn, 1) := by decide +kernel
theorem dL_law_341 : decode cL_law 341 = .ok (.aload_n 1, 1) := by decide +kernel
theorem dL_law_342 : decode cL_law 342 = .ok (.invokevirtual 38, 3) := by decide +kernel
theorem dL_law_345 : decode cL_law 345 = .ok (.aload_n 2, 1) := by decide +kernel
theorem dL_law_346 : decode cL_law 346 = .ok (.invokevirtual 42, 3) := by decide +kernel
theorem dL_law_349 : decode cL_law 349 = .ok (.if_icmp .eq 353, 3) := by decide +kernel
theorem dL_law_352 : decode cL_law 352 = .ok (.iconst 0, 1) := by decide +kernel
theorem dL_law_353 : decode cL_law 353 = .ok (.ireturn, 1) := by decide +kernel
theorem dL_law_354 : decode cL_law 354 = .ok (.aload_n 1, 1) := by decide +kernel
theorem dL_law_355 : decode cL_law 355 = .ok (.aload_n 0, 1) := by decide +kernel
theorem dL_law_356 : decode cL_law 356 = .ok (.iload_n 3, 1) := by decide +kernel
theorem dL_law_357 : decode cL_law 357 = .ok (.iconst 1, 1) := by decide +kernel
theorem dL_law_358 : decode cL_law 358 = .ok (.iadd, 1) := by decide +kernel
theorem dL_law_359 : decode cL_law 359 = .ok (.iaload, 1) := by decide +kernel
theorem dL_law_360 : decode cL_law 360 = .ok (.aload_n 0, 1) := by decide +kernel
theorem dL_law_361 : decode cL_law 361 = .ok (.iload_n 3, 1) := by decide +kernel
theorem dL_law_362 : decode cL_law 362 = .ok (.iconst 2, 1) := by decide +kernel
theorem dL_law_363 : decode cL_law 363 = .ok (.iadd, 1) := by decide +kernel
theorem dL_law_364 : decode cL_law 364 = .ok (.iaload, 1) := by decide +kernel
theorem dL_law_365 : decode cL_law 365 = .ok (.invokevirtual 43, 3) := by decide +kernel
theorem dL_law_368 : decode cL_law 368 = .ok (.aload_n 2, 1) := by decide +kernel
theorem dL_law_369 : decode cL_law 369 = .ok (.aload_n 0, 1) := by decide +kernel
theorem dL_law_370 : decode cL_law 370 = .ok (.iload_n 3, 1) := by decide +kernel
theorem dL_law_371 : decode cL_law 371 = .ok (.iconst 1, 1) := by decide +kernel
theorem dL_law_372 : decode cL_law 372 = .ok (.iadd, 1) := by decide +kernel
theorem dL_law_373 : decode cL_law 373 = .ok (.iaload, 1) := by decide +kernel
theorem dL_law_374 : decode cL_law 374 = .ok (.aload_n 0, 1) := by decide +kernel
theorem dL_law_375 : decode cL_law 375 = .ok (.iload_n 3, 1) := by decide +kernel
theorem dL_law_376 : decode cL_law 376 = .ok (.iconst 2, 1) := by decide +kernel
theorem dL_law_377 : decode cL_law 377 = .ok (.iadd, 1) := by decide +kernel
theorem dL_law_378 : decode cL_law 378 = .ok (.iaload, 1) := by decide +kernel
theorem dL_law_379 : decode cL_law 379 = .ok (.invokevirtual 46, 3) := by decide +kernel
theorem dL_law_382 : decode cL_law 382 = .ok (.if_icmp .eq 320, 3) := by decide +kernel
theorem dL_law_385 : decode cL_law 385 = .ok (.iconst 0, 1) := by decide +kernel
theorem dL_law_386 : decode cL_law 386 = .ok (.ireturn, 1) := by decide +kernel
theorem dL_law_387 : decode cL_law 387 = .ok (.aload_n 1, 1) := by decide +kernel
theorem dL_law_388 : decode cL_law 388 = .ok (.invokevirtual 47, 3) := by decide +kernel
theorem dL_law_391 : decode cL_law 391 = .ok (.aload_n 2, 1) := by decide +kernel
theorem dL_law_392 : decode cL_law 392 = .ok (.invokevirtual 50, 3) := by decide +kernel
theorem dL_law_395 : decode cL_law 395 = .ok (.if_icmp .eq 307, 3) := by decide +kernel
theorem dL_law_398 : decode cL_law 398 = .ok (.iconst 0, 1) := by decide +kernel
theorem dL_law_399 : decode cL_law 399 = .ok (.ireturn, 1) := by decide +kernel
theorem dL_law_400 : decode cL_law 400 = .ok (.aload_n 1, 1) := by decide +kernel
theorem dL_law_401 : decode cL_law 401 = .ok (.invokevirtual 51, 3) := by decide +kernel
theorem dL_law_404 : decode cL_law 404 = .ok (.aload_n 2, 1) := by decide +kernel
theorem dL_law_405 : decode cL_law 405 = .ok (.invokevirtual 54, 3) := by decide +kernel
theorem dL_law_408 : decode cL_law 408 = .ok (.if_icmp .eq 294, 3) := by decide +kernel
theorem dL_law_411 : decode cL_law 411 = .ok (.iconst 0, 1) := by decide +kernel
theorem dL_law_412 : decode cL_law 412 = .ok (.ireturn, 1) := by decide +kernel
theorem dL_law_413 : decode cL_law 413 = .ok (.aload_n 1, 1) := by decide +kernel
theorem dL_law_414 : decode cL_law 414 = .ok (.aload_n 0, 1) := by decide +kernel
theorem dL_law_415 : decode cL_law 415 = .ok (.iload_n 3, 1) := by decide +kernel
theorem dL_law_416 : decode cL_law 416 = .ok (.iconst 1, 1) := by decide +kernel
theorem dL_law_417 : decode cL_law 417 = .ok (.iadd, 1) := by decide +kernel
theorem dL_law_418 : decode cL_law 418 = .ok (.iaload, 1) := by decide +kernel
theorem dL_law_419 : decode cL_law 419 = .ok (.aload_n 0, 1) := by decide +kernel
theorem dL_law_420 : decode cL_law 420 = .ok (.iload_n 3, 1) := by decide +kernel
theorem dL_law_421 : decode cL_law 421 = .ok (.iconst 2, 1) := by decide +kernel
theorem dL_law_422 : decode cL_law 422 = .ok (.iadd, 1) := by decide +kernel
theorem dL_law_423 : decode cL_law 423 = .ok (.iaload, 1) := by decide +kernel
theorem dL_law_424 : decode cL_law 424 = .ok (.ifCond .eq 7, 3) := by decide +kernel
theorem dL_law_427 : decode cL_law 427 = .ok (.iconst 1, 1) := by decide +kernel
theorem dL_law_428 : decode cL_law 428 = .ok (.goto 4, 3) := by decide +kernel
theorem dL_law_431 : decode cL_law 431 = .ok (.iconst 0, 1) := by decide +kernel
theorem dL_law_432 : decode cL_law 432 = .ok (.invokevirtual 55, 3) := by decide +kernel
theorem dL_law_435 : decode cL_law 435 = .ok (.aload_n 2, 1) := by decide +kernel
theorem dL_law_436 : decode cL_law 436 = .ok (.aload_n 0, 1) := by decide +kernel
theorem dL_law_437 : decode cL_law 437 = .ok (.iload_n 3, 1) := by decide +kernel
theorem dL_law_438 : decode cL_law 438 = .ok (.iconst 1, 1) := by decide +kernel
theorem dL_law_439 : decode cL_law 439 = .ok (.iadd, 1) := by decide +kernel
theorem dL_law_440 : decode cL_law 440 = .ok (.iaload, 1) := by decide +kernel
theorem dL_law_441 : decode cL_law 441 = .ok (.aload_n 0, 1) := by decide +kernel
theorem dL_law_442 : decode cL_law 442 = .ok (.iload_n 3, 1) := by decide +kernel
theorem dL_law_443 : decode cL_law 443 = .ok (.iconst 2, 1) := by decide +kernel
theorem dL_law_444 : decode cL_law 444 = .ok (.iadd, 1) := by decide +kernel
theorem dL_law_445 : decode cL_law 445 = .ok (.iaload, 1) := by decide +kernel
theorem dL_law_446 : decode cL_law 446 = .ok (.ifCond .eq 7, 3) := by decide +kernel
theorem dL_law_449 : decode cL_law 449 = .ok (.iconst 1, 1) := by decide +kernel
theorem dL_law_450 : decode cL_law 450 = .ok (.goto 4, 3) := by decide +kernel
theorem dL_law_453 : decode cL_law 453 = .ok (.iconst 0, 1) := by decide +kernel
theorem dL_law_454 : decode cL_law 454 = .ok (.invokevirtual 58, 3) := by decide +kernel
theorem dL_law_457 : decode cL_law 457 = .ok (.if_icmp .eq 245, 3) := by decide +kernel
theorem dL_law_460 : decode cL_law 460 = .ok (.iconst 0, 1) := by decide +kernel
theorem dL_law_461 : decode cL_law 461 = .ok (.ireturn, 1) := by decide +kernel
theorem dL_law_462 : decode cL_law 462 = .ok (.aload_n 1, 1) := by decide +kernel
theorem dL_law_463 : decode cL_law 463 = .ok (.aload_n 0, 1) := by decide +kernel
theorem dL_law_464 : decode cL_law 464 = .ok (.iload_n 3, 1) := by decide +kernel
theorem dL_law_465 : decode cL_law 465 = .ok (.iconst 1, 1) := by decide +kernel
theorem dL_law_466 : decode cL_law 466 = .ok (.iadd, 1) := by decide +kernel
theorem dL_law_467 : decode cL_law 467 = .ok (.iaload, 1) := by decide +kernel
theorem dL_law_468 : decode cL_law 468 = .ok (.invokevirtual 59, 3) := by decide +kernel
theorem dL_law_471 : decode cL_law 471 = .ok (.aload_n 2, 1) := by decide +kernel
theorem dL_law_472 : decode cL_law 472 = .ok (.aload_n 0, 1) := by decide +kernel
theorem dL_law_473 : decode cL_law 473 = .ok (.iload_n 3, 1) := by decide +kernel
theorem dL_law_474 : decode cL_law 474 = .ok (.iconst 1, 1) := by decide +kernel
theorem dL_law_475 : decode cL_law 475 = .ok (.iadd, 1) := by decide +kernel
theorem dL_law_476 : decode cL_law 476 = .ok (.iaload, 1) := by decide +kernel
theorem dL_law_477 : decode cL_law 477 = .ok (.invokevirtual 62, 3) := by decide +kernel
theorem dL_law_480 : decode cL_law 480 = .ok (.if_icmp .eq 222, 3) := by decide +kernel
theorem dL_law_483 : decode cL_law 483 = .ok (.iconst 0, 1) := by decide +kernel
theorem dL_law_484 : decode cL_law 484 = .ok (.ireturn, 1) := by decide +kernel
theorem dL_law_485 : decode cL_law 485 = .ok (.aload_n 1, 1) := by decide +kernel
theorem dL_law_486 : decode cL_law 486 = .ok (.aload_n 0, 1) := by decide +kernel
theorem dL_law_487 : decode cL_law 487 = .ok (.iload_n 3, 1) := by decide +kernel
theorem dL_law_488 : decode cL_law 488 = .ok (.iconst 1, 1) := by decide +kernel
theorem dL_law_489 : decode cL_law 489 = .ok (.iadd, 1) := by decide +kernel
theorem dL_law_490 : decode cL_law 490 = .ok (.iaload, 1) := by decide +kernel
theorem dL_law_491 : decode cL_law 491 = .ok (.invokevirtual 63, 3) := by decide +kernel
theorem dL_law_494 : decode cL_law 494 = .ok (.aload_n 2, 1) := by decide +kernel
theorem dL_law_495 : decode cL_law 495 = .ok (.aload_n 0, 1) := by decide +kernel
theorem dL_law_496 : decode cL_law 496 = .ok (.iload_n 3, 1) := by decide +kernel
theorem dL_law_497 : decode cL_law 497 = .ok (.iconst 1, 1) := by decide +kernel
theorem dL_law_498 : decode cL_law 498 = .ok (.iadd, 1) := by decide +kernel
theorem dL_law_499 : decode cL_law 499 = .ok (.iaload, 1) := by decide +kernel
theorem dL_law_500 : decode cL_law 500 = .ok (.invokevirtual 66, 3) := by decide +kernel
theorem dL_law_503 : decode cL_law 503 = .ok (.if_icmp .eq 199, 3) := by decide +kernel
theorem dL_law_506 : decode cL_law 506 = .ok (.iconst 0, 1) := by decide +kernel
theorem dL_law_507 : decode cL_law 507 = .ok (.ireturn, 1) := by decide +kernel
theorem dL_law_508 : decode cL_law 508 = .ok (.aload_n 1, 1) := by decide +kernel
theorem dL_law_509 : decode cL_law 509 = .ok (.aload_n 0, 1) := by decide +kernel
theorem dL_law_510 : decode cL_law 510 = .ok (.iload_n 3, 1) := by decide +kernel
theorem dL_law_511 : decode cL_law 511 = .ok (.iconst 1, 1) := by decide +kernel
theorem dL_law_512 : decode cL_law 512 = .ok (.iadd, 1) := by decide +kernel
theorem dL_law_513 : decode cL_law 513 = .ok (.iaload, 1) := by decide +kernel
theorem dL_law_514 : decode cL_law 514 = .ok (.invokevirtual 67, 3) := by decide +kernel
theorem dL_law_517 : decode cL_law 517 = .ok (.aload_n 2, 1) := by decide +kernel
theorem dL_law_518 : decode cL_law 518 = .ok (.aload_n 0, 1) := by decide +kernel
theorem dL_law_519 : decode cL_law 519 = .ok (.iload_n 3, 1) := by decide +kernel
theorem dL_law_520 : decode cL_law 520 = .ok (.iconst 1, 1) := by decide +kernel
theorem dL_law_521 : decode cL_law 521 = .ok (.iadd, 1) := by decide +kernel
theorem dL_law_522 : decode cL_law 522 = .ok (.iaload, 1) := by decide +kernel
theorem dL_law_523 : decode cL_law 523 = .ok (.invokevirtual 70, 3) := by decide +kernel
theorem dL_law_526 : decode cL_law 526 = .ok (.if_icmp .eq 176, 3) := by decide +kernel
theorem dL_law_529 : decode cL_law 529 = .ok (.iconst 0, 1) := by decide +kernel
theorem dL_law_530 : decode cL_law 530 = .ok (.ireturn, 1) := by decide +kernel
theorem dL_law_531 : decode cL_law 531 = .ok (.aload_n 1, 1) := by decide +kernel
theorem dL_law_532 : decode cL_law 532 = .ok (.aload_n 0, 1) := by decide +kernel
theorem dL_law_533 : decode cL_law 533 = .ok (.iload_n 3, 1) := by decide +kernel
theorem dL_law_534 : decode cL_law 534 = .ok (.iconst 1, 1) := by decide +kernel
theorem dL_law_535 : decode cL_law 535 = .ok (.iadd, 1) := by decide +kernel
theorem dL_law_536 : decode cL_law 536 = .ok (.iaload, 1) := by decide +kernel
theorem dL_law_537 : decode cL_law 537 = .ok (.aload_n 0, 1) := by decide +kernel
theorem dL_law_538 : decode cL_law 538 = .ok (.iload_n 3, 1) := by decide +kernel
theorem dL_law_539 : decode cL_law 539 = .ok (.iconst 2, 1) := by decide +kernel
theorem dL_law_540 : decode cL_law 540 = .ok (.iadd, 1) := by decide +kernel
theorem dL_law_541 : decode cL_law 541 = .ok (.iaload, 1) := by decide +kernel
theorem dL_law_542 : decode cL_law 542 = .ok (.ifCond .eq 7, 3) := by decide +kernel
theorem dL_law_545 : decode cL_law 545 = .ok (.iconst 1, 1) := by decide +kernel
theorem dL_law_546 : decode cL_law 546 = .ok (.goto 4, 3) := by decide +kernel
theorem dL_law_549 : decode cL_law 549 = .ok (.iconst 0, 1) := by decide +kernel
theorem dL_law_550 : decode cL_law 550 = .ok (.invokevirtual 71, 3) := by decide +kernel
theorem dL_law_553 : decode cL_law 553 = .ok (.aload_n 2, 1) := by decide +kernel
theorem dL_law_554 : decode cL_law 554 = .ok (.aload_n 0, 1) := by decide +kernel
theorem dL_law_555 : decode cL_law 555 = .ok (.iload_n 3, 1) := by decide +kernel
theorem dL_law_556 : decode cL_law 556 = .ok (.iconst 1, 1) := by decide +kernel
theorem dL_law_557 : decode cL_law 557 = .ok (.iadd, 1) := by decide +kernel
theorem dL_law_558 : decode cL_law 558 = .ok (.iaload, 1) := by decide +kernel
theorem dL_law_559 : decode cL_law 559 = .ok (.aload_n 0, 1) := by decide +kernel
theorem dL_law_560 : decode cL_law 560 = .ok (.iload_n 3, 1) := by decide +kernel
theorem dL_law_561 : decode cL_law 561 = .ok (.iconst 2, 1) := by decide +kernel
theorem dL_law_562 : decode cL_law 562 = .ok (.iadd, 1) := by decide +kernel
theorem dL_law_563 : decode cL_law 563 = .ok (.iaload, 1) := by decide +kernel
theorem dL_law_564 : decode cL_law 564 = .ok (.ifCond .eq 7, 3) := by decide +kernel
theorem dL_law_567 : decode cL_law 567 = .ok (.iconst 1, 1) := by decide +kernel
theorem dL_law_568 : decode cL_law 568 = .ok (.goto 4, 3) := by decide +kernel
theorem dL_law_571 : decode cL_law 571 = .ok (.iconst 0, 1) := by decide +kernel
theorem dL_law_572 : decode cL_law 572 = .ok (.invokevirtual 74, 3) := by decide +kernel
theorem dL_law_575 : decode cL_law 575 = .ok (.if_icmp .eq 127, 3) := by decide +kernel
theorem dL_law_578 : decode cL_law 578 = .ok (.iconst 0, 1) := by decide +kernel
theorem dL_law_579 : decode cL_law 579 = .ok (.ireturn, 1) := by decide +kernel
theorem dL_law_580 : decode cL_law 580 = .ok (.aload_n 1, 1) := by decide +kernel
theorem dL_law_581 : decode cL_law 581 = .ok (.aload_n 0, 1) := by decide +kernel
theorem dL_law_582 : decode cL_law 582 = .ok (.iload_n 3, 1) := by decide +kernel
theorem dL_law_583 : decode cL_law 583 = .ok (.iconst 1, 1) := by decide +kernel
theorem dL_law_584 : decode cL_law 584 = .ok (.iadd, 1) := by decide +kernel
theorem dL_law_585 : decode cL_law 585 = .ok (.iaload, 1) := by decide +kernel
theorem dL_law_586 : decode cL_law 586 = .ok (.aload_n 0, 1) := by decide +kernel
theorem dL_law_587 : decode cL_law 587 = .ok (.iload_n 3, 1) := by decide +kernel
theorem dL_law_588 : decode cL_law 588 = .ok (.iconst 2, 1) := by decide +kernel
theorem dL_law_589 : decode cL_law 589 = .ok (.iadd, 1) := by decide +kernel
theorem dL_law_590 : decode cL_law 590 = .ok (.iaload, 1) := by decide +kernel
theorem dL_law_591 : decode cL_law 591 = .ok (.invokevirtual 75, 3) := by decide +kernel
theorem dL_law_594 : decode cL_law 594 = .ok (.aload_n 2, 1) := by decide +kernel
theorem dL_law_595 : decode cL_law 595 = .ok (.aload_n 0, 1) := by decide +kernel
theorem dL_law_596 : decode cL_law 596 = .ok (.iload_n 3, 1) := by decide +kernel
theorem dL_law_597 : decode cL_law 597 = .ok (.iconst 1, 1) := by decide +kernel
theorem dL_law_598 : decode cL_law 598 = .ok (.iadd, 1) := by decide +kernel
theorem dL_law_599 : decode cL_law 599 = .ok (.iaload, 1) := by decide +kernel
theorem dL_law_600 : decode cL_law 600 = .ok (.aload_n 0, 1) := by decide +kernel
theorem dL_law_601 : decode cL_law 601 = .ok (.iload_n 3, 1) := by decide +kernel
theorem dL_law_602 : decode cL_law 602 = .ok (.iconst 2, 1) := by decide +kernel
theorem dL_law_603 : decode cL_law 603 = .ok (.iadd, 1) := by decide +kernel
theorem dL_law_604 : decode cL_law 604 = .ok (.iaload, 1) := by decide +kernel
theorem dL_law_605 : decode cL_law 605 = .ok (.invokevirtual 79, 3) := by decide +kernel
theorem dL_law_608 : decode cL_law 608 = .ok (.if_icmp .eq 94, 3) := by decide +kernel
theorem dL_law_611 : decode cL_law 611 = .ok (.iconst 0, 1) := by decide +kernel
theorem dL_law_612 : decode cL_law 612 = .ok (.ireturn, 1) := by decide +kernel
theorem dL_law_613 : decode cL_law 613 = .ok (.aload_n 1, 1) := by decide +kernel
theorem dL_law_614 : decode cL_law 614 = .ok (.aload_n 0, 1) := by decide +kernel
theorem dL_law_615 : decode cL_law 615 = .ok (.iload_n 3, 1) := by decide +kernel
theorem dL_law_616 : decode cL_law 616 = .ok (.iconst 1, 1) := by decide +kernel
theorem dL_law_617 : decode cL_law 617 = .ok (.iadd, 1) := by decide +kernel
theorem dL_law_618 : decode cL_law 618 = .ok (.iaload, 1) := by decide +kernel
theorem dL_law_619 : decode cL_law 619 = .ok (.aload_n 0, 1) := by decide +kernel
theorem dL_law_620 : decode cL_law 620 = .ok (.iload_n 3, 1) := by decide +kernel
theorem dL_law_621 : decode cL_law 621 = .ok (.iconst 2, 1) := by decide +kernel
theorem dL_law_622 : decode cL_law 622 = .ok (.iadd, 1) := by decide +kernel
theorem dL_law_623 : decode cL_law 623 = .ok (.iaload, 1) := by decide +kernel
theorem dL_law_624 : decode cL_law 624 = .ok (.invokevirtual 80, 3) := by decide +kernel
theorem dL_law_627 : decode cL_law 627 = .ok (.aload_n 2, 1) := by decide +kernel
theorem dL_law_628 : decode cL_law 628 = .ok (.aload_n 0, 1) := by decide +kernel
theorem dL_law_629 : decode cL_law 629 = .ok (.iload_n 3, 1) := by decide +kernel
theorem dL_law_630 : decode cL_law 630 = .ok (.iconst 1, 1) := by decide +kernel
theorem dL_law_631 : decode cL_law 631 = .ok (.iadd, 1) := by decide +kernel
theorem dL_law_632 : decode cL_law 632 = .ok (.iaload, 1) := by decide +kernel
theorem dL_law_633 : decode cL_law 633 = .ok (.aload_n 0, 1) := by decide +kernel
theorem dL_law_634 : decode cL_law 634 = .ok (.iload_n 3, 1) := by decide +kernel
theorem dL_law_635 : decode cL_law 635 = .ok (.iconst 2, 1) := by decide +kernel
theorem dL_law_636 : decode cL_law 636 = .ok (.iadd, 1) := by decide +kernel
theorem dL_law_637 : decode cL_law 637 = .ok (.iaload, 1) := by decide +kernel
theorem dL_law_638 : decode cL_law 638 = .ok (.invokevirtual 83, 3) := by decide +kernel
theorem dL_law_641 : decode cL_law 641 = .ok (.if_icmp .eq 61, 3) := by decide +kernel
theorem dL_law_644 : decode cL_law 644 = .ok (.iconst 0, 1) := by decide +kernel
theorem dL_law_645 : decode cL_law 645 = .ok (.ireturn, 1) := by decide +kernel
theorem dL_law_646 : decode cL_law 646 = .ok (.aload_n 1, 1) := by decide +kernel
theorem dL_law_647 : decode cL_law 647 = .ok (.aload_n 0, 1) := by decide +kernel
theorem dL_law_648 : decode cL_law 648 = .ok (.iload_n 3, 1) := by decide +kernel
theorem dL_law_649 : decode cL_law 649 = .ok (.iconst 1, 1) := by decide +kernel
theorem dL_law_650 : decode cL_law 650 = .ok (.iadd, 1) := by decide +kernel
theorem dL_law_651 : decode cL_law 651 = .ok (.iaload, 1) := by decide +kernel
theorem dL_law_652 : decode cL_law 652 = .ok (.aload_n 0, 1) := by decide +kernel
theorem dL_law_653 : decode cL_law 653 = .ok (.iload_n 3, 1) := by decide +kernel
theorem dL_law_654 : decode cL_law 654 = .ok (.iconst 2, 1) := by decide +kernel
theorem dL_law_655 : decode cL_law 655 = .ok (.iadd, 1) := by decide +kernel
theorem dL_law_656 : decode cL_law 656 = .ok (.iaload, 1) := by decide +kernel
theorem dL_law_657 : decode cL_law 657 = .ok (.invokevirtual 84, 3) := by decide +kernel
theorem dL_law_660 : decode cL_law 660 = .ok (.aload_n 2, 1) := by decide +kernel
theorem dL_law_661 : decode cL_law 661 = .ok (.aload_n 0, 1) := by decide +kernel
theorem dL_law_662 : decode cL_law 662 = .ok (.iload_n 3, 1) := by decide +kernel
theorem dL_law_663 : decode cL_law 663 = .ok (.iconst 1, 1) := by decide +kernel
theorem dL_law_664 : decode cL_law 664 = .ok (.iadd, 1) := by decide +kernel
theorem dL_law_665 : decode cL_law 665 = .ok (.iaload, 1) := by decide +kernel
theorem dL_law_666 : decode cL_law 666 = .ok (.aload_n 0, 1) := by decide +kernel
theorem dL_law_667 : decode cL_law 667 = .ok (.iload_n 3, 1) := by decide +kernel
theorem dL_law_668 : decode cL_law 668 = .ok (.iconst 2, 1) := by decide +kernel
theorem dL_law_669 : decode cL_law 669 = .ok (.iadd, 1) := by decide +kernel
theorem dL_law_670 : decode cL_law 670 = .ok (.iaload, 1) := by decide +kernel
theorem dL_law_671 : decode cL_law 671 = .ok (.invokevirtual 87, 3) := by decide +kernel
theorem dL_law_674 : decode cL_law 674 = .ok (.if_icmp .eq 28, 3) := by decide +kernel
theorem dL_law_677 : decode cL_law 677 = .ok (.iconst 0, 1) := by decide +kernel
theorem dL_law_678 : decode cL_law 678 = .ok (.ireturn, 1) := by decide +kernel
theorem dL_law_679 : decode cL_law 679 = .ok (.aload_n 1, 1) := by decide +kernel
theorem dL_law_680 : decode cL_law 680 = .ok (.aload_n 0, 1) := by decide +kernel
theorem dL_law_681 : decode cL_law 681 = .ok (.iload_n 3, 1) := by decide +kernel
theorem dL_law_682 : decode cL_law 682 = .ok (.iconst 1, 1) := by decide +kernel
theorem dL_law_683 : decode cL_law 683 = .ok (.iadd, 1) := by decide +kernel
theorem dL_law_684 : decode cL_law 684 = .ok (.iaload, 1) := by decide +kernel
theorem dL_law_685 : decode cL_law 685 = .ok (.invokevirtual 88, 3) := by decide +kernel
theorem dL_law_688 : decode cL_law 688 = .ok (.aload_n 2, 1) := by decide +kernel
theorem dL_law_689 : decode cL_law 689 = .ok (.aload_n 0, 1) := by decide +kernel
theorem dL_law_690 : decode cL_law 690 = .ok (.iload_n 3, 1) := by decide +kernel
theorem dL_law_691 : decode cL_law 691 = .ok (.iconst 1, 1) := by decide +kernel
theorem dL_law_692 : decode cL_law 692 = .ok (.iadd, 1) := by decide +kernel
theorem dL_law_693 : decode cL_law 693 = .ok (.iaload, 1) := by decide +kernel
theorem dL_law_694 : decode cL_law 694 = .ok (.invokevirtual 91, 3) := by decide +kernel
theorem dL_law_697 : decode cL_law 697 = .ok (.if_icmp .eq 5, 3) := by decide +kernel
theorem dL_law_700 : decode cL_law 700 = .ok (.iconst 0, 1) := by decide +kernel
theorem dL_law_701 : decode cL_law 701 = .ok (.ireturn, 1) := by decide +kernel
theorem dL_law_702 : decode cL_law 702 = .ok (.iinc 3 8, 3) := by decide +kernel
theorem dL_law_705 : decode cL_law 705 = .ok (.goto (-687), 3) := by decide +kernel
theorem dL_law_708 : decode cL_law 708 = .ok (.iconst 1, 1) := by decide +kernel
theorem dL_law_709 : decode cL_law 709 = .ok (.ireturn, 1) := by decide +kernel
end
section
/-! PART 02: a world of n cells at addresses α 0 .. α (n-1), all apart; cell k holds cf k. Rows of the kit, said for such a world. -/
def up2 (d : Nat → Nat → Int32) (k j : Nat) (v : Int32) : Nat → Nat → Int32 := va_up d k (upd (d k) j v)
theorem up2_same {d : Nat → Nat → Int32} {k j : Nat} {v : Int32} : up2 d k j v k = upd (d k) j v := va_up_self _ _ _
theorem up2_ne {d : Nat → Nat → Int32} {k j k' : Nat} {v : Int32} (h : k' ≠ k) : up2 d k j v k' = d k' := va_up_ne _ _ h
theorem up2_at (d : Nat → Nat → Int32) (k j : Nat) (v : Int32) (a b : Nat) : up2 d k j v a b = if a = k ∧ b = j then v else d a b := by
  unfold up2 va_up upd
  by_cases h : a = k
  · subst h
    by_cases h2 : b = j
    · simp [h2]
    · simp [h2]
  · simp [h]
def gw_W (n : Nat) (α : Nat → Nat) (cf : Nat → va_E) : va_W := (List.range n).map (fun k => (α k, cf k))
theorem gw_get? {n : Nat} {α : Nat → Nat} {cf : Nat → va_E} {k : Nat} (h : k < n) : (gw_W n α cf)[k]? = some (α k, cf k) := by
  simp [gw_W, h]
theorem gw_none {n : Nat} {α : Nat → Nat} {cf : Nat → va_E} {k : Nat} (h : ¬ k < n) : (gw_W n α cf)[k]? = none := by
  simp [gw_W]; omega
theorem gw_of {n : Nat} {α : Nat → Nat} {cf : Nat → va_E} {k : Nat} {q : Nat × va_E} (h : (gw_W n α cf)[k]? = some q) : k < n ∧ q = (α k, cf k) := by
  by_cases hk : k < n
  · rw [gw_get? hk] at h
    exact ⟨hk, (Option.some.inj h).symm⟩
  · rw [gw_none hk] at h
    cases h
def gw_inj (n : Nat) (α : Nat → Nat) : Prop := ∀ i j : Nat, i < n → j < n → α i = α j → i = j
def gw_A (n : Nat) (α : Nat → Nat) : Nat → Prop := fun q => ∃ k : Nat, k < n ∧ q = α k
theorem gw_D {n : Nat} {α : Nat → Nat} (h : gw_inj n α) (cf : Nat → va_E) : va_D (gw_A n α) (gw_W n α cf) := by
  refine ⟨fun i j p q hi hj e => ?_, fun k q hk => ?_⟩
  · obtain ⟨h1, rfl⟩ := gw_of hi
    obtain ⟨h2, rfl⟩ := gw_of hj
    exact h i j h1 h2 e
  · obtain ⟨h1, rfl⟩ := gw_of hk
    exact ⟨k, h1, rfl⟩
theorem gw_set {n : Nat} {α : Nat → Nat} {cf cf' : Nat → va_E} {k : Nat} {e : va_E} (hc : cf' k = e) (ho : ∀ j, j ≠ k → cf' j = cf j) : (gw_W n α cf).set k (α k, e) = gw_W n α cf' := by
  apply List.ext_getElem?
  intro i
  by_cases hn : i < n
  · by_cases hi : i = k
    · subst hi
      rw [List.getElem?_set_self (by simp [gw_W, hn]), gw_get? hn, hc]
    · rw [List.getElem?_set_ne (Ne.symm hi), gw_get? hn, gw_get? hn, ho i hi]
  · rw [gw_none hn]
    apply List.getElem?_eq_none
    simp [gw_W]; omega
theorem gw_congr {n : Nat} {α : Nat → Nat} {cf cf' : Nat → va_E} (h : ∀ k, k < n → cf k = cf' k) : gw_W n α cf = gw_W n α cf' := by
  apply List.ext_getElem?
  intro i
  by_cases hn : i < n
  · rw [gw_get? hn, gw_get? hn, h i hn]
  · rw [gw_none hn, gw_none hn]
section GW
variable {p : Program} {l : Launch} {e : Env} {R : Room} {s : State} {m : MethodId} {args : Array Value} {below : List Frame} {meth : Method} {c : Code} {H : Heap} {locs : List Loc} {cells slots : Nat} {Q : State → Prop}
variable {cc : ByteArray} {pc : Nat} {ls : Array Slot} {rest : List Value} {D : va_G} {cl : List vw_C} {tys : List (ClassId × FieldType)} {H0 : Heap} {n : Nat} {α : Nat → Nat} {cf : Nat → va_E}
/-- getfield of cell k0, field k -/
theorem gw_get (hexec : p.tables.exec = Jvm.exec) (hb : c.code = cc) {own ref C : String} {T : u_T} {N ci index : Nat} {Ts : List Cond} (hts : ∀ w ∈ Ts, w.before args s = true) (hin : ∀ w ∈ u_ws C T N, w ∈ Ts) (hown : s.vm.findClass own = some m.cls) (hK : va_K D cl tys s) (hP : va_P D cl (gw_W n α cf) H) (k0 : Nat) (hk0 : k0 < n) {fs : List Value} (he : cf k0 = .inr (ci, fs)) (hc : cl[ci]? = some (C, T, N)) (k : Nat) (hk : k < N) (hlink : (Cond.fieldLink own index ref (T k).2.1 (T k).2.2.1).before args s = true) (hsame : ∀ x, s.fieldFound? (T k).1 (T k).2.1 (T k).2.2.1 = some x → s.fieldFound? ref (T k).2.1 (T k).2.2.1 = some x) {v : Value} (hv : fs[k]? = some v) (hdg : decode cc pc = .ok (.getfield index, 3))
    (kk : W p l e R s m args below meth c H locs cells slots Q (F0 m (pc + 3) ls (v :: rest))) : W p l e R s m args below meth c H locs cells slots Q (F0 m pc ls (.ref (α k0) :: rest)) :=
  va_get hexec hb hts hin hown hK hP k0 (fs := fs) (by rw [gw_get? hk0, he]) hc k hk hlink hsame hv hdg kk
/-- the same of a nest mate's -/
theorem gw_getN (hexec : p.tables.exec = Jvm.exec) (hb : c.code = cc) {own ref C host : String} {T : u_T} {N ci index : Nat} {Ts : List Cond} (hts : ∀ w ∈ Ts, w.before args s = true) (hin : ∀ w ∈ u_ws C T N, w ∈ Ts) (hown : s.vm.findClass own = some m.cls) (hK : va_K D cl tys s) (hP : va_P D cl (gw_W n α cf) H) (k0 : Nat) (hk0 : k0 < n) {fs : List Value} (he : cf k0 = .inr (ci, fs)) (hc : cl[ci]? = some (C, T, N)) (k : Nat) (hk : k < N) (hlink : va_Nw (Cond.fieldLinkNest own index ref (T k).2.1 (T k).2.2.1 host) s) (hsame : ∀ x, s.fieldFound? (T k).1 (T k).2.1 (T k).2.2.1 = some x → s.fieldFound? ref (T k).2.1 (T k).2.2.1 = some x) {v : Value} (hv : fs[k]? = some v) (hdg : decode cc pc = .ok (.getfield index, 3))
    (kk : W p l e R s m args below meth c H locs cells slots Q (F0 m (pc + 3) ls (v :: rest))) : W p l e R s m args below meth c H locs cells slots Q (F0 m pc ls (.ref (α k0) :: rest)) :=
  va_getN hexec hb hts hin hown hK hP k0 (fs := fs) (by rw [gw_get? hk0, he]) hc k hk (va_Nw.use rfl hlink) hsame hv hdg kk
theorem gw_put (hexec : p.tables.exec = Jvm.exec) (hb : c.code = cc) {own ref C : String} {T : u_T} {N ci index : Nat} {Ts : List Cond} (hts : ∀ w ∈ Ts, w.before args s = true) (hin : ∀ w ∈ u_ws C T N, w ∈ Ts) (ty0 : Nat → FieldType) (hty : ∀ k, k < N → parseFieldDescriptor (T k).2.2.1 = some (ty0 k)) (hnm : ∀ a, a < N → ∀ b, b < N → a ≠ b → (T a).2.1 ≠ (T b).2.1) (hown : s.vm.findClass own = some m.cls) (hK : va_K D cl tys s) (hP : va_P D cl (gw_W n α cf) H) (hj : gw_inj n α) (hS0 : va_S (gw_A n α) H0 H locs) (k0 : Nat) (hk0 : k0 < n) {fs : List Value} (he : cf k0 = .inr (ci, fs)) (hc : cl[ci]? = some (C, T, N)) (k : Nat) (hk : k < N) (hlink : (Cond.fieldLink own index ref (T k).2.1 (T k).2.2.1).before args s = true) (hsame : ∀ x, s.fieldFound? (T k).1 (T k).2.1 (T k).2.2.1 = some x → s.fieldFound? ref (T k).2.1 (T k).2.2.1 = some x) (hfin : (T k).2.2.2 = false) {ty : FieldType} {v : Value} (hd : parseFieldDescriptor (T k).2.2.1 = some ty) (hn : narrow ty v = v) (hfit : fits ty v = true) (hl : k < fs.length) {cf' : Nat → va_E} (hc' : cf' k0 = .inr (ci, fs.set k v)) (ho : ∀ j, j ≠ k0 → cf' j = cf j)
    (hdg : decode cc pc = .ok (.putfield index, 3)) (kk : ∀ (H1 : Heap) (locs1 : List Loc), va_P D cl (gw_W n α cf') H1 → va_S (gw_A n α) H0 H1 locs1 → W p l e R s m args below meth c H1 locs1 cells slots Q (F0 m (pc + 3) ls rest)) : W p l e R s m args below meth c H locs cells slots Q (F0 m pc ls (v :: .ref (α k0) :: rest)) :=
  va_put hexec hb hts hin ty0 hty hnm hown hK hP (gw_D hj cf) hS0 k0 (fs := fs) (by rw [gw_get? hk0, he]) hc k hk hlink hsame hfin hd hn hfit hl hdg (fun H1 locs1 hP1 _ hS1 => kk H1 locs1 (by rw [gw_set hc' ho] at hP1; exact hP1) hS1)
theorem gw_putN (hexec : p.tables.exec = Jvm.exec) (hb : c.code = cc) {own ref C host : String} {T : u_T} {N ci index : Nat} {Ts : List Cond} (hts : ∀ w ∈ Ts, w.before args s = true) (hin : ∀ w ∈ u_ws C T N, w ∈ Ts) (ty0 : Nat → FieldType) (hty : ∀ k, k < N → parseFieldDescriptor (T k).2.2.1 = some (ty0 k)) (hnm : ∀ a, a < N → ∀ b, b < N → a ≠ b → (T a).2.1 ≠ (T b).2.1) (hown : s.vm.findClass own = some m.cls) (hK : va_K D cl tys s) (hP : va_P D cl (gw_W n α cf) H) (hj : gw_inj n α) (hS0 : va_S (gw_A n α) H0 H locs) (k0 : Nat) (hk0 : k0 < n) {fs : List Value} (he : cf k0 = .inr (ci, fs)) (hc : cl[ci]? = some (C, T, N)) (k : Nat) (hk : k < N) (hlink : va_Nw (Cond.fieldLinkNest own index ref (T k).2.1 (T k).2.2.1 host) s) (hsame : ∀ x, s.fieldFound? (T k).1 (T k).2.1 (T k).2.2.1 = some x → s.fieldFound? ref (T k).2.1 (T k).2.2.1 = some x) (hfin : (T k).2.2.2 = false) {ty : FieldType} {v : Value} (hd : parseFieldDescriptor (T k).2.2.1 = some ty) (hn : narrow ty v = v) (hfit : fits ty v = true) (hl : k < fs.length) {cf' : Nat → va_E} (hc' : cf' k0 = .inr (ci, fs.set k v)) (ho : ∀ j, j ≠ k0 → cf' j = cf j)
    (hdg : decode cc pc = .ok (.putfield index, 3)) (kk : ∀ (H1 : Heap) (locs1 : List Loc), va_P D cl (gw_W n α cf') H1 → va_S (gw_A n α) H0 H1 locs1 → W p l e R s m args below meth c H1 locs1 cells slots Q (F0 m (pc + 3) ls rest)) : W p l e R s m args below meth c H locs cells slots Q (F0 m pc ls (v :: .ref (α k0) :: rest)) :=
  va_putN hexec hb hts hin ty0 hty hnm hown hK hP (gw_D hj cf) hS0 k0 (fs := fs) (by rw [gw_get? hk0, he]) hc k hk (va_Nw.use rfl hlink) hsame hfin hd hn hfit hl hdg (fun H1 locs1 hP1 _ hS1 => kk H1 locs1 (by rw [gw_set hc' ho] at hP1; exact hP1) hS1)
theorem gw_iald (hexec : p.tables.exec = Jvm.exec) (hb : c.code = cc) (hK : va_K D cl tys s) (hP : va_P D cl (gw_W n α cf) H) (k0 t0 : Nat) (hk0 : k0 < n) {cA : ClassId} {N : Nat} {f : Nat → Int32} (he : cf k0 = .inl (cA, N, .inl f)) (ht : tys[t0]? = some (cA, .int)) {i : Int32} (hin : vp_in i N) (hdg : decode cc pc = .ok (.iaload, 1))
    (kk : W p l e R s m args below meth c H locs cells slots Q (F0 m (pc + 1) ls (.int (f i.toNatClampNeg) :: rest))) : W p l e R s m args below meth c H locs cells slots Q (F0 m pc ls (.int i :: .ref (α k0) :: rest)) :=
  va_iald hexec hb hK hP k0 t0 (by rw [gw_get? hk0, he]) ht hin hdg kk
theorem gw_bald (hexec : p.tables.exec = Jvm.exec) (hb : c.code = cc) (hK : va_K D cl tys s) (hP : va_P D cl (gw_W n α cf) H) (k0 t0 : Nat) (hk0 : k0 < n) {cA : ClassId} {N : Nat} {f : Nat → Int32} (he : cf k0 = .inl (cA, N, .inl f)) (ht : tys[t0]? = some (cA, .byte)) {i : Int32} (hin : vp_in i N) (hdg : decode cc pc = .ok (.baload, 1))
    (kk : W p l e R s m args below meth c H locs cells slots Q (F0 m (pc + 1) ls (.int (f i.toNatClampNeg) :: rest))) : W p l e R s m args below meth c H locs cells slots Q (F0 m pc ls (.int i :: .ref (α k0) :: rest)) :=
  va_bald hexec hb hK hP k0 t0 (by rw [gw_get? hk0, he]) ht hin hdg kk
theorem gw_zald (hexec : p.tables.exec = Jvm.exec) (hb : c.code = cc) (hK : va_K D cl tys s) (hP : va_P D cl (gw_W n α cf) H) (k0 t0 : Nat) (hk0 : k0 < n) {cA : ClassId} {N : Nat} {f : Nat → Int32} (he : cf k0 = .inl (cA, N, .inl f)) (ht : tys[t0]? = some (cA, .boolean)) {i : Int32} (hin : vp_in i N) (hdg : decode cc pc = .ok (.baload, 1))
    (kk : W p l e R s m args below meth c H locs cells slots Q (F0 m (pc + 1) ls (.int (f i.toNatClampNeg) :: rest))) : W p l e R s m args below meth c H locs cells slots Q (F0 m pc ls (.int i :: .ref (α k0) :: rest)) :=
  va_zald hexec hb hK hP k0 t0 (by rw [gw_get? hk0, he]) ht hin hdg kk
theorem gw_aald (hexec : p.tables.exec = Jvm.exec) (hb : c.code = cc) (hK : va_K D cl tys s) (hP : va_P D cl (gw_W n α cf) H) (k0 t0 : Nat) (hk0 : k0 < n) {cA : ClassId} {C : String} {N : Nat} {f : Nat → Option Nat} (he : cf k0 = .inl (cA, N, .inr (.inr (.inr (.inr f))))) (ht : tys[t0]? = some (cA, .object C)) {i : Int32} (hin : vp_in i N) {k : Nat} (hf : f i.toNatClampNeg = some (α k)) (hdg : decode cc pc = .ok (.aaload, 1))
    (kk : W p l e R s m args below meth c H locs cells slots Q (F0 m (pc + 1) ls (.ref (α k) :: rest))) : W p l e R s m args below meth c H locs cells slots Q (F0 m pc ls (.int i :: .ref (α k0) :: rest)) :=
  va_aldq hexec hb hK hP k0 t0 (by rw [gw_get? hk0, he]) ht hin hdg (by rw [hf]; exact kk)
theorem gw_iast (hexec : p.tables.exec = Jvm.exec) (hb : c.code = cc) (hK : va_K D cl tys s) (hP : va_P D cl (gw_W n α cf) H) (hj : gw_inj n α) (hS : va_S (gw_A n α) H0 H locs) (k0 t0 : Nat) (hk0 : k0 < n) {cA : ClassId} {N : Nat} {f : Nat → Int32} (he : cf k0 = .inl (cA, N, .inl f)) (ht : tys[t0]? = some (cA, .int)) {i : Int32} {x : Int32} (hin : vp_in i N) {cf' : Nat → va_E} (hc' : cf' k0 = .inl (cA, N, .inl (upd f i.toNatClampNeg x))) (ho : ∀ j, j ≠ k0 → cf' j = cf j) (hdg : decode cc pc = .ok (.iastore, 1))
    (kk : ∀ (H1 : Heap) (locs1 : List Loc), va_P D cl (gw_W n α cf') H1 → va_S (gw_A n α) H0 H1 locs1 → W p l e R s m args below meth c H1 locs1 cells slots Q (F0 m (pc + 1) ls rest)) : W p l e R s m args below meth c H locs cells slots Q (F0 m pc ls (.int x :: .int i :: .ref (α k0) :: rest)) :=
  va_iast hexec hb hK hP (gw_D hj cf) hS k0 t0 (by rw [gw_get? hk0, he]) ht hin hdg (fun H1 locs1 hP1 _ hS1 => kk H1 locs1 (by rw [gw_set hc' ho] at hP1; exact hP1) hS1)
theorem gw_bast (hexec : p.tables.exec = Jvm.exec) (hb : c.code = cc) (hK : va_K D cl tys s) (hP : va_P D cl (gw_W n α cf) H) (hj : gw_inj n α) (hS : va_S (gw_A n α) H0 H locs) (k0 t0 : Nat) (hk0 : k0 < n) {cA : ClassId} {N : Nat} {f : Nat → Int32} (he : cf k0 = .inl (cA, N, .inl f)) (ht : tys[t0]? = some (cA, .byte)) {i : Int32} {x : Int32} (hin : vp_in i N) {cf' : Nat → va_E} (hc' : cf' k0 = .inl (cA, N, .inl (upd f i.toNatClampNeg (vp_nar .byte x)))) (ho : ∀ j, j ≠ k0 → cf' j = cf j) (hdg : decode cc pc = .ok (.bastore, 1))
    (kk : ∀ (H1 : Heap) (locs1 : List Loc), va_P D cl (gw_W n α cf') H1 → va_S (gw_A n α) H0 H1 locs1 → W p l e R s m args below meth c H1 locs1 cells slots Q (F0 m (pc + 1) ls rest)) : W p l e R s m args below meth c H locs cells slots Q (F0 m pc ls (.int x :: .int i :: .ref (α k0) :: rest)) :=
  va_bast hexec hb hK hP (gw_D hj cf) hS k0 t0 (by rw [gw_get? hk0, he]) ht hin hdg (fun H1 locs1 hP1 _ hS1 => kk H1 locs1 (by rw [gw_set hc' ho] at hP1; exact hP1) hS1)
theorem gw_zast (hexec : p.tables.exec = Jvm.exec) (hb : c.code = cc) (hK : va_K D cl tys s) (hP : va_P D cl (gw_W n α cf) H) (hj : gw_inj n α) (hS : va_S (gw_A n α) H0 H locs) (k0 t0 : Nat) (hk0 : k0 < n) {cA : ClassId} {N : Nat} {f : Nat → Int32} (he : cf k0 = .inl (cA, N, .inl f)) (ht : tys[t0]? = some (cA, .boolean)) {i : Int32} {x : Int32} (hin : vp_in i N) {cf' : Nat → va_E} (hc' : cf' k0 = .inl (cA, N, .inl (upd f i.toNatClampNeg (vp_nar .boolean x)))) (ho : ∀ j, j ≠ k0 → cf' j = cf j) (hdg : decode cc pc = .ok (.bastore, 1))
    (kk : ∀ (H1 : Heap) (locs1 : List Loc), va_P D cl (gw_W n α cf') H1 → va_S (gw_A n α) H0 H1 locs1 → W p l e R s m args below meth c H1 locs1 cells slots Q (F0 m (pc + 1) ls rest)) : W p l e R s m args below meth c H locs cells slots Q (F0 m pc ls (.int x :: .int i :: .ref (α k0) :: rest)) :=
  va_zast hexec hb hK hP (gw_D hj cf) hS k0 t0 (by rw [gw_get? hk0, he]) ht hin hdg (fun H1 locs1 hP1 _ hS1 => kk H1 locs1 (by rw [gw_set hc' ho] at hP1; exact hP1) hS1)
theorem gw_aast (hexec : p.tables.exec = Jvm.exec) (hb : c.code = cc) (hK : va_K D cl tys s) (hP : va_P D cl (gw_W n α cf) H) (hj : gw_inj n α) (hS : va_S (gw_A n α) H0 H locs) (k0 t0 k1 ci : Nat) (hk0 : k0 < n) (hk1 : k1 < n) {cA : ClassId} {r : vw_C} {N : Nat} {vs : List Value} {f : Nat → Option Nat} (he : cf k0 = .inl (cA, N, .inr (.inr (.inr (.inr f))))) (ht : tys[t0]? = some (cA, .object r.1)) (hv : cf k1 = .inr (ci, vs)) (hc : cl[ci]? = some r) {i : Int32} (hin : vp_in i N) {cf' : Nat → va_E} (hc' : cf' k0 = .inl (cA, N, .inr (.inr (.inr (.inr (va_up f i.toNatClampNeg (some (α k1)))))))) (ho : ∀ j, j ≠ k0 → cf' j = cf j) (hdg : decode cc pc = .ok (.aastore, 1))
    (kk : ∀ (H1 : Heap) (locs1 : List Loc), va_P D cl (gw_W n α cf') H1 → va_S (gw_A n α) H0 H1 locs1 → W p l e R s m args below meth c H1 locs1 cells slots Q (F0 m (pc + 1) ls rest)) : W p l e R s m args below meth c H locs cells slots Q (F0 m pc ls (.ref (α k1) :: .int i :: .ref (α k0) :: rest)) :=
  va_astq hexec hb hK hP (gw_D hj cf) hS k0 t0 k1 ci (by rw [gw_get? hk0, he]) ht (vs := vs) (by rw [gw_get? hk1, hv]) hc hin hdg (fun H1 locs1 hP1 _ hS1 => kk H1 locs1 (by rw [gw_set hc' ho] at hP1; exact hP1) hS1)
theorem gw_recv (hK : va_K D cl tys s) (hP : va_P D cl (gw_W n α cf) H) (k0 : Nat) (hk0 : k0 < n) {ci : Nat} {fs : List Value} (he : cf k0 = .inr (ci, fs)) {q : vw_C} (hc : cl[ci]? = some q) : ∃ cell : Cell, H[α k0]? = some cell ∧ cell.vm.isStatics = false ∧ s.vm.findClass q.1 = some cell.cls :=
  va_recv hK hP hc (q0 := k0) (fs := fs) (by rw [gw_get? hk0, he])
/-- behind a call that makes no cell and changes none outside A -/
theorem gw_calli {S : Type} {post : Int32 → S → Prop} {B : S → State → Prop} {A : Nat → Prop} {st0 : List Value} {a : Array Value} (hr : va_Run p l e R s m args below meth c H locs cells slots 0 0 (F0 m pc ls st0) rest (va_Qi post B A a) A) (hS : va_S A H0 H locs)
    (kk : ∀ (r : Int32) (u : S) (t : State) (locs1 : List Loc), post r u → B u t → va_S A H0 t.heap locs1 → W p l e R s m args below meth c t.heap locs1 cells slots Q (F0 m (pc + 3) ls (.int r :: rest))) : W p l e R s m args below meth c H locs cells slots Q (F0 m pc ls st0) :=
  va_calli hr hS (fun _ _ h => h) (fun _ h => h) (fun r u t H1 locs1 ht _ hp hb _ _ hS1 => by subst ht; exact kk r u t locs1 hp hb hS1)
theorem gw_callv {S : Type} {post : S → Prop} {B : S → State → Prop} {A : Nat → Prop} {st0 : List Value} {a : Array Value} (hr : va_Run p l e R s m args below meth c H locs cells slots 0 0 (F0 m pc ls st0) rest (va_Qv post B A a) A) (hS : va_S A H0 H locs)
    (kk : ∀ (u : S) (t : State) (locs1 : List Loc), post u → B u t → va_S A H0 t.heap locs1 → W p l e R s m args below meth c t.heap locs1 cells slots Q (F0 m (pc + 3) ls rest)) : W p l e R s m args below meth c H locs cells slots Q (F0 m pc ls st0) :=
  va_callv hr hS (fun _ _ h => h) (fun _ h => h) (fun u t H1 locs1 ht _ hp hb _ _ hS1 => by subst ht; exact kk u t locs1 hp hb hS1)
theorem gw_callr {S : Type} {post : S → Prop} {B : S → Nat → State → Prop} {A : Nat → Prop} {st0 : List Value} {a : Array Value} (hr : va_Run p l e R s m args below meth c H locs cells slots 0 0 (F0 m pc ls st0) rest (va_Qr post B A a) A) (hS : va_S A H0 H locs)
    (kk : ∀ (u : S) (ra : Nat) (t : State) (locs1 : List Loc), post u → B u ra t → va_S A H0 t.heap locs1 → W p l e R s m args below meth c t.heap locs1 cells slots Q (F0 m (pc + 3) ls (.ref ra :: rest))) : W p l e R s m args below meth c H locs cells slots Q (F0 m pc ls st0) :=
  va_callr hr hS (fun _ _ h => h) (fun _ h => h) (fun u ra t H1 locs1 ht _ hp hb _ _ hS1 => by subst ht; exact kk u ra t locs1 hp hb hS1)
/-- a method's ends -/
theorem gw_iret {S : Type} {post : Int32 → S → Prop} {B : S → State → Prop} {A : Nat → Prop} {v : Int32} (u : S) (hexec : p.tables.exec = Jvm.exec) (hb : c.code = cc) (hr : meth.sig.returnType = some .int) (hlocks : meth.locks = false) (hB : ∀ t : State, t.heap = H → B u t) (hS : va_S A s.heap H locs) (hdg : decode cc pc = .ok (.ireturn, 1)) (hp : post v u) : W p l e R s m args below meth c H locs cells slots (MQ below (va_Qi post B A) args s cells slots A) (F0 m pc ls [.int v]) :=
  W.iret hexec hb hr (fun t ht _ => ⟨⟨v, u, rfl, hp, hB t ht⟩, hS.F ht⟩) hS.2.2 hdg hlocks
theorem gw_nz {v : Int32} (h : v = 0 ∨ v = 1) : narrow .boolean (.int v) = .int v := by
  rcases h with rfl | rfl <;> decide
theorem gw_fz {v : Int32} (h : v = 0 ∨ v = 1) : fits .boolean (.int v) = true := by
  rcases h with rfl | rfl <;> decide
theorem gw_zret {S : Type} {post : Int32 → S → Prop} {B : S → State → Prop} {A : Nat → Prop} {v : Int32} (u : S) (hexec : p.tables.exec = Jvm.exec) (hb : c.code = cc) (hr : meth.sig.returnType = some .boolean) (hlocks : meth.locks = false) (hz : v = 0 ∨ v = 1) (hB : ∀ t : State, t.heap = H → B u t) (hS : va_S A s.heap H locs) (hdg : decode cc pc = .ok (.ireturn, 1)) (hp : post v u) : W p l e R s m args below meth c H locs cells slots (MQ below (va_Qi post B A) args s cells slots A) (F0 m pc ls [.int v]) :=
  W.zret hexec hb hr (gw_nz hz) (fun t ht _ => ⟨⟨v, u, rfl, hp, hB t ht⟩, hS.F ht⟩) hS.2.2 hdg hlocks
theorem gw_vret {S : Type} {post : S → Prop} {B : S → State → Prop} {A : Nat → Prop} (u : S) (hexec : p.tables.exec = Jvm.exec) (hb : c.code = cc) (hr : meth.sig.returnType = none) (hlocks : meth.locks = false) (hB : ∀ t : State, t.heap = H → B u t) (hS : va_S A s.heap H locs) (hdg : decode cc pc = .ok (.return_, 1)) (hp : post u) : W p l e R s m args below meth c H locs cells slots (MQ below (va_Qv post B A) args s cells slots A) (F0 m pc ls []) :=
  W.vret hexec hb hr (fun t ht _ => ⟨⟨u, rfl, hp, hB t ht⟩, hS.F ht⟩) hS.2.2 hdg hlocks
theorem gw_aret {S : Type} {post : S → Prop} {B : S → Nat → State → Prop} {A : Nat → Prop} {v : Nat} {C : String} (u : S) (hexec : p.tables.exec = Jvm.exec) (hb : c.code = cc) (hr : meth.sig.returnType = some (.object C)) (hlocks : meth.locks = false) (hB : ∀ t : State, t.heap = H → B u v t) (hS : va_S A s.heap H locs) (hdg : decode cc pc = .ok (.areturn, 1)) (hp : post u) : W p l e R s m args below meth c H locs cells slots (MQ below (va_Qr post B A) args s cells slots A) (F0 m pc ls [.ref v]) :=
  W.aret hexec hb hr (Or.inl ⟨C, rfl⟩) (Or.inr ⟨v, rfl⟩) (fun t ht _ => ⟨⟨u, v, rfl, hp, hB t ht⟩, hS.F ht⟩) hS.2.2 hdg hlocks
end GW
theorem up2_s {d : Nat → Nat → Int32} {k j : Nat} {v : Int32} : up2 d k j v k j = v := by rw [up2_at, if_pos ⟨rfl, rfl⟩]
theorem up2_j {d : Nat → Nat → Int32} {k j j' : Nat} {v : Int32} (h : j' ≠ j) : up2 d k j v k j' = d k j' := by rw [up2_at, if_neg (fun z => h z.2)]
theorem up2_k {d : Nat → Nat → Int32} {k j k' j' : Nat} {v : Int32} (h : k' ≠ k) : up2 d k j v k' j' = d k' j' := by rw [up2_ne h]
section GWC
variable {p : Program} {l : Launch} {e : Env} {R : Room} {s : State} {m : MethodId} {args : Array Value} {below : List Frame} {meth : Method} {c : Code} {H : Heap} {locs : List Loc} {cells slots : Nat} {Q : State → Prop}
variable {cc : ByteArray} {pc : Nat} {ls : Array Slot} {rest : List Value} {D : va_G} {cl : List vw_C} {tys : List (ClassId × FieldType)} {H0 : Heap} {n : Nat} {α : Nat → Nat} {cf : Nat → va_E}
/-- System.arraycopy between two arrays of bytes, both from place 0 -/
theorem gw_copyb (hexec : p.tables.exec = Jvm.exec) (hb : c.code = cc) (hml : c.maxLocals = ls.size) {own : String} {index : Nat} (hown : s.vm.findClass own = some m.cls) (hlink : (Cond.methodLink own index arraycopyName).before args s = true) (hnat : (Cond.native arraycopyName).before args s = true) (hstat : (Cond.static arraycopyName).before args s = true) (hini : (Cond.initialized "java/lang/System").before args s = true)
    (hK : va_K D cl tys s) (hP : va_P D cl (gw_W n α cf) H) (hj : gw_inj n α) (hS : va_S (gw_A n α) H0 H locs) (k0 k1 t0 t1 : Nat) (hk0 : k0 < n) (hk1 : k1 < n) {c0 c1 : ClassId} {n0 n1 : Nat} {f g : Nat → Int32} (he0 : cf k0 = .inl (c0, n0, .inl f)) (he1 : cf k1 = .inl (c1, n1, .inl g)) (ht0 : tys[t0]? = some (c0, .byte)) (ht1 : tys[t1]? = some (c1, .byte))
    {z : Nat} (hz : z < 2 ^ 31) (h4 : z ≤ n0) (h5 : z ≤ n1) (hfit : ∀ i, i < z → fits .byte (.int (f i)) = true)
    (hframes : 1 ≤ R.frames) (hlocals : (rest.map fun v => v.category).sum + (nativeFrameWords "java/lang/System" "arraycopy" 5 + 11) ≤ R.locals) {cf' : Nat → va_E} (hc' : cf' k1 = .inl (c1, n1, .inl (va_cpy f g 0 0 z))) (ho : ∀ j, j ≠ k1 → cf' j = cf j) (hdg : decode cc pc = .ok (.invokestatic index, 3))
    (kk : ∀ (H1 : Heap) (locs1 : List Loc), va_P D cl (gw_W n α cf') H1 → va_S (gw_A n α) H0 H1 locs1 → W p l e R s m args below meth c H1 locs1 cells slots Q (F0 m (pc + 3) ls rest)) : W p l e R s m args below meth c H locs cells slots Q (F0 m pc ls (.int (nI z) :: .int 0 :: .ref (α k1) :: .int 0 :: .ref (α k0) :: rest)) := by
  have e0 : (0 : Int32).toNatClampNeg = 0 := by decide
  refine va_copyi (ty := .byte) (sp := 0) (dp := 0) (n := nI z) hexec hb hml hown hlink hnat hstat hini hK hP (gw_D hj cf) hS k0 k1 t0 t1 (by rw [gw_get? hk0, he0]) (by rw [gw_get? hk1, he1]) ht0 ht1 rfl (by decide) (by decide) (nI_pos hz) (by rw [nI_clamp hz, e0]; omega) (by rw [nI_clamp hz, e0]; omega) (fun i hi => by rw [nI_clamp hz] at hi; rw [e0, Nat.zero_add]; exact hfit i hi) hframes hlocals hdg (fun H1 locs1 hP1 _ hS1 => kk H1 locs1 ?_ hS1)
  rw [nI_clamp hz, e0, gw_set hc' ho] at hP1
  exact hP1
end GWC
/-! making such a world -/
theorem gw_push {n : Nat} {α : Nat → Nat} {cf : Nat → va_E} {q : Nat} {e : va_E} : gw_W n α cf ++ [(q, e)] = gw_W (n + 1) (va_up α n q) (va_up cf n e) := by
  unfold gw_W
  rw [List.range_succ, List.map_append]
  congr 1
  · apply List.map_congr_left
    intro k hk
    have h : k ≠ n := by have := List.mem_range.mp hk; omega
    rw [va_up_ne _ _ h, va_up_ne _ _ h]
  · simp [va_up_self]
theorem gw_inj_of {A : Nat → Prop} {n : Nat} {α : Nat → Nat} {cf : Nat → va_E} (h : va_D A (gw_W n α cf)) : gw_inj n α := fun i j hi hj e => h.1 i j _ _ (gw_get? hi) (gw_get? hj) e
theorem gw_A_of {A : Nat → Prop} {n : Nat} {α : Nat → Nat} {cf : Nat → va_E} (h : va_D A (gw_W n α cf)) : ∀ k, k < n → A (α k) := fun k hk => h.2 k _ (gw_get? hk)
theorem gw_perm {D : va_G} {cl : List vw_C} {n m : Nat} {α : Nat → Nat} {cf : Nat → va_E} {H : Heap} (f : Nat → Nat) (hf : ∀ k, k < m → f k < n) (hP : va_P D cl (gw_W n α cf) H) : va_P D cl (gw_W m (fun k => α (f k)) (fun k => cf (f k))) H := fun k q hk => by
  obtain ⟨h1, rfl⟩ := gw_of hk
  exact hP _ _ (gw_get? (hf k h1))
section GWN
variable {p : Program} {l : Launch} {e : Env} {R : Room} {s : State} {m : MethodId} {args : Array Value} {below : List Frame} {meth : Method} {c : Code} {H : Heap} {locs : List Loc} {cells slots : Nat} {Q : State → Prop}
variable {pc : Nat} {ls : Array Slot} {rest st0 : List Value} {a : Array Value}
/-- behind a call that leaves the heap alone -/
theorem gw_csv {post : Unit → Prop} (hr : va_Run p l e R s m args below meth c H locs cells slots 0 0 (F0 m pc ls st0) rest (va_Sv post a) (fun _ => False)) (kk : W p l e R s m args below meth c H locs cells slots Q (F0 m (pc + 3) ls rest)) : W p l e R s m args below meth c H locs cells slots Q (F0 m pc ls st0) := by
  refine va_csv (post := post) (a := a) ?_ (fun _ => kk)
  intro T hT X
  obtain ⟨v, st₀, t, T', L, h0, X', hL, e1, -, hq, st⟩ := hr T hT X
  exact ⟨v, st₀, t, T', L, h0, X', hL, e1, hq, st⟩
end GWN
/-! two worlds side by side: a call that works in A alone leaves the other as it was -/
theorem gw_keep {D : va_G} {cl : List vw_C} {n : Nat} {α : Nat → Nat} {cf : Nat → va_E} {H H1 : Heap} {A : Nat → Prop} (hP : va_P D cl (gw_W n α cf) H) (hk : ∀ q : Nat, q < H.size → ¬ A q → H1[q]? = H[q]?) (ho : ∀ k, k < n → ¬ A (α k)) : va_P D cl (gw_W n α cf) H1 :=
  hP.kept (fun k q hq => by
    have hl := (hP k q hq).lt
    obtain ⟨h, rfl⟩ := gw_of hq
    exact hk _ hl (ho k h))
section GWF
variable {p : Program} {l : Launch} {e : Env} {R : Room} {s : State} {m : MethodId} {args : Array Value} {below : List Frame} {meth : Method} {c : Code} {H H0 : Heap} {locs : List Loc} {cells slots : Nat} {Q : State → Prop}
variable {pc : Nat} {ls : Array Slot} {rest st0 : List Value} {a : Array Value}
theorem gw_calliF {S : Type} {post : Int32 → S → Prop} {B : S → State → Prop} {A A0 : Nat → Prop} (hr : va_Run p l e R s m args below meth c H locs cells slots 0 0 (F0 m pc ls st0) rest (va_Qi post B A a) A) (hS : va_S A0 H0 H locs) (hA : ∀ q, A q → A0 q)
    (kk : ∀ (r : Int32) (u : S) (t : State) (locs1 : List Loc), post r u → B u t → (∀ q : Nat, q < H.size → ¬ A q → t.heap[q]? = H[q]?) → va_S A0 H0 t.heap locs1 → W p l e R s m args below meth c t.heap locs1 cells slots Q (F0 m (pc + 3) ls (.int r :: rest))) : W p l e R s m args below meth c H locs cells slots Q (F0 m pc ls st0) :=
  va_calli hr hS (fun q _ h => hA q h) (fun q h => hA q h) (fun r u t H1 locs1 ht _ hp hb _ hk hS1 => by subst ht; exact kk r u t locs1 hp hb hk hS1)
end GWF
end
section
/-! PART 03: the class's own world: 88 cells. 0 the list, 1 parameters, 2 limits, 3 events, 4 the queue, 5 text, 6 queue's events, 7 queue's numbers, 8..23 Limit objects, 24..55 Event objects, 56..87 their actions' bytes.
d k j: the int in slot j of cell k; π i: which Limit object stands at place i. -/
abbrev wl_X : Type := va_G × (Nat → Nat) × ClassId × ClassId × ClassId × ClassId
def wl_row (X : wl_X) (k : Nat) (r : Nat → Int32) : va_E :=
  if k = 0 then .inr (3, [.ref (X.2.1 1), .ref (X.2.1 2), .int (r 2), .int (r 3), .int (r 4), .ref (X.2.1 3), .ref (X.2.1 4), .int (r 7), .int (r 8), .ref (X.2.1 5), .int (r 10)])
  else if k = 1 then .inl (X.2.2.1, 32, .inl r)
  else if k = 3 then .inl (X.2.2.2.2.2, 32, .inr (.inr (.inr (.inr (fun i => some (X.2.1 (24 + i)))))))
  else if k = 4 then .inr (2, [.ref (X.2.1 6), .ref (X.2.1 7), .int (r 2), .int (r 3)])
  else if k = 5 then .inl (X.2.2.2.1, 256, .inl r)
  else if k = 6 then .inl (X.2.2.1, 64, .inl r)
  else if k = 7 then .inl (X.2.2.1, 64, .inl r)
  else if k < 24 then .inr (1, [.int (r 0), .int (r 1), .int (r 2), .int (r 3), .int (r 4), .int (r 5), .int (r 6), .int (r 7), .int (r 8)])
  else if k < 56 then .inr (0, [.int (r 0), .ref (X.2.1 (k + 32)), .int (r 2), .int (r 3)])
  else .inl (X.2.2.2.1, 256, .inl r)
def wl_c (X : wl_X) (d : Nat → Nat → Int32) (π : Nat → Nat) (k : Nat) : va_E :=
  if k = 2 then .inl (X.2.2.2.2.1, 16, .inr (.inr (.inr (.inr (fun i => some (X.2.1 (8 + π i))))))) else wl_row X k (d k)
def wl_ty (X : wl_X) : List (ClassId × FieldType) := [(X.2.2.1, .int), (X.2.2.2.1, .byte), (X.2.2.2.2.1, .object "WatchList$Limit"), (X.2.2.2.2.2, .object "WatchList$Event")]
abbrev wl_ws (X : wl_X) (d : Nat → Nat → Int32) (π : Nat → Nat) : va_W := gw_W 88 X.2.1 (wl_c X d π)
section WLC
variable {X : wl_X} {d : Nat → Nat → Int32} {π : Nat → Nat}
theorem wl_c0 : wl_c X d π 0 = .inr (3, [.ref (X.2.1 1), .ref (X.2.1 2), .int (d 0 2), .int (d 0 3), .int (d 0 4), .ref (X.2.1 3), .ref (X.2.1 4), .int (d 0 7), .int (d 0 8), .ref (X.2.1 5), .int (d 0 10)]) := rfl
theorem wl_c1 : wl_c X d π 1 = .inl (X.2.2.1, 32, .inl (d 1)) := rfl
theorem wl_c2 : wl_c X d π 2 = .inl (X.2.2.2.2.1, 16, .inr (.inr (.inr (.inr (fun i => some (X.2.1 (8 + π i))))))) := rfl
theorem wl_c3 : wl_c X d π 3 = .inl (X.2.2.2.2.2, 32, .inr (.inr (.inr (.inr (fun i => some (X.2.1 (24 + i))))))) := rfl
theorem wl_c4 : wl_c X d π 4 = .inr (2, [.ref (X.2.1 6), .ref (X.2.1 7), .int (d 4 2), .int (d 4 3)]) := rfl
theorem wl_c5 : wl_c X d π 5 = .inl (X.2.2.2.1, 256, .inl (d 5)) := rfl
theorem wl_c6 : wl_c X d π 6 = .inl (X.2.2.1, 64, .inl (d 6)) := rfl
theorem wl_c7 : wl_c X d π 7 = .inl (X.2.2.1, 64, .inl (d 7)) := rfl
theorem wl_cL {i : Nat} (hi : i < 16) : wl_c X d π (8 + i) = .inr (1, [.int (d (8 + i) 0), .int (d (8 + i) 1), .int (d (8 + i) 2), .int (d (8 + i) 3), .int (d (8 + i) 4), .int (d (8 + i) 5), .int (d (8 + i) 6), .int (d (8 + i) 7), .int (d (8 + i) 8)]) := by
  unfold wl_c wl_row
  rw [if_neg (by omega), if_neg (by omega), if_neg (by omega), if_neg (by omega), if_neg (by omega), if_neg (by omega), if_neg (by omega), if_neg (by omega), if_pos (by omega)]
theorem wl_cE {i : Nat} (hi : i < 32) : wl_c X d π (24 + i) = .inr (0, [.int (d (24 + i) 0), .ref (X.2.1 (56 + i)), .int (d (24 + i) 2), .int (d (24 + i) 3)]) := by
  unfold wl_c wl_row
  rw [if_neg (by omega), if_neg (by omega), if_neg (by omega), if_neg (by omega), if_neg (by omega), if_neg (by omega), if_neg (by omega), if_neg (by omega), if_neg (by omega), if_pos (by omega), show 24 + i + 32 = 56 + i by omega]
theorem wl_cB {i : Nat} (hi : i < 32) : wl_c X d π (56 + i) = .inl (X.2.2.2.1, 256, .inl (d (56 + i))) := by
  unfold wl_c wl_row
  rw [if_neg (by omega), if_neg (by omega), if_neg (by omega), if_neg (by omega), if_neg (by omega), if_neg (by omega), if_neg (by omega), if_neg (by omega), if_neg (by omega), if_neg (by omega)]
theorem wl_kL {i : Nat} (hi : i < 16) : 8 + i < 88 := by omega
theorem wl_kE {i : Nat} (hi : i < 32) : 24 + i < 88 := by omega
theorem wl_kB {i : Nat} (hi : i < 32) : 56 + i < 88 := by omega
/-- another cell stays -/
theorem wl_o {k j : Nat} {v : Int32} : ∀ a, a ≠ k → wl_c X (up2 d k j v) π a = wl_c X d π a := by
  intro a h
  unfold wl_c
  rw [up2_ne h]
theorem wl_ov {k : Nat} {r : Nat → Int32} : ∀ a, a ≠ k → wl_c X (va_up d k r) π a = wl_c X d π a := by
  intro a h
  unfold wl_c
  rw [va_up_ne _ _ h]
theorem wl_op {π' : Nat → Nat} : ∀ a, a ≠ 2 → wl_c X d π' a = wl_c X d π a := by
  intro a h
  unfold wl_c
  rw [if_neg h, if_neg h]
theorem wl_uL {i j : Nat} {v : Int32} (hi : i < 16) (hj : j < 9) : wl_c X (up2 d (8 + i) j v) π (8 + i) = .inr (1, [.int (d (8 + i) 0), .int (d (8 + i) 1), .int (d (8 + i) 2), .int (d (8 + i) 3), .int (d (8 + i) 4), .int (d (8 + i) 5), .int (d (8 + i) 6), .int (d (8 + i) 7), .int (d (8 + i) 8)].set j (.int v)) := by
  rw [wl_cL hi, up2_same]
  match j, hj with
  | 0, _ => rfl
  | 1, _ => rfl
  | 2, _ => rfl
  | 3, _ => rfl
  | 4, _ => rfl
  | 5, _ => rfl
  | 6, _ => rfl
  | 7, _ => rfl
  | 8, _ => rfl
  | j + 9, h => exact absurd h (by omega)
theorem wl_uE0 {i : Nat} {v : Int32} (hi : i < 32) : wl_c X (up2 d (24 + i) 0 v) π (24 + i) = .inr (0, [.int (d (24 + i) 0), .ref (X.2.1 (56 + i)), .int (d (24 + i) 2), .int (d (24 + i) 3)].set 0 (.int v)) := by
  rw [wl_cE hi, up2_same]; rfl
theorem wl_uE2 {i : Nat} {v : Int32} (hi : i < 32) : wl_c X (up2 d (24 + i) 2 v) π (24 + i) = .inr (0, [.int (d (24 + i) 0), .ref (X.2.1 (56 + i)), .int (d (24 + i) 2), .int (d (24 + i) 3)].set 2 (.int v)) := by
  rw [wl_cE hi, up2_same]; rfl
theorem wl_uE3 {i : Nat} {v : Int32} (hi : i < 32) : wl_c X (up2 d (24 + i) 3 v) π (24 + i) = .inr (0, [.int (d (24 + i) 0), .ref (X.2.1 (56 + i)), .int (d (24 + i) 2), .int (d (24 + i) 3)].set 3 (.int v)) := by
  rw [wl_cE hi, up2_same]; rfl
theorem wl_u2 {i x : Nat} : wl_c X d (va_up π i x) 2 = .inl (X.2.2.2.2.1, 16, .inr (.inr (.inr (.inr (va_up (fun i => some (X.2.1 (8 + π i))) i (some (X.2.1 (8 + x)))))))) := by
  rw [wl_c2]
  have e : (fun a => some (X.2.1 (8 + va_up π i x a))) = va_up (fun a => some (X.2.1 (8 + π a))) i (some (X.2.1 (8 + x))) := by
    funext a
    unfold va_up
    by_cases h : a = i
    · rw [if_pos h, if_pos h]
    · rw [if_neg h, if_neg h]
  rw [e]
theorem wl_u5 {i : Nat} {x : Int32} : wl_c X (up2 d 5 i x.toInt8.toInt32) π 5 = .inl (X.2.2.2.1, 256, .inl (upd (d 5) i (vp_nar .byte x.toInt8.toInt32))) := by
  rw [wl_c5, up2_same, pk_vb]
end WLC
/-- the private members of nest mates that the class's code names -/
def wl_nest : List Cond := [.methodLinkNest "WatchList" 27 yX2_init "WatchList", .fieldLinkNest "WatchList" 98 "WatchList$Queue" "size" "I" "WatchList", .methodLinkNest "WatchList" 36 yX1_init "WatchList", .fieldLinkNest "WatchList" 150 "WatchList$Limit" "id" "I" "WatchList", .fieldLinkNest "WatchList" 79 "WatchList$Limit" "parameter" "I" "WatchList", .fieldLinkNest "WatchList" 88 "WatchList$Limit" "event" "I" "WatchList", .fieldLinkNest "WatchList" 85 "WatchList$Limit" "linked" "Z" "WatchList", .fieldLinkNest "WatchList" 64 "WatchList$Limit" "on" "Z" "WatchList", .methodLinkNest "WatchList" 37 yX0_init "WatchList", .fieldLinkNest "WatchList" 120 "WatchList$Event" "told" "Z" "WatchList", .fieldLinkNest "WatchList" 140 "WatchList$Event" "actionSize" "I" "WatchList", .fieldLinkNest "WatchList" 137 "WatchList$Event" "actionOn" "Z" "WatchList", .methodLinkNest "WatchList" 60 yX1_begin "WatchList", .methodLinkNest "WatchList" 72 yX1_turn "WatchList", .methodLinkNest "WatchList" 82 yX1_breaksAt "WatchList", .methodLinkNest "WatchList" 153 yX2_append "WatchList", .methodLinkNest "WatchList" 101 yX2_firstEvent "WatchList", .methodLinkNest "WatchList" 105 yX2_firstNumber "WatchList", .methodLinkNest "WatchList" 111 yX2_takeFirst "WatchList", .methodLinkNest "WatchList" 114 yX2_empty "WatchList", .methodLinkNest "WatchList" 126 yX0_hasAction "WatchList", .methodLinkNest "WatchList" 130 yX0_takeAction "WatchList", .methodLinkNest "WatchList" 143 yX1_tellOf "WatchList", .methodLinkNest "WatchList$Limit" 44 yX3_oneIf "WatchList", .methodLinkNest "WatchList" 146 yX0_tellOf "WatchList", .methodLinkNest "WatchList$Event" 32 yX3_oneIf "WatchList", .methodLinkNest "WatchList" 147 yX0_byteAt "WatchList"]
def wl_N (U : State) : Prop := ∀ w ∈ wl_nest, va_Nw w U
def wl_isNest : Cond → Bool
  | .fieldLinkNest .. => true
  | .methodLinkNest .. => true
  | _ => false
theorem wl_nest_ok : ∀ w ∈ wl_nest, wl_isNest w = true := by decide +kernel
theorem wl_N.same {u U : State} (h : u.vm = U.vm) (hN : wl_N u) : wl_N U := by
  intro w hw
  have h1 := wl_nest_ok w hw
  have h2 := hN w hw
  cases w <;> first | (simp [wl_isNest] at h1; done) | exact va_Nw.same rfl h h2
theorem wl_N.warm {s U : State} (hW : s.WarmedH U.vm) (hN : wl_N s) : wl_N U := by
  intro w hw
  have h1 := wl_nest_ok w hw
  have h2 := hN w hw
  cases w <;> first | (simp [wl_isNest] at h1; done) | exact va_Nw.warmF hW h2 | exact va_Nw.warmM hW h2
/-- a contract's start and end -/
def wl_pre (X : wl_X) (av : List Value) (d : Nat → Nat → Int32) (π : Nat → Nat) : Array Value → State → Prop := va_Pc av (fun U => va_P X.1 vwCl (wl_ws X d π) U.heap ∧ va_K X.1 vwCl (wl_ty X) U ∧ wl_N U)
def wl_b (X : wl_X) (u : (Nat → Nat → Int32) × (Nat → Nat)) (t : State) : Prop := va_P X.1 vwCl (wl_ws X u.1 u.2) t.heap
def wl_br (X : wl_X) (u : (Nat → Nat → Int32) × (Nat → Nat) × Nat) (a : Nat) (t : State) : Prop := a = X.2.1 u.2.2 ∧ va_P X.1 vwCl (wl_ws X u.1 u.2.1) t.heap
theorem wl_blind {X : wl_X} {av : List Value} {d : Nat → Nat → Int32} {π : Nat → Nat} : FrameBlind (wl_pre X av d π) := by
  intro a U g mk q
  obtain ⟨q0, qP, qK, qN⟩ := q
  exact ⟨q0, qP, va_K.moved (u := U) (U := U.calling g mk a) (Vm.Alike.refl U.vm) qK, wl_N.same (u := U) (U := U.calling g mk a) rfl qN⟩
theorem wl_at {X : wl_X} {av : List Value} {d : Nat → Nat → Int32} {π : Nat → Nat} {s : State} {H : Heap} (hP : va_P X.1 vwCl (wl_ws X d π) H) (hK : va_K X.1 vwCl (wl_ty X) s) (hN : wl_N s) : ∀ U : State, U.heap = H → s.WarmedH U.vm → wl_pre X av d π av.toArray U :=
  fun U hU hW => ⟨rfl, by rw [hU]; exact hP, va_K.moved hW.alike hK, hN.warm hW⟩
theorem wl_hB {X : wl_X} {d : Nat → Nat → Int32} {π : Nat → Nat} {H : Heap} (hP : va_P X.1 vwCl (wl_ws X d π) H) : ∀ t : State, t.heap = H → wl_b X (d, π) t := fun t ht => by
  show va_P X.1 vwCl (wl_ws X d π) t.heap
  rw [ht]; exact hP
theorem wl_hBr {X : wl_X} {d : Nat → Nat → Int32} {π : Nat → Nat} {k : Nat} {H : Heap} (hP : va_P X.1 vwCl (wl_ws X d π) H) : ∀ t : State, t.heap = H → wl_br X (d, π, k) (X.2.1 k) t := fun t ht => by
  refine ⟨rfl, ?_⟩
  show va_P X.1 vwCl (wl_ws X d π) t.heap
  rw [ht]; exact hP
/-! small words: truth as an int, a number in its range -/
def wl_i (b : Bool) : Int32 := if b = true then 1 else 0
theorem wl_i01 (b : Bool) : wl_i b = 0 ∨ wl_i b = 1 := by cases b <;> decide
theorem wl_it {b : Bool} (h : ¬ wl_i b = 0) : b = true := by cases b with
  | true => rfl
  | false => exact absurd rfl h
theorem wl_if {b : Bool} (h : wl_i b = 0) : b = false := by cases b with
  | false => rfl
  | true => exact absurd h (by decide)
def wl_ok (k n : Int32) : Bool := decide (0 ≤ k) && decide (k < n)
theorem wl_ok_lt {k n : Int32} (h : k < 0) : wl_ok k n = false := by
  have h0 : ¬ (0 : Int32) ≤ k := by
    rw [Int32.le_iff_toInt_le]; rw [Int32.lt_iff_toInt_lt] at h; omega
  simp [wl_ok, h0]
theorem wl_ok_ge {k n : Int32} (h : n ≤ k) : wl_ok k n = false := by
  have h0 : ¬ k < n := by
    rw [Int32.lt_iff_toInt_lt]; rw [Int32.le_iff_toInt_le] at h; omega
  simp [wl_ok, h0]
theorem wl_ok_t {k n : Int32} (h1 : ¬ k < 0) (h2 : ¬ n ≤ k) : wl_ok k n = true := by
  have a1 : (0 : Int32) ≤ k := by
    rw [Int32.le_iff_toInt_le]; rw [Int32.lt_iff_toInt_lt] at h1; omega
  have a2 : k < n := by
    rw [Int32.lt_iff_toInt_lt]; rw [Int32.le_iff_toInt_le] at h2; omega
  simp [wl_ok, a1, a2]
theorem wl_ok_of {k : Int32} {n : Nat} (hn : n < 2 ^ 31) (h : wl_ok k (nI n) = true) : ∃ j : Nat, j < n ∧ k = nI j := by
  simp only [wl_ok, Bool.and_eq_true, decide_eq_true_eq] at h
  refine vp_in_of (vp_in_iff.mpr ?_) hn
  have h1 := Int32.le_iff_toInt_le.mp h.1
  have h2 := Int32.lt_iff_toInt_lt.mp h.2
  rw [nI_toInt hn] at h2
  have h0 : (0 : Int32).toInt = 0 := by decide
  omega
theorem wl_ok_nI {j n : Nat} (h : j < n) (hn : n < 2 ^ 31) : wl_ok (nI j) (nI n) = true := wl_ok_t (nI_pos (by omega)) (nI_ge h hn)
theorem wl_ok32 {k : Int32} (h : wl_ok k 32 = true) : ∃ j : Nat, j < 32 ∧ k = nI j := wl_ok_of (n := 32) (by omega) h
theorem wl_ok256 {k : Int32} (h : wl_ok k 256 = true) : ∃ j : Nat, j < 256 ∧ k = nI j := wl_ok_of (n := 256) (by omega) h
theorem wl_sw (n : Nat) {x : Int32} (hn : n < 100) (h : ¬ (x.toInt < 0 ∨ (n : Int) < x.toInt)) : ∃ j : Nat, j ≤ n ∧ x = nI j := by
  have h1 : ¬ x < 0 := by
    rw [Int32.lt_iff_toInt_lt]
    have h0 : (0 : Int32).toInt = 0 := by decide
    omega
  obtain ⟨j, hj, e⟩ := nI_of h1
  refine ⟨j, ?_, e⟩
  rw [e, nI_toInt hj] at h
  omega
theorem wl_sw0_2 {x : Int32} (h : ¬ (x.toInt < 0 ∨ 2 < x.toInt)) : x = 0 ∨ x = 1 ∨ x = 2 := by
  obtain ⟨j, hj, e⟩ := wl_sw 2 (by omega) h
  rw [e]
  match j, hj with
  | 0, _ => decide
  | 1, _ => decide
  | 2, _ => decide
  | j + 3, h => exact absurd h (by omega)
theorem wl_sw0_4 {x : Int32} (h : ¬ (x.toInt < 0 ∨ 4 < x.toInt)) : x = 0 ∨ x = 1 ∨ x = 2 ∨ x = 3 ∨ x = 4 := by
  obtain ⟨j, hj, e⟩ := wl_sw 4 (by omega) h
  rw [e]
  match j, hj with
  | 0, _ => decide
  | 1, _ => decide
  | 2, _ => decide
  | 3, _ => decide
  | 4, _ => decide
  | j + 5, h => exact absurd h (by omega)
theorem wl_sw0_5 {x : Int32} (h : ¬ (x.toInt < 0 ∨ 5 < x.toInt)) : x = 0 ∨ x = 1 ∨ x = 2 ∨ x = 3 ∨ x = 4 ∨ x = 5 := by
  obtain ⟨j, hj, e⟩ := wl_sw 5 (by omega) h
  rw [e]
  match j, hj with
  | 0, _ => decide
  | 1, _ => decide
  | 2, _ => decide
  | 3, _ => decide
  | 4, _ => decide
  | 5, _ => decide
  | j + 6, h => exact absurd h (by omega)
end
section
/-! PART 04: what the class's methods answer and do, as functions of d and π -/
def wl_beg (d : Nat → Nat → Int32) (k : Nat) (id pa ti lo hi ev lk : Int32) : Nat → Nat → Int32 := up2 (up2 (up2 (up2 (up2 (up2 (up2 (up2 (up2 d k 0 id) k 1 pa) k 2 ti) k 3 lo) k 4 hi) k 5 ev) k 6 lk) k 7 0) k 8 0
def wl_inr (d : Nat → Nat → Int32) (k : Nat) (v : Int32) : Bool := decide (d k 3 ≤ v) && decide (v ≤ d k 4)
theorem wl_le_of {a b : Int32} (h : ¬ b < a) : a ≤ b := by
  rw [Int32.le_iff_toInt_le]; rw [Int32.lt_iff_toInt_lt] at h; omega
theorem wl_nle_of {a b : Int32} (h : b < a) : ¬ a ≤ b := by
  rw [Int32.le_iff_toInt_le]; rw [Int32.lt_iff_toInt_lt] at h; omega
theorem wl_lt_of {a b : Int32} (h : ¬ b ≤ a) : a < b := by
  rw [Int32.lt_iff_toInt_lt]; rw [Int32.le_iff_toInt_le] at h; omega
theorem wl_nlt_of {a b : Int32} (h : b ≤ a) : ¬ a < b := by
  rw [Int32.lt_iff_toInt_lt]; rw [Int32.le_iff_toInt_le] at h; omega
theorem wl_inr_lt {d : Nat → Nat → Int32} {k : Nat} {v : Int32} (h : v < d k 3) : wl_inr d k v = false := by
  simp [wl_inr, wl_nle_of h]
theorem wl_inr_gt {d : Nat → Nat → Int32} {k : Nat} {v : Int32} (h : d k 4 < v) : wl_inr d k v = false := by
  simp [wl_inr, wl_nle_of h]
theorem wl_inr_t {d : Nat → Nat → Int32} {k : Nat} {v : Int32} (h1 : ¬ v < d k 3) (h2 : ¬ d k 4 < v) : wl_inr d k v = true := by
  simp [wl_inr, wl_le_of h1, wl_le_of h2]
def wl_ltell (d : Nat → Nat → Int32) (k : Nat) (w : Int32) : Int32 := if w = 0 then d k 7 else if w = 1 then d k 8 else if w = 2 then d k 1 else if w = 3 then d k 2 else if w = 4 then d k 5 else if w = 5 then d k 6 else -1
def wl_etell (d : Nat → Nat → Int32) (k : Nat) (w : Int32) : Int32 := if w = 0 then d k 0 else if w = 1 then d k 2 else if w = 2 then d k 3 else -1
def wl_cnt (d : Nat → Nat → Int32) (w : Int32) : Int32 := if w = 0 then d 0 2 else if w = 1 then d 0 3 else if w = 2 then d 4 3 else if w = 3 then d 0 7 else if w = 4 then d 0 8 else -1
theorem wl_out (n : Nat) {w : Int32} (h : w.toInt < 0 ∨ (n : Int) < w.toInt) : ∀ j, j ≤ n → n < 100 → w ≠ nI j := by
  intro j hj hn e
  rw [e, nI_toInt (by omega)] at h
  omega
theorem wl_ltell_o {d : Nat → Nat → Int32} {k : Nat} {w : Int32} (h : w.toInt < 0 ∨ 5 < w.toInt) : wl_ltell d k w = -1 := by
  have a := wl_out 5 h
  unfold wl_ltell
  rw [if_neg (show ¬ w = 0 from a 0 (by omega) (by omega)), if_neg (show ¬ w = 1 from a 1 (by omega) (by omega)), if_neg (show ¬ w = 2 from a 2 (by omega) (by omega)), if_neg (show ¬ w = 3 from a 3 (by omega) (by omega)), if_neg (show ¬ w = 4 from a 4 (by omega) (by omega)), if_neg (show ¬ w = 5 from a 5 (by omega) (by omega))]
theorem wl_etell_o {d : Nat → Nat → Int32} {k : Nat} {w : Int32} (h : w.toInt < 0 ∨ 2 < w.toInt) : wl_etell d k w = -1 := by
  have a := wl_out 2 h
  unfold wl_etell
  rw [if_neg (show ¬ w = 0 from a 0 (by omega) (by omega)), if_neg (show ¬ w = 1 from a 1 (by omega) (by omega)), if_neg (show ¬ w = 2 from a 2 (by omega) (by omega))]
theorem wl_cnt_o {d : Nat → Nat → Int32} {w : Int32} (h : w.toInt < 0 ∨ 4 < w.toInt) : wl_cnt d w = -1 := by
  have a := wl_out 4 h
  unfold wl_cnt
  rw [if_neg (show ¬ w = 0 from a 0 (by omega) (by omega)), if_neg (show ¬ w = 1 from a 1 (by omega) (by omega)), if_neg (show ¬ w = 2 from a 2 (by omega) (by omega)), if_neg (show ¬ w = 3 from a 3 (by omega) (by omega)), if_neg (show ¬ w = 4 from a 4 (by omega) (by omega))]
theorem wl_pos_f {x : Int32} (h : x ≤ 0) : decide (0 < x) = false := decide_eq_false (wl_nlt_of h)
theorem wl_pos_t {x : Int32} (h : ¬ x ≤ 0) : decide (0 < x) = true := decide_eq_true (wl_lt_of h)
theorem wl_in_sz {k : Int32} {z n : Nat} (h1 : ¬ k < 0) (h2 : ¬ nI z ≤ k) (hz : z ≤ n) (hn : n < 2 ^ 31) : vp_in k n := by
  obtain ⟨j, hj, rfl⟩ := nI_of h1
  have : ¬ z ≤ j := fun q => h2 (nI_le q hj)
  exact vp_in_nI (by omega) hn
theorem wl_ring {a b : Int32} {f q : Nat} (h1 : a = nI f) (h2 : b = nI q) (hf : f < 1000) (hq : q < 1000) : a + b - (a + b) / 64 * 64 = nI ((f + q) % 64) := by
  rw [h1, h2, nI_add]
  exact pk_rem (d := 64) (by omega) (by omega) (by omega)
theorem wl_ring1 {a : Int32} {f : Nat} (h1 : a = nI f) (hf : f < 1000) : a + 1 - (a + 1) / 64 * 64 = nI ((f + 1) % 64) := by
  rw [h1, nI_1]
  exact pk_rem (d := 64) (by omega) (by omega) (by omega)
def wl_app (d : Nat → Nat → Int32) (f q : Nat) (ev nu : Int32) : Nat → Nat → Int32 := up2 (up2 (up2 d 6 ((f + q) % 64) ev) 7 ((f + q) % 64) nu) 4 3 (nI (q + 1))
/-- an event is raised -/
def wl_wol (d : Nat → Nat → Int32) (f q : Nat) (ev nu : Int32) : Nat → Nat → Int32 := if 64 ≤ q then up2 d 0 7 (d 0 7 + 1) else wl_app d f q ev nu
theorem wl_ok32c {k : Int32} (h : wl_ok k 32 = true) : vp_in k 32 ∧ k.toNatClampNeg < 32 := by
  obtain ⟨j, hj, rfl⟩ := wl_ok32 h
  rw [nI_clamp (by omega)]
  exact ⟨vp_in_nI hj (by omega), hj⟩
theorem wl_lt64 {x : Int32} {q : Nat} (hq : x = nI q) (h : x < 64) (h6 : q ≤ 64) : q < 64 := (nI_ltI (b := 64) (by omega) (by omega)).mp (by rw [← hq]; exact h)
theorem wl_nlt64 {x : Int32} {q : Nat} (hq : x = nI q) (h : ¬ x < 64) (h6 : q ≤ 64) : ¬ q < 64 := fun z => h (by rw [hq]; exact (nI_ltI (b := 64) (by omega) (by omega)).mpr z)
/-- the places pl+1 .. n hold what pl .. n-1 held -/
def wl_sh (π : Nat → Nat) (n pl : Nat) : Nat → Nat := fun j => if pl < j ∧ j ≤ n then π (j - 1) else π j
theorem wl_sh_n (π : Nat → Nat) (n : Nat) : wl_sh π n n = π := by
  funext j
  unfold wl_sh
  rw [if_neg (by omega)]
theorem wl_sh_lo {π : Nat → Nat} {n pl j : Nat} (h : j ≤ pl) : wl_sh π n pl j = π j := by
  unfold wl_sh
  rw [if_neg (by omega)]
theorem wl_sh_step {π : Nat → Nat} {n pl : Nat} (h0 : 0 < pl) (h : pl ≤ n) : va_up (wl_sh π n pl) pl (π (pl - 1)) = wl_sh π n (pl - 1) := by
  funext j
  unfold va_up wl_sh
  by_cases e : j = pl
  · subst e
    rw [if_pos rfl, if_pos (by omega)]
  · rw [if_neg e]
    by_cases g : pl < j ∧ j ≤ n
    · rw [if_pos g, if_pos (by omega)]
    · rw [if_neg g, if_neg (by omega)]
/-- the places a .. i-1 hold what a+1 .. i held -/
def wl_sl (π : Nat → Nat) (a i : Nat) : Nat → Nat := fun j => if a ≤ j ∧ j < i then π (j + 1) else π j
theorem wl_sl_0 (π : Nat → Nat) (a : Nat) : wl_sl π a a = π := by
  funext j
  unfold wl_sl
  rw [if_neg (by omega)]
theorem wl_sl_hi {π : Nat → Nat} {a i j : Nat} (h : i ≤ j) : wl_sl π a i j = π j := by
  unfold wl_sl
  rw [if_neg (by omega)]
theorem wl_sl_step {π : Nat → Nat} {a i : Nat} (h : a ≤ i) : va_up (wl_sl π a i) i (π (i + 1)) = wl_sl π a (i + 1) := by
  funext j
  unfold va_up wl_sl
  by_cases e : j = i
  · subst e
    rw [if_pos rfl, if_pos (by omega)]
  · rw [if_neg e]
    by_cases g : a ≤ j ∧ j < i
    · rw [if_pos g, if_pos (by omega)]
    · rw [if_neg g, if_neg (by omega)]
def wl_bad (id pa ti lo hi ev : Int32) : Bool := !(wl_ok id 256 && wl_ok pa 32 && wl_ok ev 32 && decide (1 ≤ ti) && decide (ti ≤ 255) && decide (lo ≤ hi))
section WLB
variable {id pa ti lo hi ev : Int32}
theorem wl_bad1 (h : wl_ok id 256 = false) : wl_bad id pa ti lo hi ev = true := by simp [wl_bad, h]
theorem wl_bad2 (h : wl_ok pa 32 = false) : wl_bad id pa ti lo hi ev = true := by simp [wl_bad, h]
theorem wl_bad3 (h : wl_ok ev 32 = false) : wl_bad id pa ti lo hi ev = true := by simp [wl_bad, h]
theorem wl_bad4 (h : ti < 1) : wl_bad id pa ti lo hi ev = true := by simp [wl_bad, wl_nle_of h]
theorem wl_bad5 (h : 255 < ti) : wl_bad id pa ti lo hi ev = true := by simp [wl_bad, wl_nle_of h]
theorem wl_bad6 (h : ¬ lo ≤ hi) : wl_bad id pa ti lo hi ev = true := by simp [wl_bad, h]
theorem wl_good (h1 : wl_ok id 256 = true) (h2 : wl_ok pa 32 = true) (h3 : wl_ok ev 32 = true) (h4 : ¬ ti < 1) (h5 : ¬ 255 < ti) (h6 : lo ≤ hi) : wl_bad id pa ti lo hi ev = false := by
  simp [wl_bad, h1, h2, h3, wl_le_of h4, wl_le_of h5, h6]
end WLB
theorem wl_nm1 {i : Nat} (h : i < 2 ^ 31) (e : nI i = -1) : False := by
  have := congrArg Int32.toInt e
  rw [nI_toInt h] at this
  have h1 : (-1 : Int32).toInt = -1 := by decide
  omega
theorem wl_cmpn {x : Int32} {q : Nat} (m : Nat) (hm : m < 2 ^ 31) (hq : x = nI q) (h6 : q < 2 ^ 31) : x < nI m ↔ q < m := by rw [hq]; exact nI_ltI h6 hm
theorem wl_lt16 {x : Int32} {n : Nat} (hn : x = nI n) (h : x < 16) (h6 : n ≤ 16) : n < 16 := (wl_cmpn 16 (by omega) hn (by omega)).mp h
theorem wl_ge16 {x : Int32} {n : Nat} (hn : x = nI n) (h : ¬ x < 16) (h6 : n ≤ 16) : n = 16 := by
  have : ¬ n < 16 := fun z => h ((wl_cmpn 16 (by omega) hn (by omega)).mpr z)
  omega
theorem wl_lt256 {x : Int32} {n : Nat} (hn : x = nI n) (h : x < 256) (h6 : n ≤ 256) : n < 256 := (wl_cmpn 256 (by omega) hn (by omega)).mp h
theorem wl_ge256 {x : Int32} {n : Nat} (hn : x = nI n) (h : ¬ x < 256) (h6 : n ≤ 256) : n = 256 := by
  have : ¬ n < 256 := fun z => h ((wl_cmpn 256 (by omega) hn (by omega)).mpr z)
  omega
theorem wl_eq0 {x : Int32} {n : Nat} (hn : x = nI n) (h6 : n < 2 ^ 31) : x = 0 ↔ n = 0 := by rw [hn]; exact nI_eq (b := 0) h6 (by omega)
theorem wl_q0 {x : Int32} {q : Nat} (hq : x = nI q) (h : ¬ x = 0) (h6 : q ≤ 64) : 0 < q := Nat.pos_of_ne_zero (fun z => h ((wl_eq0 hq (by omega)).mpr z))
theorem wl_q1 {x : Int32} {q : Nat} (hq : x = nI q) (h : x = 0) (h6 : q ≤ 64) : q = 0 := (wl_eq0 hq (by omega)).mp h
theorem wl_ts0 {x : Int32} {q : Nat} (hq : x = nI q) (h : ¬ x = 0) (h6 : q ≤ 256) : 0 < q := Nat.pos_of_ne_zero (fun z => h ((wl_eq0 hq (by omega)).mpr z))
theorem wl_ts1 {x : Int32} {q : Nat} (hq : x = nI q) (h : x = 0) (h6 : q ≤ 256) : q = 0 := (wl_eq0 hq (by omega)).mp h
theorem wl_pm1 {q : Nat} (h : 0 < q) : nI q - 1 = nI (q - 1) := by rw [show q = (q - 1) + 1 by omega, nI_pred, Nat.add_sub_cancel]
theorem wl_af {b : Bool} {x : Int32} (h : (if b = true then (if 0 < x then 0 else 30) else 16 : Int32) = 0) : b = true ∧ 0 < x := by
  cases b with
  | false =>
    rw [if_neg (by decide)] at h
    exact absurd h (by decide)
  | true =>
    refine ⟨rfl, ?_⟩
    by_cases g : 0 < x
    · exact g
    · rw [if_pos rfl, if_neg g] at h
      exact absurd h (by decide)
theorem wl_afn {b : Bool} {x : Int32} (h : ¬ (if b = true then (if 0 < x then 0 else 30) else 16 : Int32) = 0) : (b = false ∧ (if b = true then (if 0 < x then 0 else 30) else 16 : Int32) = 16) ∨ (b = true ∧ ¬ 0 < x ∧ (if b = true then (if 0 < x then 0 else 30) else 16 : Int32) = 30) := by
  cases b with
  | false => exact Or.inl ⟨rfl, rfl⟩
  | true =>
    by_cases g : 0 < x
    · rw [if_pos rfl, if_pos g] at h
      exact absurd rfl h
    · exact Or.inr ⟨rfl, g, by rw [if_pos rfl, if_neg g]⟩
/-! watching -/
def wl_brk (d : Nat → Nat → Int32) (k : Nat) (v : Int32) : Int32 := if wl_inr d k v = true then 0 else wl_i (decide (d k 8 + 1 = d k 2))
def wl_bd (d : Nat → Nat → Int32) (k : Nat) (v : Int32) : Nat → Nat → Int32 := up2 d k 8 (if wl_inr d k v = true then 0 else d k 8 + 1)
def wl_or (a b : Int32) : Int32 := if a = 0 then (if b = 0 then 0 else 1) else 1
def wl_wolD (d : Nat → Nat → Int32) (ev nu : Int32) : Nat → Nat → Int32 := wl_wol d (d 4 2).toNatClampNeg (d 4 3).toNatClampNeg ev nu
def wl_bl (d : Nat → Nat → Int32) (k : Nat) (v : Int32) : Nat → Nat → Int32 := up2 (wl_bd d k v) 0 4 (wl_or (wl_bd d k v 0 4) (wl_bd d k v k 6))
def wl_val (d : Nat → Nat → Int32) (k : Nat) : Int32 := d 1 (d k 1).toNatClampNeg
def wl_step (π : Nat → Nat) (i : Nat) (d : Nat → Nat → Int32) (b : Int32) : (Nat → Nat → Int32) × Int32 :=
  if d (8 + π i) 7 = 0 then (d, b) else if wl_brk d (8 + π i) (wl_val d (8 + π i)) = 0 then (wl_bd d (8 + π i) (wl_val d (8 + π i)), b)
  else (wl_wolD (wl_bl d (8 + π i) (wl_val d (8 + π i))) (wl_bl d (8 + π i) (wl_val d (8 + π i)) (8 + π i) 5) (wl_val d (8 + π i)), b + 1)
def wl_w (π : Nat → Nat) (d : Nat → Nat → Int32) : Nat → (Nat → Nat → Int32) × Int32
  | 0 => (up2 d 0 4 0, 0)
  | i + 1 => wl_step π i (wl_w π d i).1 (wl_w π d i).2
theorem wl_w0 {π : Nat → Nat} {d : Nat → Nat → Int32} : wl_w π d 0 = (up2 d 0 4 0, 0) := rfl
theorem wl_ws_ {π : Nat → Nat} {d : Nat → Nat → Int32} {i : Nat} : wl_w π d (i + 1) = wl_step π i (wl_w π d i).1 (wl_w π d i).2 := rfl
theorem wl_step0 {π : Nat → Nat} {i : Nat} {d : Nat → Nat → Int32} {b : Int32} (h : d (8 + π i) 7 = 0) : wl_step π i d b = (d, b) := by
  unfold wl_step; rw [if_pos h]
theorem wl_step1 {π : Nat → Nat} {i : Nat} {d : Nat → Nat → Int32} {b : Int32} (h : ¬ d (8 + π i) 7 = 0) (h2 : wl_brk d (8 + π i) (wl_val d (8 + π i)) = 0) : wl_step π i d b = (wl_bd d (8 + π i) (wl_val d (8 + π i)), b) := by
  unfold wl_step; rw [if_neg h, if_pos h2]
theorem wl_step2 {π : Nat → Nat} {i : Nat} {d : Nat → Nat → Int32} {b : Int32} (h : ¬ d (8 + π i) 7 = 0) (h2 : ¬ wl_brk d (8 + π i) (wl_val d (8 + π i)) = 0) : wl_step π i d b = (wl_wolD (wl_bl d (8 + π i) (wl_val d (8 + π i))) (wl_bl d (8 + π i) (wl_val d (8 + π i)) (8 + π i) 5) (wl_val d (8 + π i)), b + 1) := by
  unfold wl_step; rw [if_neg h, if_neg h2]
theorem wl_wolD_eq {d : Nat → Nat → Int32} {f q : Nat} {ev nu : Int32} (hf : d 4 2 = nI f) (hq : d 4 3 = nI q) (h1 : f < 2 ^ 31) (h2 : q < 2 ^ 31) : wl_wolD d ev nu = wl_wol d f q ev nu := by
  unfold wl_wolD
  rw [hf, hq, nI_clamp h1, nI_clamp h2]
theorem wl_bd_k {d : Nat → Nat → Int32} {k k' j : Nat} {v : Int32} (h : k' ≠ k) : wl_bd d k v k' j = d k' j := up2_k h
theorem wl_bd_j {d : Nat → Nat → Int32} {k j : Nat} {v : Int32} (h : j ≠ 8) : wl_bd d k v k j = d k j := up2_j h
theorem wl_bl_k {d : Nat → Nat → Int32} {k k' j : Nat} {v : Int32} (h : k' ≠ k) (h0 : k' ≠ 0) : wl_bl d k v k' j = d k' j := by
  unfold wl_bl
  rw [up2_k h0, wl_bd_k h]
theorem wl_bl_j {d : Nat → Nat → Int32} {k j : Nat} {v : Int32} (h : j ≠ 8) (h0 : k ≠ 0) : wl_bl d k v k j = d k j := by
  unfold wl_bl
  rw [up2_k h0, wl_bd_j h]
/-- what the raising of an event leaves as it was -/
theorem wl_wol_k {d : Nat → Nat → Int32} {f q : Nat} {ev nu : Int32} {k j : Nat} (h : (k ≠ 0 ∨ j ≠ 7) ∧ k ≠ 6 ∧ k ≠ 7 ∧ (k ≠ 4 ∨ j ≠ 3)) : wl_wol d f q ev nu k j = d k j := by
  unfold wl_wol wl_app
  split
  · rw [up2_at, if_neg (by omega)]
  · rw [up2_at, if_neg (by omega), up2_k (by omega), up2_k (by omega)]
theorem wl_wol_q {d : Nat → Nat → Int32} {f q : Nat} {ev nu : Int32} (hq : d 4 3 = nI q) (h6 : q ≤ 64) : ∃ q', q' ≤ 64 ∧ wl_wol d f q ev nu 4 3 = nI q' := by
  unfold wl_wol wl_app
  split
  · exact ⟨q, h6, by rw [up2_k (by decide)]; exact hq⟩
  · exact ⟨q + 1, by omega, up2_s⟩
/-- what watching keeps, and what it needs -/
def wl_wI (d0 d : Nat → Nat → Int32) (f : Nat) : Prop := d 0 2 = d0 0 2 ∧ (∀ j, d 1 j = d0 1 j) ∧ (∀ k j, 8 ≤ k → j ≠ 8 → d k j = d0 k j) ∧ d 4 2 = nI f ∧ ∃ q, q ≤ 64 ∧ d 4 3 = nI q
theorem wl_step_I {π : Nat → Nat} {i f : Nat} {d0 d : Nat → Nat → Int32} {b : Int32} (hf : f < 64) (h : wl_wI d0 d f) : wl_wI d0 (wl_step π i d b).1 f := by
  obtain ⟨h1, h2, h3, h4, q, h5, h6⟩ := h
  unfold wl_step
  have e3 : ∀ (v : Int32) k j, 8 ≤ k → j ≠ 8 → wl_bd d (8 + π i) v k j = d k j := by
    intro v k j hk hj
    by_cases e : k = 8 + π i
    · rw [e, wl_bd_j hj]
    · rw [wl_bd_k e]
  split
  · exact ⟨h1, h2, h3, h4, q, h5, h6⟩
  · split
    · dsimp only
      refine ⟨by rw [wl_bd_k (by omega)]; exact h1, fun j => by rw [wl_bd_k (by omega)]; exact h2 j, fun k j hk hj => by rw [e3 _ k j hk hj]; exact h3 k j hk hj, by rw [wl_bd_k (by omega)]; exact h4, q, h5, by rw [wl_bd_k (by omega)]; exact h6⟩
    · have g4 : wl_bl d (8 + π i) (wl_val d (8 + π i)) 4 2 = nI f := by rw [wl_bl_k (by omega) (by omega)]; exact h4
      have g6 : wl_bl d (8 + π i) (wl_val d (8 + π i)) 4 3 = nI q := by rw [wl_bl_k (by omega) (by omega)]; exact h6
      dsimp only
      rw [wl_wolD_eq g4 g6 (by omega) (by omega)]
      refine ⟨?_, fun j => ?_, fun k j hk hj => ?_, ?_, wl_wol_q g6 h5⟩
      · rw [wl_wol_k (by omega)]; unfold wl_bl; rw [up2_j (by decide), wl_bd_k (by omega)]; exact h1
      · rw [wl_wol_k (by omega), wl_bl_k (by omega) (by omega)]; exact h2 j
      · rw [wl_wol_k (by omega)]; unfold wl_bl; rw [up2_k (by omega), e3 _ k j hk hj]; exact h3 k j hk hj
      · rw [wl_wol_k (by omega)]; exact g4
theorem wl_w_I {π : Nat → Nat} {f q : Nat} {d : Nat → Nat → Int32} (hf : d 4 2 = nI f) (hq : d 4 3 = nI q) (hf6 : f < 64) (hq6 : q ≤ 64) (i : Nat) : wl_wI d (wl_w π d i).1 f := by
  induction i with
  | zero =>
    rw [wl_w0]
    dsimp only
    exact ⟨by rw [up2_j (by decide)], fun j => by rw [up2_k (by decide)], fun k j hk hj => by rw [up2_k (by omega)], by rw [up2_k (by decide)]; exact hf, q, hq6, by rw [up2_k (by decide)]; exact hq⟩
  | succ i ih => exact wl_step_I hf6 ih
end
section
variable {l : Launch}
set_option maxHeartbeats 4000000 in
set_option maxRecDepth 100000 in
theorem c_WatchList_isParameter (X : wl_X) (hX : gw_inj 88 X.2.1) (d : Nat → Nat → Int32) (π : Nat → Nat)  (k : Int32)  : Met l yX3_isParameter wsX3_isParameter ({ frames := 0, cells := 0, slots := 0, locals := 0 }) (wl_pre X [.int k] d π) (va_Qi (fun r u => r = wl_i (wl_ok k 32) ∧ u = (d, π)) (wl_b X) (gw_A 88 X.2.1)) 0 0 (gw_A 88 X.2.1) := by
  refine Met.ofW (cc := cX3_isParameter) (maxL := 1) (ret := (some .boolean)) (by decide) rfl ?_
  intro p e s m args below meth c s₁ B hml hv
  obtain ⟨rfl, hP, hK, hN⟩ := hv
  have hx := B.exec
  have hb := B.bytes
  have hr := B.returns
  have hts : ∀ w ∈ gG, w.before _ s = true := fun w h => atoms_spec (ws := wsX3_isParameter) B.pre w (List.mem_cons_of_mem _ h)
  have hown : s.vm.findClass RX3 = some m.cls := findClass_of_methodNamed B.named
  have hlocks := B.notSynchronized
  have hS : va_S (gw_A 88 X.2.1) s.heap s.heap [] := va_S.rf
  have hl := lv_entry ([.int k]) (n := 1) (Nat.le_of_ble_eq_true rfl)
  rw [lg_entry_eq]
  generalize (lg_sl ([.int k]) ++ List.replicate (1 - (lg_sl ([.int k])).length) Slot.unset).toArray = ls at hl ⊢
  have hl : lv_has ls 1 [(0, .int k)] := hl
  refine lv_iload_n hx hb dX3_isParameter_0 rfl (lv_at hl 0 rfl) ?_
  refine lv_if_lt (tgt := 14) hx hb dX3_isParameter_1 (by decide) (fun c_1 => ?_) (fun c_1 => ?_)
  · refine lv_iconst (v := 0) hx hb dX3_isParameter_14 (by decide) ?_
    refine gw_zret (d, π) hx hb hr hlocks (by decide) (wl_hB hP) hS dX3_isParameter_15 ?_
    rw [wl_ok_lt c_1]; exact ⟨rfl, rfl⟩
  · refine lv_iload_n hx hb dX3_isParameter_4 rfl (lv_at hl 0 rfl) ?_
    refine lv_bipush (v := 32) hx hb dX3_isParameter_5 (by decide) ?_
    refine lv_icmp_ge (tgt := 14) hx hb dX3_isParameter_7 (by decide) (fun c_2 => ?_) (fun c_2 => ?_)
    · refine lv_iconst (v := 0) hx hb dX3_isParameter_14 (by decide) ?_
      refine gw_zret (d, π) hx hb hr hlocks (by decide) (wl_hB hP) hS dX3_isParameter_15 ?_
      rw [wl_ok_ge c_2]; exact ⟨rfl, rfl⟩
    · refine lv_iconst (v := 1) hx hb dX3_isParameter_10 (by decide) ?_
      refine lv_goto (tgt := 15) hx hb dX3_isParameter_11 (by decide) ?_
      refine gw_zret (d, π) hx hb hr hlocks (by decide) (wl_hB hP) hS dX3_isParameter_15 ?_
      rw [wl_ok_t c_1 c_2]; exact ⟨rfl, rfl⟩
set_option maxHeartbeats 4000000 in
set_option maxRecDepth 100000 in
theorem c_WatchList_isEvent (X : wl_X) (hX : gw_inj 88 X.2.1) (d : Nat → Nat → Int32) (π : Nat → Nat)  (k : Int32)  : Met l yX3_isEvent wsX3_isEvent ({ frames := 0, cells := 0, slots := 0, locals := 0 }) (wl_pre X [.int k] d π) (va_Qi (fun r u => r = wl_i (wl_ok k 32) ∧ u = (d, π)) (wl_b X) (gw_A 88 X.2.1)) 0 0 (gw_A 88 X.2.1) := by
  refine Met.ofW (cc := cX3_isEvent) (maxL := 1) (ret := (some .boolean)) (by decide) rfl ?_
  intro p e s m args below meth c s₁ B hml hv
  obtain ⟨rfl, hP, hK, hN⟩ := hv
  have hx := B.exec
  have hb := B.bytes
  have hr := B.returns
  have hts : ∀ w ∈ gG, w.before _ s = true := fun w h => atoms_spec (ws := wsX3_isEvent) B.pre w (List.mem_cons_of_mem _ h)
  have hown : s.vm.findClass RX3 = some m.cls := findClass_of_methodNamed B.named
  have hlocks := B.notSynchronized
  have hS : va_S (gw_A 88 X.2.1) s.heap s.heap [] := va_S.rf
  have hl := lv_entry ([.int k]) (n := 1) (Nat.le_of_ble_eq_true rfl)
  rw [lg_entry_eq]
  generalize (lg_sl ([.int k]) ++ List.replicate (1 - (lg_sl ([.int k])).length) Slot.unset).toArray = ls at hl ⊢
  have hl : lv_has ls 1 [(0, .int k)] := hl
  refine lv_iload_n hx hb dX3_isEvent_0 rfl (lv_at hl 0 rfl) ?_
  refine lv_if_lt (tgt := 14) hx hb dX3_isEvent_1 (by decide) (fun c_1 => ?_) (fun c_1 => ?_)
  · refine lv_iconst (v := 0) hx hb dX3_isEvent_14 (by decide) ?_
    refine gw_zret (d, π) hx hb hr hlocks (by decide) (wl_hB hP) hS dX3_isEvent_15 ?_
    rw [wl_ok_lt c_1]; exact ⟨rfl, rfl⟩
  · refine lv_iload_n hx hb dX3_isEvent_4 rfl (lv_at hl 0 rfl) ?_
    refine lv_bipush (v := 32) hx hb dX3_isEvent_5 (by decide) ?_
    refine lv_icmp_ge (tgt := 14) hx hb dX3_isEvent_7 (by decide) (fun c_2 => ?_) (fun c_2 => ?_)
    · refine lv_iconst (v := 0) hx hb dX3_isEvent_14 (by decide) ?_
      refine gw_zret (d, π) hx hb hr hlocks (by decide) (wl_hB hP) hS dX3_isEvent_15 ?_
      rw [wl_ok_ge c_2]; exact ⟨rfl, rfl⟩
    · refine lv_iconst (v := 1) hx hb dX3_isEvent_10 (by decide) ?_
      refine lv_goto (tgt := 15) hx hb dX3_isEvent_11 (by decide) ?_
      refine gw_zret (d, π) hx hb hr hlocks (by decide) (wl_hB hP) hS dX3_isEvent_15 ?_
      rw [wl_ok_t c_1 c_2]; exact ⟨rfl, rfl⟩
set_option maxHeartbeats 4000000 in
set_option maxRecDepth 100000 in
theorem c_WatchList_isId (X : wl_X) (hX : gw_inj 88 X.2.1) (d : Nat → Nat → Int32) (π : Nat → Nat)  (k : Int32)  : Met l yX3_isId wsX3_isId ({ frames := 0, cells := 0, slots := 0, locals := 0 }) (wl_pre X [.int k] d π) (va_Qi (fun r u => r = wl_i (wl_ok k 256) ∧ u = (d, π)) (wl_b X) (gw_A 88 X.2.1)) 0 0 (gw_A 88 X.2.1) := by
  refine Met.ofW (cc := cX3_isId) (maxL := 1) (ret := (some .boolean)) (by decide) rfl ?_
  intro p e s m args below meth c s₁ B hml hv
  obtain ⟨rfl, hP, hK, hN⟩ := hv
  have hx := B.exec
  have hb := B.bytes
  have hr := B.returns
  have hts : ∀ w ∈ gG, w.before _ s = true := fun w h => atoms_spec (ws := wsX3_isId) B.pre w (List.mem_cons_of_mem _ h)
  have hown : s.vm.findClass RX3 = some m.cls := findClass_of_methodNamed B.named
  have hlocks := B.notSynchronized
  have hS : va_S (gw_A 88 X.2.1) s.heap s.heap [] := va_S.rf
  have hl := lv_entry ([.int k]) (n := 1) (Nat.le_of_ble_eq_true rfl)
  rw [lg_entry_eq]
  generalize (lg_sl ([.int k]) ++ List.replicate (1 - (lg_sl ([.int k])).length) Slot.unset).toArray = ls at hl ⊢
  have hl : lv_has ls 1 [(0, .int k)] := hl
  refine lv_iload_n hx hb dX3_isId_0 rfl (lv_at hl 0 rfl) ?_
  refine lv_if_lt (tgt := 15) hx hb dX3_isId_1 (by decide) (fun c_1 => ?_) (fun c_1 => ?_)
  · refine lv_iconst (v := 0) hx hb dX3_isId_15 (by decide) ?_
    refine gw_zret (d, π) hx hb hr hlocks (by decide) (wl_hB hP) hS dX3_isId_16 ?_
    rw [wl_ok_lt c_1]; exact ⟨rfl, rfl⟩
  · refine lv_iload_n hx hb dX3_isId_4 rfl (lv_at hl 0 rfl) ?_
    refine lv_sipush (v := 256) hx hb dX3_isId_5 (by decide) ?_
    refine lv_icmp_ge (tgt := 15) hx hb dX3_isId_8 (by decide) (fun c_2 => ?_) (fun c_2 => ?_)
    · refine lv_iconst (v := 0) hx hb dX3_isId_15 (by decide) ?_
      refine gw_zret (d, π) hx hb hr hlocks (by decide) (wl_hB hP) hS dX3_isId_16 ?_
      rw [wl_ok_ge c_2]; exact ⟨rfl, rfl⟩
    · refine lv_iconst (v := 1) hx hb dX3_isId_11 (by decide) ?_
      refine lv_goto (tgt := 16) hx hb dX3_isId_12 (by decide) ?_
      refine gw_zret (d, π) hx hb hr hlocks (by decide) (wl_hB hP) hS dX3_isId_16 ?_
      rw [wl_ok_t c_1 c_2]; exact ⟨rfl, rfl⟩
set_option maxHeartbeats 4000000 in
set_option maxRecDepth 100000 in
theorem c_WatchList_oneIf (X : wl_X) (hX : gw_inj 88 X.2.1) (d : Nat → Nat → Int32) (π : Nat → Nat)  (b : Int32) (hz : b = 0 ∨ b = 1) : Met l yX3_oneIf wsX3_oneIf ({ frames := 0, cells := 0, slots := 0, locals := 0 }) (wl_pre X [.int b] d π) (va_Qi (fun r u => r = b ∧ u = (d, π)) (wl_b X) (gw_A 88 X.2.1)) 0 0 (gw_A 88 X.2.1) := by
  refine Met.ofW (cc := cX3_oneIf) (maxL := 1) (ret := (some .int)) (by decide) rfl ?_
  intro p e s m args below meth c s₁ B hml hv
  obtain ⟨rfl, hP, hK, hN⟩ := hv
  have hx := B.exec
  have hb := B.bytes
  have hr := B.returns
  have hts : ∀ w ∈ gG, w.before _ s = true := fun w h => atoms_spec (ws := wsX3_oneIf) B.pre w (List.mem_cons_of_mem _ h)
  have hown : s.vm.findClass RX3 = some m.cls := findClass_of_methodNamed B.named
  have hlocks := B.notSynchronized
  have hS : va_S (gw_A 88 X.2.1) s.heap s.heap [] := va_S.rf
  have hl := lv_entry ([.int b]) (n := 1) (Nat.le_of_ble_eq_true rfl)
  rw [lg_entry_eq]
  generalize (lg_sl ([.int b]) ++ List.replicate (1 - (lg_sl ([.int b])).length) Slot.unset).toArray = ls at hl ⊢
  have hl : lv_has ls 1 [(0, .int b)] := hl
  refine lv_iload_n hx hb dX3_oneIf_0 rfl (lv_at hl 0 rfl) ?_
  refine lv_if_eq (tgt := 8) hx hb dX3_oneIf_1 (by decide) (fun c_1 => ?_) (fun c_1 => ?_)
  · refine lv_iconst (v := 0) hx hb dX3_oneIf_8 (by decide) ?_
    refine gw_iret (d, π) hx hb hr hlocks (wl_hB hP) hS dX3_oneIf_9 ?_
    exact ⟨c_1.symm, rfl⟩
  · refine lv_iconst (v := 1) hx hb dX3_oneIf_4 (by decide) ?_
    refine lv_goto (tgt := 9) hx hb dX3_oneIf_5 (by decide) ?_
    refine gw_iret (d, π) hx hb hr hlocks (wl_hB hP) hS dX3_oneIf_9 ?_
    exact ⟨(hz.resolve_left c_1).symm, rfl⟩
set_option maxHeartbeats 4000000 in
set_option maxRecDepth 100000 in
theorem c_Limit_turn (X : wl_X) (hX : gw_inj 88 X.2.1) (d : Nat → Nat → Int32) (π : Nat → Nat) (i : Nat) (hi : i < 16) (on : Int32) (hz : on = 0 ∨ on = 1) : Met l yX1_turn wsX1_turn ({ frames := 0, cells := 0, slots := 0, locals := 0 }) (wl_pre X [.ref (X.2.1 (8 + i)), .int on] d π) (va_Qv (fun u => u = (up2 (up2 d (8 + i) 7 on) (8 + i) 8 0, π)) (wl_b X) (gw_A 88 X.2.1)) 0 0 (gw_A 88 X.2.1) := by
  refine Met.ofW (cc := cX1_turn) (maxL := 2) (ret := none) (by decide) rfl ?_
  intro p e s m args below meth c s₁ B hml hv
  obtain ⟨rfl, hP, hK, hN⟩ := hv
  have hx := B.exec
  have hb := B.bytes
  have hr := B.returns
  have hts : ∀ w ∈ gG, w.before _ s = true := fun w h => atoms_spec (ws := wsX1_turn) B.pre w (List.mem_cons_of_mem _ h)
  have hown : s.vm.findClass RX1 = some m.cls := findClass_of_methodNamed B.named
  have hlocks := B.notSynchronized
  have hS : va_S (gw_A 88 X.2.1) s.heap s.heap [] := va_S.rf
  have hl := lv_entry ([.ref (X.2.1 (8 + i)), .int on]) (n := 2) (Nat.le_of_ble_eq_true rfl)
  rw [lg_entry_eq]
  generalize (lg_sl ([.ref (X.2.1 (8 + i)), .int on]) ++ List.replicate (2 - (lg_sl ([.ref (X.2.1 (8 + i)), .int on])).length) Slot.unset).toArray = ls at hl ⊢
  have hl : lv_has ls 2 [(0, .ref (X.2.1 (8 + i))), (1, .int on)] := hl
  refine lv_aload_n hx hb dX1_turn_0 rfl (lv_at hl 0 rfl) ?_
  refine lv_iload_n hx hb dX1_turn_1 rfl (lv_at hl 1 rfl) ?_
  refine gw_put hx hb hts inX1 tyX1 okX1 nmX1 hown hK hP hX hS (8 + i) (wl_kL hi) (wl_cL hi) rfl 7 (by decide) (hts _ mG_59) (fun _ h9 => h9) rfl (ty := .boolean) (v := .int on) (by decide +kernel) (gw_nz hz) (gw_fz hz) (Nat.le_of_ble_eq_true rfl) (cf' := wl_c X (up2 d (8 + i) 7 on) π) (wl_uL hi (by decide)) wl_o dX1_turn_2 (fun H locs hP hS => ?_)
  refine lv_aload_n hx hb dX1_turn_5 rfl (lv_at hl 0 rfl) ?_
  refine lv_iconst (v := 0) hx hb dX1_turn_6 (by decide) ?_
  refine gw_put hx hb hts inX1 tyX1 okX1 nmX1 hown hK hP hX hS (8 + i) (wl_kL hi) (wl_cL hi) rfl 8 (by decide) (hts _ mG_60) (fun _ h9 => h9) rfl (ty := .int) (v := .int 0) (by decide +kernel) rfl rfl (Nat.le_of_ble_eq_true rfl) (cf' := wl_c X (up2 (up2 d (8 + i) 7 on) (8 + i) 8 0) π) (wl_uL hi (by decide)) wl_o dX1_turn_7 (fun H locs hP hS => ?_)
  refine gw_vret (up2 (up2 d (8 + i) 7 on) (8 + i) 8 0, π) hx hb hr hlocks (wl_hB hP) hS dX1_turn_10 ?_
  rfl
set_option maxHeartbeats 4000000 in
set_option maxRecDepth 100000 in
theorem c_Limit_begin (X : wl_X) (hX : gw_inj 88 X.2.1) (d : Nat → Nat → Int32) (π : Nat → Nat) (i : Nat) (hi : i < 16) (id : Int32) (pa : Int32) (ti : Int32) (lo : Int32) (hi2 : Int32) (ev : Int32) (lk : Int32) (hz : lk = 0 ∨ lk = 1) : Met l yX1_begin wsX1_begin ({ frames := 1, cells := 0, slots := 0, locals := 21 }) (wl_pre X [.ref (X.2.1 (8 + i)), .int id, .int pa, .int ti, .int lo, .int hi2, .int ev, .int lk] d π) (va_Qv (fun u => u = (wl_beg d (8 + i) id pa ti lo hi2 ev lk, π)) (wl_b X) (gw_A 88 X.2.1)) 0 0 (gw_A 88 X.2.1) := by
  refine Met.ofW (cc := cX1_begin) (maxL := 8) (ret := none) (by decide) rfl ?_
  intro p e s m args below meth c s₁ B hml hv
  obtain ⟨rfl, hP, hK, hN⟩ := hv
  have hx := B.exec
  have hb := B.bytes
  have hr := B.returns
  have hts : ∀ w ∈ gG, w.before _ s = true := fun w h => atoms_spec (ws := wsX1_begin) B.pre w (List.mem_cons_of_mem _ h)
  have hown : s.vm.findClass RX1 = some m.cls := findClass_of_methodNamed B.named
  have hlocks := B.notSynchronized
  have hS : va_S (gw_A 88 X.2.1) s.heap s.heap [] := va_S.rf
  have hl := lv_entry ([.ref (X.2.1 (8 + i)), .int id, .int pa, .int ti, .int lo, .int hi2, .int ev, .int lk]) (n := 8) (Nat.le_of_ble_eq_true rfl)
  rw [lg_entry_eq]
  generalize (lg_sl ([.ref (X.2.1 (8 + i)), .int id, .int pa, .int ti, .int lo, .int hi2, .int ev, .int lk]) ++ List.replicate (8 - (lg_sl ([.ref (X.2.1 (8 + i)), .int id, .int pa, .int ti, .int lo, .int hi2, .int ev, .int lk])).length) Slot.unset).toArray = ls at hl ⊢
  have hl : lv_has ls 8 [(0, .ref (X.2.1 (8 + i))), (1, .int id), (2, .int pa), (3, .int ti), (4, .int lo), (5, .int hi2), (6, .int ev), (7, .int lk)] := hl
  refine lv_aload_n hx hb dX1_begin_0 rfl (lv_at hl 0 rfl) ?_
  refine lv_iload_n hx hb dX1_begin_1 rfl (lv_at hl 1 rfl) ?_
  refine gw_put hx hb hts inX1 tyX1 okX1 nmX1 hown hK hP hX hS (8 + i) (wl_kL hi) (wl_cL hi) rfl 0 (by decide) (hts _ mG_52) (fun _ h9 => h9) rfl (ty := .int) (v := .int id) (by decide +kernel) rfl rfl (Nat.le_of_ble_eq_true rfl) (cf' := wl_c X (up2 d (8 + i) 0 id) π) (wl_uL hi (by decide)) wl_o dX1_begin_2 (fun H locs hP hS => ?_)
  refine lv_aload_n hx hb dX1_begin_5 rfl (lv_at hl 0 rfl) ?_
  refine lv_iload_n hx hb dX1_begin_6 rfl (lv_at hl 2 rfl) ?_
  refine gw_put hx hb hts inX1 tyX1 okX1 nmX1 hown hK hP hX hS (8 + i) (wl_kL hi) (wl_cL hi) rfl 1 (by decide) (hts _ mG_53) (fun _ h9 => h9) rfl (ty := .int) (v := .int pa) (by decide +kernel) rfl rfl (Nat.le_of_ble_eq_true rfl) (cf' := wl_c X (up2 (up2 d (8 + i) 0 id) (8 + i) 1 pa) π) (wl_uL hi (by decide)) wl_o dX1_begin_7 (fun H locs hP hS => ?_)
  refine lv_aload_n hx hb dX1_begin_10 rfl (lv_at hl 0 rfl) ?_
  refine lv_iload_n hx hb dX1_begin_11 rfl (lv_at hl 3 rfl) ?_
  refine gw_put hx hb hts inX1 tyX1 okX1 nmX1 hown hK hP hX hS (8 + i) (wl_kL hi) (wl_cL hi) rfl 2 (by decide) (hts _ mG_54) (fun _ h9 => h9) rfl (ty := .int) (v := .int ti) (by decide +kernel) rfl rfl (Nat.le_of_ble_eq_true rfl) (cf' := wl_c X (up2 (up2 (up2 d (8 + i) 0 id) (8 + i) 1 pa) (8 + i) 2 ti) π) (wl_uL hi (by decide)) wl_o dX1_begin_12 (fun H locs hP hS => ?_)
  refine lv_aload_n hx hb dX1_begin_15 rfl (lv_at hl 0 rfl) ?_
  refine lv_iload hx hb dX1_begin_16 (lv_at hl 4 rfl) ?_
  refine gw_put hx hb hts inX1 tyX1 okX1 nmX1 hown hK hP hX hS (8 + i) (wl_kL hi) (wl_cL hi) rfl 3 (by decide) (hts _ mG_55) (fun _ h9 => h9) rfl (ty := .int) (v := .int lo) (by decide +kernel) rfl rfl (Nat.le_of_ble_eq_true rfl) (cf' := wl_c X (up2 (up2 (up2 (up2 d (8 + i) 0 id) (8 + i) 1 pa) (8 + i) 2 ti) (8 + i) 3 lo) π) (wl_uL hi (by decide)) wl_o dX1_begin_18 (fun H locs hP hS => ?_)
  refine lv_aload_n hx hb dX1_begin_21 rfl (lv_at hl 0 rfl) ?_
  refine lv_iload hx hb dX1_begin_22 (lv_at hl 5 rfl) ?_
  refine gw_put hx hb hts inX1 tyX1 okX1 nmX1 hown hK hP hX hS (8 + i) (wl_kL hi) (wl_cL hi) rfl 4 (by decide) (hts _ mG_56) (fun _ h9 => h9) rfl (ty := .int) (v := .int hi2) (by decide +kernel) rfl rfl (Nat.le_of_ble_eq_true rfl) (cf' := wl_c X (up2 (up2 (up2 (up2 (up2 d (8 + i) 0 id) (8 + i) 1 pa) (8 + i) 2 ti) (8 + i) 3 lo) (8 + i) 4 hi2) π) (wl_uL hi (by decide)) wl_o dX1_begin_24 (fun H locs hP hS => ?_)
  refine lv_aload_n hx hb dX1_begin_27 rfl (lv_at hl 0 rfl) ?_
  refine lv_iload hx hb dX1_begin_28 (lv_at hl 6 rfl) ?_
  refine gw_put hx hb hts inX1 tyX1 okX1 nmX1 hown hK hP hX hS (8 + i) (wl_kL hi) (wl_cL hi) rfl 5 (by decide) (hts _ mG_57) (fun _ h9 => h9) rfl (ty := .int) (v := .int ev) (by decide +kernel) rfl rfl (Nat.le_of_ble_eq_true rfl) (cf' := wl_c X (up2 (up2 (up2 (up2 (up2 (up2 d (8 + i) 0 id) (8 + i) 1 pa) (8 + i) 2 ti) (8 + i) 3 lo) (8 + i) 4 hi2) (8 + i) 5 ev) π) (wl_uL hi (by decide)) wl_o dX1_begin_30 (fun H locs hP hS => ?_)
  refine lv_aload_n hx hb dX1_begin_33 rfl (lv_at hl 0 rfl) ?_
  refine lv_iload hx hb dX1_begin_34 (lv_at hl 7 rfl) ?_
  refine gw_put hx hb hts inX1 tyX1 okX1 nmX1 hown hK hP hX hS (8 + i) (wl_kL hi) (wl_cL hi) rfl 6 (by decide) (hts _ mG_58) (fun _ h9 => h9) rfl (ty := .boolean) (v := .int lk) (by decide +kernel) (gw_nz hz) (gw_fz hz) (Nat.le_of_ble_eq_true rfl) (cf' := wl_c X (up2 (up2 (up2 (up2 (up2 (up2 (up2 d (8 + i) 0 id) (8 + i) 1 pa) (8 + i) 2 ti) (8 + i) 3 lo) (8 + i) 4 hi2) (8 + i) 5 ev) (8 + i) 6 lk) π) (wl_uL hi (by decide)) wl_o dX1_begin_36 (fun H locs hP hS => ?_)
  refine lv_aload_n hx hb dX1_begin_39 rfl (lv_at hl 0 rfl) ?_
  refine lv_iconst (v := 0) hx hb dX1_begin_40 (by decide) ?_
  refine gw_callv (va_runV (As := [.int 0]) (rest := []) ⟨hx, hb, hml, hown, hts⟩ (c_Limit_turn X hX (up2 (up2 (up2 (up2 (up2 (up2 (up2 d (8 + i) 0 id) (8 + i) 1 pa) (8 + i) 2 ti) (8 + i) 3 lo) (8 + i) 4 hi2) (8 + i) 5 ev) (8 + i) 6 lk) π i hi 0 (Or.inl rfl)) ⟨callB_of 1 hts giX1_turn rfl rfl rfl (hts _ mG_24) (hts _ mG_106) pdX1_turn ⟨Nat.le_of_ble_eq_true rfl, Nat.le_of_ble_eq_true rfl⟩, hts _ mG_107, hts _ mG_3⟩ ⟨wl_blind, gw_recv hK hP (8 + i) (wl_kL hi) (wl_cL hi) rfl, wl_at hP hK hN⟩ rfl rfl hl.1 rfl (lv_room (Nat.le_of_ble_eq_true rfl)) dX1_begin_41 ⟨Nat.le_of_ble_eq_true rfl, Nat.le_of_ble_eq_true rfl⟩) hS (fun u_1 t_1 locs hw hP hS => ?_)
  obtain rfl := hw
  have hP : va_P X.1 vwCl (wl_ws X (up2 (up2 (up2 (up2 (up2 (up2 (up2 (up2 (up2 d (8 + i) 0 id) (8 + i) 1 pa) (8 + i) 2 ti) (8 + i) 3 lo) (8 + i) 4 hi2) (8 + i) 5 ev) (8 + i) 6 lk) (8 + i) 7 0) (8 + i) 8 0) π) t_1.heap := hP
  refine gw_vret (up2 (up2 (up2 (up2 (up2 (up2 (up2 (up2 (up2 d (8 + i) 0 id) (8 + i) 1 pa) (8 + i) 2 ti) (8 + i) 3 lo) (8 + i) 4 hi2) (8 + i) 5 ev) (8 + i) 6 lk) (8 + i) 7 0) (8 + i) 8 0, π) hx hb hr hlocks (wl_hB hP) hS dX1_begin_44 ?_
  rfl
set_option maxHeartbeats 4000000 in
set_option maxRecDepth 100000 in
theorem c_Limit_breaksAt (X : wl_X) (hX : gw_inj 88 X.2.1) (d : Nat → Nat → Int32) (π : Nat → Nat) (i : Nat) (hi : i < 16) (v : Int32)  : Met l yX1_breaksAt wsX1_breaksAt ({ frames := 0, cells := 0, slots := 0, locals := 0 }) (wl_pre X [.ref (X.2.1 (8 + i)), .int v] d π) (va_Qi (fun r u => r = wl_brk d (8 + i) v ∧ u = (wl_bd d (8 + i) v, π)) (wl_b X) (gw_A 88 X.2.1)) 0 0 (gw_A 88 X.2.1) := by
  refine Met.ofW (cc := cX1_breaksAt) (maxL := 2) (ret := (some .boolean)) (by decide) rfl ?_
  intro p e s m args below meth c s₁ B hml hv
  obtain ⟨rfl, hP, hK, hN⟩ := hv
  have hx := B.exec
  have hb := B.bytes
  have hr := B.returns
  have hts : ∀ w ∈ gG, w.before _ s = true := fun w h => atoms_spec (ws := wsX1_breaksAt) B.pre w (List.mem_cons_of_mem _ h)
  have hown : s.vm.findClass RX1 = some m.cls := findClass_of_methodNamed B.named
  have hlocks := B.notSynchronized
  have hS : va_S (gw_A 88 X.2.1) s.heap s.heap [] := va_S.rf
  have hl := lv_entry ([.ref (X.2.1 (8 + i)), .int v]) (n := 2) (Nat.le_of_ble_eq_true rfl)
  rw [lg_entry_eq]
  generalize (lg_sl ([.ref (X.2.1 (8 + i)), .int v]) ++ List.replicate (2 - (lg_sl ([.ref (X.2.1 (8 + i)), .int v])).length) Slot.unset).toArray = ls at hl ⊢
  have hl : lv_has ls 2 [(0, .ref (X.2.1 (8 + i))), (1, .int v)] := hl
  refine lv_iload_n hx hb dX1_breaksAt_0 rfl (lv_at hl 1 rfl) ?_
  refine lv_aload_n hx hb dX1_breaksAt_1 rfl (lv_at hl 0 rfl) ?_
  refine gw_get hx hb hts inX1 hown hK hP (8 + i) (wl_kL hi) (wl_cL hi) rfl 3 (by decide) (hts _ mG_55) (fun _ h9 => h9) (v := .int (d (8 + i) 3)) rfl dX1_breaksAt_2 ?_
  refine lv_icmp_lt (tgt := 23) hx hb dX1_breaksAt_5 (by decide) (fun c_1 => ?_) (fun c_1 => ?_)
  · refine lv_aload_n hx hb dX1_breaksAt_23 rfl (lv_at hl 0 rfl) ?_
    refine lv_dup hx hb dX1_breaksAt_24 rfl ?_
    refine gw_get hx hb hts inX1 hown hK hP (8 + i) (wl_kL hi) (wl_cL hi) rfl 8 (by decide) (hts _ mG_60) (fun _ h9 => h9) (v := .int (d (8 + i) 8)) rfl dX1_breaksAt_25 ?_
    refine lv_iconst (v := 1) hx hb dX1_breaksAt_28 (by decide) ?_
    refine lv_iadd hx hb dX1_breaksAt_29 ?_
    refine gw_put hx hb hts inX1 tyX1 okX1 nmX1 hown hK hP hX hS (8 + i) (wl_kL hi) (wl_cL hi) rfl 8 (by decide) (hts _ mG_60) (fun _ h9 => h9) rfl (ty := .int) (v := .int ((d (8 + i) 8) + 1)) (by decide +kernel) rfl rfl (Nat.le_of_ble_eq_true rfl) (cf' := wl_c X (up2 d (8 + i) 8 ((d (8 + i) 8) + 1)) π) (wl_uL hi (by decide)) wl_o dX1_breaksAt_30 (fun H locs hP hS => ?_)
    refine lv_aload_n hx hb dX1_breaksAt_33 rfl (lv_at hl 0 rfl) ?_
    refine gw_get hx hb hts inX1 hown hK hP (8 + i) (wl_kL hi) (wl_cL hi) rfl 8 (by decide) (hts _ mG_60) (fun _ h9 => h9) (v := .int ((up2 d (8 + i) 8 ((d (8 + i) 8) + 1)) (8 + i) 8)) rfl dX1_breaksAt_34 ?_
    refine lv_aload_n hx hb dX1_breaksAt_37 rfl (lv_at hl 0 rfl) ?_
    refine gw_get hx hb hts inX1 hown hK hP (8 + i) (wl_kL hi) (wl_cL hi) rfl 2 (by decide) (hts _ mG_54) (fun _ h9 => h9) (v := .int ((up2 d (8 + i) 8 ((d (8 + i) 8) + 1)) (8 + i) 2)) rfl dX1_breaksAt_38 ?_
    refine lv_icmp_ne (tgt := 48) hx hb dX1_breaksAt_41 (by decide) (fun c_2 => ?_) (fun c_2 => ?_)
    · refine lv_iconst (v := 0) hx hb dX1_breaksAt_48 (by decide) ?_
      refine gw_zret (up2 d (8 + i) 8 ((d (8 + i) 8) + 1), π) hx hb hr hlocks (by decide) (wl_hB hP) hS dX1_breaksAt_49 ?_
      rw [up2_s, up2_j (by decide)] at c_2
      constructor <;> (try simp only [wl_brk, wl_bd, wl_inr_lt c_1, Bool.false_eq_true, if_false, decide_eq_false c_2]) <;> (try rfl)
    · refine lv_iconst (v := 1) hx hb dX1_breaksAt_44 (by decide) ?_
      refine lv_goto (tgt := 49) hx hb dX1_breaksAt_45 (by decide) ?_
      refine gw_zret (up2 d (8 + i) 8 ((d (8 + i) 8) + 1), π) hx hb hr hlocks (by decide) (wl_hB hP) hS dX1_breaksAt_49 ?_
      rw [up2_s, up2_j (by decide)] at c_2
      constructor <;> (try simp only [wl_brk, wl_bd, wl_inr_lt c_1, Bool.false_eq_true, if_false, decide_eq_true c_2]) <;> (try rfl)
  · refine lv_iload_n hx hb dX1_breaksAt_8 rfl (lv_at hl 1 rfl) ?_
    refine lv_aload_n hx hb dX1_breaksAt_9 rfl (lv_at hl 0 rfl) ?_
    refine gw_get hx hb hts inX1 hown hK hP (8 + i) (wl_kL hi) (wl_cL hi) rfl 4 (by decide) (hts _ mG_56) (fun _ h9 => h9) (v := .int (d (8 + i) 4)) rfl dX1_breaksAt_10 ?_
    refine lv_icmp_gt (tgt := 23) hx hb dX1_breaksAt_13 (by decide) (fun c_3 => ?_) (fun c_3 => ?_)
    · refine lv_aload_n hx hb dX1_breaksAt_23 rfl (lv_at hl 0 rfl) ?_
      refine lv_dup hx hb dX1_breaksAt_24 rfl ?_
      refine gw_get hx hb hts inX1 hown hK hP (8 + i) (wl_kL hi) (wl_cL hi) rfl 8 (by decide) (hts _ mG_60) (fun _ h9 => h9) (v := .int (d (8 + i) 8)) rfl dX1_breaksAt_25 ?_
      refine lv_iconst (v := 1) hx hb dX1_breaksAt_28 (by decide) ?_
      refine lv_iadd hx hb dX1_breaksAt_29 ?_
      refine gw_put hx hb hts inX1 tyX1 okX1 nmX1 hown hK hP hX hS (8 + i) (wl_kL hi) (wl_cL hi) rfl 8 (by decide) (hts _ mG_60) (fun _ h9 => h9) rfl (ty := .int) (v := .int ((d (8 + i) 8) + 1)) (by decide +kernel) rfl rfl (Nat.le_of_ble_eq_true rfl) (cf' := wl_c X (up2 d (8 + i) 8 ((d (8 + i) 8) + 1)) π) (wl_uL hi (by decide)) wl_o dX1_breaksAt_30 (fun H locs hP hS => ?_)
      refine lv_aload_n hx hb dX1_breaksAt_33 rfl (lv_at hl 0 rfl) ?_
      refine gw_get hx hb hts inX1 hown hK hP (8 + i) (wl_kL hi) (wl_cL hi) rfl 8 (by decide) (hts _ mG_60) (fun _ h9 => h9) (v := .int ((up2 d (8 + i) 8 ((d (8 + i) 8) + 1)) (8 + i) 8)) rfl dX1_breaksAt_34 ?_
      refine lv_aload_n hx hb dX1_breaksAt_37 rfl (lv_at hl 0 rfl) ?_
      refine gw_get hx hb hts inX1 hown hK hP (8 + i) (wl_kL hi) (wl_cL hi) rfl 2 (by decide) (hts _ mG_54) (fun _ h9 => h9) (v := .int ((up2 d (8 + i) 8 ((d (8 + i) 8) + 1)) (8 + i) 2)) rfl dX1_breaksAt_38 ?_
      refine lv_icmp_ne (tgt := 48) hx hb dX1_breaksAt_41 (by decide) (fun c_4 => ?_) (fun c_4 => ?_)
      · refine lv_iconst (v := 0) hx hb dX1_breaksAt_48 (by decide) ?_
        refine gw_zret (up2 d (8 + i) 8 ((d (8 + i) 8) + 1), π) hx hb hr hlocks (by decide) (wl_hB hP) hS dX1_breaksAt_49 ?_
        rw [up2_s, up2_j (by decide)] at c_4
        constructor <;> (try simp only [wl_brk, wl_bd, wl_inr_gt c_3, Bool.false_eq_true, if_false, decide_eq_false c_4]) <;> (try rfl)
      · refine lv_iconst (v := 1) hx hb dX1_breaksAt_44 (by decide) ?_
        refine lv_goto (tgt := 49) hx hb dX1_breaksAt_45 (by decide) ?_
        refine gw_zret (up2 d (8 + i) 8 ((d (8 + i) 8) + 1), π) hx hb hr hlocks (by decide) (wl_hB hP) hS dX1_breaksAt_49 ?_
        rw [up2_s, up2_j (by decide)] at c_4
        constructor <;> (try simp only [wl_brk, wl_bd, wl_inr_gt c_3, Bool.false_eq_true, if_false, decide_eq_true c_4]) <;> (try rfl)
    · refine lv_aload_n hx hb dX1_breaksAt_16 rfl (lv_at hl 0 rfl) ?_
      refine lv_iconst (v := 0) hx hb dX1_breaksAt_17 (by decide) ?_
      refine gw_put hx hb hts inX1 tyX1 okX1 nmX1 hown hK hP hX hS (8 + i) (wl_kL hi) (wl_cL hi) rfl 8 (by decide) (hts _ mG_60) (fun _ h9 => h9) rfl (ty := .int) (v := .int 0) (by decide +kernel) rfl rfl (Nat.le_of_ble_eq_true rfl) (cf' := wl_c X (up2 d (8 + i) 8 0) π) (wl_uL hi (by decide)) wl_o dX1_breaksAt_18 (fun H locs hP hS => ?_)
      refine lv_iconst (v := 0) hx hb dX1_breaksAt_21 (by decide) ?_
      refine gw_zret (up2 d (8 + i) 8 0, π) hx hb hr hlocks (by decide) (wl_hB hP) hS dX1_breaksAt_22 ?_
      constructor <;> (try simp only [wl_brk, wl_bd, wl_inr_t c_1 c_3, if_true]) <;> (try rfl)
set_option maxHeartbeats 4000000 in
set_option maxRecDepth 100000 in
theorem c_Limit_tellOf (X : wl_X) (hX : gw_inj 88 X.2.1) (d : Nat → Nat → Int32) (π : Nat → Nat) (i : Nat) (hi : i < 16) (w : Int32) (h7 : d (8 + i) 7 = 0 ∨ d (8 + i) 7 = 1) (h6 : d (8 + i) 6 = 0 ∨ d (8 + i) 6 = 1) : Met l yX1_tellOf wsX1_tellOf ({ frames := 1, cells := 0, slots := 0, locals := 20 }) (wl_pre X [.ref (X.2.1 (8 + i)), .int w] d π) (va_Qi (fun r u => r = wl_ltell d (8 + i) w ∧ u = (d, π)) (wl_b X) (gw_A 88 X.2.1)) 0 0 (gw_A 88 X.2.1) := by
  refine Met.ofW (cc := cX1_tellOf) (maxL := 2) (ret := (some .int)) (by decide) rfl ?_
  intro p e s m args below meth c s₁ B hml hv
  obtain ⟨rfl, hP, hK, hN⟩ := hv
  have hx := B.exec
  have hb := B.bytes
  have hr := B.returns
  have hts : ∀ w ∈ gG, w.before _ s = true := fun w h => atoms_spec (ws := wsX1_tellOf) B.pre w (List.mem_cons_of_mem _ h)
  have hown : s.vm.findClass RX1 = some m.cls := findClass_of_methodNamed B.named
  have hlocks := B.notSynchronized
  have hS : va_S (gw_A 88 X.2.1) s.heap s.heap [] := va_S.rf
  have hl := lv_entry ([.ref (X.2.1 (8 + i)), .int w]) (n := 2) (Nat.le_of_ble_eq_true rfl)
  rw [lg_entry_eq]
  generalize (lg_sl ([.ref (X.2.1 (8 + i)), .int w]) ++ List.replicate (2 - (lg_sl ([.ref (X.2.1 (8 + i)), .int w])).length) Slot.unset).toArray = ls at hl ⊢
  have hl : lv_has ls 2 [(0, .ref (X.2.1 (8 + i))), (1, .int w)] := hl
  refine lv_iload_n hx hb dX1_tellOf_0 rfl (lv_at hl 1 rfl) ?_
  by_cases c_1 : w.toInt < 0 ∨ 5 < w.toInt
  · refine lv_tableOut (tgt := 76) hx hb dX1_tellOf_1 c_1 (by decide) ?_
    refine lv_iconst (v := (-1)) hx hb dX1_tellOf_76 (by decide) ?_
    refine gw_iret (d, π) hx hb hr hlocks (wl_hB hP) hS dX1_tellOf_77 ?_
    rw [wl_ltell_o c_1]; exact ⟨rfl, rfl⟩
  · have h_c_1 : w = 0 ∨ w = 1 ∨ w = 2 ∨ w = 3 ∨ w = 4 ∨ w = 5 := wl_sw0_5 c_1
    rcases h_c_1 with e_c_1 | e_c_1 | e_c_1 | e_c_1 | e_c_1 | e_c_1
    · refine lv_tableIn (tgt := 40) hx hb dX1_tellOf_1 (by rw [e_c_1]; decide) (by rw [e_c_1]; decide) (by rw [e_c_1]; rfl) (by decide) ?_
      refine lv_aload_n hx hb dX1_tellOf_40 rfl (lv_at hl 0 rfl) ?_
      refine gw_get hx hb hts inX1 hown hK hP (8 + i) (wl_kL hi) (wl_cL hi) rfl 7 (by decide) (hts _ mG_59) (fun _ h9 => h9) (v := .int (d (8 + i) 7)) rfl dX1_tellOf_41 ?_
      refine gw_calli (va_runSN (As := [.int (d (8 + i) 7)]) (rest := []) ⟨hx, hb, hml, hown, hts⟩ (c_WatchList_oneIf X hX d π (d (8 + i) 7) h7) ⟨va_cnB 1 hts giX3_oneIf rfl rfl rfl (hN _ (List.mem_of_getElem? (i := 23) rfl)) (hts _ mG_22) pdX3_oneIf ⟨Nat.le_of_ble_eq_true rfl, Nat.le_of_ble_eq_true rfl⟩, hts _ mG_191, trivial⟩ ⟨wl_blind, wl_at hP hK hN⟩ rfl rfl hl.1 rfl (lv_room (Nat.le_of_ble_eq_true rfl)) dX1_tellOf_44 ⟨Nat.le_of_ble_eq_true rfl, Nat.le_of_ble_eq_true rfl⟩) hS (fun r_2 u_2 t_2 locs hw hP hS => ?_)
      obtain ⟨rfl, rfl⟩ := hw
      have hP : va_P X.1 vwCl (wl_ws X d π) t_2.heap := hP
      refine gw_iret (d, π) hx hb hr hlocks (wl_hB hP) hS dX1_tellOf_47 ?_
      rw [e_c_1]; exact ⟨rfl, rfl⟩
    · refine lv_tableIn (tgt := 48) hx hb dX1_tellOf_1 (by rw [e_c_1]; decide) (by rw [e_c_1]; decide) (by rw [e_c_1]; rfl) (by decide) ?_
      refine lv_aload_n hx hb dX1_tellOf_48 rfl (lv_at hl 0 rfl) ?_
      refine gw_get hx hb hts inX1 hown hK hP (8 + i) (wl_kL hi) (wl_cL hi) rfl 8 (by decide) (hts _ mG_60) (fun _ h9 => h9) (v := .int (d (8 + i) 8)) rfl dX1_tellOf_49 ?_
      refine gw_iret (d, π) hx hb hr hlocks (wl_hB hP) hS dX1_tellOf_52 ?_
      rw [e_c_1]; exact ⟨rfl, rfl⟩
    · refine lv_tableIn (tgt := 53) hx hb dX1_tellOf_1 (by rw [e_c_1]; decide) (by rw [e_c_1]; decide) (by rw [e_c_1]; rfl) (by decide) ?_
      refine lv_aload_n hx hb dX1_tellOf_53 rfl (lv_at hl 0 rfl) ?_
      refine gw_get hx hb hts inX1 hown hK hP (8 + i) (wl_kL hi) (wl_cL hi) rfl 1 (by decide) (hts _ mG_53) (fun _ h9 => h9) (v := .int (d (8 + i) 1)) rfl dX1_tellOf_54 ?_
      refine gw_iret (d, π) hx hb hr hlocks (wl_hB hP) hS dX1_tellOf_57 ?_
      rw [e_c_1]; exact ⟨rfl, rfl⟩
    · refine lv_tableIn (tgt := 58) hx hb dX1_tellOf_1 (by rw [e_c_1]; decide) (by rw [e_c_1]; decide) (by rw [e_c_1]; rfl) (by decide) ?_
      refine lv_aload_n hx hb dX1_tellOf_58 rfl (lv_at hl 0 rfl) ?_
      refine gw_get hx hb hts inX1 hown hK hP (8 + i) (wl_kL hi) (wl_cL hi) rfl 2 (by decide) (hts _ mG_54) (fun _ h9 => h9) (v := .int (d (8 + i) 2)) rfl dX1_tellOf_59 ?_
      refine gw_iret (d, π) hx hb hr hlocks (wl_hB hP) hS dX1_tellOf_62 ?_
      rw [e_c_1]; exact ⟨rfl, rfl⟩
    · refine lv_tableIn (tgt := 63) hx hb dX1_tellOf_1 (by rw [e_c_1]; decide) (by rw [e_c_1]; decide) (by rw [e_c_1]; rfl) (by decide) ?_
      refine lv_aload_n hx hb dX1_tellOf_63 rfl (lv_at hl 0 rfl) ?_
      refine gw_get hx hb hts inX1 hown hK hP (8 + i) (wl_kL hi) (wl_cL hi) rfl 5 (by decide) (hts _ mG_57) (fun _ h9 => h9) (v := .int (d (8 + i) 5)) rfl dX1_tellOf_64 ?_
      refine gw_iret (d, π) hx hb hr hlocks (wl_hB hP) hS dX1_tellOf_67 ?_
      rw [e_c_1]; exact ⟨rfl, rfl⟩
    · refine lv_tableIn (tgt := 68) hx hb dX1_tellOf_1 (by rw [e_c_1]; decide) (by rw [e_c_1]; decide) (by rw [e_c_1]; rfl) (by decide) ?_
      refine lv_aload_n hx hb dX1_tellOf_68 rfl (lv_at hl 0 rfl) ?_
      refine gw_get hx hb hts inX1 hown hK hP (8 + i) (wl_kL hi) (wl_cL hi) rfl 6 (by decide) (hts _ mG_58) (fun _ h9 => h9) (v := .int (d (8 + i) 6)) rfl dX1_tellOf_69 ?_
      refine gw_calli (va_runSN (As := [.int (d (8 + i) 6)]) (rest := []) ⟨hx, hb, hml, hown, hts⟩ (c_WatchList_oneIf X hX d π (d (8 + i) 6) h6) ⟨va_cnB 1 hts giX3_oneIf rfl rfl rfl (hN _ (List.mem_of_getElem? (i := 23) rfl)) (hts _ mG_22) pdX3_oneIf ⟨Nat.le_of_ble_eq_true rfl, Nat.le_of_ble_eq_true rfl⟩, hts _ mG_191, trivial⟩ ⟨wl_blind, wl_at hP hK hN⟩ rfl rfl hl.1 rfl (lv_room (Nat.le_of_ble_eq_true rfl)) dX1_tellOf_72 ⟨Nat.le_of_ble_eq_true rfl, Nat.le_of_ble_eq_true rfl⟩) hS (fun r_3 u_3 t_3 locs hw hP hS => ?_)
      obtain ⟨rfl, rfl⟩ := hw
      have hP : va_P X.1 vwCl (wl_ws X d π) t_3.heap := hP
      refine gw_iret (d, π) hx hb hr hlocks (wl_hB hP) hS dX1_tellOf_75 ?_
      rw [e_c_1]; exact ⟨rfl, rfl⟩
set_option maxHeartbeats 4000000 in
set_option maxRecDepth 100000 in
theorem c_Event_hasAction (X : wl_X) (hX : gw_inj 88 X.2.1) (d : Nat → Nat → Int32) (π : Nat → Nat) (i : Nat) (hi : i < 32)   : Met l yX0_hasAction wsX0_hasAction ({ frames := 0, cells := 0, slots := 0, locals := 0 }) (wl_pre X [.ref (X.2.1 (24 + i))] d π) (va_Qi (fun r u => r = wl_i (decide (0 < d (24 + i) 2)) ∧ u = (d, π)) (wl_b X) (gw_A 88 X.2.1)) 0 0 (gw_A 88 X.2.1) := by
  refine Met.ofW (cc := cX0_hasAction) (maxL := 1) (ret := (some .boolean)) (by decide) rfl ?_
  intro p e s m args below meth c s₁ B hml hv
  obtain ⟨rfl, hP, hK, hN⟩ := hv
  have hx := B.exec
  have hb := B.bytes
  have hr := B.returns
  have hts : ∀ w ∈ gG, w.before _ s = true := fun w h => atoms_spec (ws := wsX0_hasAction) B.pre w (List.mem_cons_of_mem _ h)
  have hown : s.vm.findClass RX0 = some m.cls := findClass_of_methodNamed B.named
  have hlocks := B.notSynchronized
  have hS : va_S (gw_A 88 X.2.1) s.heap s.heap [] := va_S.rf
  have hl := lv_entry ([.ref (X.2.1 (24 + i))]) (n := 1) (Nat.le_of_ble_eq_true rfl)
  rw [lg_entry_eq]
  generalize (lg_sl ([.ref (X.2.1 (24 + i))]) ++ List.replicate (1 - (lg_sl ([.ref (X.2.1 (24 + i))])).length) Slot.unset).toArray = ls at hl ⊢
  have hl : lv_has ls 1 [(0, .ref (X.2.1 (24 + i)))] := hl
  refine lv_aload_n hx hb dX0_hasAction_0 rfl (lv_at hl 0 rfl) ?_
  refine gw_get hx hb hts inX0 hown hK hP (24 + i) (wl_kE hi) (wl_cE hi) rfl 2 (by decide) (hts _ mG_68) (fun _ h9 => h9) (v := .int (d (24 + i) 2)) rfl dX0_hasAction_1 ?_
  refine lv_if_le (tgt := 11) hx hb dX0_hasAction_4 (by decide) (fun c_1 => ?_) (fun c_1 => ?_)
  · refine lv_iconst (v := 0) hx hb dX0_hasAction_11 (by decide) ?_
    refine gw_zret (d, π) hx hb hr hlocks (by decide) (wl_hB hP) hS dX0_hasAction_12 ?_
    rw [wl_pos_f c_1]; exact ⟨rfl, rfl⟩
  · refine lv_iconst (v := 1) hx hb dX0_hasAction_7 (by decide) ?_
    refine lv_goto (tgt := 12) hx hb dX0_hasAction_8 (by decide) ?_
    refine gw_zret (d, π) hx hb hr hlocks (by decide) (wl_hB hP) hS dX0_hasAction_12 ?_
    rw [wl_pos_t c_1]; exact ⟨rfl, rfl⟩
set_option maxHeartbeats 4000000 in
set_option maxRecDepth 100000 in
theorem c_Event_byteAt (X : wl_X) (hX : gw_inj 88 X.2.1) (d : Nat → Nat → Int32) (π : Nat → Nat) (i : Nat) (hi : i < 32) (k : Int32) (z : Nat) (hsz : d (24 + i) 2 = nI z) (hz : z ≤ 256) : Met l yX0_byteAt wsX0_byteAt ({ frames := 0, cells := 0, slots := 0, locals := 0 }) (wl_pre X [.ref (X.2.1 (24 + i)), .int k] d π) (va_Qi (fun r u => r = (if wl_ok k (d (24 + i) 2) = true then d (56 + i) k.toNatClampNeg &&& 255 else -1) ∧ u = (d, π)) (wl_b X) (gw_A 88 X.2.1)) 0 0 (gw_A 88 X.2.1) := by
  refine Met.ofW (cc := cX0_byteAt) (maxL := 2) (ret := (some .int)) (by decide) rfl ?_
  intro p e s m args below meth c s₁ B hml hv
  obtain ⟨rfl, hP, hK, hN⟩ := hv
  have hx := B.exec
  have hb := B.bytes
  have hr := B.returns
  have hts : ∀ w ∈ gG, w.before _ s = true := fun w h => atoms_spec (ws := wsX0_byteAt) B.pre w (List.mem_cons_of_mem _ h)
  have hown : s.vm.findClass RX0 = some m.cls := findClass_of_methodNamed B.named
  have hlocks := B.notSynchronized
  have hS : va_S (gw_A 88 X.2.1) s.heap s.heap [] := va_S.rf
  have hl := lv_entry ([.ref (X.2.1 (24 + i)), .int k]) (n := 2) (Nat.le_of_ble_eq_true rfl)
  rw [lg_entry_eq]
  generalize (lg_sl ([.ref (X.2.1 (24 + i)), .int k]) ++ List.replicate (2 - (lg_sl ([.ref (X.2.1 (24 + i)), .int k])).length) Slot.unset).toArray = ls at hl ⊢
  have hl : lv_has ls 2 [(0, .ref (X.2.1 (24 + i))), (1, .int k)] := hl
  refine lv_iload_n hx hb dX0_byteAt_0 rfl (lv_at hl 1 rfl) ?_
  refine lv_if_lt (tgt := 25) hx hb dX0_byteAt_1 (by decide) (fun c_1 => ?_) (fun c_1 => ?_)
  · refine lv_iconst (v := (-1)) hx hb dX0_byteAt_25 (by decide) ?_
    refine gw_iret (d, π) hx hb hr hlocks (wl_hB hP) hS dX0_byteAt_26 ?_
    constructor <;> (try simp only [wl_ok_lt c_1, Bool.false_eq_true, if_false]) <;> (try rfl)
  · refine lv_iload_n hx hb dX0_byteAt_4 rfl (lv_at hl 1 rfl) ?_
    refine lv_aload_n hx hb dX0_byteAt_5 rfl (lv_at hl 0 rfl) ?_
    refine gw_get hx hb hts inX0 hown hK hP (24 + i) (wl_kE hi) (wl_cE hi) rfl 2 (by decide) (hts _ mG_68) (fun _ h9 => h9) (v := .int (d (24 + i) 2)) rfl dX0_byteAt_6 ?_
    refine lv_icmp_ge (tgt := 25) hx hb dX0_byteAt_9 (by decide) (fun c_2 => ?_) (fun c_2 => ?_)
    · refine lv_iconst (v := (-1)) hx hb dX0_byteAt_25 (by decide) ?_
      refine gw_iret (d, π) hx hb hr hlocks (wl_hB hP) hS dX0_byteAt_26 ?_
      constructor <;> (try simp only [wl_ok_ge c_2, Bool.false_eq_true, if_false]) <;> (try rfl)
    · refine lv_aload_n hx hb dX0_byteAt_12 rfl (lv_at hl 0 rfl) ?_
      refine gw_get hx hb hts inX0 hown hK hP (24 + i) (wl_kE hi) (wl_cE hi) rfl 1 (by decide) (hts _ mG_67) (fun _ h9 => h9) (v := .ref (X.2.1 (56 + i))) rfl dX0_byteAt_13 ?_
      refine lv_iload_n hx hb dX0_byteAt_16 rfl (lv_at hl 1 rfl) ?_
      refine gw_bald hx hb hK hP (56 + i) 1 (wl_kB hi) (wl_cB hi) rfl (i := k) (wl_in_sz c_1 (by rw [← hsz]; exact c_2) hz (by omega)) dX0_byteAt_17 ?_
      refine lv_sipush (v := 255) hx hb dX0_byteAt_18 (by decide) ?_
      refine lv_iand hx hb dX0_byteAt_21 ?_
      refine lv_goto (tgt := 26) hx hb dX0_byteAt_22 (by decide) ?_
      refine gw_iret (d, π) hx hb hr hlocks (wl_hB hP) hS dX0_byteAt_26 ?_
      constructor <;> (try simp only [wl_ok_t c_1 c_2, if_true]) <;> (try rfl)
set_option maxHeartbeats 4000000 in
set_option maxRecDepth 100000 in
theorem c_Event_tellOf (X : wl_X) (hX : gw_inj 88 X.2.1) (d : Nat → Nat → Int32) (π : Nat → Nat) (i : Nat) (hi : i < 32) (w : Int32) (h0 : d (24 + i) 0 = 0 ∨ d (24 + i) 0 = 1) (h3 : d (24 + i) 3 = 0 ∨ d (24 + i) 3 = 1) : Met l yX0_tellOf wsX0_tellOf ({ frames := 1, cells := 0, slots := 0, locals := 20 }) (wl_pre X [.ref (X.2.1 (24 + i)), .int w] d π) (va_Qi (fun r u => r = wl_etell d (24 + i) w ∧ u = (d, π)) (wl_b X) (gw_A 88 X.2.1)) 0 0 (gw_A 88 X.2.1) := by
  refine Met.ofW (cc := cX0_tellOf) (maxL := 2) (ret := (some .int)) (by decide) rfl ?_
  intro p e s m args below meth c s₁ B hml hv
  obtain ⟨rfl, hP, hK, hN⟩ := hv
  have hx := B.exec
  have hb := B.bytes
  have hr := B.returns
  have hts : ∀ w ∈ gG, w.before _ s = true := fun w h => atoms_spec (ws := wsX0_tellOf) B.pre w (List.mem_cons_of_mem _ h)
  have hown : s.vm.findClass RX0 = some m.cls := findClass_of_methodNamed B.named
  have hlocks := B.notSynchronized
  have hS : va_S (gw_A 88 X.2.1) s.heap s.heap [] := va_S.rf
  have hl := lv_entry ([.ref (X.2.1 (24 + i)), .int w]) (n := 2) (Nat.le_of_ble_eq_true rfl)
  rw [lg_entry_eq]
  generalize (lg_sl ([.ref (X.2.1 (24 + i)), .int w]) ++ List.replicate (2 - (lg_sl ([.ref (X.2.1 (24 + i)), .int w])).length) Slot.unset).toArray = ls at hl ⊢
  have hl : lv_has ls 2 [(0, .ref (X.2.1 (24 + i))), (1, .int w)] := hl
  refine lv_iload_n hx hb dX0_tellOf_0 rfl (lv_at hl 1 rfl) ?_
  by_cases c_1 : w.toInt < 0 ∨ 2 < w.toInt
  · refine lv_tableOut (tgt := 49) hx hb dX0_tellOf_1 c_1 (by decide) ?_
    refine lv_iconst (v := (-1)) hx hb dX0_tellOf_49 (by decide) ?_
    refine gw_iret (d, π) hx hb hr hlocks (wl_hB hP) hS dX0_tellOf_50 ?_
    rw [wl_etell_o c_1]; exact ⟨rfl, rfl⟩
  · have h_c_1 : w = 0 ∨ w = 1 ∨ w = 2 := wl_sw0_2 c_1
    rcases h_c_1 with e_c_1 | e_c_1 | e_c_1
    · refine lv_tableIn (tgt := 28) hx hb dX0_tellOf_1 (by rw [e_c_1]; decide) (by rw [e_c_1]; decide) (by rw [e_c_1]; rfl) (by decide) ?_
      refine lv_aload_n hx hb dX0_tellOf_28 rfl (lv_at hl 0 rfl) ?_
      refine gw_get hx hb hts inX0 hown hK hP (24 + i) (wl_kE hi) (wl_cE hi) rfl 0 (by decide) (hts _ mG_66) (fun _ h9 => h9) (v := .int (d (24 + i) 0)) rfl dX0_tellOf_29 ?_
      refine gw_calli (va_runSN (As := [.int (d (24 + i) 0)]) (rest := []) ⟨hx, hb, hml, hown, hts⟩ (c_WatchList_oneIf X hX d π (d (24 + i) 0) h0) ⟨va_cnB 1 hts giX3_oneIf rfl rfl rfl (hN _ (List.mem_of_getElem? (i := 25) rfl)) (hts _ mG_22) pdX3_oneIf ⟨Nat.le_of_ble_eq_true rfl, Nat.le_of_ble_eq_true rfl⟩, hts _ mG_191, trivial⟩ ⟨wl_blind, wl_at hP hK hN⟩ rfl rfl hl.1 rfl (lv_room (Nat.le_of_ble_eq_true rfl)) dX0_tellOf_32 ⟨Nat.le_of_ble_eq_true rfl, Nat.le_of_ble_eq_true rfl⟩) hS (fun r_2 u_2 t_2 locs hw hP hS => ?_)
      obtain ⟨rfl, rfl⟩ := hw
      have hP : va_P X.1 vwCl (wl_ws X d π) t_2.heap := hP
      refine gw_iret (d, π) hx hb hr hlocks (wl_hB hP) hS dX0_tellOf_35 ?_
      rw [e_c_1]; exact ⟨rfl, rfl⟩
    · refine lv_tableIn (tgt := 36) hx hb dX0_tellOf_1 (by rw [e_c_1]; decide) (by rw [e_c_1]; decide) (by rw [e_c_1]; rfl) (by decide) ?_
      refine lv_aload_n hx hb dX0_tellOf_36 rfl (lv_at hl 0 rfl) ?_
      refine gw_get hx hb hts inX0 hown hK hP (24 + i) (wl_kE hi) (wl_cE hi) rfl 2 (by decide) (hts _ mG_68) (fun _ h9 => h9) (v := .int (d (24 + i) 2)) rfl dX0_tellOf_37 ?_
      refine gw_iret (d, π) hx hb hr hlocks (wl_hB hP) hS dX0_tellOf_40 ?_
      rw [e_c_1]; exact ⟨rfl, rfl⟩
    · refine lv_tableIn (tgt := 41) hx hb dX0_tellOf_1 (by rw [e_c_1]; decide) (by rw [e_c_1]; decide) (by rw [e_c_1]; rfl) (by decide) ?_
      refine lv_aload_n hx hb dX0_tellOf_41 rfl (lv_at hl 0 rfl) ?_
      refine gw_get hx hb hts inX0 hown hK hP (24 + i) (wl_kE hi) (wl_cE hi) rfl 3 (by decide) (hts _ mG_69) (fun _ h9 => h9) (v := .int (d (24 + i) 3)) rfl dX0_tellOf_42 ?_
      refine gw_calli (va_runSN (As := [.int (d (24 + i) 3)]) (rest := []) ⟨hx, hb, hml, hown, hts⟩ (c_WatchList_oneIf X hX d π (d (24 + i) 3) h3) ⟨va_cnB 1 hts giX3_oneIf rfl rfl rfl (hN _ (List.mem_of_getElem? (i := 25) rfl)) (hts _ mG_22) pdX3_oneIf ⟨Nat.le_of_ble_eq_true rfl, Nat.le_of_ble_eq_true rfl⟩, hts _ mG_191, trivial⟩ ⟨wl_blind, wl_at hP hK hN⟩ rfl rfl hl.1 rfl (lv_room (Nat.le_of_ble_eq_true rfl)) dX0_tellOf_45 ⟨Nat.le_of_ble_eq_true rfl, Nat.le_of_ble_eq_true rfl⟩) hS (fun r_3 u_3 t_3 locs hw hP hS => ?_)
      obtain ⟨rfl, rfl⟩ := hw
      have hP : va_P X.1 vwCl (wl_ws X d π) t_3.heap := hP
      refine gw_iret (d, π) hx hb hr hlocks (wl_hB hP) hS dX0_tellOf_48 ?_
      rw [e_c_1]; exact ⟨rfl, rfl⟩
set_option maxHeartbeats 4000000 in
set_option maxRecDepth 100000 in
theorem c_Event_takeAction (X : wl_X) (hX : gw_inj 88 X.2.1) (d : Nat → Nat → Int32) (π : Nat → Nat) (i : Nat) (hi : i < 32) (z : Nat)  (hz : z ≤ 256) (hfit : ∀ j, j < 256 → fits .byte (.int (d 5 j)) = true) : Met l yX0_takeAction wsX0_takeAction ({ frames := 1, cells := 0, slots := 0, locals := 40 }) (wl_pre X [.ref (X.2.1 (24 + i)), .ref (X.2.1 5), .int (nI z)] d π) (va_Qv (fun u => u = (up2 (up2 (va_up d (56 + i) (va_cpy (d 5) (d (56 + i)) 0 0 z)) (24 + i) 2 (nI z)) (24 + i) 3 0, π)) (wl_b X) (gw_A 88 X.2.1)) 0 0 (gw_A 88 X.2.1) := by
  refine Met.ofW (cc := cX0_takeAction) (maxL := 3) (ret := none) (by decide) rfl ?_
  intro p e s m args below meth c s₁ B hml hv
  obtain ⟨rfl, hP, hK, hN⟩ := hv
  have hx := B.exec
  have hb := B.bytes
  have hr := B.returns
  have hts : ∀ w ∈ gG, w.before _ s = true := fun w h => atoms_spec (ws := wsX0_takeAction) B.pre w (List.mem_cons_of_mem _ h)
  have hown : s.vm.findClass RX0 = some m.cls := findClass_of_methodNamed B.named
  have hlocks := B.notSynchronized
  have hS : va_S (gw_A 88 X.2.1) s.heap s.heap [] := va_S.rf
  have hl := lv_entry ([.ref (X.2.1 (24 + i)), .ref (X.2.1 5), .int (nI z)]) (n := 3) (Nat.le_of_ble_eq_true rfl)
  rw [lg_entry_eq]
  generalize (lg_sl ([.ref (X.2.1 (24 + i)), .ref (X.2.1 5), .int (nI z)]) ++ List.replicate (3 - (lg_sl ([.ref (X.2.1 (24 + i)), .ref (X.2.1 5), .int (nI z)])).length) Slot.unset).toArray = ls at hl ⊢
  have hl : lv_has ls 3 [(0, .ref (X.2.1 (24 + i))), (1, .ref (X.2.1 5)), (2, .int (nI z))] := hl
  refine lv_aload_n hx hb dX0_takeAction_0 rfl (lv_at hl 1 rfl) ?_
  refine lv_iconst (v := 0) hx hb dX0_takeAction_1 (by decide) ?_
  refine lv_aload_n hx hb dX0_takeAction_2 rfl (lv_at hl 0 rfl) ?_
  refine gw_get hx hb hts inX0 hown hK hP (24 + i) (wl_kE hi) (wl_cE hi) rfl 1 (by decide) (hts _ mG_67) (fun _ h9 => h9) (v := .ref (X.2.1 (56 + i))) rfl dX0_takeAction_3 ?_
  refine lv_iconst (v := 0) hx hb dX0_takeAction_6 (by decide) ?_
  refine lv_iload_n hx hb dX0_takeAction_7 rfl (lv_at hl 2 rfl) ?_
  refine gw_copyb hx hb (hml.trans hl.1.symm) hown (hts _ mG_171) (hts _ mG_173) (hts _ mG_172) (hts _ mG_27) hK hP hX hS 5 (56 + i) 1 1 (by decide) (wl_kB hi) wl_c5 (wl_cB hi) rfl rfl (z := z) (by omega) hz hz (fun j hj => hfit j (by omega)) (Nat.le_of_ble_eq_true rfl) (Nat.le_of_ble_eq_true rfl) (cf' := wl_c X (va_up d (56 + i) (va_cpy (d 5) (d (56 + i)) 0 0 z)) π) (by rw [wl_cB hi, va_up_self]) wl_ov dX0_takeAction_8 (fun H locs hP hS => ?_)
  refine lv_aload_n hx hb dX0_takeAction_11 rfl (lv_at hl 0 rfl) ?_
  refine lv_iload_n hx hb dX0_takeAction_12 rfl (lv_at hl 2 rfl) ?_
  refine gw_put hx hb hts inX0 tyX0 okX0 nmX0 hown hK hP hX hS (24 + i) (wl_kE hi) (wl_cE hi) rfl 2 (by decide) (hts _ mG_68) (fun _ h9 => h9) rfl (ty := .int) (v := .int (nI z)) (by decide +kernel) rfl rfl (Nat.le_of_ble_eq_true rfl) (cf' := wl_c X (up2 (va_up d (56 + i) (va_cpy (d 5) (d (56 + i)) 0 0 z)) (24 + i) 2 (nI z)) π) (wl_uE2 hi) wl_o dX0_takeAction_13 (fun H locs hP hS => ?_)
  refine lv_aload_n hx hb dX0_takeAction_16 rfl (lv_at hl 0 rfl) ?_
  refine lv_iconst (v := 0) hx hb dX0_takeAction_17 (by decide) ?_
  refine gw_put hx hb hts inX0 tyX0 okX0 nmX0 hown hK hP hX hS (24 + i) (wl_kE hi) (wl_cE hi) rfl 3 (by decide) (hts _ mG_69) (fun _ h9 => h9) rfl (ty := .boolean) (v := .int 0) (by decide +kernel) (gw_nz (by decide)) (gw_fz (by decide)) (Nat.le_of_ble_eq_true rfl) (cf' := wl_c X (up2 (up2 (va_up d (56 + i) (va_cpy (d 5) (d (56 + i)) 0 0 z)) (24 + i) 2 (nI z)) (24 + i) 3 0) π) (wl_uE3 hi) wl_o dX0_takeAction_18 (fun H locs hP hS => ?_)
  refine gw_vret (up2 (up2 (va_up d (56 + i) (va_cpy (d 5) (d (56 + i)) 0 0 z)) (24 + i) 2 (nI z)) (24 + i) 3 0, π) hx hb hr hlocks (wl_hB hP) hS dX0_takeAction_21 ?_
  rfl
set_option maxHeartbeats 4000000 in
set_option maxRecDepth 100000 in
theorem c_Queue_append (X : wl_X) (hX : gw_inj 88 X.2.1) (d : Nat → Nat → Int32) (π : Nat → Nat)  (ev : Int32) (nu : Int32) (f : Nat) (q : Nat) (hf : d 4 2 = nI f) (hq : d 4 3 = nI q) (hf6 : f < 64) (hq6 : q ≤ 64) : Met l yX2_append wsX2_append ({ frames := 0, cells := 0, slots := 0, locals := 0 }) (wl_pre X [.ref (X.2.1 4), .int ev, .int nu] d π) (va_Qv (fun u => u = (wl_app d f q ev nu, π)) (wl_b X) (gw_A 88 X.2.1)) 0 0 (gw_A 88 X.2.1) := by
  refine Met.ofW (cc := cX2_append) (maxL := 4) (ret := none) (by decide) rfl ?_
  intro p e s m args below meth c s₁ B hml hv
  obtain ⟨rfl, hP, hK, hN⟩ := hv
  have hx := B.exec
  have hb := B.bytes
  have hr := B.returns
  have hts : ∀ w ∈ gG, w.before _ s = true := fun w h => atoms_spec (ws := wsX2_append) B.pre w (List.mem_cons_of_mem _ h)
  have hown : s.vm.findClass RX2 = some m.cls := findClass_of_methodNamed B.named
  have hlocks := B.notSynchronized
  have hS : va_S (gw_A 88 X.2.1) s.heap s.heap [] := va_S.rf
  have hl := lv_entry ([.ref (X.2.1 4), .int ev, .int nu]) (n := 4) (Nat.le_of_ble_eq_true rfl)
  rw [lg_entry_eq]
  generalize (lg_sl ([.ref (X.2.1 4), .int ev, .int nu]) ++ List.replicate (4 - (lg_sl ([.ref (X.2.1 4), .int ev, .int nu])).length) Slot.unset).toArray = ls at hl ⊢
  have hl : lv_has ls 4 [(0, .ref (X.2.1 4)), (1, .int ev), (2, .int nu)] := hl
  refine lv_aload_n hx hb dX2_append_0 rfl (lv_at hl 0 rfl) ?_
  refine gw_get hx hb hts inX2 hown hK hP 4 (by decide) wl_c4 rfl 2 (by decide) (hts _ mG_45) (fun _ h9 => h9) (v := .int (d 4 2)) rfl dX2_append_1 ?_
  refine lv_aload_n hx hb dX2_append_4 rfl (lv_at hl 0 rfl) ?_
  refine gw_get hx hb hts inX2 hown hK hP 4 (by decide) wl_c4 rfl 3 (by decide) (hts _ mG_46) (fun _ h9 => h9) (v := .int (d 4 3)) rfl dX2_append_5 ?_
  refine lv_iadd hx hb dX2_append_8 ?_
  refine lv_bipush (v := 64) hx hb dX2_append_9 (by decide) ?_
  refine lv_irem hx hb dX2_append_11 (by decide) ?_
  refine W.eq (g2 := F0 m 12 ls (.int (nI ((f + q) % 64)) :: [])) (by rw [wl_ring hf hq (by omega) (by omega)]) ?_
  refine lv_istore_n (lv' := [(3, .int (nI ((f + q) % 64))), (0, .ref (X.2.1 4)), (1, .int ev), (2, .int nu)]) hx hb dX2_append_12 rfl hl (by decide) rfl (fun ls hl => ?_)
  refine lv_aload_n hx hb dX2_append_13 rfl (lv_at hl 1 rfl) ?_
  refine gw_get hx hb hts inX2 hown hK hP 4 (by decide) wl_c4 rfl 0 (by decide) (hts _ mG_43) (fun _ h9 => h9) (v := .ref (X.2.1 6)) rfl dX2_append_14 ?_
  refine lv_iload_n hx hb dX2_append_17 rfl (lv_at hl 0 rfl) ?_
  refine lv_iload_n hx hb dX2_append_18 rfl (lv_at hl 2 rfl) ?_
  refine gw_iast hx hb hK hP hX hS 6 0 (by decide) wl_c6 rfl (i := nI ((f + q) % 64)) (x := ev) (vp_in_nI (by omega) (by omega)) (cf' := wl_c X (up2 d 6 (nI ((f + q) % 64)).toNatClampNeg ev) π) rfl wl_o dX2_append_19 (fun H locs hP hS => ?_)
  refine lv_aload_n hx hb dX2_append_20 rfl (lv_at hl 1 rfl) ?_
  refine gw_get hx hb hts inX2 hown hK hP 4 (by decide) wl_c4 rfl 1 (by decide) (hts _ mG_44) (fun _ h9 => h9) (v := .ref (X.2.1 7)) rfl dX2_append_21 ?_
  refine lv_iload_n hx hb dX2_append_24 rfl (lv_at hl 0 rfl) ?_
  refine lv_iload_n hx hb dX2_append_25 rfl (lv_at hl 3 rfl) ?_
  refine gw_iast hx hb hK hP hX hS 7 0 (by decide) wl_c7 rfl (i := nI ((f + q) % 64)) (x := nu) (vp_in_nI (by omega) (by omega)) (cf' := wl_c X (up2 (up2 d 6 (nI ((f + q) % 64)).toNatClampNeg ev) 7 (nI ((f + q) % 64)).toNatClampNeg nu) π) rfl wl_o dX2_append_26 (fun H locs hP hS => ?_)
  refine lv_aload_n hx hb dX2_append_27 rfl (lv_at hl 1 rfl) ?_
  refine lv_dup hx hb dX2_append_28 rfl ?_
  refine gw_get hx hb hts inX2 hown hK hP 4 (by decide) wl_c4 rfl 3 (by decide) (hts _ mG_46) (fun _ h9 => h9) (v := .int ((up2 (up2 d 6 (nI ((f + q) % 64)).toNatClampNeg ev) 7 (nI ((f + q) % 64)).toNatClampNeg nu) 4 3)) rfl dX2_append_29 ?_
  refine lv_iconst (v := 1) hx hb dX2_append_32 (by decide) ?_
  refine lv_iadd hx hb dX2_append_33 ?_
  refine gw_put hx hb hts inX2 tyX2 okX2 nmX2 hown hK hP hX hS 4 (by decide) wl_c4 rfl 3 (by decide) (hts _ mG_46) (fun _ h9 => h9) rfl (ty := .int) (v := .int (((up2 (up2 d 6 (nI ((f + q) % 64)).toNatClampNeg ev) 7 (nI ((f + q) % 64)).toNatClampNeg nu) 4 3) + 1)) (by decide +kernel) rfl rfl (Nat.le_of_ble_eq_true rfl) (cf' := wl_c X (up2 (up2 (up2 d 6 (nI ((f + q) % 64)).toNatClampNeg ev) 7 (nI ((f + q) % 64)).toNatClampNeg nu) 4 3 (((up2 (up2 d 6 (nI ((f + q) % 64)).toNatClampNeg ev) 7 (nI ((f + q) % 64)).toNatClampNeg nu) 4 3) + 1)) π) rfl wl_o dX2_append_34 (fun H locs hP hS => ?_)
  refine gw_vret (up2 (up2 (up2 d 6 (nI ((f + q) % 64)).toNatClampNeg ev) 7 (nI ((f + q) % 64)).toNatClampNeg nu) 4 3 (((up2 (up2 d 6 (nI ((f + q) % 64)).toNatClampNeg ev) 7 (nI ((f + q) % 64)).toNatClampNeg nu) 4 3) + 1), π) hx hb hr hlocks (wl_hB hP) hS dX2_append_37 ?_
  have e9 : ((f + q) % 64) < 2 ^ 31 := by omega
  unfold wl_app
  rw [nI_clamp e9, up2_k (by decide), up2_k (by decide), hq, nI_1]
set_option maxHeartbeats 4000000 in
set_option maxRecDepth 100000 in
theorem c_Queue_firstEvent (X : wl_X) (hX : gw_inj 88 X.2.1) (d : Nat → Nat → Int32) (π : Nat → Nat)   (f : Nat) (hf : d 4 2 = nI f) (hf6 : f < 64) : Met l yX2_firstEvent wsX2_firstEvent ({ frames := 0, cells := 0, slots := 0, locals := 0 }) (wl_pre X [.ref (X.2.1 4)] d π) (va_Qi (fun r u => r = d 6 f ∧ u = (d, π)) (wl_b X) (gw_A 88 X.2.1)) 0 0 (gw_A 88 X.2.1) := by
  refine Met.ofW (cc := cX2_firstEvent) (maxL := 1) (ret := (some .int)) (by decide) rfl ?_
  intro p e s m args below meth c s₁ B hml hv
  obtain ⟨rfl, hP, hK, hN⟩ := hv
  have hx := B.exec
  have hb := B.bytes
  have hr := B.returns
  have hts : ∀ w ∈ gG, w.before _ s = true := fun w h => atoms_spec (ws := wsX2_firstEvent) B.pre w (List.mem_cons_of_mem _ h)
  have hown : s.vm.findClass RX2 = some m.cls := findClass_of_methodNamed B.named
  have hlocks := B.notSynchronized
  have hS : va_S (gw_A 88 X.2.1) s.heap s.heap [] := va_S.rf
  have hl := lv_entry ([.ref (X.2.1 4)]) (n := 1) (Nat.le_of_ble_eq_true rfl)
  rw [lg_entry_eq]
  generalize (lg_sl ([.ref (X.2.1 4)]) ++ List.replicate (1 - (lg_sl ([.ref (X.2.1 4)])).length) Slot.unset).toArray = ls at hl ⊢
  have hl : lv_has ls 1 [(0, .ref (X.2.1 4))] := hl
  refine lv_aload_n hx hb dX2_firstEvent_0 rfl (lv_at hl 0 rfl) ?_
  refine gw_get hx hb hts inX2 hown hK hP 4 (by decide) wl_c4 rfl 0 (by decide) (hts _ mG_43) (fun _ h9 => h9) (v := .ref (X.2.1 6)) rfl dX2_firstEvent_1 ?_
  refine lv_aload_n hx hb dX2_firstEvent_4 rfl (lv_at hl 0 rfl) ?_
  refine gw_get hx hb hts inX2 hown hK hP 4 (by decide) wl_c4 rfl 2 (by decide) (hts _ mG_45) (fun _ h9 => h9) (v := .int (d 4 2)) rfl dX2_firstEvent_5 ?_
  refine gw_iald hx hb hK hP 6 0 (by decide) wl_c6 rfl (i := d 4 2) (by rw [hf]; exact vp_in_nI hf6 (by omega)) dX2_firstEvent_8 ?_
  refine gw_iret (d, π) hx hb hr hlocks (wl_hB hP) hS dX2_firstEvent_9 ?_
  rw [hf, nI_clamp (by omega)]; exact ⟨rfl, rfl⟩
set_option maxHeartbeats 4000000 in
set_option maxRecDepth 100000 in
theorem c_Queue_firstNumber (X : wl_X) (hX : gw_inj 88 X.2.1) (d : Nat → Nat → Int32) (π : Nat → Nat)   (f : Nat) (hf : d 4 2 = nI f) (hf6 : f < 64) : Met l yX2_firstNumber wsX2_firstNumber ({ frames := 0, cells := 0, slots := 0, locals := 0 }) (wl_pre X [.ref (X.2.1 4)] d π) (va_Qi (fun r u => r = d 7 f ∧ u = (d, π)) (wl_b X) (gw_A 88 X.2.1)) 0 0 (gw_A 88 X.2.1) := by
  refine Met.ofW (cc := cX2_firstNumber) (maxL := 1) (ret := (some .int)) (by decide) rfl ?_
  intro p e s m args below meth c s₁ B hml hv
  obtain ⟨rfl, hP, hK, hN⟩ := hv
  have hx := B.exec
  have hb := B.bytes
  have hr := B.returns
  have hts : ∀ w ∈ gG, w.before _ s = true := fun w h => atoms_spec (ws := wsX2_firstNumber) B.pre w (List.mem_cons_of_mem _ h)
  have hown : s.vm.findClass RX2 = some m.cls := findClass_of_methodNamed B.named
  have hlocks := B.notSynchronized
  have hS : va_S (gw_A 88 X.2.1) s.heap s.heap [] := va_S.rf
  have hl := lv_entry ([.ref (X.2.1 4)]) (n := 1) (Nat.le_of_ble_eq_true rfl)
  rw [lg_entry_eq]
  generalize (lg_sl ([.ref (X.2.1 4)]) ++ List.replicate (1 - (lg_sl ([.ref (X.2.1 4)])).length) Slot.unset).toArray = ls at hl ⊢
  have hl : lv_has ls 1 [(0, .ref (X.2.1 4))] := hl
  refine lv_aload_n hx hb dX2_firstNumber_0 rfl (lv_at hl 0 rfl) ?_
  refine gw_get hx hb hts inX2 hown hK hP 4 (by decide) wl_c4 rfl 1 (by decide) (hts _ mG_44) (fun _ h9 => h9) (v := .ref (X.2.1 7)) rfl dX2_firstNumber_1 ?_
  refine lv_aload_n hx hb dX2_firstNumber_4 rfl (lv_at hl 0 rfl) ?_
  refine gw_get hx hb hts inX2 hown hK hP 4 (by decide) wl_c4 rfl 2 (by decide) (hts _ mG_45) (fun _ h9 => h9) (v := .int (d 4 2)) rfl dX2_firstNumber_5 ?_
  refine gw_iald hx hb hK hP 7 0 (by decide) wl_c7 rfl (i := d 4 2) (by rw [hf]; exact vp_in_nI hf6 (by omega)) dX2_firstNumber_8 ?_
  refine gw_iret (d, π) hx hb hr hlocks (wl_hB hP) hS dX2_firstNumber_9 ?_
  rw [hf, nI_clamp (by omega)]; exact ⟨rfl, rfl⟩
set_option maxHeartbeats 4000000 in
set_option maxRecDepth 100000 in
theorem c_Queue_takeFirst (X : wl_X) (hX : gw_inj 88 X.2.1) (d : Nat → Nat → Int32) (π : Nat → Nat)   (f : Nat) (hf : d 4 2 = nI f) (hf6 : f < 64) : Met l yX2_takeFirst wsX2_takeFirst ({ frames := 0, cells := 0, slots := 0, locals := 0 }) (wl_pre X [.ref (X.2.1 4)] d π) (va_Qv (fun u => u = (up2 (up2 d 4 2 (nI ((f + 1) % 64))) 4 3 (d 4 3 - 1), π)) (wl_b X) (gw_A 88 X.2.1)) 0 0 (gw_A 88 X.2.1) := by
  refine Met.ofW (cc := cX2_takeFirst) (maxL := 1) (ret := none) (by decide) rfl ?_
  intro p e s m args below meth c s₁ B hml hv
  obtain ⟨rfl, hP, hK, hN⟩ := hv
  have hx := B.exec
  have hb := B.bytes
  have hr := B.returns
  have hts : ∀ w ∈ gG, w.before _ s = true := fun w h => atoms_spec (ws := wsX2_takeFirst) B.pre w (List.mem_cons_of_mem _ h)
  have hown : s.vm.findClass RX2 = some m.cls := findClass_of_methodNamed B.named
  have hlocks := B.notSynchronized
  have hS : va_S (gw_A 88 X.2.1) s.heap s.heap [] := va_S.rf
  have hl := lv_entry ([.ref (X.2.1 4)]) (n := 1) (Nat.le_of_ble_eq_true rfl)
  rw [lg_entry_eq]
  generalize (lg_sl ([.ref (X.2.1 4)]) ++ List.replicate (1 - (lg_sl ([.ref (X.2.1 4)])).length) Slot.unset).toArray = ls at hl ⊢
  have hl : lv_has ls 1 [(0, .ref (X.2.1 4))] := hl
  refine lv_aload_n hx hb dX2_takeFirst_0 rfl (lv_at hl 0 rfl) ?_
  refine lv_aload_n hx hb dX2_takeFirst_1 rfl (lv_at hl 0 rfl) ?_
  refine gw_get hx hb hts inX2 hown hK hP 4 (by decide) wl_c4 rfl 2 (by decide) (hts _ mG_45) (fun _ h9 => h9) (v := .int (d 4 2)) rfl dX2_takeFirst_2 ?_
  refine lv_iconst (v := 1) hx hb dX2_takeFirst_5 (by decide) ?_
  refine lv_iadd hx hb dX2_takeFirst_6 ?_
  refine lv_bipush (v := 64) hx hb dX2_takeFirst_7 (by decide) ?_
  refine lv_irem hx hb dX2_takeFirst_9 (by decide) ?_
  refine W.eq (g2 := F0 m 10 ls (.int (nI ((f + 1) % 64)) :: .ref (X.2.1 4) :: [])) (by rw [wl_ring1 hf (by omega)]) ?_
  refine gw_put hx hb hts inX2 tyX2 okX2 nmX2 hown hK hP hX hS 4 (by decide) wl_c4 rfl 2 (by decide) (hts _ mG_45) (fun _ h9 => h9) rfl (ty := .int) (v := .int (nI ((f + 1) % 64))) (by decide +kernel) rfl rfl (Nat.le_of_ble_eq_true rfl) (cf' := wl_c X (up2 d 4 2 (nI ((f + 1) % 64))) π) rfl wl_o dX2_takeFirst_10 (fun H locs hP hS => ?_)
  refine lv_aload_n hx hb dX2_takeFirst_13 rfl (lv_at hl 0 rfl) ?_
  refine lv_dup hx hb dX2_takeFirst_14 rfl ?_
  refine gw_get hx hb hts inX2 hown hK hP 4 (by decide) wl_c4 rfl 3 (by decide) (hts _ mG_46) (fun _ h9 => h9) (v := .int ((up2 d 4 2 (nI ((f + 1) % 64))) 4 3)) rfl dX2_takeFirst_15 ?_
  refine lv_iconst (v := 1) hx hb dX2_takeFirst_18 (by decide) ?_
  refine lv_isub hx hb dX2_takeFirst_19 ?_
  refine gw_put hx hb hts inX2 tyX2 okX2 nmX2 hown hK hP hX hS 4 (by decide) wl_c4 rfl 3 (by decide) (hts _ mG_46) (fun _ h9 => h9) rfl (ty := .int) (v := .int (((up2 d 4 2 (nI ((f + 1) % 64))) 4 3) - 1)) (by decide +kernel) rfl rfl (Nat.le_of_ble_eq_true rfl) (cf' := wl_c X (up2 (up2 d 4 2 (nI ((f + 1) % 64))) 4 3 (((up2 d 4 2 (nI ((f + 1) % 64))) 4 3) - 1)) π) rfl wl_o dX2_takeFirst_20 (fun H locs hP hS => ?_)
  refine gw_vret (up2 (up2 d 4 2 (nI ((f + 1) % 64))) 4 3 (((up2 d 4 2 (nI ((f + 1) % 64))) 4 3) - 1), π) hx hb hr hlocks (wl_hB hP) hS dX2_takeFirst_23 ?_
  rw [up2_j (by decide)]
set_option maxHeartbeats 4000000 in
set_option maxRecDepth 100000 in
theorem c_Queue_empty (X : wl_X) (hX : gw_inj 88 X.2.1) (d : Nat → Nat → Int32) (π : Nat → Nat)    : Met l yX2_empty wsX2_empty ({ frames := 0, cells := 0, slots := 0, locals := 0 }) (wl_pre X [.ref (X.2.1 4)] d π) (va_Qv (fun u => u = (up2 d 4 3 0, π)) (wl_b X) (gw_A 88 X.2.1)) 0 0 (gw_A 88 X.2.1) := by
  refine Met.ofW (cc := cX2_empty) (maxL := 1) (ret := none) (by decide) rfl ?_
  intro p e s m args below meth c s₁ B hml hv
  obtain ⟨rfl, hP, hK, hN⟩ := hv
  have hx := B.exec
  have hb := B.bytes
  have hr := B.returns
  have hts : ∀ w ∈ gG, w.before _ s = true := fun w h => atoms_spec (ws := wsX2_empty) B.pre w (List.mem_cons_of_mem _ h)
  have hown : s.vm.findClass RX2 = some m.cls := findClass_of_methodNamed B.named
  have hlocks := B.notSynchronized
  have hS : va_S (gw_A 88 X.2.1) s.heap s.heap [] := va_S.rf
  have hl := lv_entry ([.ref (X.2.1 4)]) (n := 1) (Nat.le_of_ble_eq_true rfl)
  rw [lg_entry_eq]
  generalize (lg_sl ([.ref (X.2.1 4)]) ++ List.replicate (1 - (lg_sl ([.ref (X.2.1 4)])).length) Slot.unset).toArray = ls at hl ⊢
  have hl : lv_has ls 1 [(0, .ref (X.2.1 4))] := hl
  refine lv_aload_n hx hb dX2_empty_0 rfl (lv_at hl 0 rfl) ?_
  refine lv_iconst (v := 0) hx hb dX2_empty_1 (by decide) ?_
  refine gw_put hx hb hts inX2 tyX2 okX2 nmX2 hown hK hP hX hS 4 (by decide) wl_c4 rfl 3 (by decide) (hts _ mG_46) (fun _ h9 => h9) rfl (ty := .int) (v := .int 0) (by decide +kernel) rfl rfl (Nat.le_of_ble_eq_true rfl) (cf' := wl_c X (up2 d 4 3 0) π) rfl wl_o dX2_empty_2 (fun H locs hP hS => ?_)
  refine gw_vret (up2 d 4 3 0, π) hx hb hr hlocks (wl_hB hP) hS dX2_empty_5 ?_
  rfl
end
section
variable {l : Launch}
set_option maxHeartbeats 4000000 in
set_option maxRecDepth 100000 in
theorem c_WatchList_waitOrLose (X : wl_X) (hX : gw_inj 88 X.2.1) (d : Nat → Nat → Int32) (π : Nat → Nat)  (ev : Int32) (nu : Int32) (f : Nat) (q : Nat) (hf : d 4 2 = nI f) (hq : d 4 3 = nI q) (hf6 : f < 64) (hq6 : q ≤ 64) : Met l yX3_waitOrLose wsX3_waitOrLose ({ frames := 1, cells := 0, slots := 0, locals := 23 }) (wl_pre X [.ref (X.2.1 0), .int ev, .int nu] d π) (va_Qi (fun r u => r = wl_i (decide (q < 64)) ∧ u = (wl_wol d f q ev nu, π)) (wl_b X) (gw_A 88 X.2.1)) 0 0 (gw_A 88 X.2.1) := by
  refine Met.ofW (cc := cX3_waitOrLose) (maxL := 3) (ret := (some .boolean)) (by decide) rfl ?_
  intro p e s m args below meth c s₁ B hml hv
  obtain ⟨rfl, hP, hK, hN⟩ := hv
  have hx := B.exec
  have hb := B.bytes
  have hr := B.returns
  have hts : ∀ w ∈ gG, w.before _ s = true := fun w h => atoms_spec (ws := wsX3_waitOrLose) B.pre w (List.mem_cons_of_mem _ h)
  have hown : s.vm.findClass RX3 = some m.cls := findClass_of_methodNamed B.named
  have hlocks := B.notSynchronized
  have hS : va_S (gw_A 88 X.2.1) s.heap s.heap [] := va_S.rf
  have hl := lv_entry ([.ref (X.2.1 0), .int ev, .int nu]) (n := 3) (Nat.le_of_ble_eq_true rfl)
  rw [lg_entry_eq]
  generalize (lg_sl ([.ref (X.2.1 0), .int ev, .int nu]) ++ List.replicate (3 - (lg_sl ([.ref (X.2.1 0), .int ev, .int nu])).length) Slot.unset).toArray = ls at hl ⊢
  have hl : lv_has ls 3 [(0, .ref (X.2.1 0)), (1, .int ev), (2, .int nu)] := hl
  refine lv_aload_n hx hb dX3_waitOrLose_0 rfl (lv_at hl 0 rfl) ?_
  refine gw_get hx hb hts inX3 hown hK hP 0 (by decide) wl_c0 rfl 6 (by decide) (hts _ mG_76) (fun _ h9 => h9) (v := .ref (X.2.1 4)) rfl dX3_waitOrLose_1 ?_
  refine gw_getN hx hb hts inX2 hown hK hP 4 (by decide) wl_c4 rfl 3 (by decide) (hN _ (List.mem_of_getElem? (i := 1) rfl)) (fun _ h9 => h9) (v := .int (d 4 3)) rfl dX3_waitOrLose_4 ?_
  refine lv_bipush (v := 64) hx hb dX3_waitOrLose_7 (by decide) ?_
  refine lv_icmp_lt (tgt := 24) hx hb dX3_waitOrLose_9 (by decide) (fun c_1 => ?_) (fun c_1 => ?_)
  · refine lv_aload_n hx hb dX3_waitOrLose_24 rfl (lv_at hl 0 rfl) ?_
    refine gw_get hx hb hts inX3 hown hK hP 0 (by decide) wl_c0 rfl 6 (by decide) (hts _ mG_76) (fun _ h9 => h9) (v := .ref (X.2.1 4)) rfl dX3_waitOrLose_25 ?_
    refine lv_iload_n hx hb dX3_waitOrLose_28 rfl (lv_at hl 1 rfl) ?_
    refine lv_iload_n hx hb dX3_waitOrLose_29 rfl (lv_at hl 2 rfl) ?_
    refine gw_callv (va_runVN (As := [.int ev, .int nu]) (rest := []) ⟨hx, hb, hml, hown, hts⟩ (c_Queue_append X hX d π ev nu f q hf hq hf6 hq6) ⟨va_cnB 2 hts giX2_append rfl rfl rfl (hN _ (List.mem_of_getElem? (i := 15) rfl)) (hts _ mG_23) pdX2_append ⟨Nat.le_of_ble_eq_true rfl, Nat.le_of_ble_eq_true rfl⟩, hts _ mG_129, hts _ mG_7⟩ ⟨wl_blind, gw_recv hK hP 4 (by decide) wl_c4 rfl, wl_at hP hK hN⟩ rfl rfl hl.1 rfl (lv_room (Nat.le_of_ble_eq_true rfl)) dX3_waitOrLose_30 ⟨Nat.le_of_ble_eq_true rfl, Nat.le_of_ble_eq_true rfl⟩) hS (fun u_2 t_2 locs hw hP hS => ?_)
    obtain rfl := hw
    have hP : va_P X.1 vwCl (wl_ws X (wl_app d f q ev nu) π) t_2.heap := hP
    refine lv_iconst (v := 1) hx hb dX3_waitOrLose_33 (by decide) ?_
    refine gw_zret (wl_app d f q ev nu, π) hx hb hr hlocks (by decide) (wl_hB hP) hS dX3_waitOrLose_34 ?_
    have e9 := wl_lt64 hq c_1 hq6
    unfold wl_wol
    rw [if_neg (by omega), decide_eq_true e9]; exact ⟨rfl, rfl⟩
  · refine lv_aload_n hx hb dX3_waitOrLose_12 rfl (lv_at hl 0 rfl) ?_
    refine lv_dup hx hb dX3_waitOrLose_13 rfl ?_
    refine gw_get hx hb hts inX3 hown hK hP 0 (by decide) wl_c0 rfl 7 (by decide) (hts _ mG_77) (fun _ h9 => h9) (v := .int (d 0 7)) rfl dX3_waitOrLose_14 ?_
    refine lv_iconst (v := 1) hx hb dX3_waitOrLose_17 (by decide) ?_
    refine lv_iadd hx hb dX3_waitOrLose_18 ?_
    refine gw_put hx hb hts inX3 tyX3 okX3 nmX3 hown hK hP hX hS 0 (by decide) wl_c0 rfl 7 (by decide) (hts _ mG_77) (fun _ h9 => h9) rfl (ty := .int) (v := .int ((d 0 7) + 1)) (by decide +kernel) rfl rfl (Nat.le_of_ble_eq_true rfl) (cf' := wl_c X (up2 d 0 7 ((d 0 7) + 1)) π) rfl wl_o dX3_waitOrLose_19 (fun H locs hP hS => ?_)
    refine lv_iconst (v := 0) hx hb dX3_waitOrLose_22 (by decide) ?_
    refine gw_zret (up2 d 0 7 ((d 0 7) + 1), π) hx hb hr hlocks (by decide) (wl_hB hP) hS dX3_waitOrLose_23 ?_
    have e9 := wl_nlt64 hq c_1 hq6
    unfold wl_wol
    rw [if_pos (by omega), decide_eq_false e9]; exact ⟨rfl, rfl⟩
set_option maxHeartbeats 4000000 in
set_option maxRecDepth 100000 in
theorem c_WatchList_actionFailure (X : wl_X) (hX : gw_inj 88 X.2.1) (d : Nat → Nat → Int32) (π : Nat → Nat)  (ev : Int32)  : Met l yX3_actionFailure wsX3_actionFailure ({ frames := 1, cells := 0, slots := 0, locals := 20 }) (wl_pre X [.ref (X.2.1 0), .int ev] d π) (va_Qi (fun r u => r = (if wl_ok ev 32 = true then (if 0 < d (24 + ev.toNatClampNeg) 2 then 0 else 30) else 16) ∧ u = (d, π)) (wl_b X) (gw_A 88 X.2.1)) 0 0 (gw_A 88 X.2.1) := by
  refine Met.ofW (cc := cX3_actionFailure) (maxL := 2) (ret := (some .int)) (by decide) rfl ?_
  intro p e s m args below meth c s₁ B hml hv
  obtain ⟨rfl, hP, hK, hN⟩ := hv
  have hx := B.exec
  have hb := B.bytes
  have hr := B.returns
  have hts : ∀ w ∈ gG, w.before _ s = true := fun w h => atoms_spec (ws := wsX3_actionFailure) B.pre w (List.mem_cons_of_mem _ h)
  have hown : s.vm.findClass RX3 = some m.cls := findClass_of_methodNamed B.named
  have hlocks := B.notSynchronized
  have hS : va_S (gw_A 88 X.2.1) s.heap s.heap [] := va_S.rf
  have hl := lv_entry ([.ref (X.2.1 0), .int ev]) (n := 2) (Nat.le_of_ble_eq_true rfl)
  rw [lg_entry_eq]
  generalize (lg_sl ([.ref (X.2.1 0), .int ev]) ++ List.replicate (2 - (lg_sl ([.ref (X.2.1 0), .int ev])).length) Slot.unset).toArray = ls at hl ⊢
  have hl : lv_has ls 2 [(0, .ref (X.2.1 0)), (1, .int ev)] := hl
  refine lv_iload_n hx hb dX3_actionFailure_0 rfl (lv_at hl 1 rfl) ?_
  refine gw_calli (va_runS (As := [.int ev]) (rest := []) ⟨hx, hb, hml, hown, hts⟩ (c_WatchList_isEvent X hX d π ev ) ⟨callB_of 1 hts giX3_isEvent rfl rfl rfl (hts _ mG_22) (hts _ mG_95) pdX3_isEvent ⟨Nat.le_of_ble_eq_true rfl, Nat.le_of_ble_eq_true rfl⟩, hts _ mG_96⟩ ⟨wl_blind, wl_at hP hK hN⟩ rfl rfl hl.1 rfl (lv_room (Nat.le_of_ble_eq_true rfl)) dX3_actionFailure_1 ⟨Nat.le_of_ble_eq_true rfl, Nat.le_of_ble_eq_true rfl⟩) hS (fun r_1 u_1 t_1 locs hw hP hS => ?_)
  obtain ⟨rfl, rfl⟩ := hw
  have hP : va_P X.1 vwCl (wl_ws X d π) t_1.heap := hP
  refine lv_if_ne (tgt := 10) hx hb dX3_actionFailure_4 (by decide) (fun c_2 => ?_) (fun c_2 => ?_)
  · have ok_1 := wl_it c_2
    have hj := wl_ok32c ok_1
    refine lv_aload_n hx hb dX3_actionFailure_10 rfl (lv_at hl 0 rfl) ?_
    refine gw_get hx hb hts inX3 hown hK hP 0 (by decide) wl_c0 rfl 5 (by decide) (hts _ mG_75) (fun _ h9 => h9) (v := .ref (X.2.1 3)) rfl dX3_actionFailure_11 ?_
    refine lv_iload_n hx hb dX3_actionFailure_14 rfl (lv_at hl 1 rfl) ?_
    refine gw_aald hx hb hK hP 3 3 (by decide) wl_c3 rfl (i := ev) hj.1 (k := 24 + ev.toNatClampNeg) rfl dX3_actionFailure_15 ?_
    refine gw_calli (va_runVN (As := []) (rest := []) ⟨hx, hb, hml, hown, hts⟩ (c_Event_hasAction X hX d π ev.toNatClampNeg hj.2  ) ⟨va_cnB 0 hts giX0_hasAction rfl rfl rfl (hN _ (List.mem_of_getElem? (i := 20) rfl)) (hts _ mG_25) pdX0_hasAction ⟨Nat.le_of_ble_eq_true rfl, Nat.le_of_ble_eq_true rfl⟩, hts _ mG_167, hts _ mG_12⟩ ⟨wl_blind, gw_recv hK hP (24 + ev.toNatClampNeg) (wl_kE hj.2) (wl_cE hj.2) rfl, wl_at hP hK hN⟩ rfl rfl hl.1 rfl (lv_room (Nat.le_of_ble_eq_true rfl)) dX3_actionFailure_16 ⟨Nat.le_of_ble_eq_true rfl, Nat.le_of_ble_eq_true rfl⟩) hS (fun r_3 u_3 t_3 locs hw hP hS => ?_)
    obtain ⟨rfl, rfl⟩ := hw
    have hP : va_P X.1 vwCl (wl_ws X d π) t_3.heap := hP
    refine lv_if_eq (tgt := 26) hx hb dX3_actionFailure_19 (by decide) (fun c_4 => ?_) (fun c_4 => ?_)
    · have ha := wl_if c_4
      refine lv_bipush (v := 30) hx hb dX3_actionFailure_26 (by decide) ?_
      refine gw_iret (d, π) hx hb hr hlocks (wl_hB hP) hS dX3_actionFailure_28 ?_
      rw [if_pos ok_1, if_neg (of_decide_eq_false ha)]; exact ⟨rfl, rfl⟩
    · have ha := wl_it c_4
      refine lv_iconst (v := 0) hx hb dX3_actionFailure_22 (by decide) ?_
      refine lv_goto (tgt := 28) hx hb dX3_actionFailure_23 (by decide) ?_
      refine gw_iret (d, π) hx hb hr hlocks (wl_hB hP) hS dX3_actionFailure_28 ?_
      rw [if_pos ok_1, if_pos (of_decide_eq_true ha)]; exact ⟨rfl, rfl⟩
  · have ok_1 := wl_if c_2
    refine lv_bipush (v := 16) hx hb dX3_actionFailure_7 (by decide) ?_
    refine gw_iret (d, π) hx hb hr hlocks (wl_hB hP) hS dX3_actionFailure_9 ?_
    rw [if_neg (by rw [ok_1]; decide)]; exact ⟨rfl, rfl⟩
set_option maxHeartbeats 4000000 in
set_option maxRecDepth 100000 in
theorem c_WatchList_placeOf (X : wl_X) (hX : gw_inj 88 X.2.1) (d : Nat → Nat → Int32) (π : Nat → Nat)  (id : Int32) (n : Nat) (hn : d 0 2 = nI n) (hn16 : n ≤ 16) (hπ : ∀ j, j < 16 → π j < 16) : Met l yX3_placeOf wsX3_placeOf ({ frames := 0, cells := 0, slots := 0, locals := 0 }) (wl_pre X [.ref (X.2.1 0), .int id] d π) (va_Qi (fun r u => u = (d, π) ∧ ((∃ i, i < n ∧ r = nI i ∧ d (8 + π i) 0 = id ∧ ∀ j, j < i → ¬ d (8 + π j) 0 = id) ∨ (r = -1 ∧ ∀ j, j < n → ¬ d (8 + π j) 0 = id))) (wl_b X) (gw_A 88 X.2.1)) 0 0 (gw_A 88 X.2.1) := by
  refine Met.ofW (cc := cX3_placeOf) (maxL := 3) (ret := (some .int)) (by decide) rfl ?_
  intro p e s m args below meth c s₁ B hml hv
  obtain ⟨rfl, hP, hK, hN⟩ := hv
  have hx := B.exec
  have hb := B.bytes
  have hr := B.returns
  have hts : ∀ w ∈ gG, w.before _ s = true := fun w h => atoms_spec (ws := wsX3_placeOf) B.pre w (List.mem_cons_of_mem _ h)
  have hown : s.vm.findClass RX3 = some m.cls := findClass_of_methodNamed B.named
  have hlocks := B.notSynchronized
  have hS : va_S (gw_A 88 X.2.1) s.heap s.heap [] := va_S.rf
  have hl := lv_entry ([.ref (X.2.1 0), .int id]) (n := 3) (Nat.le_of_ble_eq_true rfl)
  rw [lg_entry_eq]
  generalize (lg_sl ([.ref (X.2.1 0), .int id]) ++ List.replicate (3 - (lg_sl ([.ref (X.2.1 0), .int id])).length) Slot.unset).toArray = ls at hl ⊢
  have hl : lv_has ls 3 [(0, .ref (X.2.1 0)), (1, .int id)] := hl
  refine lv_iconst (v := 0) hx hb dX3_placeOf_0 (by decide) ?_
  refine lv_istore_n (lv' := [(2, .int 0), (0, .ref (X.2.1 0)), (1, .int id)]) hx hb dX3_placeOf_1 rfl hl (by decide) rfl (fun ls hl => ?_)
  obtain ⟨i, hi⟩ : ∃ i : Nat, i = 0 := ⟨0, rfl⟩
  have hi1 : i ≤ n := by omega
  replace hl : lv_has ls 3 [(2, .int (nI i)), (0, .ref (X.2.1 0)), (1, .int id)] := by rw [hi, nI_0]; exact hl
  obtain ⟨g, hg⟩ : ∃ g : Nat, n < i + g := ⟨n + 1, by omega⟩
  have hf : ∀ j, j < i → ¬ d (8 + π j) 0 = id := fun j h => absurd h (by omega)
  clear hi
  induction g generalizing i ls with
  | zero => exact absurd hg (by omega)
  | succ g ih =>
    refine lv_iload_n hx hb dX3_placeOf_2 rfl (lv_at hl 0 rfl) ?_
    refine lv_aload_n hx hb dX3_placeOf_3 rfl (lv_at hl 1 rfl) ?_
    refine gw_get hx hb hts inX3 hown hK hP 0 (by decide) wl_c0 rfl 2 (by decide) (hts _ mG_72) (fun _ h9 => h9) (v := .int (d 0 2)) rfl dX3_placeOf_4 ?_
    refine lv_icmp_ge (tgt := 31) hx hb dX3_placeOf_7 (by decide) (fun c_1 => ?_) (fun c_1 => ?_)
    · have hc1 : nI n ≤ nI i := by rw [← hn]; exact c_1
      refine lv_iconst (v := (-1)) hx hb dX3_placeOf_31 (by decide) ?_
      refine gw_iret (d, π) hx hb hr hlocks (wl_hB hP) hS dX3_placeOf_32 ?_
      exact ⟨rfl, Or.inr ⟨rfl, fun j h => hf j (by have := (nI_leI (by omega) (by omega)).mp hc1; omega)⟩⟩
    · have hlt : i < n := Nat.lt_of_not_le (fun z => c_1 (by rw [hn]; exact nI_le z (by omega)))
      refine lv_aload_n hx hb dX3_placeOf_10 rfl (lv_at hl 1 rfl) ?_
      refine gw_get hx hb hts inX3 hown hK hP 0 (by decide) wl_c0 rfl 1 (by decide) (hts _ mG_71) (fun _ h9 => h9) (v := .ref (X.2.1 2)) rfl dX3_placeOf_11 ?_
      refine lv_iload_n hx hb dX3_placeOf_14 rfl (lv_at hl 0 rfl) ?_
      refine gw_aald hx hb hK hP 2 2 (by decide) wl_c2 rfl (i := nI i) (vp_in_nI (by omega) (by omega)) (k := 8 + (π i)) (by show some (X.2.1 (8 + π (nI i).toNatClampNeg)) = _; rw [nI_clamp (by omega)]) dX3_placeOf_15 ?_
      refine gw_getN hx hb hts inX1 hown hK hP (8 + (π i)) (wl_kL (hπ i (by omega))) (wl_cL (hπ i (by omega))) rfl 0 (by decide) (hN _ (List.mem_of_getElem? (i := 3) rfl)) (fun _ h9 => h9) (v := .int (d (8 + (π i)) 0)) rfl dX3_placeOf_16 ?_
      refine lv_iload_n hx hb dX3_placeOf_19 rfl (lv_at hl 2 rfl) ?_
      refine lv_icmp_ne (tgt := 25) hx hb dX3_placeOf_20 (by decide) (fun c_2 => ?_) (fun c_2 => ?_)
      · have c_9 := c_2
        refine lv_iinc (v := nI (i + 1)) (lv' := [(2, .int (nI (i + 1))), (0, .ref (X.2.1 0)), (1, .int id)]) hx hb dX3_placeOf_25 hl (k := 0) rfl (nI_1 i) (by decide) rfl (fun ls hl => ?_)
        refine lv_goto (tgt := 2) hx hb dX3_placeOf_28 (by decide) ?_
        exact ih (i := i + 1) (ls := ls) (hi1 := by omega) (hl := hl) (hg := by omega) (hf := lt_s hf c_9)
      · have c_9 := c_2
        refine lv_iload_n hx hb dX3_placeOf_23 rfl (lv_at hl 0 rfl) ?_
        refine gw_iret (d, π) hx hb hr hlocks (wl_hB hP) hS dX3_placeOf_24 ?_
        exact ⟨rfl, Or.inl ⟨i, hlt, rfl, c_9, hf⟩⟩
set_option maxHeartbeats 4000000 in
set_option maxRecDepth 100000 in
theorem c_WatchList_openPlaceFor (X : wl_X) (hX : gw_inj 88 X.2.1) (d : Nat → Nat → Int32) (π : Nat → Nat)  (id : Int32) (n : Nat) (hn : d 0 2 = nI n) (hn16 : n < 16) (hπ : ∀ j, j < 16 → π j < 16) : Met l yX3_openPlaceFor wsX3_openPlaceFor ({ frames := 0, cells := 0, slots := 0, locals := 0 }) (wl_pre X [.ref (X.2.1 0), .int id] d π) (va_Qr (fun u => u.2.2 = 8 + π n ∧ ∃ pl, pl ≤ n ∧ (∀ j, pl ≤ j → j < n → id < d (8 + π j) 0) ∧ (0 < pl → d (8 + π (pl - 1)) 0 ≤ id) ∧ u.1 = up2 d 0 2 (nI (n + 1)) ∧ u.2.1 = va_up (wl_sh π n pl) pl (π n)) (wl_br X) (gw_A 88 X.2.1)) 0 0 (gw_A 88 X.2.1) := by
  refine Met.ofW (cc := cX3_openPlaceFor) (maxL := 4) (ret := (some (.object "WatchList$Limit"))) (by decide) rfl ?_
  intro p e s m args below meth c s₁ B hml hv
  obtain ⟨rfl, hP, hK, hN⟩ := hv
  have hx := B.exec
  have hb := B.bytes
  have hr := B.returns
  have hts : ∀ w ∈ gG, w.before _ s = true := fun w h => atoms_spec (ws := wsX3_openPlaceFor) B.pre w (List.mem_cons_of_mem _ h)
  have hown : s.vm.findClass RX3 = some m.cls := findClass_of_methodNamed B.named
  have hlocks := B.notSynchronized
  have hS : va_S (gw_A 88 X.2.1) s.heap s.heap [] := va_S.rf
  have hl := lv_entry ([.ref (X.2.1 0), .int id]) (n := 4) (Nat.le_of_ble_eq_true rfl)
  rw [lg_entry_eq]
  generalize (lg_sl ([.ref (X.2.1 0), .int id]) ++ List.replicate (4 - (lg_sl ([.ref (X.2.1 0), .int id])).length) Slot.unset).toArray = ls at hl ⊢
  have hl : lv_has ls 4 [(0, .ref (X.2.1 0)), (1, .int id)] := hl
  refine lv_aload_n hx hb dX3_openPlaceFor_0 rfl (lv_at hl 0 rfl) ?_
  refine gw_get hx hb hts inX3 hown hK hP 0 (by decide) wl_c0 rfl 1 (by decide) (hts _ mG_71) (fun _ h9 => h9) (v := .ref (X.2.1 2)) rfl dX3_openPlaceFor_1 ?_
  refine lv_aload_n hx hb dX3_openPlaceFor_4 rfl (lv_at hl 0 rfl) ?_
  refine gw_get hx hb hts inX3 hown hK hP 0 (by decide) wl_c0 rfl 2 (by decide) (hts _ mG_72) (fun _ h9 => h9) (v := .int (d 0 2)) rfl dX3_openPlaceFor_5 ?_
  refine gw_aald hx hb hK hP 2 2 (by decide) wl_c2 rfl (i := d 0 2) (by rw [hn]; exact vp_in_nI hn16 (by omega)) (k := 8 + (π n)) (by show some (X.2.1 (8 + π (d 0 2).toNatClampNeg)) = _; rw [hn, nI_clamp (by omega)]) dX3_openPlaceFor_8 ?_
  refine lv_astore_n (lv' := [(2, .ref (X.2.1 (8 + (π n)))), (0, .ref (X.2.1 0)), (1, .int id)]) hx hb dX3_openPlaceFor_9 rfl hl (by decide) rfl (fun ls hl => ?_)
  refine lv_aload_n hx hb dX3_openPlaceFor_10 rfl (lv_at hl 1 rfl) ?_
  refine gw_get hx hb hts inX3 hown hK hP 0 (by decide) wl_c0 rfl 2 (by decide) (hts _ mG_72) (fun _ h9 => h9) (v := .int (d 0 2)) rfl dX3_openPlaceFor_11 ?_
  refine lv_istore_n (lv' := [(3, .int (d 0 2)), (2, .ref (X.2.1 (8 + (π n)))), (0, .ref (X.2.1 0)), (1, .int id)]) hx hb dX3_openPlaceFor_14 rfl hl (by decide) rfl (fun ls hl => ?_)
  obtain ⟨pl, hi⟩ : ∃ i : Nat, i = n := ⟨n, rfl⟩
  obtain ⟨H, hH⟩ : ∃ z : Heap, z = s.heap := ⟨_, rfl⟩
  obtain ⟨locs, hlo⟩ : ∃ z : List Loc, z = [] := ⟨_, rfl⟩
  replace hS : va_S (gw_A 88 X.2.1) s.heap H locs := by rw [hH, hlo]; exact hS
  replace hP : va_P X.1 vwCl (wl_ws X d (wl_sh π n pl)) H := by rw [hi, wl_sh_n, hH]; exact hP
  rw [← hH, ← hlo]
  have hi1 : pl ≤ n := by omega
  replace hl : lv_has ls 4 [(3, .int (nI pl)), (2, .ref (X.2.1 (8 + π n))), (0, .ref (X.2.1 0)), (1, .int id)] := by rw [hi, ← hn]; exact hl
  obtain ⟨g, hg⟩ : ∃ g : Nat, pl < g := ⟨n + 1, by omega⟩
  have hmo : ∀ j, pl ≤ j → j < n → id < d (8 + π j) 0 := fun j h1 h2 => absurd h1 (by omega)
  clear hi hlo hH
  induction g generalizing pl ls H locs with
  | zero => exact absurd hg (by omega)
  | succ g ih =>
    refine lv_iload_n hx hb dX3_openPlaceFor_15 rfl (lv_at hl 0 rfl) ?_
    refine lv_if_le (tgt := 54) hx hb dX3_openPlaceFor_16 (by decide) (fun c_1 => ?_) (fun c_1 => ?_)
    · have hz0 : pl = 0 := by have := (nI_leI (b := 0) (by omega) (by omega)).mp c_1; omega
      refine lv_aload_n hx hb dX3_openPlaceFor_54 rfl (lv_at hl 2 rfl) ?_
      refine gw_get hx hb hts inX3 hown hK hP 0 (by decide) wl_c0 rfl 1 (by decide) (hts _ mG_71) (fun _ h9 => h9) (v := .ref (X.2.1 2)) rfl dX3_openPlaceFor_55 ?_
      refine lv_iload_n hx hb dX3_openPlaceFor_58 rfl (lv_at hl 0 rfl) ?_
      refine lv_aload_n hx hb dX3_openPlaceFor_59 rfl (lv_at hl 1 rfl) ?_
      refine gw_aast hx hb hK hP hX hS 2 2 (8 + (π n)) 1 (by decide) (wl_kL (hπ n hn16)) wl_c2 rfl (wl_cL (hπ n hn16)) rfl (i := nI pl) (vp_in_nI (by omega) (by omega)) (cf' := wl_c X d (va_up (wl_sh π n pl) pl (π n))) (by rw [wl_u2, nI_clamp (by omega)]) wl_op dX3_openPlaceFor_60 (fun H locs hP hS => ?_)
      refine lv_aload_n hx hb dX3_openPlaceFor_61 rfl (lv_at hl 2 rfl) ?_
      refine lv_dup hx hb dX3_openPlaceFor_62 rfl ?_
      refine gw_get hx hb hts inX3 hown hK hP 0 (by decide) wl_c0 rfl 2 (by decide) (hts _ mG_72) (fun _ h9 => h9) (v := .int (d 0 2)) rfl dX3_openPlaceFor_63 ?_
      refine lv_iconst (v := 1) hx hb dX3_openPlaceFor_66 (by decide) ?_
      refine lv_iadd hx hb dX3_openPlaceFor_67 ?_
      refine gw_put hx hb hts inX3 tyX3 okX3 nmX3 hown hK hP hX hS 0 (by decide) wl_c0 rfl 2 (by decide) (hts _ mG_72) (fun _ h9 => h9) rfl (ty := .int) (v := .int ((d 0 2) + 1)) (by decide +kernel) rfl rfl (Nat.le_of_ble_eq_true rfl) (cf' := wl_c X (up2 d 0 2 ((d 0 2) + 1)) (va_up (wl_sh π n pl) pl (π n))) rfl wl_o dX3_openPlaceFor_68 (fun H locs hP hS => ?_)
      refine lv_aload_n hx hb dX3_openPlaceFor_71 rfl (lv_at hl 1 rfl) ?_
      refine gw_aret (up2 d 0 2 ((d 0 2) + 1), va_up (wl_sh π n pl) pl (π n), 8 + π n) hx hb hr hlocks (wl_hBr (k := 8 + π n) hP) hS dX3_openPlaceFor_72 ?_
      exact ⟨rfl, pl, hi1, hmo, fun z => absurd z (by omega), by show up2 d 0 2 (d 0 2 + 1) = _; rw [hn, nI_1], rfl⟩
    · have hp0 : 0 < pl := Nat.pos_of_ne_zero (fun z => c_1 (by rw [z]; decide))
      refine lv_aload_n hx hb dX3_openPlaceFor_19 rfl (lv_at hl 2 rfl) ?_
      refine gw_get hx hb hts inX3 hown hK hP 0 (by decide) wl_c0 rfl 1 (by decide) (hts _ mG_71) (fun _ h9 => h9) (v := .ref (X.2.1 2)) rfl dX3_openPlaceFor_20 ?_
      refine lv_iload_n hx hb dX3_openPlaceFor_23 rfl (lv_at hl 0 rfl) ?_
      refine lv_iconst (v := 1) hx hb dX3_openPlaceFor_24 (by decide) ?_
      refine lv_isub hx hb dX3_openPlaceFor_25 ?_
      refine W.eq (g2 := F0 m 26 ls (.int (nI (pl - 1)) :: .ref (X.2.1 2) :: [])) (by rw [show nI pl - 1 = nI (pl - 1) by rw [show pl = (pl - 1) + 1 by omega, nI_pred, Nat.add_sub_cancel]]) ?_
      refine gw_aald hx hb hK hP 2 2 (by decide) wl_c2 rfl (i := nI (pl - 1)) (vp_in_nI (by omega) (by omega)) (k := 8 + (π (pl - 1))) (by show some (X.2.1 (8 + wl_sh π n pl (nI (pl - 1)).toNatClampNeg)) = _; rw [nI_clamp (by omega), wl_sh_lo (by omega)]) dX3_openPlaceFor_26 ?_
      refine gw_getN hx hb hts inX1 hown hK hP (8 + (π (pl - 1))) (wl_kL (hπ (pl - 1) (by omega))) (wl_cL (hπ (pl - 1) (by omega))) rfl 0 (by decide) (hN _ (List.mem_of_getElem? (i := 3) rfl)) (fun _ h9 => h9) (v := .int (d (8 + (π (pl - 1))) 0)) rfl dX3_openPlaceFor_27 ?_
      refine lv_iload_n hx hb dX3_openPlaceFor_30 rfl (lv_at hl 3 rfl) ?_
      refine lv_icmp_le (tgt := 54) hx hb dX3_openPlaceFor_31 (by decide) (fun c_2 => ?_) (fun c_2 => ?_)
      · have hle : d (8 + π (pl - 1)) 0 ≤ id := c_2
        refine lv_aload_n hx hb dX3_openPlaceFor_54 rfl (lv_at hl 2 rfl) ?_
        refine gw_get hx hb hts inX3 hown hK hP 0 (by decide) wl_c0 rfl 1 (by decide) (hts _ mG_71) (fun _ h9 => h9) (v := .ref (X.2.1 2)) rfl dX3_openPlaceFor_55 ?_
        refine lv_iload_n hx hb dX3_openPlaceFor_58 rfl (lv_at hl 0 rfl) ?_
        refine lv_aload_n hx hb dX3_openPlaceFor_59 rfl (lv_at hl 1 rfl) ?_
        refine gw_aast hx hb hK hP hX hS 2 2 (8 + (π n)) 1 (by decide) (wl_kL (hπ n hn16)) wl_c2 rfl (wl_cL (hπ n hn16)) rfl (i := nI pl) (vp_in_nI (by omega) (by omega)) (cf' := wl_c X d (va_up (wl_sh π n pl) pl (π n))) (by rw [wl_u2, nI_clamp (by omega)]) wl_op dX3_openPlaceFor_60 (fun H locs hP hS => ?_)
        refine lv_aload_n hx hb dX3_openPlaceFor_61 rfl (lv_at hl 2 rfl) ?_
        refine lv_dup hx hb dX3_openPlaceFor_62 rfl ?_
        refine gw_get hx hb hts inX3 hown hK hP 0 (by decide) wl_c0 rfl 2 (by decide) (hts _ mG_72) (fun _ h9 => h9) (v := .int (d 0 2)) rfl dX3_openPlaceFor_63 ?_
        refine lv_iconst (v := 1) hx hb dX3_openPlaceFor_66 (by decide) ?_
        refine lv_iadd hx hb dX3_openPlaceFor_67 ?_
        refine gw_put hx hb hts inX3 tyX3 okX3 nmX3 hown hK hP hX hS 0 (by decide) wl_c0 rfl 2 (by decide) (hts _ mG_72) (fun _ h9 => h9) rfl (ty := .int) (v := .int ((d 0 2) + 1)) (by decide +kernel) rfl rfl (Nat.le_of_ble_eq_true rfl) (cf' := wl_c X (up2 d 0 2 ((d 0 2) + 1)) (va_up (wl_sh π n pl) pl (π n))) rfl wl_o dX3_openPlaceFor_68 (fun H locs hP hS => ?_)
        refine lv_aload_n hx hb dX3_openPlaceFor_71 rfl (lv_at hl 1 rfl) ?_
        refine gw_aret (up2 d 0 2 ((d 0 2) + 1), va_up (wl_sh π n pl) pl (π n), 8 + π n) hx hb hr hlocks (wl_hBr (k := 8 + π n) hP) hS dX3_openPlaceFor_72 ?_
        exact ⟨rfl, pl, hi1, hmo, fun _ => hle, by show up2 d 0 2 (d 0 2 + 1) = _; rw [hn, nI_1], rfl⟩
      · have hmo' : ∀ j, pl - 1 ≤ j → j < n → id < d (8 + π j) 0 := fun j h1 h2 => by
          by_cases e : j = pl - 1
          · rw [e]; exact wl_lt_of c_2
          · exact hmo j (by omega) h2
        refine lv_aload_n hx hb dX3_openPlaceFor_34 rfl (lv_at hl 2 rfl) ?_
        refine gw_get hx hb hts inX3 hown hK hP 0 (by decide) wl_c0 rfl 1 (by decide) (hts _ mG_71) (fun _ h9 => h9) (v := .ref (X.2.1 2)) rfl dX3_openPlaceFor_35 ?_
        refine lv_iload_n hx hb dX3_openPlaceFor_38 rfl (lv_at hl 0 rfl) ?_
        refine lv_aload_n hx hb dX3_openPlaceFor_39 rfl (lv_at hl 2 rfl) ?_
        refine gw_get hx hb hts inX3 hown hK hP 0 (by decide) wl_c0 rfl 1 (by decide) (hts _ mG_71) (fun _ h9 => h9) (v := .ref (X.2.1 2)) rfl dX3_openPlaceFor_40 ?_
        refine lv_iload_n hx hb dX3_openPlaceFor_43 rfl (lv_at hl 0 rfl) ?_
        refine lv_iconst (v := 1) hx hb dX3_openPlaceFor_44 (by decide) ?_
        refine lv_isub hx hb dX3_openPlaceFor_45 ?_
        refine W.eq (g2 := F0 m 46 ls (.int (nI (pl - 1)) :: .ref (X.2.1 2) :: .int (nI pl) :: .ref (X.2.1 2) :: [])) (by rw [show nI pl - 1 = nI (pl - 1) by rw [show pl = (pl - 1) + 1 by omega, nI_pred, Nat.add_sub_cancel]]) ?_
        refine gw_aald hx hb hK hP 2 2 (by decide) wl_c2 rfl (i := nI (pl - 1)) (vp_in_nI (by omega) (by omega)) (k := 8 + (π (pl - 1))) (by show some (X.2.1 (8 + wl_sh π n pl (nI (pl - 1)).toNatClampNeg)) = _; rw [nI_clamp (by omega), wl_sh_lo (by omega)]) dX3_openPlaceFor_46 ?_
        refine gw_aast hx hb hK hP hX hS 2 2 (8 + (π (pl - 1))) 1 (by decide) (wl_kL (hπ (pl - 1) (by omega))) wl_c2 rfl (wl_cL (hπ (pl - 1) (by omega))) rfl (i := nI pl) (vp_in_nI (by omega) (by omega)) (cf' := wl_c X d (wl_sh π n (pl - 1))) (by rw [← wl_sh_step hp0 hi1, wl_u2, nI_clamp (by omega)]) wl_op dX3_openPlaceFor_47 (fun H locs hP hS => ?_)
        refine lv_iinc (v := nI (pl - 1)) (lv' := [(3, .int (nI (pl - 1))), (2, .ref (X.2.1 (8 + (π n)))), (0, .ref (X.2.1 0)), (1, .int id)]) hx hb dX3_openPlaceFor_48 hl (k := 0) rfl (by rw [show pl = (pl - 1) + 1 by omega]; exact pk_m1 _) (by decide) rfl (fun ls hl => ?_)
        refine lv_goto (tgt := 15) hx hb dX3_openPlaceFor_51 (by decide) ?_
        exact ih (pl := pl - 1) (ls := ls) (H := H) (locs := locs) (hS := hS) (hP := hP) (hi1 := by omega) (hl := hl) (hg := by omega) (hmo := hmo')
set_option maxHeartbeats 4000000 in
set_option maxRecDepth 100000 in
theorem c_WatchList_closePlace (X : wl_X) (hX : gw_inj 88 X.2.1) (d : Nat → Nat → Int32) (π : Nat → Nat) (pl : Nat)  (n : Nat) (hn : d 0 2 = nI n) (hn16 : n ≤ 16) (hpl : pl < n) (hπ : ∀ j, j < 16 → π j < 16) : Met l yX3_closePlace wsX3_closePlace ({ frames := 0, cells := 0, slots := 0, locals := 0 }) (wl_pre X [.ref (X.2.1 0), .int (nI pl)] d π) (va_Qv (fun u => u = (up2 d 0 2 (nI (n - 1)), va_up (wl_sl π pl (n - 1)) (n - 1) (π pl))) (wl_b X) (gw_A 88 X.2.1)) 0 0 (gw_A 88 X.2.1) := by
  refine Met.ofW (cc := cX3_closePlace) (maxL := 4) (ret := none) (by decide) rfl ?_
  intro p e s m args below meth c s₁ B hml hv
  obtain ⟨rfl, hP, hK, hN⟩ := hv
  have hx := B.exec
  have hb := B.bytes
  have hr := B.returns
  have hts : ∀ w ∈ gG, w.before _ s = true := fun w h => atoms_spec (ws := wsX3_closePlace) B.pre w (List.mem_cons_of_mem _ h)
  have hown : s.vm.findClass RX3 = some m.cls := findClass_of_methodNamed B.named
  have hlocks := B.notSynchronized
  have hS : va_S (gw_A 88 X.2.1) s.heap s.heap [] := va_S.rf
  have hl := lv_entry ([.ref (X.2.1 0), .int (nI pl)]) (n := 4) (Nat.le_of_ble_eq_true rfl)
  rw [lg_entry_eq]
  generalize (lg_sl ([.ref (X.2.1 0), .int (nI pl)]) ++ List.replicate (4 - (lg_sl ([.ref (X.2.1 0), .int (nI pl)])).length) Slot.unset).toArray = ls at hl ⊢
  have hl : lv_has ls 4 [(0, .ref (X.2.1 0)), (1, .int (nI pl))] := hl
  have hn1 : d 0 2 - 1 = nI (n - 1) := by rw [hn, show n = (n - 1) + 1 by omega, nI_pred, Nat.add_sub_cancel]
  refine lv_aload_n hx hb dX3_closePlace_0 rfl (lv_at hl 0 rfl) ?_
  refine gw_get hx hb hts inX3 hown hK hP 0 (by decide) wl_c0 rfl 1 (by decide) (hts _ mG_71) (fun _ h9 => h9) (v := .ref (X.2.1 2)) rfl dX3_closePlace_1 ?_
  refine lv_iload_n hx hb dX3_closePlace_4 rfl (lv_at hl 1 rfl) ?_
  refine gw_aald hx hb hK hP 2 2 (by decide) wl_c2 rfl (i := (nI pl)) (vp_in_nI (by omega) (by omega)) (k := 8 + (π pl)) (by show some (X.2.1 (8 + π (nI pl).toNatClampNeg)) = _; rw [nI_clamp (by omega)]) dX3_closePlace_5 ?_
  refine lv_astore_n (lv' := [(2, .ref (X.2.1 (8 + (π pl)))), (0, .ref (X.2.1 0)), (1, .int (nI pl))]) hx hb dX3_closePlace_6 rfl hl (by decide) rfl (fun ls hl => ?_)
  refine lv_aload_n hx hb dX3_closePlace_7 rfl (lv_at hl 1 rfl) ?_
  refine lv_dup hx hb dX3_closePlace_8 rfl ?_
  refine gw_get hx hb hts inX3 hown hK hP 0 (by decide) wl_c0 rfl 2 (by decide) (hts _ mG_72) (fun _ h9 => h9) (v := .int (d 0 2)) rfl dX3_closePlace_9 ?_
  refine lv_iconst (v := 1) hx hb dX3_closePlace_12 (by decide) ?_
  refine lv_isub hx hb dX3_closePlace_13 ?_
  refine gw_put hx hb hts inX3 tyX3 okX3 nmX3 hown hK hP hX hS 0 (by decide) wl_c0 rfl 2 (by decide) (hts _ mG_72) (fun _ h9 => h9) rfl (ty := .int) (v := .int ((d 0 2) - 1)) (by decide +kernel) rfl rfl (Nat.le_of_ble_eq_true rfl) (cf' := wl_c X (up2 d 0 2 ((d 0 2) - 1)) π) rfl wl_o dX3_closePlace_14 (fun H locs hP hS => ?_)
  refine lv_iload_n hx hb dX3_closePlace_17 rfl (lv_at hl 2 rfl) ?_
  refine lv_istore_n (lv' := [(3, .int (nI pl)), (2, .ref (X.2.1 (8 + (π pl)))), (0, .ref (X.2.1 0)), (1, .int (nI pl))]) hx hb dX3_closePlace_18 rfl hl (by decide) rfl (fun ls hl => ?_)
  obtain ⟨i, hi⟩ : ∃ i : Nat, i = pl := ⟨pl, rfl⟩
  replace hP : va_P X.1 vwCl (wl_ws X (up2 d 0 2 (nI (n - 1))) (wl_sl π pl i)) H := by rw [hi, wl_sl_0, ← hn1]; exact hP
  have hi0 : pl ≤ i := by omega
  have hi1 : i ≤ n - 1 := by omega
  replace hl : lv_has ls 4 [(3, .int (nI i)), (2, .ref (X.2.1 (8 + π pl))), (0, .ref (X.2.1 0)), (1, .int (nI pl))] := by rw [hi]; exact hl
  obtain ⟨g, hg⟩ : ∃ g : Nat, n < i + g := ⟨n + 1, by omega⟩
  clear hi
  induction g generalizing i ls H locs with
  | zero => exact absurd hg (by omega)
  | succ g ih =>
    refine lv_iload_n hx hb dX3_closePlace_19 rfl (lv_at hl 0 rfl) ?_
    refine lv_aload_n hx hb dX3_closePlace_20 rfl (lv_at hl 2 rfl) ?_
    refine gw_get hx hb hts inX3 hown hK hP 0 (by decide) wl_c0 rfl 2 (by decide) (hts _ mG_72) (fun _ h9 => h9) (v := .int ((up2 d 0 2 (nI (n - 1))) 0 2)) rfl dX3_closePlace_21 ?_
    refine lv_icmp_ge (tgt := 47) hx hb dX3_closePlace_24 (by decide) (fun c_1 => ?_) (fun c_1 => ?_)
    · have hex : n - 1 ≤ i := (nI_leI (by omega) (by omega)).mp c_1
      refine lv_aload_n hx hb dX3_closePlace_47 rfl (lv_at hl 2 rfl) ?_
      refine gw_get hx hb hts inX3 hown hK hP 0 (by decide) wl_c0 rfl 1 (by decide) (hts _ mG_71) (fun _ h9 => h9) (v := .ref (X.2.1 2)) rfl dX3_closePlace_48 ?_
      refine lv_aload_n hx hb dX3_closePlace_51 rfl (lv_at hl 2 rfl) ?_
      refine gw_get hx hb hts inX3 hown hK hP 0 (by decide) wl_c0 rfl 2 (by decide) (hts _ mG_72) (fun _ h9 => h9) (v := .int ((up2 d 0 2 (nI (n - 1))) 0 2)) rfl dX3_closePlace_52 ?_
      refine lv_aload_n hx hb dX3_closePlace_55 rfl (lv_at hl 1 rfl) ?_
      refine gw_aast hx hb hK hP hX hS 2 2 (8 + (π pl)) 1 (by decide) (wl_kL (hπ pl (by omega))) wl_c2 rfl (wl_cL (hπ pl (by omega))) rfl (i := (up2 d 0 2 (nI (n - 1))) 0 2) (vp_in_nI (n := n - 1) (by omega) (by omega)) (cf' := wl_c X (up2 d 0 2 (nI (n - 1))) (va_up (wl_sl π pl i) i (π pl))) (by rw [wl_u2, up2_s, show n - 1 = i by omega, nI_clamp (by omega)]) wl_op dX3_closePlace_56 (fun H locs hP hS => ?_)
      refine gw_vret (up2 d 0 2 (nI (n - 1)), va_up (wl_sl π pl i) i (π pl)) hx hb hr hlocks (wl_hB hP) hS dX3_closePlace_57 ?_
      rw [show n - 1 = i by omega]
    · have hlt : i < n - 1 := Nat.lt_of_not_le (fun z => c_1 (nI_le z (by omega)))
      refine lv_aload_n hx hb dX3_closePlace_27 rfl (lv_at hl 2 rfl) ?_
      refine gw_get hx hb hts inX3 hown hK hP 0 (by decide) wl_c0 rfl 1 (by decide) (hts _ mG_71) (fun _ h9 => h9) (v := .ref (X.2.1 2)) rfl dX3_closePlace_28 ?_
      refine lv_iload_n hx hb dX3_closePlace_31 rfl (lv_at hl 0 rfl) ?_
      refine lv_aload_n hx hb dX3_closePlace_32 rfl (lv_at hl 2 rfl) ?_
      refine gw_get hx hb hts inX3 hown hK hP 0 (by decide) wl_c0 rfl 1 (by decide) (hts _ mG_71) (fun _ h9 => h9) (v := .ref (X.2.1 2)) rfl dX3_closePlace_33 ?_
      refine lv_iload_n hx hb dX3_closePlace_36 rfl (lv_at hl 0 rfl) ?_
      refine lv_iconst (v := 1) hx hb dX3_closePlace_37 (by decide) ?_
      refine lv_iadd hx hb dX3_closePlace_38 ?_
      refine W.eq (g2 := F0 m 39 ls (.int (nI (i + 1)) :: .ref (X.2.1 2) :: .int (nI i) :: .ref (X.2.1 2) :: [])) (by rw [nI_1]) ?_
      refine gw_aald hx hb hK hP 2 2 (by decide) wl_c2 rfl (i := nI (i + 1)) (vp_in_nI (by omega) (by omega)) (k := 8 + (π (i + 1))) (by show some (X.2.1 (8 + wl_sl π pl i (nI (i + 1)).toNatClampNeg)) = _; rw [nI_clamp (by omega), wl_sl_hi (by omega)]) dX3_closePlace_39 ?_
      refine gw_aast hx hb hK hP hX hS 2 2 (8 + (π (i + 1))) 1 (by decide) (wl_kL (hπ (i + 1) (by omega))) wl_c2 rfl (wl_cL (hπ (i + 1) (by omega))) rfl (i := nI i) (vp_in_nI (by omega) (by omega)) (cf' := wl_c X (up2 d 0 2 (nI (n - 1))) (wl_sl π pl (i + 1))) (by rw [← wl_sl_step hi0, wl_u2, nI_clamp (by omega)]) wl_op dX3_closePlace_40 (fun H locs hP hS => ?_)
      refine lv_iinc (v := nI (i + 1)) (lv' := [(3, .int (nI (i + 1))), (2, .ref (X.2.1 (8 + (π pl)))), (0, .ref (X.2.1 0)), (1, .int (nI pl))]) hx hb dX3_closePlace_41 hl (k := 0) rfl (nI_1 i) (by decide) rfl (fun ls hl => ?_)
      refine lv_goto (tgt := 19) hx hb dX3_closePlace_44 (by decide) ?_
      exact ih (i := i + 1) (ls := ls) (H := H) (locs := locs) (hS := hS) (hP := hP) (hi0 := by omega) (hi1 := by omega) (hl := hl) (hg := by omega)
end
section
variable {l : Launch}
set_option maxHeartbeats 4000000 in
set_option maxRecDepth 100000 in
theorem c_WatchList_set (X : wl_X) (hX : gw_inj 88 X.2.1) (d : Nat → Nat → Int32) (π : Nat → Nat)  (k : Int32) (v : Int32)  : Met l yX3_set wsX3_set ({ frames := 1, cells := 0, slots := 0, locals := 20 }) (wl_pre X [.ref (X.2.1 0), .int k, .int v] d π) (va_Qi (fun r u => r = wl_i (wl_ok k 32) ∧ u = (if wl_ok k 32 = true then up2 d 1 k.toNatClampNeg v else d, π)) (wl_b X) (gw_A 88 X.2.1)) 0 0 (gw_A 88 X.2.1) := by
  refine Met.ofW (cc := cX3_set) (maxL := 3) (ret := (some .boolean)) (by decide) rfl ?_
  intro p e s m args below meth c s₁ B hml hv
  obtain ⟨rfl, hP, hK, hN⟩ := hv
  have hx := B.exec
  have hb := B.bytes
  have hr := B.returns
  have hts : ∀ w ∈ gG, w.before _ s = true := fun w h => atoms_spec (ws := wsX3_set) B.pre w (List.mem_cons_of_mem _ h)
  have hown : s.vm.findClass RX3 = some m.cls := findClass_of_methodNamed B.named
  have hlocks := B.notSynchronized
  have hS : va_S (gw_A 88 X.2.1) s.heap s.heap [] := va_S.rf
  have hl := lv_entry ([.ref (X.2.1 0), .int k, .int v]) (n := 3) (Nat.le_of_ble_eq_true rfl)
  rw [lg_entry_eq]
  generalize (lg_sl ([.ref (X.2.1 0), .int k, .int v]) ++ List.replicate (3 - (lg_sl ([.ref (X.2.1 0), .int k, .int v])).length) Slot.unset).toArray = ls at hl ⊢
  have hl : lv_has ls 3 [(0, .ref (X.2.1 0)), (1, .int k), (2, .int v)] := hl
  refine lv_iload_n hx hb dX3_set_0 rfl (lv_at hl 1 rfl) ?_
  refine gw_calli (va_runS (As := [.int k]) (rest := []) ⟨hx, hb, hml, hown, hts⟩ (c_WatchList_isParameter X hX d π k ) ⟨callB_of 1 hts giX3_isParameter rfl rfl rfl (hts _ mG_22) (hts _ mG_85) pdX3_isParameter ⟨Nat.le_of_ble_eq_true rfl, Nat.le_of_ble_eq_true rfl⟩, hts _ mG_86⟩ ⟨wl_blind, wl_at hP hK hN⟩ rfl rfl hl.1 rfl (lv_room (Nat.le_of_ble_eq_true rfl)) dX3_set_1 ⟨Nat.le_of_ble_eq_true rfl, Nat.le_of_ble_eq_true rfl⟩) hS (fun r_1 u_1 t_1 locs hw hP hS => ?_)
  obtain ⟨rfl, rfl⟩ := hw
  have hP : va_P X.1 vwCl (wl_ws X d π) t_1.heap := hP
  refine lv_if_ne (tgt := 9) hx hb dX3_set_4 (by decide) (fun c_2 => ?_) (fun c_2 => ?_)
  · have ok_1 := wl_it c_2
    have hj := wl_ok32c ok_1
    refine lv_aload_n hx hb dX3_set_9 rfl (lv_at hl 0 rfl) ?_
    refine gw_get hx hb hts inX3 hown hK hP 0 (by decide) wl_c0 rfl 0 (by decide) (hts _ mG_70) (fun _ h9 => h9) (v := .ref (X.2.1 1)) rfl dX3_set_10 ?_
    refine lv_iload_n hx hb dX3_set_13 rfl (lv_at hl 1 rfl) ?_
    refine lv_iload_n hx hb dX3_set_14 rfl (lv_at hl 2 rfl) ?_
    refine gw_iast hx hb hK hP hX hS 1 0 (by decide) wl_c1 rfl (i := k) (x := v) hj.1 (cf' := wl_c X (up2 d 1 k.toNatClampNeg v) π) rfl wl_o dX3_set_15 (fun H locs hP hS => ?_)
    refine lv_iconst (v := 1) hx hb dX3_set_16 (by decide) ?_
    refine gw_zret (up2 d 1 k.toNatClampNeg v, π) hx hb hr hlocks (by decide) (wl_hB hP) hS dX3_set_17 ?_
    constructor <;> (try simp only [ok_1, if_true]) <;> (try rfl)
  · have ok_1 := wl_if c_2
    refine lv_iconst (v := 0) hx hb dX3_set_7 (by decide) ?_
    refine gw_zret (d, π) hx hb hr hlocks (by decide) (wl_hB hP) hS dX3_set_8 ?_
    constructor <;> (try simp only [ok_1, Bool.false_eq_true, if_false]) <;> (try rfl)
set_option maxHeartbeats 4000000 in
set_option maxRecDepth 100000 in
theorem c_WatchList_add (X : wl_X) (hX : gw_inj 88 X.2.1) (d : Nat → Nat → Int32) (π : Nat → Nat)  (id : Int32) (pa : Int32) (ti : Int32) (lo : Int32) (hi2 : Int32) (ev : Int32) (lk : Int32) (hz : lk = 0 ∨ lk = 1) (n : Nat) (hn : d 0 2 = nI n) (hn16 : n ≤ 16) (hπ : ∀ j, j < 16 → π j < 16) : Met l yX3_add wsX3_add ({ frames := 2, cells := 0, slots := 0, locals := 48 }) (wl_pre X [.ref (X.2.1 0), .int id, .int pa, .int ti, .int lo, .int hi2, .int ev, .int lk] d π) (va_Qi (fun r u => (r = 13 ∧ u = (d, π) ∧ wl_bad id pa ti lo hi2 ev = true) ∨ (wl_bad id pa ti lo hi2 ev = false ∧ ((r = 25 ∧ u = (d, π) ∧ ∃ i, i < n ∧ d (8 + π i) 0 = id) ∨ ((∀ j, j < n → ¬ d (8 + π j) 0 = id) ∧ ((r = 26 ∧ u = (d, π) ∧ n = 16) ∨ (r = 0 ∧ n < 16 ∧ ∃ pl, pl ≤ n ∧ (∀ j, pl ≤ j → j < n → id < d (8 + π j) 0) ∧ (0 < pl → d (8 + π (pl - 1)) 0 ≤ id) ∧ u = (wl_beg (up2 d 0 2 (nI (n + 1))) (8 + π n) id pa ti lo hi2 ev lk, va_up (wl_sh π n pl) pl (π n)))))))) (wl_b X) (gw_A 88 X.2.1)) 0 0 (gw_A 88 X.2.1) := by
  refine Met.ofW (cc := cX3_add) (maxL := 10) (ret := (some .int)) (by decide) rfl ?_
  intro p e s m args below meth c s₁ B hml hv
  obtain ⟨rfl, hP, hK, hN⟩ := hv
  have hx := B.exec
  have hb := B.bytes
  have hr := B.returns
  have hts : ∀ w ∈ gG, w.before _ s = true := fun w h => atoms_spec (ws := wsX3_add) B.pre w (List.mem_cons_of_mem _ h)
  have hown : s.vm.findClass RX3 = some m.cls := findClass_of_methodNamed B.named
  have hlocks := B.notSynchronized
  have hS : va_S (gw_A 88 X.2.1) s.heap s.heap [] := va_S.rf
  have hl := lv_entry ([.ref (X.2.1 0), .int id, .int pa, .int ti, .int lo, .int hi2, .int ev, .int lk]) (n := 10) (Nat.le_of_ble_eq_true rfl)
  rw [lg_entry_eq]
  generalize (lg_sl ([.ref (X.2.1 0), .int id, .int pa, .int ti, .int lo, .int hi2, .int ev, .int lk]) ++ List.replicate (10 - (lg_sl ([.ref (X.2.1 0), .int id, .int pa, .int ti, .int lo, .int hi2, .int ev, .int lk])).length) Slot.unset).toArray = ls at hl ⊢
  have hl : lv_has ls 10 [(0, .ref (X.2.1 0)), (1, .int id), (2, .int pa), (3, .int ti), (4, .int lo), (5, .int hi2), (6, .int ev), (7, .int lk)] := hl
  refine lv_iload_n hx hb dX3_add_0 rfl (lv_at hl 1 rfl) ?_
  refine gw_calli (va_runS (As := [.int id]) (rest := []) ⟨hx, hb, hml, hown, hts⟩ (c_WatchList_isId X hX d π id ) ⟨callB_of 1 hts giX3_isId rfl rfl rfl (hts _ mG_22) (hts _ mG_92) pdX3_isId ⟨Nat.le_of_ble_eq_true rfl, Nat.le_of_ble_eq_true rfl⟩, hts _ mG_93⟩ ⟨wl_blind, wl_at hP hK hN⟩ rfl rfl hl.1 rfl (lv_room (Nat.le_of_ble_eq_true rfl)) dX3_add_1 ⟨Nat.le_of_ble_eq_true rfl, Nat.le_of_ble_eq_true rfl⟩) hS (fun r_1 u_1 t_1 locs hw hP hS => ?_)
  obtain ⟨rfl, rfl⟩ := hw
  have hP : va_P X.1 vwCl (wl_ws X d π) t_1.heap := hP
  refine lv_if_eq (tgt := 26) hx hb dX3_add_4 (by decide) (fun c_2 => ?_) (fun c_2 => ?_)
  · have k_1 := wl_if c_2
    refine lv_iconst (v := 0) hx hb dX3_add_26 (by decide) ?_
    refine lv_istore (lv' := [(8, .int 0), (0, .ref (X.2.1 0)), (1, .int id), (2, .int pa), (3, .int ti), (4, .int lo), (5, .int hi2), (6, .int ev), (7, .int lk)]) hx hb dX3_add_27 hl (by decide) rfl (fun ls hl => ?_)
    refine lv_iload hx hb dX3_add_29 (lv_at hl 0 rfl) ?_
    refine lv_if_eq (tgt := 53) hx hb dX3_add_31 (by decide) (fun c_3 => ?_) (fun c_3 => ?_)
    · refine lv_bipush (v := 13) hx hb dX3_add_53 (by decide) ?_
      refine gw_iret (d, π) hx hb hr hlocks (wl_hB hP) hS dX3_add_55 ?_
      exact Or.inl ⟨rfl, rfl, wl_bad1 k_1⟩
    · exact absurd rfl c_3
  · have k_1 := wl_it c_2
    refine lv_iload_n hx hb dX3_add_7 rfl (lv_at hl 2 rfl) ?_
    refine gw_calli (va_runS (As := [.int pa]) (rest := []) ⟨hx, hb, hml, hown, hts⟩ (c_WatchList_isParameter X hX d π pa ) ⟨callB_of 1 hts giX3_isParameter rfl rfl rfl (hts _ mG_22) (hts _ mG_85) pdX3_isParameter ⟨Nat.le_of_ble_eq_true rfl, Nat.le_of_ble_eq_true rfl⟩, hts _ mG_86⟩ ⟨wl_blind, wl_at hP hK hN⟩ rfl rfl hl.1 rfl (lv_room (Nat.le_of_ble_eq_true rfl)) dX3_add_8 ⟨Nat.le_of_ble_eq_true rfl, Nat.le_of_ble_eq_true rfl⟩) hS (fun r_4 u_4 t_4 locs hw hP hS => ?_)
    obtain ⟨rfl, rfl⟩ := hw
    have hP : va_P X.1 vwCl (wl_ws X d π) t_4.heap := hP
    refine lv_if_eq (tgt := 26) hx hb dX3_add_11 (by decide) (fun c_5 => ?_) (fun c_5 => ?_)
    · have k_2 := wl_if c_5
      refine lv_iconst (v := 0) hx hb dX3_add_26 (by decide) ?_
      refine lv_istore (lv' := [(8, .int 0), (0, .ref (X.2.1 0)), (1, .int id), (2, .int pa), (3, .int ti), (4, .int lo), (5, .int hi2), (6, .int ev), (7, .int lk)]) hx hb dX3_add_27 hl (by decide) rfl (fun ls hl => ?_)
      refine lv_iload hx hb dX3_add_29 (lv_at hl 0 rfl) ?_
      refine lv_if_eq (tgt := 53) hx hb dX3_add_31 (by decide) (fun c_6 => ?_) (fun c_6 => ?_)
      · refine lv_bipush (v := 13) hx hb dX3_add_53 (by decide) ?_
        refine gw_iret (d, π) hx hb hr hlocks (wl_hB hP) hS dX3_add_55 ?_
        exact Or.inl ⟨rfl, rfl, wl_bad2 k_2⟩
      · exact absurd rfl c_6
    · have k_2 := wl_it c_5
      refine lv_iload hx hb dX3_add_14 (lv_at hl 6 rfl) ?_
      refine gw_calli (va_runS (As := [.int ev]) (rest := []) ⟨hx, hb, hml, hown, hts⟩ (c_WatchList_isEvent X hX d π ev ) ⟨callB_of 1 hts giX3_isEvent rfl rfl rfl (hts _ mG_22) (hts _ mG_95) pdX3_isEvent ⟨Nat.le_of_ble_eq_true rfl, Nat.le_of_ble_eq_true rfl⟩, hts _ mG_96⟩ ⟨wl_blind, wl_at hP hK hN⟩ rfl rfl hl.1 rfl (lv_room (Nat.le_of_ble_eq_true rfl)) dX3_add_16 ⟨Nat.le_of_ble_eq_true rfl, Nat.le_of_ble_eq_true rfl⟩) hS (fun r_7 u_7 t_7 locs hw hP hS => ?_)
      obtain ⟨rfl, rfl⟩ := hw
      have hP : va_P X.1 vwCl (wl_ws X d π) t_7.heap := hP
      refine lv_if_eq (tgt := 26) hx hb dX3_add_19 (by decide) (fun c_8 => ?_) (fun c_8 => ?_)
      · have k_3 := wl_if c_8
        refine lv_iconst (v := 0) hx hb dX3_add_26 (by decide) ?_
        refine lv_istore (lv' := [(8, .int 0), (0, .ref (X.2.1 0)), (1, .int id), (2, .int pa), (3, .int ti), (4, .int lo), (5, .int hi2), (6, .int ev), (7, .int lk)]) hx hb dX3_add_27 hl (by decide) rfl (fun ls hl => ?_)
        refine lv_iload hx hb dX3_add_29 (lv_at hl 0 rfl) ?_
        refine lv_if_eq (tgt := 53) hx hb dX3_add_31 (by decide) (fun c_9 => ?_) (fun c_9 => ?_)
        · refine lv_bipush (v := 13) hx hb dX3_add_53 (by decide) ?_
          refine gw_iret (d, π) hx hb hr hlocks (wl_hB hP) hS dX3_add_55 ?_
          exact Or.inl ⟨rfl, rfl, wl_bad3 k_3⟩
        · exact absurd rfl c_9
      · have k_3 := wl_it c_8
        refine lv_iconst (v := 1) hx hb dX3_add_22 (by decide) ?_
        refine lv_goto (tgt := 27) hx hb dX3_add_23 (by decide) ?_
        refine lv_istore (lv' := [(8, .int 1), (0, .ref (X.2.1 0)), (1, .int id), (2, .int pa), (3, .int ti), (4, .int lo), (5, .int hi2), (6, .int ev), (7, .int lk)]) hx hb dX3_add_27 hl (by decide) rfl (fun ls hl => ?_)
        refine lv_iload hx hb dX3_add_29 (lv_at hl 0 rfl) ?_
        refine lv_if_eq (tgt := 53) hx hb dX3_add_31 (by decide) (fun c_10 => ?_) (fun c_10 => ?_)
        · exact absurd c_10 (by decide)
        · refine lv_iload_n hx hb dX3_add_34 rfl (lv_at hl 4 rfl) ?_
          refine lv_iconst (v := 1) hx hb dX3_add_35 (by decide) ?_
          refine lv_icmp_lt (tgt := 53) hx hb dX3_add_36 (by decide) (fun c_11 => ?_) (fun c_11 => ?_)
          · have t_1 := c_11
            refine lv_bipush (v := 13) hx hb dX3_add_53 (by decide) ?_
            refine gw_iret (d, π) hx hb hr hlocks (wl_hB hP) hS dX3_add_55 ?_
            exact Or.inl ⟨rfl, rfl, wl_bad4 t_1⟩
          · have t_1 := c_11
            refine lv_iload_n hx hb dX3_add_39 rfl (lv_at hl 4 rfl) ?_
            refine lv_sipush (v := 255) hx hb dX3_add_40 (by decide) ?_
            refine lv_icmp_gt (tgt := 53) hx hb dX3_add_43 (by decide) (fun c_12 => ?_) (fun c_12 => ?_)
            · have t_2 := c_12
              refine lv_bipush (v := 13) hx hb dX3_add_53 (by decide) ?_
              refine gw_iret (d, π) hx hb hr hlocks (wl_hB hP) hS dX3_add_55 ?_
              exact Or.inl ⟨rfl, rfl, wl_bad5 t_2⟩
            · have t_2 := c_12
              refine lv_iload hx hb dX3_add_46 (lv_at hl 5 rfl) ?_
              refine lv_iload hx hb dX3_add_48 (lv_at hl 6 rfl) ?_
              refine lv_icmp_le (tgt := 56) hx hb dX3_add_50 (by decide) (fun c_13 => ?_) (fun c_13 => ?_)
              · have t_3 := c_13
                refine lv_aload_n hx hb dX3_add_56 rfl (lv_at hl 1 rfl) ?_
                refine lv_iload_n hx hb dX3_add_57 rfl (lv_at hl 2 rfl) ?_
                refine gw_calli (va_runV (As := [.int id]) (rest := []) ⟨hx, hb, hml, hown, hts⟩ (c_WatchList_placeOf X hX d π id n hn hn16 hπ) ⟨callB_of 1 hts giX3_placeOf rfl rfl rfl (hts _ mG_22) (hts _ mG_98) pdX3_placeOf ⟨Nat.le_of_ble_eq_true rfl, Nat.le_of_ble_eq_true rfl⟩, hts _ mG_99, hts _ mG_0⟩ ⟨wl_blind, gw_recv hK hP 0 (by decide) wl_c0 rfl, wl_at hP hK hN⟩ rfl rfl hl.1 rfl (lv_room (Nat.le_of_ble_eq_true rfl)) dX3_add_58 ⟨Nat.le_of_ble_eq_true rfl, Nat.le_of_ble_eq_true rfl⟩) hS (fun r_14 u_14 t_14 locs hw hP hS => ?_)
                obtain ⟨rfl, hpo⟩ := hw
                have hP : va_P X.1 vwCl (wl_ws X d π) t_14.heap := hP
                refine lv_iconst (v := (-1)) hx hb dX3_add_61 (by decide) ?_
                refine lv_icmp_eq (tgt := 68) hx hb dX3_add_62 (by decide) (fun c_15 => ?_) (fun c_15 => ?_)
                · have hnone := (hpo.resolve_left (fun ⟨i, hi, ei, _⟩ => wl_nm1 (by omega) (ei.symm.trans c_15))).2
                  refine lv_aload_n hx hb dX3_add_68 rfl (lv_at hl 1 rfl) ?_
                  refine gw_get hx hb hts inX3 hown hK hP 0 (by decide) wl_c0 rfl 2 (by decide) (hts _ mG_72) (fun _ h9 => h9) (v := .int (d 0 2)) rfl dX3_add_69 ?_
                  refine lv_bipush (v := 16) hx hb dX3_add_72 (by decide) ?_
                  refine lv_icmp_lt (tgt := 80) hx hb dX3_add_74 (by decide) (fun c_16 => ?_) (fun c_16 => ?_)
                  · have hlt16 : n < 16 := wl_lt16 hn c_16 hn16
                    refine lv_aload_n hx hb dX3_add_80 rfl (lv_at hl 1 rfl) ?_
                    refine lv_iload_n hx hb dX3_add_81 rfl (lv_at hl 2 rfl) ?_
                    refine gw_callr (va_runV (As := [.int id]) (rest := []) ⟨hx, hb, hml, hown, hts⟩ (c_WatchList_openPlaceFor X hX d π id n hn hlt16 hπ) ⟨callB_of 1 hts giX3_openPlaceFor rfl rfl rfl (hts _ mG_22) (hts _ mG_101) pdX3_openPlaceFor ⟨Nat.le_of_ble_eq_true rfl, Nat.le_of_ble_eq_true rfl⟩, hts _ mG_102, hts _ mG_1⟩ ⟨wl_blind, gw_recv hK hP 0 (by decide) wl_c0 rfl, wl_at hP hK hN⟩ rfl rfl hl.1 rfl (lv_room (Nat.le_of_ble_eq_true rfl)) dX3_add_82 ⟨Nat.le_of_ble_eq_true rfl, Nat.le_of_ble_eq_true rfl⟩) hS (fun u_17 a_17 t_17 locs hw hP hS => ?_)
                    obtain ⟨d_17, π_17, k_17⟩ := u_17
                    obtain ⟨hk_17, pl, hpl1, hpl2, hpl3, hd_17, hp_17⟩ := hw
                    obtain ⟨ha_17, hP⟩ := hP
                    dsimp only at hk_17 hd_17 hp_17 ha_17
                    subst hk_17 hd_17 hp_17 ha_17
                    have hP : va_P X.1 vwCl (wl_ws X (up2 d 0 2 (nI (n + 1))) (va_up (wl_sh π n pl) pl (π n))) t_17.heap := hP
                    refine lv_astore (lv' := [(9, .ref (X.2.1 (8 + (π n)))), (8, .int 1), (0, .ref (X.2.1 0)), (1, .int id), (2, .int pa), (3, .int ti), (4, .int lo), (5, .int hi2), (6, .int ev), (7, .int lk)]) hx hb dX3_add_85 hl (by decide) rfl (fun ls hl => ?_)
                    refine lv_aload hx hb dX3_add_87 (lv_at hl 0 rfl) ?_
                    refine lv_iload_n hx hb dX3_add_89 rfl (lv_at hl 3 rfl) ?_
                    refine lv_iload_n hx hb dX3_add_90 rfl (lv_at hl 4 rfl) ?_
                    refine lv_iload_n hx hb dX3_add_91 rfl (lv_at hl 5 rfl) ?_
                    refine lv_iload hx hb dX3_add_92 (lv_at hl 6 rfl) ?_
                    refine lv_iload hx hb dX3_add_94 (lv_at hl 7 rfl) ?_
                    refine lv_iload hx hb dX3_add_96 (lv_at hl 8 rfl) ?_
                    refine lv_iload hx hb dX3_add_98 (lv_at hl 9 rfl) ?_
                    refine gw_callv (va_runVN (As := [.int id, .int pa, .int ti, .int lo, .int hi2, .int ev, .int lk]) (rest := []) ⟨hx, hb, hml, hown, hts⟩ (c_Limit_begin X hX (up2 d 0 2 (nI (n + 1))) (va_up (wl_sh π n pl) pl (π n)) (π n) (hπ n hlt16) id pa ti lo hi2 ev lk hz) ⟨va_cnB 7 hts giX1_begin rfl rfl rfl (hN _ (List.mem_of_getElem? (i := 12) rfl)) (hts _ mG_24) pdX1_begin ⟨Nat.le_of_ble_eq_true rfl, Nat.le_of_ble_eq_true rfl⟩, hts _ mG_104, hts _ mG_2⟩ ⟨wl_blind, gw_recv hK hP (8 + (π n)) (wl_kL (hπ n hlt16)) (wl_cL (hπ n hlt16)) rfl, wl_at hP hK hN⟩ rfl rfl hl.1 rfl (lv_room (Nat.le_of_ble_eq_true rfl)) dX3_add_100 ⟨Nat.le_of_ble_eq_true rfl, Nat.le_of_ble_eq_true rfl⟩) hS (fun u_18 t_18 locs hw hP hS => ?_)
                    obtain rfl := hw
                    have hP : va_P X.1 vwCl (wl_ws X (wl_beg (up2 d 0 2 (nI (n + 1))) (8 + (π n)) id pa ti lo hi2 ev lk) (va_up (wl_sh π n pl) pl (π n))) t_18.heap := hP
                    refine lv_iconst (v := 0) hx hb dX3_add_103 (by decide) ?_
                    refine gw_iret (wl_beg (up2 d 0 2 (nI (n + 1))) (8 + (π n)) id pa ti lo hi2 ev lk, va_up (wl_sh π n pl) pl (π n)) hx hb hr hlocks (wl_hB hP) hS dX3_add_104 ?_
                    exact Or.inr ⟨wl_good k_1 k_2 k_3 t_1 t_2 t_3, Or.inr ⟨hnone, Or.inr ⟨rfl, hlt16, pl, hpl1, hpl2, hpl3, rfl⟩⟩⟩
                  · have h16 : n = 16 := wl_ge16 hn c_16 hn16
                    refine lv_bipush (v := 26) hx hb dX3_add_77 (by decide) ?_
                    refine gw_iret (d, π) hx hb hr hlocks (wl_hB hP) hS dX3_add_79 ?_
                    exact Or.inr ⟨wl_good k_1 k_2 k_3 t_1 t_2 t_3, Or.inr ⟨hnone, Or.inl ⟨rfl, rfl, h16⟩⟩⟩
                · obtain ⟨i, hi, ei, hid, hfst⟩ := hpo.resolve_right (fun z => c_15 z.1)
                  subst ei
                  refine lv_bipush (v := 25) hx hb dX3_add_65 (by decide) ?_
                  refine gw_iret (d, π) hx hb hr hlocks (wl_hB hP) hS dX3_add_67 ?_
                  exact Or.inr ⟨wl_good k_1 k_2 k_3 t_1 t_2 t_3, Or.inl ⟨rfl, rfl, i, hi, hid⟩⟩
              · have t_3 := c_13
                refine lv_bipush (v := 13) hx hb dX3_add_53 (by decide) ?_
                refine gw_iret (d, π) hx hb hr hlocks (wl_hB hP) hS dX3_add_55 ?_
                exact Or.inl ⟨rfl, rfl, wl_bad6 t_3⟩
set_option maxHeartbeats 4000000 in
set_option maxRecDepth 100000 in
theorem c_WatchList_remove (X : wl_X) (hX : gw_inj 88 X.2.1) (d : Nat → Nat → Int32) (π : Nat → Nat)  (id : Int32) (n : Nat) (hn : d 0 2 = nI n) (hn16 : n ≤ 16) (hπ : ∀ j, j < 16 → π j < 16) : Met l yX3_remove wsX3_remove ({ frames := 1, cells := 0, slots := 0, locals := 23 }) (wl_pre X [.ref (X.2.1 0), .int id] d π) (va_Qi (fun r u => (r = 27 ∧ u = (d, π) ∧ ∀ j, j < n → ¬ d (8 + π j) 0 = id) ∨ ∃ i, i < n ∧ d (8 + π i) 0 = id ∧ (∀ j, j < i → ¬ d (8 + π j) 0 = id) ∧ ((r = 15 ∧ u = (d, π) ∧ ¬ d (8 + π i) 7 = 0) ∨ (r = 0 ∧ d (8 + π i) 7 = 0 ∧ u = (up2 d 0 2 (nI (n - 1)), va_up (wl_sl π i (n - 1)) (n - 1) (π i))))) (wl_b X) (gw_A 88 X.2.1)) 0 0 (gw_A 88 X.2.1) := by
  refine Met.ofW (cc := cX3_remove) (maxL := 3) (ret := (some .int)) (by decide) rfl ?_
  intro p e s m args below meth c s₁ B hml hv
  obtain ⟨rfl, hP, hK, hN⟩ := hv
  have hx := B.exec
  have hb := B.bytes
  have hr := B.returns
  have hts : ∀ w ∈ gG, w.before _ s = true := fun w h => atoms_spec (ws := wsX3_remove) B.pre w (List.mem_cons_of_mem _ h)
  have hown : s.vm.findClass RX3 = some m.cls := findClass_of_methodNamed B.named
  have hlocks := B.notSynchronized
  have hS : va_S (gw_A 88 X.2.1) s.heap s.heap [] := va_S.rf
  have hl := lv_entry ([.ref (X.2.1 0), .int id]) (n := 3) (Nat.le_of_ble_eq_true rfl)
  rw [lg_entry_eq]
  generalize (lg_sl ([.ref (X.2.1 0), .int id]) ++ List.replicate (3 - (lg_sl ([.ref (X.2.1 0), .int id])).length) Slot.unset).toArray = ls at hl ⊢
  have hl : lv_has ls 3 [(0, .ref (X.2.1 0)), (1, .int id)] := hl
  refine lv_aload_n hx hb dX3_remove_0 rfl (lv_at hl 0 rfl) ?_
  refine lv_iload_n hx hb dX3_remove_1 rfl (lv_at hl 1 rfl) ?_
  refine gw_calli (va_runV (As := [.int id]) (rest := []) ⟨hx, hb, hml, hown, hts⟩ (c_WatchList_placeOf X hX d π id n hn hn16 hπ) ⟨callB_of 1 hts giX3_placeOf rfl rfl rfl (hts _ mG_22) (hts _ mG_98) pdX3_placeOf ⟨Nat.le_of_ble_eq_true rfl, Nat.le_of_ble_eq_true rfl⟩, hts _ mG_99, hts _ mG_0⟩ ⟨wl_blind, gw_recv hK hP 0 (by decide) wl_c0 rfl, wl_at hP hK hN⟩ rfl rfl hl.1 rfl (lv_room (Nat.le_of_ble_eq_true rfl)) dX3_remove_2 ⟨Nat.le_of_ble_eq_true rfl, Nat.le_of_ble_eq_true rfl⟩) hS (fun r_1 u_1 t_1 locs hw hP hS => ?_)
  obtain ⟨rfl, hpo⟩ := hw
  have hP : va_P X.1 vwCl (wl_ws X d π) t_1.heap := hP
  refine lv_istore_n (lv' := [(2, .int r_1), (0, .ref (X.2.1 0)), (1, .int id)]) hx hb dX3_remove_5 rfl hl (by decide) rfl (fun ls hl => ?_)
  refine lv_iload_n hx hb dX3_remove_6 rfl (lv_at hl 0 rfl) ?_
  refine lv_iconst (v := (-1)) hx hb dX3_remove_7 (by decide) ?_
  refine lv_icmp_ne (tgt := 14) hx hb dX3_remove_8 (by decide) (fun c_2 => ?_) (fun c_2 => ?_)
  · obtain ⟨i, hi, ei, hid, hfst⟩ := hpo.resolve_right (fun z => c_2 z.1)
    subst ei
    refine lv_aload_n hx hb dX3_remove_14 rfl (lv_at hl 1 rfl) ?_
    refine gw_get hx hb hts inX3 hown hK hP 0 (by decide) wl_c0 rfl 1 (by decide) (hts _ mG_71) (fun _ h9 => h9) (v := .ref (X.2.1 2)) rfl dX3_remove_15 ?_
    refine lv_iload_n hx hb dX3_remove_18 rfl (lv_at hl 0 rfl) ?_
    refine gw_aald hx hb hK hP 2 2 (by decide) wl_c2 rfl (i := nI i) (vp_in_nI (by omega) (by omega)) (k := 8 + (π i)) (by show some (X.2.1 (8 + π (nI i).toNatClampNeg)) = _; rw [nI_clamp (by omega)]) dX3_remove_19 ?_
    refine gw_getN hx hb hts inX1 hown hK hP (8 + (π i)) (wl_kL (hπ i (by omega))) (wl_cL (hπ i (by omega))) rfl 7 (by decide) (hN _ (List.mem_of_getElem? (i := 7) rfl)) (fun _ h9 => h9) (v := .int (d (8 + (π i)) 7)) rfl dX3_remove_20 ?_
    refine lv_if_eq (tgt := 29) hx hb dX3_remove_23 (by decide) (fun c_3 => ?_) (fun c_3 => ?_)
    · have on_1 := c_3
      refine lv_aload_n hx hb dX3_remove_29 rfl (lv_at hl 1 rfl) ?_
      refine lv_iload_n hx hb dX3_remove_30 rfl (lv_at hl 0 rfl) ?_
      refine gw_callv (va_runV (As := [.int (nI i)]) (rest := []) ⟨hx, hb, hml, hown, hts⟩ (c_WatchList_closePlace X hX d π i n hn hn16 hi hπ) ⟨callB_of 1 hts giX3_closePlace rfl rfl rfl (hts _ mG_22) (hts _ mG_113) pdX3_closePlace ⟨Nat.le_of_ble_eq_true rfl, Nat.le_of_ble_eq_true rfl⟩, hts _ mG_114, hts _ mG_4⟩ ⟨wl_blind, gw_recv hK hP 0 (by decide) wl_c0 rfl, wl_at hP hK hN⟩ rfl rfl hl.1 rfl (lv_room (Nat.le_of_ble_eq_true rfl)) dX3_remove_31 ⟨Nat.le_of_ble_eq_true rfl, Nat.le_of_ble_eq_true rfl⟩) hS (fun u_4 t_4 locs hw hP hS => ?_)
      obtain rfl := hw
      have hP : va_P X.1 vwCl (wl_ws X (up2 d 0 2 (nI (n - 1))) (va_up (wl_sl π i (n - 1)) (n - 1) (π i))) t_4.heap := hP
      refine lv_iconst (v := 0) hx hb dX3_remove_34 (by decide) ?_
      refine gw_iret (up2 d 0 2 (nI (n - 1)), va_up (wl_sl π i (n - 1)) (n - 1) (π i)) hx hb hr hlocks (wl_hB hP) hS dX3_remove_35 ?_
      exact Or.inr ⟨i, hi, hid, hfst, Or.inr ⟨rfl, on_1, rfl⟩⟩
    · have on_1 := c_3
      refine lv_bipush (v := 15) hx hb dX3_remove_26 (by decide) ?_
      refine gw_iret (d, π) hx hb hr hlocks (wl_hB hP) hS dX3_remove_28 ?_
      exact Or.inr ⟨i, hi, hid, hfst, Or.inl ⟨rfl, rfl, on_1⟩⟩
  · have hnone := (hpo.resolve_left (fun ⟨i, hi, ei, _⟩ => wl_nm1 (by omega) (ei.symm.trans c_2))).2
    refine lv_bipush (v := 27) hx hb dX3_remove_11 (by decide) ?_
    refine gw_iret (d, π) hx hb hr hlocks (wl_hB hP) hS dX3_remove_13 ?_
    exact Or.inl ⟨rfl, rfl, hnone⟩
set_option maxHeartbeats 4000000 in
set_option maxRecDepth 100000 in
theorem c_WatchList_enable (X : wl_X) (hX : gw_inj 88 X.2.1) (d : Nat → Nat → Int32) (π : Nat → Nat)  (id : Int32) (on : Int32) (hz : on = 0 ∨ on = 1) (n : Nat) (hn : d 0 2 = nI n) (hn16 : n ≤ 16) (hπ : ∀ j, j < 16 → π j < 16) : Met l yX3_enable wsX3_enable ({ frames := 1, cells := 0, slots := 0, locals := 22 }) (wl_pre X [.ref (X.2.1 0), .int id, .int on] d π) (va_Qi (fun r u => (r = 27 ∧ u = (d, π) ∧ ∀ j, j < n → ¬ d (8 + π j) 0 = id) ∨ (r = 0 ∧ ∃ i, i < n ∧ d (8 + π i) 0 = id ∧ (∀ j, j < i → ¬ d (8 + π j) 0 = id) ∧ u = (up2 (up2 d (8 + π i) 7 on) (8 + π i) 8 0, π))) (wl_b X) (gw_A 88 X.2.1)) 0 0 (gw_A 88 X.2.1) := by
  refine Met.ofW (cc := cX3_enable) (maxL := 4) (ret := (some .int)) (by decide) rfl ?_
  intro p e s m args below meth c s₁ B hml hv
  obtain ⟨rfl, hP, hK, hN⟩ := hv
  have hx := B.exec
  have hb := B.bytes
  have hr := B.returns
  have hts : ∀ w ∈ gG, w.before _ s = true := fun w h => atoms_spec (ws := wsX3_enable) B.pre w (List.mem_cons_of_mem _ h)
  have hown : s.vm.findClass RX3 = some m.cls := findClass_of_methodNamed B.named
  have hlocks := B.notSynchronized
  have hS : va_S (gw_A 88 X.2.1) s.heap s.heap [] := va_S.rf
  have hl := lv_entry ([.ref (X.2.1 0), .int id, .int on]) (n := 4) (Nat.le_of_ble_eq_true rfl)
  rw [lg_entry_eq]
  generalize (lg_sl ([.ref (X.2.1 0), .int id, .int on]) ++ List.replicate (4 - (lg_sl ([.ref (X.2.1 0), .int id, .int on])).length) Slot.unset).toArray = ls at hl ⊢
  have hl : lv_has ls 4 [(0, .ref (X.2.1 0)), (1, .int id), (2, .int on)] := hl
  refine lv_aload_n hx hb dX3_enable_0 rfl (lv_at hl 0 rfl) ?_
  refine lv_iload_n hx hb dX3_enable_1 rfl (lv_at hl 1 rfl) ?_
  refine gw_calli (va_runV (As := [.int id]) (rest := []) ⟨hx, hb, hml, hown, hts⟩ (c_WatchList_placeOf X hX d π id n hn hn16 hπ) ⟨callB_of 1 hts giX3_placeOf rfl rfl rfl (hts _ mG_22) (hts _ mG_98) pdX3_placeOf ⟨Nat.le_of_ble_eq_true rfl, Nat.le_of_ble_eq_true rfl⟩, hts _ mG_99, hts _ mG_0⟩ ⟨wl_blind, gw_recv hK hP 0 (by decide) wl_c0 rfl, wl_at hP hK hN⟩ rfl rfl hl.1 rfl (lv_room (Nat.le_of_ble_eq_true rfl)) dX3_enable_2 ⟨Nat.le_of_ble_eq_true rfl, Nat.le_of_ble_eq_true rfl⟩) hS (fun r_1 u_1 t_1 locs hw hP hS => ?_)
  obtain ⟨rfl, hpo⟩ := hw
  have hP : va_P X.1 vwCl (wl_ws X d π) t_1.heap := hP
  refine lv_istore_n (lv' := [(3, .int r_1), (0, .ref (X.2.1 0)), (1, .int id), (2, .int on)]) hx hb dX3_enable_5 rfl hl (by decide) rfl (fun ls hl => ?_)
  refine lv_iload_n hx hb dX3_enable_6 rfl (lv_at hl 0 rfl) ?_
  refine lv_iconst (v := (-1)) hx hb dX3_enable_7 (by decide) ?_
  refine lv_icmp_ne (tgt := 14) hx hb dX3_enable_8 (by decide) (fun c_2 => ?_) (fun c_2 => ?_)
  · obtain ⟨i, hi, ei, hid, hfst⟩ := hpo.resolve_right (fun z => c_2 z.1)
    subst ei
    refine lv_aload_n hx hb dX3_enable_14 rfl (lv_at hl 1 rfl) ?_
    refine gw_get hx hb hts inX3 hown hK hP 0 (by decide) wl_c0 rfl 1 (by decide) (hts _ mG_71) (fun _ h9 => h9) (v := .ref (X.2.1 2)) rfl dX3_enable_15 ?_
    refine lv_iload_n hx hb dX3_enable_18 rfl (lv_at hl 0 rfl) ?_
    refine gw_aald hx hb hK hP 2 2 (by decide) wl_c2 rfl (i := nI i) (vp_in_nI (by omega) (by omega)) (k := 8 + (π i)) (by show some (X.2.1 (8 + π (nI i).toNatClampNeg)) = _; rw [nI_clamp (by omega)]) dX3_enable_19 ?_
    refine lv_iload_n hx hb dX3_enable_20 rfl (lv_at hl 3 rfl) ?_
    refine gw_callv (va_runVN (As := [.int on]) (rest := []) ⟨hx, hb, hml, hown, hts⟩ (c_Limit_turn X hX d π (π i) (hπ i (by omega)) on hz) ⟨va_cnB 1 hts giX1_turn rfl rfl rfl (hN _ (List.mem_of_getElem? (i := 13) rfl)) (hts _ mG_24) pdX1_turn ⟨Nat.le_of_ble_eq_true rfl, Nat.le_of_ble_eq_true rfl⟩, hts _ mG_107, hts _ mG_3⟩ ⟨wl_blind, gw_recv hK hP (8 + (π i)) (wl_kL (hπ i (by omega))) (wl_cL (hπ i (by omega))) rfl, wl_at hP hK hN⟩ rfl rfl hl.1 rfl (lv_room (Nat.le_of_ble_eq_true rfl)) dX3_enable_21 ⟨Nat.le_of_ble_eq_true rfl, Nat.le_of_ble_eq_true rfl⟩) hS (fun u_3 t_3 locs hw hP hS => ?_)
    obtain rfl := hw
    have hP : va_P X.1 vwCl (wl_ws X (up2 (up2 d (8 + (π i)) 7 on) (8 + (π i)) 8 0) π) t_3.heap := hP
    refine lv_iconst (v := 0) hx hb dX3_enable_24 (by decide) ?_
    refine gw_iret (up2 (up2 d (8 + (π i)) 7 on) (8 + (π i)) 8 0, π) hx hb hr hlocks (wl_hB hP) hS dX3_enable_25 ?_
    exact Or.inr ⟨rfl, i, hi, hid, hfst, rfl⟩
  · have hnone := (hpo.resolve_left (fun ⟨i, hi, ei, _⟩ => wl_nm1 (by omega) (ei.symm.trans c_2))).2
    refine lv_bipush (v := 27) hx hb dX3_enable_11 (by decide) ?_
    refine gw_iret (d, π) hx hb hr hlocks (wl_hB hP) hS dX3_enable_13 ?_
    exact Or.inl ⟨rfl, rfl, hnone⟩
set_option maxHeartbeats 4000000 in
set_option maxRecDepth 100000 in
theorem c_WatchList_linked (X : wl_X) (hX : gw_inj 88 X.2.1) (d : Nat → Nat → Int32) (π : Nat → Nat)   (hz : d 0 4 = 0 ∨ d 0 4 = 1) : Met l yX3_linked wsX3_linked ({ frames := 0, cells := 0, slots := 0, locals := 0 }) (wl_pre X [.ref (X.2.1 0)] d π) (va_Qi (fun r u => r = d 0 4 ∧ u = (d, π)) (wl_b X) (gw_A 88 X.2.1)) 0 0 (gw_A 88 X.2.1) := by
  refine Met.ofW (cc := cX3_linked) (maxL := 1) (ret := (some .boolean)) (by decide) rfl ?_
  intro p e s m args below meth c s₁ B hml hv
  obtain ⟨rfl, hP, hK, hN⟩ := hv
  have hx := B.exec
  have hb := B.bytes
  have hr := B.returns
  have hts : ∀ w ∈ gG, w.before _ s = true := fun w h => atoms_spec (ws := wsX3_linked) B.pre w (List.mem_cons_of_mem _ h)
  have hown : s.vm.findClass RX3 = some m.cls := findClass_of_methodNamed B.named
  have hlocks := B.notSynchronized
  have hS : va_S (gw_A 88 X.2.1) s.heap s.heap [] := va_S.rf
  have hl := lv_entry ([.ref (X.2.1 0)]) (n := 1) (Nat.le_of_ble_eq_true rfl)
  rw [lg_entry_eq]
  generalize (lg_sl ([.ref (X.2.1 0)]) ++ List.replicate (1 - (lg_sl ([.ref (X.2.1 0)])).length) Slot.unset).toArray = ls at hl ⊢
  have hl : lv_has ls 1 [(0, .ref (X.2.1 0))] := hl
  refine lv_aload_n hx hb dX3_linked_0 rfl (lv_at hl 0 rfl) ?_
  refine gw_get hx hb hts inX3 hown hK hP 0 (by decide) wl_c0 rfl 4 (by decide) (hts _ mG_74) (fun _ h9 => h9) (v := .int (d 0 4)) rfl dX3_linked_1 ?_
  refine gw_zret (d, π) hx hb hr hlocks hz (wl_hB hP) hS dX3_linked_4 ?_
  exact ⟨rfl, rfl⟩
set_option maxHeartbeats 4000000 in
set_option maxRecDepth 100000 in
theorem c_WatchList_raise (X : wl_X) (hX : gw_inj 88 X.2.1) (d : Nat → Nat → Int32) (π : Nat → Nat)  (ev : Int32) (nu : Int32) (f : Nat) (q : Nat) (hf : d 4 2 = nI f) (hq : d 4 3 = nI q) (hf6 : f < 64) (hq6 : q ≤ 64) : Met l yX3_raise wsX3_raise ({ frames := 2, cells := 0, slots := 0, locals := 45 }) (wl_pre X [.ref (X.2.1 0), .int ev, .int nu] d π) (va_Qi (fun r u => (wl_ok ev 32 = true → r = wl_i (decide (q < 64)) ∧ u = (wl_wol d f q ev nu, π)) ∧ (wl_ok ev 32 = false → r = 0 ∧ u = (d, π))) (wl_b X) (gw_A 88 X.2.1)) 0 0 (gw_A 88 X.2.1) := by
  refine Met.ofW (cc := cX3_raise) (maxL := 3) (ret := (some .boolean)) (by decide) rfl ?_
  intro p e s m args below meth c s₁ B hml hv
  obtain ⟨rfl, hP, hK, hN⟩ := hv
  have hx := B.exec
  have hb := B.bytes
  have hr := B.returns
  have hts : ∀ w ∈ gG, w.before _ s = true := fun w h => atoms_spec (ws := wsX3_raise) B.pre w (List.mem_cons_of_mem _ h)
  have hown : s.vm.findClass RX3 = some m.cls := findClass_of_methodNamed B.named
  have hlocks := B.notSynchronized
  have hS : va_S (gw_A 88 X.2.1) s.heap s.heap [] := va_S.rf
  have hl := lv_entry ([.ref (X.2.1 0), .int ev, .int nu]) (n := 3) (Nat.le_of_ble_eq_true rfl)
  rw [lg_entry_eq]
  generalize (lg_sl ([.ref (X.2.1 0), .int ev, .int nu]) ++ List.replicate (3 - (lg_sl ([.ref (X.2.1 0), .int ev, .int nu])).length) Slot.unset).toArray = ls at hl ⊢
  have hl : lv_has ls 3 [(0, .ref (X.2.1 0)), (1, .int ev), (2, .int nu)] := hl
  refine lv_iload_n hx hb dX3_raise_0 rfl (lv_at hl 1 rfl) ?_
  refine gw_calli (va_runS (As := [.int ev]) (rest := []) ⟨hx, hb, hml, hown, hts⟩ (c_WatchList_isEvent X hX d π ev ) ⟨callB_of 1 hts giX3_isEvent rfl rfl rfl (hts _ mG_22) (hts _ mG_95) pdX3_isEvent ⟨Nat.le_of_ble_eq_true rfl, Nat.le_of_ble_eq_true rfl⟩, hts _ mG_96⟩ ⟨wl_blind, wl_at hP hK hN⟩ rfl rfl hl.1 rfl (lv_room (Nat.le_of_ble_eq_true rfl)) dX3_raise_1 ⟨Nat.le_of_ble_eq_true rfl, Nat.le_of_ble_eq_true rfl⟩) hS (fun r_1 u_1 t_1 locs hw hP hS => ?_)
  obtain ⟨rfl, rfl⟩ := hw
  have hP : va_P X.1 vwCl (wl_ws X d π) t_1.heap := hP
  refine lv_if_eq (tgt := 20) hx hb dX3_raise_4 (by decide) (fun c_2 => ?_) (fun c_2 => ?_)
  · have ok_1 := wl_if c_2
    refine lv_iconst (v := 0) hx hb dX3_raise_20 (by decide) ?_
    refine gw_zret (d, π) hx hb hr hlocks (by decide) (wl_hB hP) hS dX3_raise_21 ?_
    exact ⟨fun z => absurd (ok_1.symm.trans z) (by decide), fun _ => ⟨rfl, rfl⟩⟩
  · have ok_1 := wl_it c_2
    have hj := wl_ok32c ok_1
    refine lv_aload_n hx hb dX3_raise_7 rfl (lv_at hl 0 rfl) ?_
    refine lv_iload_n hx hb dX3_raise_8 rfl (lv_at hl 1 rfl) ?_
    refine lv_iload_n hx hb dX3_raise_9 rfl (lv_at hl 2 rfl) ?_
    refine gw_calli (va_runV (As := [.int ev, .int nu]) (rest := []) ⟨hx, hb, hml, hown, hts⟩ (c_WatchList_waitOrLose X hX d π ev nu f q hf hq hf6 hq6) ⟨callB_of 2 hts giX3_waitOrLose rfl rfl rfl (hts _ mG_22) (hts _ mG_126) pdX3_waitOrLose ⟨Nat.le_of_ble_eq_true rfl, Nat.le_of_ble_eq_true rfl⟩, hts _ mG_127, hts _ mG_6⟩ ⟨wl_blind, gw_recv hK hP 0 (by decide) wl_c0 rfl, wl_at hP hK hN⟩ rfl rfl hl.1 rfl (lv_room (Nat.le_of_ble_eq_true rfl)) dX3_raise_10 ⟨Nat.le_of_ble_eq_true rfl, Nat.le_of_ble_eq_true rfl⟩) hS (fun r_3 u_3 t_3 locs hw hP hS => ?_)
    obtain ⟨rfl, rfl⟩ := hw
    have hP : va_P X.1 vwCl (wl_ws X (wl_wol d f q ev nu) π) t_3.heap := hP
    refine lv_if_eq (tgt := 20) hx hb dX3_raise_13 (by decide) (fun c_4 => ?_) (fun c_4 => ?_)
    · have w_1 := c_4
      refine lv_iconst (v := 0) hx hb dX3_raise_20 (by decide) ?_
      refine gw_zret (wl_wol d f q ev nu, π) hx hb hr hlocks (by decide) (wl_hB hP) hS dX3_raise_21 ?_
      exact ⟨fun _ => ⟨w_1.symm, rfl⟩, fun z => absurd (ok_1.symm.trans z) (by decide)⟩
    · have w_1 := c_4
      refine lv_iconst (v := 1) hx hb dX3_raise_16 (by decide) ?_
      refine lv_goto (tgt := 21) hx hb dX3_raise_17 (by decide) ?_
      refine gw_zret (wl_wol d f q ev nu, π) hx hb hr hlocks (by decide) (wl_hB hP) hS dX3_raise_21 ?_
      exact ⟨fun _ => ⟨by rw [wl_it w_1]; rfl, rfl⟩, fun z => absurd (ok_1.symm.trans z) (by decide)⟩
set_option maxHeartbeats 4000000 in
set_option maxRecDepth 100000 in
theorem c_WatchList_work (X : wl_X) (hX : gw_inj 88 X.2.1) (d : Nat → Nat → Int32) (π : Nat → Nat)   (f : Nat) (q : Nat) (hf : d 4 2 = nI f) (hq : d 4 3 = nI q) (hf6 : f < 64) (hq6 : q ≤ 64) : Met l yX3_work wsX3_work ({ frames := 1, cells := 0, slots := 0, locals := 20 }) (wl_pre X [.ref (X.2.1 0)] d π) (va_Qi (fun r u => (q = 0 ∧ r = -1 ∧ u = (d, π)) ∨ (0 < q ∧ r = d 6 f ∧ u = (up2 (up2 (up2 d 0 8 (d 7 f)) 4 2 (nI ((f + 1) % 64))) 4 3 (nI (q - 1)), π))) (wl_b X) (gw_A 88 X.2.1)) 0 0 (gw_A 88 X.2.1) := by
  refine Met.ofW (cc := cX3_work) (maxL := 2) (ret := (some .int)) (by decide) rfl ?_
  intro p e s m args below meth c s₁ B hml hv
  obtain ⟨rfl, hP, hK, hN⟩ := hv
  have hx := B.exec
  have hb := B.bytes
  have hr := B.returns
  have hts : ∀ w ∈ gG, w.before _ s = true := fun w h => atoms_spec (ws := wsX3_work) B.pre w (List.mem_cons_of_mem _ h)
  have hown : s.vm.findClass RX3 = some m.cls := findClass_of_methodNamed B.named
  have hlocks := B.notSynchronized
  have hS : va_S (gw_A 88 X.2.1) s.heap s.heap [] := va_S.rf
  have hl := lv_entry ([.ref (X.2.1 0)]) (n := 2) (Nat.le_of_ble_eq_true rfl)
  rw [lg_entry_eq]
  generalize (lg_sl ([.ref (X.2.1 0)]) ++ List.replicate (2 - (lg_sl ([.ref (X.2.1 0)])).length) Slot.unset).toArray = ls at hl ⊢
  have hl : lv_has ls 2 [(0, .ref (X.2.1 0))] := hl
  refine lv_aload_n hx hb dX3_work_0 rfl (lv_at hl 0 rfl) ?_
  refine gw_get hx hb hts inX3 hown hK hP 0 (by decide) wl_c0 rfl 6 (by decide) (hts _ mG_76) (fun _ h9 => h9) (v := .ref (X.2.1 4)) rfl dX3_work_1 ?_
  refine gw_getN hx hb hts inX2 hown hK hP 4 (by decide) wl_c4 rfl 3 (by decide) (hN _ (List.mem_of_getElem? (i := 1) rfl)) (fun _ h9 => h9) (v := .int (d 4 3)) rfl dX3_work_4 ?_
  refine lv_if_ne (tgt := 12) hx hb dX3_work_7 (by decide) (fun c_1 => ?_) (fun c_1 => ?_)
  · have qz := c_1
    refine lv_aload_n hx hb dX3_work_12 rfl (lv_at hl 0 rfl) ?_
    refine gw_get hx hb hts inX3 hown hK hP 0 (by decide) wl_c0 rfl 6 (by decide) (hts _ mG_76) (fun _ h9 => h9) (v := .ref (X.2.1 4)) rfl dX3_work_13 ?_
    refine gw_calli (va_runVN (As := []) (rest := []) ⟨hx, hb, hml, hown, hts⟩ (c_Queue_firstEvent X hX d π  f hf hf6) ⟨va_cnB 0 hts giX2_firstEvent rfl rfl rfl (hN _ (List.mem_of_getElem? (i := 16) rfl)) (hts _ mG_23) pdX2_firstEvent ⟨Nat.le_of_ble_eq_true rfl, Nat.le_of_ble_eq_true rfl⟩, hts _ mG_143, hts _ mG_8⟩ ⟨wl_blind, gw_recv hK hP 4 (by decide) wl_c4 rfl, wl_at hP hK hN⟩ rfl rfl hl.1 rfl (lv_room (Nat.le_of_ble_eq_true rfl)) dX3_work_16 ⟨Nat.le_of_ble_eq_true rfl, Nat.le_of_ble_eq_true rfl⟩) hS (fun r_2 u_2 t_2 locs hw hP hS => ?_)
    obtain ⟨rfl, rfl⟩ := hw
    have hP : va_P X.1 vwCl (wl_ws X d π) t_2.heap := hP
    refine lv_istore_n (lv' := [(1, .int (d 6 f)), (0, .ref (X.2.1 0))]) hx hb dX3_work_19 rfl hl (by decide) rfl (fun ls hl => ?_)
    refine lv_aload_n hx hb dX3_work_20 rfl (lv_at hl 1 rfl) ?_
    refine lv_aload_n hx hb dX3_work_21 rfl (lv_at hl 1 rfl) ?_
    refine gw_get hx hb hts inX3 hown hK hP 0 (by decide) wl_c0 rfl 6 (by decide) (hts _ mG_76) (fun _ h9 => h9) (v := .ref (X.2.1 4)) rfl dX3_work_22 ?_
    refine gw_calli (va_runVN (As := []) (rest := [.ref (X.2.1 0)]) ⟨hx, hb, hml, hown, hts⟩ (c_Queue_firstNumber X hX d π  f hf hf6) ⟨va_cnB 0 hts giX2_firstNumber rfl rfl rfl (hN _ (List.mem_of_getElem? (i := 17) rfl)) (hts _ mG_23) pdX2_firstNumber ⟨Nat.le_of_ble_eq_true rfl, Nat.le_of_ble_eq_true rfl⟩, hts _ mG_145, hts _ mG_9⟩ ⟨wl_blind, gw_recv hK hP 4 (by decide) wl_c4 rfl, wl_at hP hK hN⟩ rfl rfl hl.1 rfl (lv_room (Nat.le_of_ble_eq_true rfl)) dX3_work_25 ⟨Nat.le_of_ble_eq_true rfl, Nat.le_of_ble_eq_true rfl⟩) hS (fun r_3 u_3 t_3 locs hw hP hS => ?_)
    obtain ⟨rfl, rfl⟩ := hw
    have hP : va_P X.1 vwCl (wl_ws X d π) t_3.heap := hP
    refine gw_put hx hb hts inX3 tyX3 okX3 nmX3 hown hK hP hX hS 0 (by decide) wl_c0 rfl 8 (by decide) (hts _ mG_78) (fun _ h9 => h9) rfl (ty := .int) (v := .int (d 7 f)) (by decide +kernel) rfl rfl (Nat.le_of_ble_eq_true rfl) (cf' := wl_c X (up2 d 0 8 (d 7 f)) π) rfl wl_o dX3_work_28 (fun H locs hP hS => ?_)
    refine lv_aload_n hx hb dX3_work_31 rfl (lv_at hl 1 rfl) ?_
    refine gw_get hx hb hts inX3 hown hK hP 0 (by decide) wl_c0 rfl 6 (by decide) (hts _ mG_76) (fun _ h9 => h9) (v := .ref (X.2.1 4)) rfl dX3_work_32 ?_
    refine gw_callv (va_runVN (As := []) (rest := []) ⟨hx, hb, hml, hown, hts⟩ (c_Queue_takeFirst X hX (up2 d 0 8 (d 7 f)) π  f (by rw [up2_k (by decide)]; exact hf) hf6) ⟨va_cnB 0 hts giX2_takeFirst rfl rfl rfl (hN _ (List.mem_of_getElem? (i := 18) rfl)) (hts _ mG_23) pdX2_takeFirst ⟨Nat.le_of_ble_eq_true rfl, Nat.le_of_ble_eq_true rfl⟩, hts _ mG_147, hts _ mG_10⟩ ⟨wl_blind, gw_recv hK hP 4 (by decide) wl_c4 rfl, wl_at hP hK hN⟩ rfl rfl hl.1 rfl (lv_room (Nat.le_of_ble_eq_true rfl)) dX3_work_35 ⟨Nat.le_of_ble_eq_true rfl, Nat.le_of_ble_eq_true rfl⟩) hS (fun u_4 t_4 locs hw hP hS => ?_)
    obtain rfl := hw
    have hP : va_P X.1 vwCl (wl_ws X (up2 (up2 (up2 d 0 8 (d 7 f)) 4 2 (nI ((f + 1) % 64))) 4 3 ((up2 d 0 8 (d 7 f)) 4 3 - 1)) π) t_4.heap := hP
    refine lv_iload_n hx hb dX3_work_38 rfl (lv_at hl 0 rfl) ?_
    refine gw_iret (up2 (up2 (up2 d 0 8 (d 7 f)) 4 2 (nI ((f + 1) % 64))) 4 3 ((up2 d 0 8 (d 7 f)) 4 3 - 1), π) hx hb hr hlocks (wl_hB hP) hS dX3_work_39 ?_
    refine Or.inr ⟨wl_q0 hq qz hq6, rfl, ?_⟩
    rw [up2_k (by decide), hq, wl_pm1 (wl_q0 hq qz hq6)]
  · have qz := c_1
    refine lv_iconst (v := (-1)) hx hb dX3_work_10 (by decide) ?_
    refine gw_iret (d, π) hx hb hr hlocks (wl_hB hP) hS dX3_work_11 ?_
    exact Or.inl ⟨wl_q1 hq qz hq6, rfl, rfl⟩
set_option maxHeartbeats 4000000 in
set_option maxRecDepth 100000 in
theorem c_WatchList_lose (X : wl_X) (hX : gw_inj 88 X.2.1) (d : Nat → Nat → Int32) (π : Nat → Nat)    : Met l yX3_lose wsX3_lose ({ frames := 1, cells := 0, slots := 0, locals := 20 }) (wl_pre X [.ref (X.2.1 0)] d π) (va_Qi (fun r u => r = d 4 3 ∧ u = (up2 (up2 d 4 3 0) 0 7 (d 0 7 + d 4 3), π)) (wl_b X) (gw_A 88 X.2.1)) 0 0 (gw_A 88 X.2.1) := by
  refine Met.ofW (cc := cX3_lose) (maxL := 2) (ret := (some .int)) (by decide) rfl ?_
  intro p e s m args below meth c s₁ B hml hv
  obtain ⟨rfl, hP, hK, hN⟩ := hv
  have hx := B.exec
  have hb := B.bytes
  have hr := B.returns
  have hts : ∀ w ∈ gG, w.before _ s = true := fun w h => atoms_spec (ws := wsX3_lose) B.pre w (List.mem_cons_of_mem _ h)
  have hown : s.vm.findClass RX3 = some m.cls := findClass_of_methodNamed B.named
  have hlocks := B.notSynchronized
  have hS : va_S (gw_A 88 X.2.1) s.heap s.heap [] := va_S.rf
  have hl := lv_entry ([.ref (X.2.1 0)]) (n := 2) (Nat.le_of_ble_eq_true rfl)
  rw [lg_entry_eq]
  generalize (lg_sl ([.ref (X.2.1 0)]) ++ List.replicate (2 - (lg_sl ([.ref (X.2.1 0)])).length) Slot.unset).toArray = ls at hl ⊢
  have hl : lv_has ls 2 [(0, .ref (X.2.1 0))] := hl
  refine lv_aload_n hx hb dX3_lose_0 rfl (lv_at hl 0 rfl) ?_
  refine gw_get hx hb hts inX3 hown hK hP 0 (by decide) wl_c0 rfl 6 (by decide) (hts _ mG_76) (fun _ h9 => h9) (v := .ref (X.2.1 4)) rfl dX3_lose_1 ?_
  refine gw_getN hx hb hts inX2 hown hK hP 4 (by decide) wl_c4 rfl 3 (by decide) (hN _ (List.mem_of_getElem? (i := 1) rfl)) (fun _ h9 => h9) (v := .int (d 4 3)) rfl dX3_lose_4 ?_
  refine lv_istore_n (lv' := [(1, .int (d 4 3)), (0, .ref (X.2.1 0))]) hx hb dX3_lose_7 rfl hl (by decide) rfl (fun ls hl => ?_)
  refine lv_aload_n hx hb dX3_lose_8 rfl (lv_at hl 1 rfl) ?_
  refine gw_get hx hb hts inX3 hown hK hP 0 (by decide) wl_c0 rfl 6 (by decide) (hts _ mG_76) (fun _ h9 => h9) (v := .ref (X.2.1 4)) rfl dX3_lose_9 ?_
  refine gw_callv (va_runVN (As := []) (rest := []) ⟨hx, hb, hml, hown, hts⟩ (c_Queue_empty X hX d π  ) ⟨va_cnB 0 hts giX2_empty rfl rfl rfl (hN _ (List.mem_of_getElem? (i := 19) rfl)) (hts _ mG_23) pdX2_empty ⟨Nat.le_of_ble_eq_true rfl, Nat.le_of_ble_eq_true rfl⟩, hts _ mG_153, hts _ mG_11⟩ ⟨wl_blind, gw_recv hK hP 4 (by decide) wl_c4 rfl, wl_at hP hK hN⟩ rfl rfl hl.1 rfl (lv_room (Nat.le_of_ble_eq_true rfl)) dX3_lose_12 ⟨Nat.le_of_ble_eq_true rfl, Nat.le_of_ble_eq_true rfl⟩) hS (fun u_1 t_1 locs hw hP hS => ?_)
  obtain rfl := hw
  have hP : va_P X.1 vwCl (wl_ws X (up2 d 4 3 0) π) t_1.heap := hP
  refine lv_aload_n hx hb dX3_lose_15 rfl (lv_at hl 1 rfl) ?_
  refine lv_dup hx hb dX3_lose_16 rfl ?_
  refine gw_get hx hb hts inX3 hown hK hP 0 (by decide) wl_c0 rfl 7 (by decide) (hts _ mG_77) (fun _ h9 => h9) (v := .int ((up2 d 4 3 0) 0 7)) rfl dX3_lose_17 ?_
  refine lv_iload_n hx hb dX3_lose_20 rfl (lv_at hl 0 rfl) ?_
  refine lv_iadd hx hb dX3_lose_21 ?_
  refine gw_put hx hb hts inX3 tyX3 okX3 nmX3 hown hK hP hX hS 0 (by decide) wl_c0 rfl 7 (by decide) (hts _ mG_77) (fun _ h9 => h9) rfl (ty := .int) (v := .int (((up2 d 4 3 0) 0 7) + (d 4 3))) (by decide +kernel) rfl rfl (Nat.le_of_ble_eq_true rfl) (cf' := wl_c X (up2 (up2 d 4 3 0) 0 7 (((up2 d 4 3 0) 0 7) + (d 4 3))) π) rfl wl_o dX3_lose_22 (fun H locs hP hS => ?_)
  refine lv_iload_n hx hb dX3_lose_25 rfl (lv_at hl 0 rfl) ?_
  refine gw_iret (up2 (up2 d 4 3 0) 0 7 (((up2 d 4 3 0) 0 7) + (d 4 3)), π) hx hb hr hlocks (wl_hB hP) hS dX3_lose_26 ?_
  exact ⟨rfl, rfl⟩
set_option maxHeartbeats 4000000 in
set_option maxRecDepth 100000 in
theorem c_WatchList_tell (X : wl_X) (hX : gw_inj 88 X.2.1) (d : Nat → Nat → Int32) (π : Nat → Nat)  (ev : Int32) (on : Int32) (hz : on = 0 ∨ on = 1) : Met l yX3_tell wsX3_tell ({ frames := 1, cells := 0, slots := 0, locals := 20 }) (wl_pre X [.ref (X.2.1 0), .int ev, .int on] d π) (va_Qi (fun r u => (wl_ok ev 32 = true → r = 0 ∧ u = (up2 d (24 + ev.toNatClampNeg) 0 on, π)) ∧ (wl_ok ev 32 = false → r = 16 ∧ u = (d, π))) (wl_b X) (gw_A 88 X.2.1)) 0 0 (gw_A 88 X.2.1) := by
  refine Met.ofW (cc := cX3_tell) (maxL := 3) (ret := (some .int)) (by decide) rfl ?_
  intro p e s m args below meth c s₁ B hml hv
  obtain ⟨rfl, hP, hK, hN⟩ := hv
  have hx := B.exec
  have hb := B.bytes
  have hr := B.returns
  have hts : ∀ w ∈ gG, w.before _ s = true := fun w h => atoms_spec (ws := wsX3_tell) B.pre w (List.mem_cons_of_mem _ h)
  have hown : s.vm.findClass RX3 = some m.cls := findClass_of_methodNamed B.named
  have hlocks := B.notSynchronized
  have hS : va_S (gw_A 88 X.2.1) s.heap s.heap [] := va_S.rf
  have hl := lv_entry ([.ref (X.2.1 0), .int ev, .int on]) (n := 3) (Nat.le_of_ble_eq_true rfl)
  rw [lg_entry_eq]
  generalize (lg_sl ([.ref (X.2.1 0), .int ev, .int on]) ++ List.replicate (3 - (lg_sl ([.ref (X.2.1 0), .int ev, .int on])).length) Slot.unset).toArray = ls at hl ⊢
  have hl : lv_has ls 3 [(0, .ref (X.2.1 0)), (1, .int ev), (2, .int on)] := hl
  refine lv_iload_n hx hb dX3_tell_0 rfl (lv_at hl 1 rfl) ?_
  refine gw_calli (va_runS (As := [.int ev]) (rest := []) ⟨hx, hb, hml, hown, hts⟩ (c_WatchList_isEvent X hX d π ev ) ⟨callB_of 1 hts giX3_isEvent rfl rfl rfl (hts _ mG_22) (hts _ mG_95) pdX3_isEvent ⟨Nat.le_of_ble_eq_true rfl, Nat.le_of_ble_eq_true rfl⟩, hts _ mG_96⟩ ⟨wl_blind, wl_at hP hK hN⟩ rfl rfl hl.1 rfl (lv_room (Nat.le_of_ble_eq_true rfl)) dX3_tell_1 ⟨Nat.le_of_ble_eq_true rfl, Nat.le_of_ble_eq_true rfl⟩) hS (fun r_1 u_1 t_1 locs hw hP hS => ?_)
  obtain ⟨rfl, rfl⟩ := hw
  have hP : va_P X.1 vwCl (wl_ws X d π) t_1.heap := hP
  refine lv_if_ne (tgt := 10) hx hb dX3_tell_4 (by decide) (fun c_2 => ?_) (fun c_2 => ?_)
  · have ok_1 := wl_it c_2
    have hj := wl_ok32c ok_1
    refine lv_aload_n hx hb dX3_tell_10 rfl (lv_at hl 0 rfl) ?_
    refine gw_get hx hb hts inX3 hown hK hP 0 (by decide) wl_c0 rfl 5 (by decide) (hts _ mG_75) (fun _ h9 => h9) (v := .ref (X.2.1 3)) rfl dX3_tell_11 ?_
    refine lv_iload_n hx hb dX3_tell_14 rfl (lv_at hl 1 rfl) ?_
    refine gw_aald hx hb hK hP 3 3 (by decide) wl_c3 rfl (i := ev) hj.1 (k := 24 + ev.toNatClampNeg) rfl dX3_tell_15 ?_
    refine lv_iload_n hx hb dX3_tell_16 rfl (lv_at hl 2 rfl) ?_
    refine gw_putN hx hb hts inX0 tyX0 okX0 nmX0 hown hK hP hX hS (24 + ev.toNatClampNeg) (wl_kE hj.2) (wl_cE hj.2) rfl 0 (by decide) (hN _ (List.mem_of_getElem? (i := 9) rfl)) (fun _ h9 => h9) rfl (ty := .boolean) (v := .int on) (by decide +kernel) (gw_nz hz) (gw_fz hz) (Nat.le_of_ble_eq_true rfl) (cf' := wl_c X (up2 d (24 + ev.toNatClampNeg) 0 on) π) (wl_uE0 hj.2) wl_o dX3_tell_17 (fun H locs hP hS => ?_)
    refine lv_iconst (v := 0) hx hb dX3_tell_20 (by decide) ?_
    refine gw_iret (up2 d (24 + ev.toNatClampNeg) 0 on, π) hx hb hr hlocks (wl_hB hP) hS dX3_tell_21 ?_
    exact ⟨fun _ => ⟨rfl, rfl⟩, fun z => absurd (ok_1.symm.trans z) (by decide)⟩
  · have ok_1 := wl_if c_2
    refine lv_bipush (v := 16) hx hb dX3_tell_7 (by decide) ?_
    refine gw_iret (d, π) hx hb hr hlocks (wl_hB hP) hS dX3_tell_9 ?_
    exact ⟨fun z => absurd (ok_1.symm.trans z) (by decide), fun _ => ⟨rfl, rfl⟩⟩
set_option maxHeartbeats 4000000 in
set_option maxRecDepth 100000 in
theorem c_WatchList_put (X : wl_X) (hX : gw_inj 88 X.2.1) (d : Nat → Nat → Int32) (π : Nat → Nat)  (b : Int32) (ts : Nat) (hts2 : d 0 10 = nI ts) (ht256 : ts ≤ 256) : Met l yX3_put wsX3_put ({ frames := 0, cells := 0, slots := 0, locals := 0 }) (wl_pre X [.ref (X.2.1 0), .int b] d π) (va_Qi (fun r u => (ts < 256 ∧ r = nI (ts + 1) ∧ u = (up2 (up2 d 5 ts b.toInt8.toInt32) 0 10 (nI (ts + 1)), π)) ∨ (ts = 256 ∧ r = -1 ∧ u = (d, π))) (wl_b X) (gw_A 88 X.2.1)) 0 0 (gw_A 88 X.2.1) := by
  refine Met.ofW (cc := cX3_put) (maxL := 2) (ret := (some .int)) (by decide) rfl ?_
  intro p e s m args below meth c s₁ B hml hv
  obtain ⟨rfl, hP, hK, hN⟩ := hv
  have hx := B.exec
  have hb := B.bytes
  have hr := B.returns
  have hts : ∀ w ∈ gG, w.before _ s = true := fun w h => atoms_spec (ws := wsX3_put) B.pre w (List.mem_cons_of_mem _ h)
  have hown : s.vm.findClass RX3 = some m.cls := findClass_of_methodNamed B.named
  have hlocks := B.notSynchronized
  have hS : va_S (gw_A 88 X.2.1) s.heap s.heap [] := va_S.rf
  have hl := lv_entry ([.ref (X.2.1 0), .int b]) (n := 2) (Nat.le_of_ble_eq_true rfl)
  rw [lg_entry_eq]
  generalize (lg_sl ([.ref (X.2.1 0), .int b]) ++ List.replicate (2 - (lg_sl ([.ref (X.2.1 0), .int b])).length) Slot.unset).toArray = ls at hl ⊢
  have hl : lv_has ls 2 [(0, .ref (X.2.1 0)), (1, .int b)] := hl
  refine lv_aload_n hx hb dX3_put_0 rfl (lv_at hl 0 rfl) ?_
  refine gw_get hx hb hts inX3 hown hK hP 0 (by decide) wl_c0 rfl 10 (by decide) (hts _ mG_80) (fun _ h9 => h9) (v := .int (d 0 10)) rfl dX3_put_1 ?_
  refine lv_sipush (v := 256) hx hb dX3_put_4 (by decide) ?_
  refine lv_icmp_lt (tgt := 12) hx hb dX3_put_7 (by decide) (fun c_1 => ?_) (fun c_1 => ?_)
  · have tz := c_1
    refine lv_aload_n hx hb dX3_put_12 rfl (lv_at hl 0 rfl) ?_
    refine gw_get hx hb hts inX3 hown hK hP 0 (by decide) wl_c0 rfl 9 (by decide) (hts _ mG_79) (fun _ h9 => h9) (v := .ref (X.2.1 5)) rfl dX3_put_13 ?_
    refine lv_aload_n hx hb dX3_put_16 rfl (lv_at hl 0 rfl) ?_
    refine gw_get hx hb hts inX3 hown hK hP 0 (by decide) wl_c0 rfl 10 (by decide) (hts _ mG_80) (fun _ h9 => h9) (v := .int (d 0 10)) rfl dX3_put_17 ?_
    refine lv_iload_n hx hb dX3_put_20 rfl (lv_at hl 1 rfl) ?_
    refine lv_i2b hx hb dX3_put_21 rfl ?_
    refine gw_bast hx hb hK hP hX hS 5 1 (by decide) wl_c5 rfl (i := d 0 10) (x := b.toInt8.toInt32) (by rw [hts2]; exact vp_in_nI (wl_lt256 hts2 tz ht256) (by omega)) (cf' := wl_c X (up2 d 5 (d 0 10).toNatClampNeg b.toInt8.toInt32) π) wl_u5 wl_o dX3_put_22 (fun H locs hP hS => ?_)
    refine lv_aload_n hx hb dX3_put_23 rfl (lv_at hl 0 rfl) ?_
    refine lv_dup hx hb dX3_put_24 rfl ?_
    refine gw_get hx hb hts inX3 hown hK hP 0 (by decide) wl_c0 rfl 10 (by decide) (hts _ mG_80) (fun _ h9 => h9) (v := .int ((up2 d 5 (d 0 10).toNatClampNeg b.toInt8.toInt32) 0 10)) rfl dX3_put_25 ?_
    refine lv_iconst (v := 1) hx hb dX3_put_28 (by decide) ?_
    refine lv_iadd hx hb dX3_put_29 ?_
    refine gw_put hx hb hts inX3 tyX3 okX3 nmX3 hown hK hP hX hS 0 (by decide) wl_c0 rfl 10 (by decide) (hts _ mG_80) (fun _ h9 => h9) rfl (ty := .int) (v := .int (((up2 d 5 (d 0 10).toNatClampNeg b.toInt8.toInt32) 0 10) + 1)) (by decide +kernel) rfl rfl (Nat.le_of_ble_eq_true rfl) (cf' := wl_c X (up2 (up2 d 5 (d 0 10).toNatClampNeg b.toInt8.toInt32) 0 10 (((up2 d 5 (d 0 10).toNatClampNeg b.toInt8.toInt32) 0 10) + 1)) π) rfl wl_o dX3_put_30 (fun H locs hP hS => ?_)
    refine lv_aload_n hx hb dX3_put_33 rfl (lv_at hl 0 rfl) ?_
    refine gw_get hx hb hts inX3 hown hK hP 0 (by decide) wl_c0 rfl 10 (by decide) (hts _ mG_80) (fun _ h9 => h9) (v := .int ((up2 (up2 d 5 (d 0 10).toNatClampNeg b.toInt8.toInt32) 0 10 (((up2 d 5 (d 0 10).toNatClampNeg b.toInt8.toInt32) 0 10) + 1)) 0 10)) rfl dX3_put_34 ?_
    refine gw_iret (up2 (up2 d 5 (d 0 10).toNatClampNeg b.toInt8.toInt32) 0 10 (((up2 d 5 (d 0 10).toNatClampNeg b.toInt8.toInt32) 0 10) + 1), π) hx hb hr hlocks (wl_hB hP) hS dX3_put_37 ?_
    have e9 := wl_lt256 hts2 tz ht256
    refine Or.inl ⟨e9, ?_, ?_⟩
    · rw [up2_s, up2_k (by decide), hts2, nI_1]
    · rw [up2_k (by decide), hts2, nI_1, nI_clamp (by omega)]
  · have tz := c_1
    refine lv_iconst (v := (-1)) hx hb dX3_put_10 (by decide) ?_
    refine gw_iret (d, π) hx hb hr hlocks (wl_hB hP) hS dX3_put_11 ?_
    exact Or.inr ⟨wl_ge256 hts2 tz ht256, rfl, rfl⟩
set_option maxHeartbeats 4000000 in
set_option maxRecDepth 100000 in
theorem c_WatchList_act (X : wl_X) (hX : gw_inj 88 X.2.1) (d : Nat → Nat → Int32) (π : Nat → Nat)  (ev : Int32) (ts : Nat) (hts2 : d 0 10 = nI ts) (ht256 : ts ≤ 256) (hfit : ∀ j, j < 256 → fits .byte (.int (d 5 j)) = true) : Met l yX3_act wsX3_act ({ frames := 2, cells := 0, slots := 0, locals := 62 }) (wl_pre X [.ref (X.2.1 0), .int ev] d π) (va_Qi (fun r u => (r = 16 ∧ wl_ok ev 32 = false ∧ u = (up2 d 0 10 0, π)) ∨ (wl_ok ev 32 = true ∧ ((r = 22 ∧ ts = 0 ∧ u = (up2 d 0 10 0, π)) ∨ (0 < ts ∧ ((r = 29 ∧ 0 < d (24 + ev.toNatClampNeg) 2 ∧ u = (up2 d 0 10 0, π)) ∨ (r = 0 ∧ ¬ 0 < d (24 + ev.toNatClampNeg) 2 ∧ u = (up2 (up2 (va_up (up2 d 0 10 0) (56 + ev.toNatClampNeg) (va_cpy (d 5) (d (56 + ev.toNatClampNeg)) 0 0 ts)) (24 + ev.toNatClampNeg) 2 (nI ts)) (24 + ev.toNatClampNeg) 3 0, π))))))) (wl_b X) (gw_A 88 X.2.1)) 0 0 (gw_A 88 X.2.1) := by
  refine Met.ofW (cc := cX3_act) (maxL := 3) (ret := (some .int)) (by decide) rfl ?_
  intro p e s m args below meth c s₁ B hml hv
  obtain ⟨rfl, hP, hK, hN⟩ := hv
  have hx := B.exec
  have hb := B.bytes
  have hr := B.returns
  have hts : ∀ w ∈ gG, w.before _ s = true := fun w h => atoms_spec (ws := wsX3_act) B.pre w (List.mem_cons_of_mem _ h)
  have hown : s.vm.findClass RX3 = some m.cls := findClass_of_methodNamed B.named
  have hlocks := B.notSynchronized
  have hS : va_S (gw_A 88 X.2.1) s.heap s.heap [] := va_S.rf
  have hl := lv_entry ([.ref (X.2.1 0), .int ev]) (n := 3) (Nat.le_of_ble_eq_true rfl)
  rw [lg_entry_eq]
  generalize (lg_sl ([.ref (X.2.1 0), .int ev]) ++ List.replicate (3 - (lg_sl ([.ref (X.2.1 0), .int ev])).length) Slot.unset).toArray = ls at hl ⊢
  have hl : lv_has ls 3 [(0, .ref (X.2.1 0)), (1, .int ev)] := hl
  refine lv_aload_n hx hb dX3_act_0 rfl (lv_at hl 0 rfl) ?_
  refine gw_get hx hb hts inX3 hown hK hP 0 (by decide) wl_c0 rfl 10 (by decide) (hts _ mG_80) (fun _ h9 => h9) (v := .int (d 0 10)) rfl dX3_act_1 ?_
  refine lv_istore_n (lv' := [(2, .int (d 0 10)), (0, .ref (X.2.1 0)), (1, .int ev)]) hx hb dX3_act_4 rfl hl (by decide) rfl (fun ls hl => ?_)
  refine lv_aload_n hx hb dX3_act_5 rfl (lv_at hl 1 rfl) ?_
  refine lv_iconst (v := 0) hx hb dX3_act_6 (by decide) ?_
  refine gw_put hx hb hts inX3 tyX3 okX3 nmX3 hown hK hP hX hS 0 (by decide) wl_c0 rfl 10 (by decide) (hts _ mG_80) (fun _ h9 => h9) rfl (ty := .int) (v := .int 0) (by decide +kernel) rfl rfl (Nat.le_of_ble_eq_true rfl) (cf' := wl_c X (up2 d 0 10 0) π) rfl wl_o dX3_act_7 (fun H locs hP hS => ?_)
  refine lv_iload_n hx hb dX3_act_10 rfl (lv_at hl 2 rfl) ?_
  refine gw_calli (va_runS (As := [.int ev]) (rest := []) ⟨hx, hb, hml, hown, hts⟩ (c_WatchList_isEvent X hX (up2 d 0 10 0) π ev ) ⟨callB_of 1 hts giX3_isEvent rfl rfl rfl (hts _ mG_22) (hts _ mG_95) pdX3_isEvent ⟨Nat.le_of_ble_eq_true rfl, Nat.le_of_ble_eq_true rfl⟩, hts _ mG_96⟩ ⟨wl_blind, wl_at hP hK hN⟩ rfl rfl hl.1 rfl (lv_room (Nat.le_of_ble_eq_true rfl)) dX3_act_11 ⟨Nat.le_of_ble_eq_true rfl, Nat.le_of_ble_eq_true rfl⟩) hS (fun r_1 u_1 t_1 locs hw hP hS => ?_)
  obtain ⟨rfl, rfl⟩ := hw
  have hP : va_P X.1 vwCl (wl_ws X (up2 d 0 10 0) π) t_1.heap := hP
  refine lv_if_ne (tgt := 20) hx hb dX3_act_14 (by decide) (fun c_2 => ?_) (fun c_2 => ?_)
  · have ok_1 := wl_it c_2
    have hj := wl_ok32c ok_1
    refine lv_iload_n hx hb dX3_act_20 rfl (lv_at hl 0 rfl) ?_
    refine lv_if_ne (tgt := 27) hx hb dX3_act_21 (by decide) (fun c_3 => ?_) (fun c_3 => ?_)
    · have sz := c_3
      refine lv_aload_n hx hb dX3_act_27 rfl (lv_at hl 1 rfl) ?_
      refine gw_get hx hb hts inX3 hown hK hP 0 (by decide) wl_c0 rfl 5 (by decide) (hts _ mG_75) (fun _ h9 => h9) (v := .ref (X.2.1 3)) rfl dX3_act_28 ?_
      refine lv_iload_n hx hb dX3_act_31 rfl (lv_at hl 2 rfl) ?_
      refine gw_aald hx hb hK hP 3 3 (by decide) wl_c3 rfl (i := ev) hj.1 (k := 24 + ev.toNatClampNeg) rfl dX3_act_32 ?_
      refine gw_calli (va_runVN (As := []) (rest := []) ⟨hx, hb, hml, hown, hts⟩ (c_Event_hasAction X hX (up2 d 0 10 0) π ev.toNatClampNeg hj.2  ) ⟨va_cnB 0 hts giX0_hasAction rfl rfl rfl (hN _ (List.mem_of_getElem? (i := 20) rfl)) (hts _ mG_25) pdX0_hasAction ⟨Nat.le_of_ble_eq_true rfl, Nat.le_of_ble_eq_true rfl⟩, hts _ mG_167, hts _ mG_12⟩ ⟨wl_blind, gw_recv hK hP (24 + ev.toNatClampNeg) (wl_kE hj.2) (wl_cE hj.2) rfl, wl_at hP hK hN⟩ rfl rfl hl.1 rfl (lv_room (Nat.le_of_ble_eq_true rfl)) dX3_act_33 ⟨Nat.le_of_ble_eq_true rfl, Nat.le_of_ble_eq_true rfl⟩) hS (fun r_4 u_4 t_4 locs hw hP hS => ?_)
      obtain ⟨rfl, rfl⟩ := hw
      have hP : va_P X.1 vwCl (wl_ws X (up2 d 0 10 0) π) t_4.heap := hP
      refine lv_if_eq (tgt := 42) hx hb dX3_act_36 (by decide) (fun c_5 => ?_) (fun c_5 => ?_)
      · have ha := wl_if c_5
        refine lv_aload_n hx hb dX3_act_42 rfl (lv_at hl 1 rfl) ?_
        refine gw_get hx hb hts inX3 hown hK hP 0 (by decide) wl_c0 rfl 5 (by decide) (hts _ mG_75) (fun _ h9 => h9) (v := .ref (X.2.1 3)) rfl dX3_act_43 ?_
        refine lv_iload_n hx hb dX3_act_46 rfl (lv_at hl 2 rfl) ?_
        refine gw_aald hx hb hK hP 3 3 (by decide) wl_c3 rfl (i := ev) hj.1 (k := 24 + ev.toNatClampNeg) rfl dX3_act_47 ?_
        refine lv_aload_n hx hb dX3_act_48 rfl (lv_at hl 1 rfl) ?_
        refine gw_get hx hb hts inX3 hown hK hP 0 (by decide) wl_c0 rfl 9 (by decide) (hts _ mG_79) (fun _ h9 => h9) (v := .ref (X.2.1 5)) rfl dX3_act_49 ?_
        refine lv_iload_n hx hb dX3_act_52 rfl (lv_at hl 0 rfl) ?_
        refine W.eq (g2 := F0 m 53 ls (.int (nI ts) :: .ref (X.2.1 5) :: .ref (X.2.1 (24 + ev.toNatClampNeg)) :: [])) (by rw [hts2]) ?_
        refine gw_callv (va_runVN (As := [.ref (X.2.1 5), .int (nI ts)]) (rest := []) ⟨hx, hb, hml, hown, hts⟩ (c_Event_takeAction X hX (up2 d 0 10 0) π ev.toNatClampNeg hj.2 ts ht256 (fun j h => by rw [up2_k (by decide)]; exact hfit j h)) ⟨va_cnB 2 hts giX0_takeAction rfl rfl rfl (hN _ (List.mem_of_getElem? (i := 21) rfl)) (hts _ mG_25) pdX0_takeAction ⟨Nat.le_of_ble_eq_true rfl, Nat.le_of_ble_eq_true rfl⟩, hts _ mG_169, hts _ mG_13⟩ ⟨wl_blind, gw_recv hK hP (24 + ev.toNatClampNeg) (wl_kE hj.2) (wl_cE hj.2) rfl, wl_at hP hK hN⟩ rfl rfl hl.1 rfl (lv_room (Nat.le_of_ble_eq_true rfl)) dX3_act_53 ⟨Nat.le_of_ble_eq_true rfl, Nat.le_of_ble_eq_true rfl⟩) hS (fun u_6 t_6 locs hw hP hS => ?_)
        obtain rfl := hw
        have hP : va_P X.1 vwCl (wl_ws X (up2 (up2 (va_up (up2 d 0 10 0) (56 + ev.toNatClampNeg) (va_cpy ((up2 d 0 10 0) 5) ((up2 d 0 10 0) (56 + ev.toNatClampNeg)) 0 0 ts)) (24 + ev.toNatClampNeg) 2 (nI ts)) (24 + ev.toNatClampNeg) 3 0) π) t_6.heap := hP
        refine lv_iconst (v := 0) hx hb dX3_act_56 (by decide) ?_
        refine gw_iret (up2 (up2 (va_up (up2 d 0 10 0) (56 + ev.toNatClampNeg) (va_cpy ((up2 d 0 10 0) 5) ((up2 d 0 10 0) (56 + ev.toNatClampNeg)) 0 0 ts)) (24 + ev.toNatClampNeg) 2 (nI ts)) (24 + ev.toNatClampNeg) 3 0, π) hx hb hr hlocks (wl_hB hP) hS dX3_act_57 ?_
        refine Or.inr ⟨ok_1, Or.inr ⟨wl_ts0 hts2 sz ht256, Or.inr ⟨rfl, ?_, ?_⟩⟩⟩
        · rw [up2_k (by omega)] at ha; exact of_decide_eq_false ha
        · rw [up2_ne (by omega), up2_ne (by omega)]
      · have ha := wl_it c_5
        refine lv_bipush (v := 29) hx hb dX3_act_39 (by decide) ?_
        refine gw_iret (up2 d 0 10 0, π) hx hb hr hlocks (wl_hB hP) hS dX3_act_41 ?_
        refine Or.inr ⟨ok_1, Or.inr ⟨wl_ts0 hts2 sz ht256, Or.inl ⟨rfl, ?_, rfl⟩⟩⟩
        rw [up2_k (by omega)] at ha; exact of_decide_eq_true ha
    · have sz := c_3
      refine lv_bipush (v := 22) hx hb dX3_act_24 (by decide) ?_
      refine gw_iret (up2 d 0 10 0, π) hx hb hr hlocks (wl_hB hP) hS dX3_act_26 ?_
      exact Or.inr ⟨ok_1, Or.inl ⟨rfl, wl_ts1 hts2 sz ht256, rfl⟩⟩
  · have ok_1 := wl_if c_2
    refine lv_bipush (v := 16) hx hb dX3_act_17 (by decide) ?_
    refine gw_iret (up2 d 0 10 0, π) hx hb hr hlocks (wl_hB hP) hS dX3_act_19 ?_
    exact Or.inl ⟨rfl, ok_1, rfl⟩
set_option maxHeartbeats 4000000 in
set_option maxRecDepth 100000 in
theorem c_WatchList_drop (X : wl_X) (hX : gw_inj 88 X.2.1) (d : Nat → Nat → Int32) (π : Nat → Nat)  (ev : Int32)  : Met l yX3_drop wsX3_drop ({ frames := 2, cells := 0, slots := 0, locals := 41 }) (wl_pre X [.ref (X.2.1 0), .int ev] d π) (va_Qi (fun r u => (wl_ok ev 32 = false ∧ r = 16 ∧ u = (d, π)) ∨ (wl_ok ev 32 = true ∧ ((¬ 0 < d (24 + ev.toNatClampNeg) 2 ∧ r = 30 ∧ u = (d, π)) ∨ (0 < d (24 + ev.toNatClampNeg) 2 ∧ ((¬ d (24 + ev.toNatClampNeg) 3 = 0 ∧ r = 15 ∧ u = (d, π)) ∨ (d (24 + ev.toNatClampNeg) 3 = 0 ∧ r = 0 ∧ u = (up2 d (24 + ev.toNatClampNeg) 2 0, π))))))) (wl_b X) (gw_A 88 X.2.1)) 0 0 (gw_A 88 X.2.1) := by
  refine Met.ofW (cc := cX3_drop) (maxL := 3) (ret := (some .int)) (by decide) rfl ?_
  intro p e s m args below meth c s₁ B hml hv
  obtain ⟨rfl, hP, hK, hN⟩ := hv
  have hx := B.exec
  have hb := B.bytes
  have hr := B.returns
  have hts : ∀ w ∈ gG, w.before _ s = true := fun w h => atoms_spec (ws := wsX3_drop) B.pre w (List.mem_cons_of_mem _ h)
  have hown : s.vm.findClass RX3 = some m.cls := findClass_of_methodNamed B.named
  have hlocks := B.notSynchronized
  have hS : va_S (gw_A 88 X.2.1) s.heap s.heap [] := va_S.rf
  have hl := lv_entry ([.ref (X.2.1 0), .int ev]) (n := 3) (Nat.le_of_ble_eq_true rfl)
  rw [lg_entry_eq]
  generalize (lg_sl ([.ref (X.2.1 0), .int ev]) ++ List.replicate (3 - (lg_sl ([.ref (X.2.1 0), .int ev])).length) Slot.unset).toArray = ls at hl ⊢
  have hl : lv_has ls 3 [(0, .ref (X.2.1 0)), (1, .int ev)] := hl
  refine lv_aload_n hx hb dX3_drop_0 rfl (lv_at hl 0 rfl) ?_
  refine lv_iload_n hx hb dX3_drop_1 rfl (lv_at hl 1 rfl) ?_
  refine gw_calli (va_runV (As := [.int ev]) (rest := []) ⟨hx, hb, hml, hown, hts⟩ (c_WatchList_actionFailure X hX d π ev ) ⟨callB_of 1 hts giX3_actionFailure rfl rfl rfl (hts _ mG_22) (hts _ mG_178) pdX3_actionFailure ⟨Nat.le_of_ble_eq_true rfl, Nat.le_of_ble_eq_true rfl⟩, hts _ mG_179, hts _ mG_14⟩ ⟨wl_blind, gw_recv hK hP 0 (by decide) wl_c0 rfl, wl_at hP hK hN⟩ rfl rfl hl.1 rfl (lv_room (Nat.le_of_ble_eq_true rfl)) dX3_drop_2 ⟨Nat.le_of_ble_eq_true rfl, Nat.le_of_ble_eq_true rfl⟩) hS (fun r_1 u_1 t_1 locs hw hP hS => ?_)
  obtain ⟨rfl, rfl⟩ := hw
  have hP : va_P X.1 vwCl (wl_ws X d π) t_1.heap := hP
  refine lv_istore_n (lv' := [(2, .int (if wl_ok ev 32 = true then (if 0 < d (24 + ev.toNatClampNeg) 2 then 0 else 30) else 16)), (0, .ref (X.2.1 0)), (1, .int ev)]) hx hb dX3_drop_5 rfl hl (by decide) rfl (fun ls hl => ?_)
  refine lv_iload_n hx hb dX3_drop_6 rfl (lv_at hl 0 rfl) ?_
  refine lv_if_eq (tgt := 12) hx hb dX3_drop_7 (by decide) (fun c_2 => ?_) (fun c_2 => ?_)
  · have af := wl_af c_2
    have hj := wl_ok32c af.1
    refine lv_aload_n hx hb dX3_drop_12 rfl (lv_at hl 1 rfl) ?_
    refine gw_get hx hb hts inX3 hown hK hP 0 (by decide) wl_c0 rfl 5 (by decide) (hts _ mG_75) (fun _ h9 => h9) (v := .ref (X.2.1 3)) rfl dX3_drop_13 ?_
    refine lv_iload_n hx hb dX3_drop_16 rfl (lv_at hl 2 rfl) ?_
    refine gw_aald hx hb hK hP 3 3 (by decide) wl_c3 rfl (i := ev) hj.1 (k := 24 + ev.toNatClampNeg) rfl dX3_drop_17 ?_
    refine gw_getN hx hb hts inX0 hown hK hP (24 + ev.toNatClampNeg) (wl_kE hj.2) (wl_cE hj.2) rfl 3 (by decide) (hN _ (List.mem_of_getElem? (i := 11) rfl)) (fun _ h9 => h9) (v := .int (d (24 + ev.toNatClampNeg) 3)) rfl dX3_drop_18 ?_
    refine lv_if_eq (tgt := 27) hx hb dX3_drop_21 (by decide) (fun c_3 => ?_) (fun c_3 => ?_)
    · have on_1 := c_3
      refine lv_aload_n hx hb dX3_drop_27 rfl (lv_at hl 1 rfl) ?_
      refine gw_get hx hb hts inX3 hown hK hP 0 (by decide) wl_c0 rfl 5 (by decide) (hts _ mG_75) (fun _ h9 => h9) (v := .ref (X.2.1 3)) rfl dX3_drop_28 ?_
      refine lv_iload_n hx hb dX3_drop_31 rfl (lv_at hl 2 rfl) ?_
      refine gw_aald hx hb hK hP 3 3 (by decide) wl_c3 rfl (i := ev) hj.1 (k := 24 + ev.toNatClampNeg) rfl dX3_drop_32 ?_
      refine lv_iconst (v := 0) hx hb dX3_drop_33 (by decide) ?_
      refine gw_putN hx hb hts inX0 tyX0 okX0 nmX0 hown hK hP hX hS (24 + ev.toNatClampNeg) (wl_kE hj.2) (wl_cE hj.2) rfl 2 (by decide) (hN _ (List.mem_of_getElem? (i := 10) rfl)) (fun _ h9 => h9) rfl (ty := .int) (v := .int 0) (by decide +kernel) rfl rfl (Nat.le_of_ble_eq_true rfl) (cf' := wl_c X (up2 d (24 + ev.toNatClampNeg) 2 0) π) (wl_uE2 hj.2) wl_o dX3_drop_34 (fun H locs hP hS => ?_)
      refine lv_iconst (v := 0) hx hb dX3_drop_37 (by decide) ?_
      refine gw_iret (up2 d (24 + ev.toNatClampNeg) 2 0, π) hx hb hr hlocks (wl_hB hP) hS dX3_drop_38 ?_
      exact Or.inr ⟨af.1, Or.inr ⟨af.2, Or.inr ⟨on_1, rfl, rfl⟩⟩⟩
    · have on_1 := c_3
      refine lv_bipush (v := 15) hx hb dX3_drop_24 (by decide) ?_
      refine gw_iret (d, π) hx hb hr hlocks (wl_hB hP) hS dX3_drop_26 ?_
      exact Or.inr ⟨af.1, Or.inr ⟨af.2, Or.inl ⟨on_1, rfl, rfl⟩⟩⟩
  · have af := c_2
    refine lv_iload_n hx hb dX3_drop_10 rfl (lv_at hl 0 rfl) ?_
    refine gw_iret (d, π) hx hb hr hlocks (wl_hB hP) hS dX3_drop_11 ?_
    rcases wl_afn af with ⟨a1, a2⟩ | ⟨a1, a2, a3⟩
    · exact Or.inl ⟨a1, a2, rfl⟩
    · exact Or.inr ⟨a1, Or.inl ⟨a2, a3, rfl⟩⟩
set_option maxHeartbeats 4000000 in
set_option maxRecDepth 100000 in
theorem c_WatchList_arm (X : wl_X) (hX : gw_inj 88 X.2.1) (d : Nat → Nat → Int32) (π : Nat → Nat)  (ev : Int32) (on : Int32) (hz : on = 0 ∨ on = 1) : Met l yX3_arm wsX3_arm ({ frames := 2, cells := 0, slots := 0, locals := 41 }) (wl_pre X [.ref (X.2.1 0), .int ev, .int on] d π) (va_Qi (fun r u => (wl_ok ev 32 = false ∧ r = 16 ∧ u = (d, π)) ∨ (wl_ok ev 32 = true ∧ ((¬ 0 < d (24 + ev.toNatClampNeg) 2 ∧ r = 30 ∧ u = (d, π)) ∨ (0 < d (24 + ev.toNatClampNeg) 2 ∧ r = 0 ∧ u = (up2 d (24 + ev.toNatClampNeg) 3 on, π))))) (wl_b X) (gw_A 88 X.2.1)) 0 0 (gw_A 88 X.2.1) := by
  refine Met.ofW (cc := cX3_arm) (maxL := 4) (ret := (some .int)) (by decide) rfl ?_
  intro p e s m args below meth c s₁ B hml hv
  obtain ⟨rfl, hP, hK, hN⟩ := hv
  have hx := B.exec
  have hb := B.bytes
  have hr := B.returns
  have hts : ∀ w ∈ gG, w.before _ s = true := fun w h => atoms_spec (ws := wsX3_arm) B.pre w (List.mem_cons_of_mem _ h)
  have hown : s.vm.findClass RX3 = some m.cls := findClass_of_methodNamed B.named
  have hlocks := B.notSynchronized
  have hS : va_S (gw_A 88 X.2.1) s.heap s.heap [] := va_S.rf
  have hl := lv_entry ([.ref (X.2.1 0), .int ev, .int on]) (n := 4) (Nat.le_of_ble_eq_true rfl)
  rw [lg_entry_eq]
  generalize (lg_sl ([.ref (X.2.1 0), .int ev, .int on]) ++ List.replicate (4 - (lg_sl ([.ref (X.2.1 0), .int ev, .int on])).length) Slot.unset).toArray = ls at hl ⊢
  have hl : lv_has ls 4 [(0, .ref (X.2.1 0)), (1, .int ev), (2, .int on)] := hl
  refine lv_aload_n hx hb dX3_arm_0 rfl (lv_at hl 0 rfl) ?_
  refine lv_iload_n hx hb dX3_arm_1 rfl (lv_at hl 1 rfl) ?_
  refine gw_calli (va_runV (As := [.int ev]) (rest := []) ⟨hx, hb, hml, hown, hts⟩ (c_WatchList_actionFailure X hX d π ev ) ⟨callB_of 1 hts giX3_actionFailure rfl rfl rfl (hts _ mG_22) (hts _ mG_178) pdX3_actionFailure ⟨Nat.le_of_ble_eq_true rfl, Nat.le_of_ble_eq_true rfl⟩, hts _ mG_179, hts _ mG_14⟩ ⟨wl_blind, gw_recv hK hP 0 (by decide) wl_c0 rfl, wl_at hP hK hN⟩ rfl rfl hl.1 rfl (lv_room (Nat.le_of_ble_eq_true rfl)) dX3_arm_2 ⟨Nat.le_of_ble_eq_true rfl, Nat.le_of_ble_eq_true rfl⟩) hS (fun r_1 u_1 t_1 locs hw hP hS => ?_)
  obtain ⟨rfl, rfl⟩ := hw
  have hP : va_P X.1 vwCl (wl_ws X d π) t_1.heap := hP
  refine lv_istore_n (lv' := [(3, .int (if wl_ok ev 32 = true then (if 0 < d (24 + ev.toNatClampNeg) 2 then 0 else 30) else 16)), (0, .ref (X.2.1 0)), (1, .int ev), (2, .int on)]) hx hb dX3_arm_5 rfl hl (by decide) rfl (fun ls hl => ?_)
  refine lv_iload_n hx hb dX3_arm_6 rfl (lv_at hl 0 rfl) ?_
  refine lv_if_eq (tgt := 12) hx hb dX3_arm_7 (by decide) (fun c_2 => ?_) (fun c_2 => ?_)
  · have af := wl_af c_2
    have hj := wl_ok32c af.1
    refine lv_aload_n hx hb dX3_arm_12 rfl (lv_at hl 1 rfl) ?_
    refine gw_get hx hb hts inX3 hown hK hP 0 (by decide) wl_c0 rfl 5 (by decide) (hts _ mG_75) (fun _ h9 => h9) (v := .ref (X.2.1 3)) rfl dX3_arm_13 ?_
    refine lv_iload_n hx hb dX3_arm_16 rfl (lv_at hl 2 rfl) ?_
    refine gw_aald hx hb hK hP 3 3 (by decide) wl_c3 rfl (i := ev) hj.1 (k := 24 + ev.toNatClampNeg) rfl dX3_arm_17 ?_
    refine lv_iload_n hx hb dX3_arm_18 rfl (lv_at hl 3 rfl) ?_
    refine gw_putN hx hb hts inX0 tyX0 okX0 nmX0 hown hK hP hX hS (24 + ev.toNatClampNeg) (wl_kE hj.2) (wl_cE hj.2) rfl 3 (by decide) (hN _ (List.mem_of_getElem? (i := 11) rfl)) (fun _ h9 => h9) rfl (ty := .boolean) (v := .int on) (by decide +kernel) (gw_nz hz) (gw_fz hz) (Nat.le_of_ble_eq_true rfl) (cf' := wl_c X (up2 d (24 + ev.toNatClampNeg) 3 on) π) (wl_uE3 hj.2) wl_o dX3_arm_19 (fun H locs hP hS => ?_)
    refine lv_iconst (v := 0) hx hb dX3_arm_22 (by decide) ?_
    refine gw_iret (up2 d (24 + ev.toNatClampNeg) 3 on, π) hx hb hr hlocks (wl_hB hP) hS dX3_arm_23 ?_
    exact Or.inr ⟨af.1, Or.inr ⟨af.2, rfl, rfl⟩⟩
  · have af := c_2
    refine lv_iload_n hx hb dX3_arm_10 rfl (lv_at hl 0 rfl) ?_
    refine gw_iret (d, π) hx hb hr hlocks (wl_hB hP) hS dX3_arm_11 ?_
    rcases wl_afn af with ⟨a1, a2⟩ | ⟨a1, a2, a3⟩
    · exact Or.inl ⟨a1, a2, rfl⟩
    · exact Or.inr ⟨a1, Or.inl ⟨a2, a3, rfl⟩⟩
set_option maxHeartbeats 4000000 in
set_option maxRecDepth 100000 in
theorem c_WatchList_limit (X : wl_X) (hX : gw_inj 88 X.2.1) (d : Nat → Nat → Int32) (π : Nat → Nat)  (id : Int32) (w : Int32) (n : Nat) (hn : d 0 2 = nI n) (hn16 : n ≤ 16) (hπ : ∀ j, j < 16 → π j < 16) (h7 : ∀ j, j < 16 → d (8 + j) 7 = 0 ∨ d (8 + j) 7 = 1) (h6 : ∀ j, j < 16 → d (8 + j) 6 = 0 ∨ d (8 + j) 6 = 1) : Met l yX3_limit wsX3_limit ({ frames := 2, cells := 0, slots := 0, locals := 41 }) (wl_pre X [.ref (X.2.1 0), .int id, .int w] d π) (va_Qi (fun r u => u = (d, π) ∧ ((r = -1 ∧ ∀ j, j < n → ¬ d (8 + π j) 0 = id) ∨ (∃ i, i < n ∧ d (8 + π i) 0 = id ∧ r = wl_ltell d (8 + π i) w))) (wl_b X) (gw_A 88 X.2.1)) 0 0 (gw_A 88 X.2.1) := by
  refine Met.ofW (cc := cX3_limit) (maxL := 4) (ret := (some .int)) (by decide) rfl ?_
  intro p e s m args below meth c s₁ B hml hv
  obtain ⟨rfl, hP, hK, hN⟩ := hv
  have hx := B.exec
  have hb := B.bytes
  have hr := B.returns
  have hts : ∀ w ∈ gG, w.before _ s = true := fun w h => atoms_spec (ws := wsX3_limit) B.pre w (List.mem_cons_of_mem _ h)
  have hown : s.vm.findClass RX3 = some m.cls := findClass_of_methodNamed B.named
  have hlocks := B.notSynchronized
  have hS : va_S (gw_A 88 X.2.1) s.heap s.heap [] := va_S.rf
  have hl := lv_entry ([.ref (X.2.1 0), .int id, .int w]) (n := 4) (Nat.le_of_ble_eq_true rfl)
  rw [lg_entry_eq]
  generalize (lg_sl ([.ref (X.2.1 0), .int id, .int w]) ++ List.replicate (4 - (lg_sl ([.ref (X.2.1 0), .int id, .int w])).length) Slot.unset).toArray = ls at hl ⊢
  have hl : lv_has ls 4 [(0, .ref (X.2.1 0)), (1, .int id), (2, .int w)] := hl
  refine lv_aload_n hx hb dX3_limit_0 rfl (lv_at hl 0 rfl) ?_
  refine lv_iload_n hx hb dX3_limit_1 rfl (lv_at hl 1 rfl) ?_
  refine gw_calli (va_runV (As := [.int id]) (rest := []) ⟨hx, hb, hml, hown, hts⟩ (c_WatchList_placeOf X hX d π id n hn hn16 hπ) ⟨callB_of 1 hts giX3_placeOf rfl rfl rfl (hts _ mG_22) (hts _ mG_98) pdX3_placeOf ⟨Nat.le_of_ble_eq_true rfl, Nat.le_of_ble_eq_true rfl⟩, hts _ mG_99, hts _ mG_0⟩ ⟨wl_blind, gw_recv hK hP 0 (by decide) wl_c0 rfl, wl_at hP hK hN⟩ rfl rfl hl.1 rfl (lv_room (Nat.le_of_ble_eq_true rfl)) dX3_limit_2 ⟨Nat.le_of_ble_eq_true rfl, Nat.le_of_ble_eq_true rfl⟩) hS (fun r_1 u_1 t_1 locs hw hP hS => ?_)
  obtain ⟨rfl, hpo⟩ := hw
  have hP : va_P X.1 vwCl (wl_ws X d π) t_1.heap := hP
  refine lv_istore_n (lv' := [(3, .int r_1), (0, .ref (X.2.1 0)), (1, .int id), (2, .int w)]) hx hb dX3_limit_5 rfl hl (by decide) rfl (fun ls hl => ?_)
  refine lv_iload_n hx hb dX3_limit_6 rfl (lv_at hl 0 rfl) ?_
  refine lv_iconst (v := (-1)) hx hb dX3_limit_7 (by decide) ?_
  refine lv_icmp_ne (tgt := 15) hx hb dX3_limit_8 (by decide) (fun c_2 => ?_) (fun c_2 => ?_)
  · obtain ⟨i, hi, ei, hid, hfst⟩ := hpo.resolve_right (fun z => c_2 z.1)
    subst ei
    refine lv_aload_n hx hb dX3_limit_15 rfl (lv_at hl 1 rfl) ?_
    refine gw_get hx hb hts inX3 hown hK hP 0 (by decide) wl_c0 rfl 1 (by decide) (hts _ mG_71) (fun _ h9 => h9) (v := .ref (X.2.1 2)) rfl dX3_limit_16 ?_
    refine lv_iload_n hx hb dX3_limit_19 rfl (lv_at hl 0 rfl) ?_
    refine gw_aald hx hb hK hP 2 2 (by decide) wl_c2 rfl (i := nI i) (vp_in_nI (by omega) (by omega)) (k := 8 + (π i)) (by show some (X.2.1 (8 + π (nI i).toNatClampNeg)) = _; rw [nI_clamp (by omega)]) dX3_limit_20 ?_
    refine lv_iload_n hx hb dX3_limit_21 rfl (lv_at hl 3 rfl) ?_
    refine gw_calli (va_runVN (As := [.int w]) (rest := []) ⟨hx, hb, hml, hown, hts⟩ (c_Limit_tellOf X hX d π (π i) (hπ i (by omega)) w (h7 _ (hπ i (by omega))) (h6 _ (hπ i (by omega)))) ⟨va_cnB 1 hts giX1_tellOf rfl rfl rfl (hN _ (List.mem_of_getElem? (i := 22) rfl)) (hts _ mG_24) pdX1_tellOf ⟨Nat.le_of_ble_eq_true rfl, Nat.le_of_ble_eq_true rfl⟩, hts _ mG_189, hts _ mG_15⟩ ⟨wl_blind, gw_recv hK hP (8 + (π i)) (wl_kL (hπ i (by omega))) (wl_cL (hπ i (by omega))) rfl, wl_at hP hK hN⟩ rfl rfl hl.1 rfl (lv_room (Nat.le_of_ble_eq_true rfl)) dX3_limit_22 ⟨Nat.le_of_ble_eq_true rfl, Nat.le_of_ble_eq_true rfl⟩) hS (fun r_3 u_3 t_3 locs hw hP hS => ?_)
    obtain ⟨rfl, rfl⟩ := hw
    have hP : va_P X.1 vwCl (wl_ws X d π) t_3.heap := hP
    refine gw_iret (d, π) hx hb hr hlocks (wl_hB hP) hS dX3_limit_25 ?_
    exact ⟨rfl, Or.inr ⟨i, hi, hid, rfl⟩⟩
  · have hnone := (hpo.resolve_left (fun ⟨i, hi, ei, _⟩ => wl_nm1 (by omega) (ei.symm.trans c_2))).2
    refine lv_iconst (v := (-1)) hx hb dX3_limit_11 (by decide) ?_
    refine lv_goto (tgt := 25) hx hb dX3_limit_12 (by decide) ?_
    refine gw_iret (d, π) hx hb hr hlocks (wl_hB hP) hS dX3_limit_25 ?_
    exact ⟨rfl, Or.inl ⟨rfl, hnone⟩⟩
set_option maxHeartbeats 4000000 in
set_option maxRecDepth 100000 in
theorem c_WatchList_event (X : wl_X) (hX : gw_inj 88 X.2.1) (d : Nat → Nat → Int32) (π : Nat → Nat)  (ev : Int32) (w : Int32) (h0 : ∀ j, j < 32 → d (24 + j) 0 = 0 ∨ d (24 + j) 0 = 1) (h3 : ∀ j, j < 32 → d (24 + j) 3 = 0 ∨ d (24 + j) 3 = 1) : Met l yX3_event wsX3_event ({ frames := 2, cells := 0, slots := 0, locals := 41 }) (wl_pre X [.ref (X.2.1 0), .int ev, .int w] d π) (va_Qi (fun r u => u = (d, π) ∧ r = (if wl_ok ev 32 = true then wl_etell d (24 + ev.toNatClampNeg) w else -1)) (wl_b X) (gw_A 88 X.2.1)) 0 0 (gw_A 88 X.2.1) := by
  refine Met.ofW (cc := cX3_event) (maxL := 3) (ret := (some .int)) (by decide) rfl ?_
  intro p e s m args below meth c s₁ B hml hv
  obtain ⟨rfl, hP, hK, hN⟩ := hv
  have hx := B.exec
  have hb := B.bytes
  have hr := B.returns
  have hts : ∀ w ∈ gG, w.before _ s = true := fun w h => atoms_spec (ws := wsX3_event) B.pre w (List.mem_cons_of_mem _ h)
  have hown : s.vm.findClass RX3 = some m.cls := findClass_of_methodNamed B.named
  have hlocks := B.notSynchronized
  have hS : va_S (gw_A 88 X.2.1) s.heap s.heap [] := va_S.rf
  have hl := lv_entry ([.ref (X.2.1 0), .int ev, .int w]) (n := 3) (Nat.le_of_ble_eq_true rfl)
  rw [lg_entry_eq]
  generalize (lg_sl ([.ref (X.2.1 0), .int ev, .int w]) ++ List.replicate (3 - (lg_sl ([.ref (X.2.1 0), .int ev, .int w])).length) Slot.unset).toArray = ls at hl ⊢
  have hl : lv_has ls 3 [(0, .ref (X.2.1 0)), (1, .int ev), (2, .int w)] := hl
  refine lv_iload_n hx hb dX3_event_0 rfl (lv_at hl 1 rfl) ?_
  refine gw_calli (va_runS (As := [.int ev]) (rest := []) ⟨hx, hb, hml, hown, hts⟩ (c_WatchList_isEvent X hX d π ev ) ⟨callB_of 1 hts giX3_isEvent rfl rfl rfl (hts _ mG_22) (hts _ mG_95) pdX3_isEvent ⟨Nat.le_of_ble_eq_true rfl, Nat.le_of_ble_eq_true rfl⟩, hts _ mG_96⟩ ⟨wl_blind, wl_at hP hK hN⟩ rfl rfl hl.1 rfl (lv_room (Nat.le_of_ble_eq_true rfl)) dX3_event_1 ⟨Nat.le_of_ble_eq_true rfl, Nat.le_of_ble_eq_true rfl⟩) hS (fun r_1 u_1 t_1 locs hw hP hS => ?_)
  obtain ⟨rfl, rfl⟩ := hw
  have hP : va_P X.1 vwCl (wl_ws X d π) t_1.heap := hP
  refine lv_if_eq (tgt := 20) hx hb dX3_event_4 (by decide) (fun c_2 => ?_) (fun c_2 => ?_)
  · have ok_1 := wl_if c_2
    refine lv_iconst (v := (-1)) hx hb dX3_event_20 (by decide) ?_
    refine gw_iret (d, π) hx hb hr hlocks (wl_hB hP) hS dX3_event_21 ?_
    exact ⟨rfl, by rw [if_neg (by rw [ok_1]; decide)]⟩
  · have ok_1 := wl_it c_2
    have hj := wl_ok32c ok_1
    refine lv_aload_n hx hb dX3_event_7 rfl (lv_at hl 0 rfl) ?_
    refine gw_get hx hb hts inX3 hown hK hP 0 (by decide) wl_c0 rfl 5 (by decide) (hts _ mG_75) (fun _ h9 => h9) (v := .ref (X.2.1 3)) rfl dX3_event_8 ?_
    refine lv_iload_n hx hb dX3_event_11 rfl (lv_at hl 1 rfl) ?_
    refine gw_aald hx hb hK hP 3 3 (by decide) wl_c3 rfl (i := ev) hj.1 (k := 24 + ev.toNatClampNeg) rfl dX3_event_12 ?_
    refine lv_iload_n hx hb dX3_event_13 rfl (lv_at hl 2 rfl) ?_
    refine gw_calli (va_runVN (As := [.int w]) (rest := []) ⟨hx, hb, hml, hown, hts⟩ (c_Event_tellOf X hX d π ev.toNatClampNeg hj.2 w (h0 _ hj.2) (h3 _ hj.2)) ⟨va_cnB 1 hts giX0_tellOf rfl rfl rfl (hN _ (List.mem_of_getElem? (i := 24) rfl)) (hts _ mG_25) pdX0_tellOf ⟨Nat.le_of_ble_eq_true rfl, Nat.le_of_ble_eq_true rfl⟩, hts _ mG_197, hts _ mG_16⟩ ⟨wl_blind, gw_recv hK hP (24 + ev.toNatClampNeg) (wl_kE hj.2) (wl_cE hj.2) rfl, wl_at hP hK hN⟩ rfl rfl hl.1 rfl (lv_room (Nat.le_of_ble_eq_true rfl)) dX3_event_14 ⟨Nat.le_of_ble_eq_true rfl, Nat.le_of_ble_eq_true rfl⟩) hS (fun r_3 u_3 t_3 locs hw hP hS => ?_)
    obtain ⟨rfl, rfl⟩ := hw
    have hP : va_P X.1 vwCl (wl_ws X d π) t_3.heap := hP
    refine lv_goto (tgt := 21) hx hb dX3_event_17 (by decide) ?_
    refine gw_iret (d, π) hx hb hr hlocks (wl_hB hP) hS dX3_event_21 ?_
    exact ⟨rfl, by rw [if_pos ok_1]⟩
set_option maxHeartbeats 4000000 in
set_option maxRecDepth 100000 in
theorem c_WatchList_actionAt (X : wl_X) (hX : gw_inj 88 X.2.1) (d : Nat → Nat → Int32) (π : Nat → Nat)  (ev : Int32) (k : Int32) (hsz : ∀ j, j < 32 → ∃ z, d (24 + j) 2 = nI z ∧ z ≤ 256) : Met l yX3_actionAt wsX3_actionAt ({ frames := 1, cells := 0, slots := 0, locals := 21 }) (wl_pre X [.ref (X.2.1 0), .int ev, .int k] d π) (va_Qi (fun r u => u = (d, π) ∧ r = (if wl_ok ev 32 = true then (if wl_ok k (d (24 + ev.toNatClampNeg) 2) = true then d (56 + ev.toNatClampNeg) k.toNatClampNeg &&& 255 else -1) else -1)) (wl_b X) (gw_A 88 X.2.1)) 0 0 (gw_A 88 X.2.1) := by
  refine Met.ofW (cc := cX3_actionAt) (maxL := 3) (ret := (some .int)) (by decide) rfl ?_
  intro p e s m args below meth c s₁ B hml hv
  obtain ⟨rfl, hP, hK, hN⟩ := hv
  have hx := B.exec
  have hb := B.bytes
  have hr := B.returns
  have hts : ∀ w ∈ gG, w.before _ s = true := fun w h => atoms_spec (ws := wsX3_actionAt) B.pre w (List.mem_cons_of_mem _ h)
  have hown : s.vm.findClass RX3 = some m.cls := findClass_of_methodNamed B.named
  have hlocks := B.notSynchronized
  have hS : va_S (gw_A 88 X.2.1) s.heap s.heap [] := va_S.rf
  have hl := lv_entry ([.ref (X.2.1 0), .int ev, .int k]) (n := 3) (Nat.le_of_ble_eq_true rfl)
  rw [lg_entry_eq]
  generalize (lg_sl ([.ref (X.2.1 0), .int ev, .int k]) ++ List.replicate (3 - (lg_sl ([.ref (X.2.1 0), .int ev, .int k])).length) Slot.unset).toArray = ls at hl ⊢
  have hl : lv_has ls 3 [(0, .ref (X.2.1 0)), (1, .int ev), (2, .int k)] := hl
  refine lv_iload_n hx hb dX3_actionAt_0 rfl (lv_at hl 1 rfl) ?_
  refine gw_calli (va_runS (As := [.int ev]) (rest := []) ⟨hx, hb, hml, hown, hts⟩ (c_WatchList_isEvent X hX d π ev ) ⟨callB_of 1 hts giX3_isEvent rfl rfl rfl (hts _ mG_22) (hts _ mG_95) pdX3_isEvent ⟨Nat.le_of_ble_eq_true rfl, Nat.le_of_ble_eq_true rfl⟩, hts _ mG_96⟩ ⟨wl_blind, wl_at hP hK hN⟩ rfl rfl hl.1 rfl (lv_room (Nat.le_of_ble_eq_true rfl)) dX3_actionAt_1 ⟨Nat.le_of_ble_eq_true rfl, Nat.le_of_ble_eq_true rfl⟩) hS (fun r_1 u_1 t_1 locs hw hP hS => ?_)
  obtain ⟨rfl, rfl⟩ := hw
  have hP : va_P X.1 vwCl (wl_ws X d π) t_1.heap := hP
  refine lv_if_eq (tgt := 20) hx hb dX3_actionAt_4 (by decide) (fun c_2 => ?_) (fun c_2 => ?_)
  · have ok_1 := wl_if c_2
    refine lv_iconst (v := (-1)) hx hb dX3_actionAt_20 (by decide) ?_
    refine gw_iret (d, π) hx hb hr hlocks (wl_hB hP) hS dX3_actionAt_21 ?_
    exact ⟨rfl, by rw [if_neg (by rw [ok_1]; decide)]⟩
  · have ok_1 := wl_it c_2
    have hj := wl_ok32c ok_1
    obtain ⟨z, hsz1, hsz2⟩ := hsz _ hj.2
    refine lv_aload_n hx hb dX3_actionAt_7 rfl (lv_at hl 0 rfl) ?_
    refine gw_get hx hb hts inX3 hown hK hP 0 (by decide) wl_c0 rfl 5 (by decide) (hts _ mG_75) (fun _ h9 => h9) (v := .ref (X.2.1 3)) rfl dX3_actionAt_8 ?_
    refine lv_iload_n hx hb dX3_actionAt_11 rfl (lv_at hl 1 rfl) ?_
    refine gw_aald hx hb hK hP 3 3 (by decide) wl_c3 rfl (i := ev) hj.1 (k := 24 + ev.toNatClampNeg) rfl dX3_actionAt_12 ?_
    refine lv_iload_n hx hb dX3_actionAt_13 rfl (lv_at hl 2 rfl) ?_
    refine gw_calli (va_runVN (As := [.int k]) (rest := []) ⟨hx, hb, hml, hown, hts⟩ (c_Event_byteAt X hX d π ev.toNatClampNeg hj.2 k z hsz1 hsz2) ⟨va_cnB 1 hts giX0_byteAt rfl rfl rfl (hN _ (List.mem_of_getElem? (i := 26) rfl)) (hts _ mG_25) pdX0_byteAt ⟨Nat.le_of_ble_eq_true rfl, Nat.le_of_ble_eq_true rfl⟩, hts _ mG_203, hts _ mG_17⟩ ⟨wl_blind, gw_recv hK hP (24 + ev.toNatClampNeg) (wl_kE hj.2) (wl_cE hj.2) rfl, wl_at hP hK hN⟩ rfl rfl hl.1 rfl (lv_room (Nat.le_of_ble_eq_true rfl)) dX3_actionAt_14 ⟨Nat.le_of_ble_eq_true rfl, Nat.le_of_ble_eq_true rfl⟩) hS (fun r_3 u_3 t_3 locs hw hP hS => ?_)
    obtain ⟨rfl, rfl⟩ := hw
    have hP : va_P X.1 vwCl (wl_ws X d π) t_3.heap := hP
    refine lv_goto (tgt := 21) hx hb dX3_actionAt_17 (by decide) ?_
    refine gw_iret (d, π) hx hb hr hlocks (wl_hB hP) hS dX3_actionAt_21 ?_
    exact ⟨rfl, by rw [if_pos ok_1]⟩
set_option maxHeartbeats 4000000 in
set_option maxRecDepth 100000 in
theorem c_WatchList_count (X : wl_X) (hX : gw_inj 88 X.2.1) (d : Nat → Nat → Int32) (π : Nat → Nat)  (w : Int32)  : Met l yX3_count wsX3_count ({ frames := 0, cells := 0, slots := 0, locals := 0 }) (wl_pre X [.ref (X.2.1 0), .int w] d π) (va_Qi (fun r u => u = (d, π) ∧ r = wl_cnt d w) (wl_b X) (gw_A 88 X.2.1)) 0 0 (gw_A 88 X.2.1) := by
  refine Met.ofW (cc := cX3_count) (maxL := 2) (ret := (some .int)) (by decide) rfl ?_
  intro p e s m args below meth c s₁ B hml hv
  obtain ⟨rfl, hP, hK, hN⟩ := hv
  have hx := B.exec
  have hb := B.bytes
  have hr := B.returns
  have hts : ∀ w ∈ gG, w.before _ s = true := fun w h => atoms_spec (ws := wsX3_count) B.pre w (List.mem_cons_of_mem _ h)
  have hown : s.vm.findClass RX3 = some m.cls := findClass_of_methodNamed B.named
  have hlocks := B.notSynchronized
  have hS : va_S (gw_A 88 X.2.1) s.heap s.heap [] := va_S.rf
  have hl := lv_entry ([.ref (X.2.1 0), .int w]) (n := 2) (Nat.le_of_ble_eq_true rfl)
  rw [lg_entry_eq]
  generalize (lg_sl ([.ref (X.2.1 0), .int w]) ++ List.replicate (2 - (lg_sl ([.ref (X.2.1 0), .int w])).length) Slot.unset).toArray = ls at hl ⊢
  have hl : lv_has ls 2 [(0, .ref (X.2.1 0)), (1, .int w)] := hl
  refine lv_iload_n hx hb dX3_count_0 rfl (lv_at hl 1 rfl) ?_
  by_cases c_1 : w.toInt < 0 ∨ 4 < w.toInt
  · refine lv_tableOut (tgt := 64) hx hb dX3_count_1 c_1 (by decide) ?_
    refine lv_iconst (v := (-1)) hx hb dX3_count_64 (by decide) ?_
    refine gw_iret (d, π) hx hb hr hlocks (wl_hB hP) hS dX3_count_65 ?_
    exact ⟨rfl, by rw [wl_cnt_o c_1]⟩
  · have h_c_1 : w = 0 ∨ w = 1 ∨ w = 2 ∨ w = 3 ∨ w = 4 := wl_sw0_4 c_1
    rcases h_c_1 with e_c_1 | e_c_1 | e_c_1 | e_c_1 | e_c_1
    · refine lv_tableIn (tgt := 36) hx hb dX3_count_1 (by rw [e_c_1]; decide) (by rw [e_c_1]; decide) (by rw [e_c_1]; rfl) (by decide) ?_
      refine lv_aload_n hx hb dX3_count_36 rfl (lv_at hl 0 rfl) ?_
      refine gw_get hx hb hts inX3 hown hK hP 0 (by decide) wl_c0 rfl 2 (by decide) (hts _ mG_72) (fun _ h9 => h9) (v := .int (d 0 2)) rfl dX3_count_37 ?_
      refine gw_iret (d, π) hx hb hr hlocks (wl_hB hP) hS dX3_count_40 ?_
      rw [e_c_1]; exact ⟨rfl, rfl⟩
    · refine lv_tableIn (tgt := 41) hx hb dX3_count_1 (by rw [e_c_1]; decide) (by rw [e_c_1]; decide) (by rw [e_c_1]; rfl) (by decide) ?_
      refine lv_aload_n hx hb dX3_count_41 rfl (lv_at hl 0 rfl) ?_
      refine gw_get hx hb hts inX3 hown hK hP 0 (by decide) wl_c0 rfl 3 (by decide) (hts _ mG_73) (fun _ h9 => h9) (v := .int (d 0 3)) rfl dX3_count_42 ?_
      refine gw_iret (d, π) hx hb hr hlocks (wl_hB hP) hS dX3_count_45 ?_
      rw [e_c_1]; exact ⟨rfl, rfl⟩
    · refine lv_tableIn (tgt := 46) hx hb dX3_count_1 (by rw [e_c_1]; decide) (by rw [e_c_1]; decide) (by rw [e_c_1]; rfl) (by decide) ?_
      refine lv_aload_n hx hb dX3_count_46 rfl (lv_at hl 0 rfl) ?_
      refine gw_get hx hb hts inX3 hown hK hP 0 (by decide) wl_c0 rfl 6 (by decide) (hts _ mG_76) (fun _ h9 => h9) (v := .ref (X.2.1 4)) rfl dX3_count_47 ?_
      refine gw_getN hx hb hts inX2 hown hK hP 4 (by decide) wl_c4 rfl 3 (by decide) (hN _ (List.mem_of_getElem? (i := 1) rfl)) (fun _ h9 => h9) (v := .int (d 4 3)) rfl dX3_count_50 ?_
      refine gw_iret (d, π) hx hb hr hlocks (wl_hB hP) hS dX3_count_53 ?_
      rw [e_c_1]; exact ⟨rfl, rfl⟩
    · refine lv_tableIn (tgt := 54) hx hb dX3_count_1 (by rw [e_c_1]; decide) (by rw [e_c_1]; decide) (by rw [e_c_1]; rfl) (by decide) ?_
      refine lv_aload_n hx hb dX3_count_54 rfl (lv_at hl 0 rfl) ?_
      refine gw_get hx hb hts inX3 hown hK hP 0 (by decide) wl_c0 rfl 7 (by decide) (hts _ mG_77) (fun _ h9 => h9) (v := .int (d 0 7)) rfl dX3_count_55 ?_
      refine gw_iret (d, π) hx hb hr hlocks (wl_hB hP) hS dX3_count_58 ?_
      rw [e_c_1]; exact ⟨rfl, rfl⟩
    · refine lv_tableIn (tgt := 59) hx hb dX3_count_1 (by rw [e_c_1]; decide) (by rw [e_c_1]; decide) (by rw [e_c_1]; rfl) (by decide) ?_
      refine lv_aload_n hx hb dX3_count_59 rfl (lv_at hl 0 rfl) ?_
      refine gw_get hx hb hts inX3 hown hK hP 0 (by decide) wl_c0 rfl 8 (by decide) (hts _ mG_78) (fun _ h9 => h9) (v := .int (d 0 8)) rfl dX3_count_60 ?_
      refine gw_iret (d, π) hx hb hr hlocks (wl_hB hP) hS dX3_count_63 ?_
      rw [e_c_1]; exact ⟨rfl, rfl⟩
end
section
variable {l : Launch}
set_option maxHeartbeats 4000000 in
set_option maxRecDepth 100000 in
theorem c_WatchList_watch (X : wl_X) (hX : gw_inj 88 X.2.1) (d : Nat → Nat → Int32) (π : Nat → Nat)   (n : Nat) (hn : d 0 2 = nI n) (hn16 : n ≤ 16) (hπ : ∀ j, j < 16 → π j < 16) (f : Nat) (q : Nat) (hf : d 4 2 = nI f) (hq : d 4 3 = nI q) (hf6 : f < 64) (hq6 : q ≤ 64) (hpa : ∀ j, j < n → ∃ m, m < 32 ∧ d (8 + π j) 1 = nI m) : Met l yX3_watch wsX3_watch ({ frames := 2, cells := 0, slots := 0, locals := 45 }) (wl_pre X [.ref (X.2.1 0)] d π) (va_Qi (fun r u => r = (wl_w π d n).2 ∧ u = (up2 (wl_w π d n).1 0 3 ((wl_w π d n).1 0 3 + (wl_w π d n).2), π)) (wl_b X) (gw_A 88 X.2.1)) 0 0 (gw_A 88 X.2.1) := by
  refine Met.ofW (cc := cX3_watch) (maxL := 5) (ret := (some .int)) (by decide) rfl ?_
  intro p e s m args below meth c s₁ B hml hv
  obtain ⟨rfl, hP, hK, hN⟩ := hv
  have hx := B.exec
  have hb := B.bytes
  have hr := B.returns
  have hts : ∀ w ∈ gG, w.before _ s = true := fun w h => atoms_spec (ws := wsX3_watch) B.pre w (List.mem_cons_of_mem _ h)
  have hown : s.vm.findClass RX3 = some m.cls := findClass_of_methodNamed B.named
  have hlocks := B.notSynchronized
  have hS : va_S (gw_A 88 X.2.1) s.heap s.heap [] := va_S.rf
  have hl := lv_entry ([.ref (X.2.1 0)]) (n := 5) (Nat.le_of_ble_eq_true rfl)
  rw [lg_entry_eq]
  generalize (lg_sl ([.ref (X.2.1 0)]) ++ List.replicate (5 - (lg_sl ([.ref (X.2.1 0)])).length) Slot.unset).toArray = ls at hl ⊢
  have hl : lv_has ls 5 [(0, .ref (X.2.1 0))] := hl
  refine lv_iconst (v := 0) hx hb dX3_watch_0 (by decide) ?_
  refine lv_istore_n (lv' := [(1, .int 0), (0, .ref (X.2.1 0))]) hx hb dX3_watch_1 rfl hl (by decide) rfl (fun ls hl => ?_)
  refine lv_aload_n hx hb dX3_watch_2 rfl (lv_at hl 1 rfl) ?_
  refine lv_iconst (v := 0) hx hb dX3_watch_3 (by decide) ?_
  refine gw_put hx hb hts inX3 tyX3 okX3 nmX3 hown hK hP hX hS 0 (by decide) wl_c0 rfl 4 (by decide) (hts _ mG_74) (fun _ h9 => h9) rfl (ty := .boolean) (v := .int 0) (by decide +kernel) (gw_nz (by decide)) (gw_fz (by decide)) (Nat.le_of_ble_eq_true rfl) (cf' := wl_c X (up2 d 0 4 0) π) rfl wl_o dX3_watch_4 (fun H locs hP hS => ?_)
  refine lv_iconst (v := 0) hx hb dX3_watch_7 (by decide) ?_
  refine lv_istore_n (lv' := [(2, .int 0), (1, .int 0), (0, .ref (X.2.1 0))]) hx hb dX3_watch_8 rfl hl (by decide) rfl (fun ls hl => ?_)
  obtain ⟨i, hi⟩ : ∃ i : Nat, i = 0 := ⟨0, rfl⟩
  replace hP : va_P X.1 vwCl (wl_ws X (wl_w π d i).1 π) H := by rw [hi]; exact hP
  have hi1 : i ≤ n := by omega
  replace hl : lv_has ls 5 [(2, .int (nI i)), (1, .int (wl_w π d i).2), (0, .ref (X.2.1 0))] := by rw [hi, nI_0]; exact hl
  obtain ⟨g, hg⟩ : ∃ g : Nat, n < i + g := ⟨n + 1, by omega⟩
  clear hi
  induction g generalizing i ls H locs with
  | zero => exact absurd hg (by omega)
  | succ g ih =>
    obtain ⟨hI1, hI2, hI3, hI4, q1, hI5, hI6⟩ := wl_w_I (π := π) hf hq hf6 hq6 i
    refine lv_iload_n hx hb dX3_watch_9 rfl (lv_at hl 0 rfl) ?_
    refine lv_aload_n hx hb dX3_watch_10 rfl (lv_at hl 2 rfl) ?_
    refine gw_get hx hb hts inX3 hown hK hP 0 (by decide) wl_c0 rfl 2 (by decide) (hts _ mG_72) (fun _ h9 => h9) (v := .int (((wl_w π d i).1) 0 2)) rfl dX3_watch_11 ?_
    refine lv_icmp_ge (tgt := 94) hx hb dX3_watch_14 (by decide) (fun c_1 => ?_) (fun c_1 => ?_)
    · have hex : n ≤ i := (nI_leI (by omega) (by omega)).mp (by rw [← hn, ← hI1]; exact c_1)
      refine lv_aload_n hx hb dX3_watch_94 rfl (lv_at hl 2 rfl) ?_
      refine lv_dup hx hb dX3_watch_95 rfl ?_
      refine gw_get hx hb hts inX3 hown hK hP 0 (by decide) wl_c0 rfl 3 (by decide) (hts _ mG_73) (fun _ h9 => h9) (v := .int (((wl_w π d i).1) 0 3)) rfl dX3_watch_96 ?_
      refine lv_iload_n hx hb dX3_watch_99 rfl (lv_at hl 1 rfl) ?_
      refine lv_iadd hx hb dX3_watch_100 ?_
      refine gw_put hx hb hts inX3 tyX3 okX3 nmX3 hown hK hP hX hS 0 (by decide) wl_c0 rfl 3 (by decide) (hts _ mG_73) (fun _ h9 => h9) rfl (ty := .int) (v := .int ((((wl_w π d i).1) 0 3) + ((wl_w π d i).2))) (by decide +kernel) rfl rfl (Nat.le_of_ble_eq_true rfl) (cf' := wl_c X (up2 ((wl_w π d i).1) 0 3 ((((wl_w π d i).1) 0 3) + ((wl_w π d i).2))) π) rfl wl_o dX3_watch_101 (fun H locs hP hS => ?_)
      refine lv_iload_n hx hb dX3_watch_104 rfl (lv_at hl 1 rfl) ?_
      refine gw_iret (up2 ((wl_w π d i).1) 0 3 ((((wl_w π d i).1) 0 3) + ((wl_w π d i).2)), π) hx hb hr hlocks (wl_hB hP) hS dX3_watch_105 ?_
      rw [show i = n by omega]; exact ⟨rfl, rfl⟩
    · have hlt : i < n := Nat.lt_of_not_le (fun z => c_1 (by rw [hI1, hn]; exact nI_le z (by omega)))
      obtain ⟨m9, hm1, hm2⟩ := hpa i hlt
      have hpm : (wl_w π d i).1 (8 + (π i)) 1 = nI m9 := by rw [hI3 _ _ (by omega) (by decide)]; exact hm2
      refine lv_aload_n hx hb dX3_watch_17 rfl (lv_at hl 2 rfl) ?_
      refine gw_get hx hb hts inX3 hown hK hP 0 (by decide) wl_c0 rfl 1 (by decide) (hts _ mG_71) (fun _ h9 => h9) (v := .ref (X.2.1 2)) rfl dX3_watch_18 ?_
      refine lv_iload_n hx hb dX3_watch_21 rfl (lv_at hl 0 rfl) ?_
      refine gw_aald hx hb hK hP 2 2 (by decide) wl_c2 rfl (i := nI i) (vp_in_nI (by omega) (by omega)) (k := 8 + (π i)) (by show some (X.2.1 (8 + π (nI i).toNatClampNeg)) = _; rw [nI_clamp (by omega)]) dX3_watch_22 ?_
      refine lv_astore_n (lv' := [(3, .ref (X.2.1 (8 + (π i)))), (2, .int (nI i)), (1, .int ((wl_w π d i).2)), (0, .ref (X.2.1 0))]) hx hb dX3_watch_23 rfl hl (by decide) rfl (fun ls hl => ?_)
      refine lv_aload_n hx hb dX3_watch_24 rfl (lv_at hl 3 rfl) ?_
      refine gw_get hx hb hts inX3 hown hK hP 0 (by decide) wl_c0 rfl 0 (by decide) (hts _ mG_70) (fun _ h9 => h9) (v := .ref (X.2.1 1)) rfl dX3_watch_25 ?_
      refine lv_aload_n hx hb dX3_watch_28 rfl (lv_at hl 0 rfl) ?_
      refine gw_getN hx hb hts inX1 hown hK hP (8 + (π i)) (wl_kL (hπ i (by omega))) (wl_cL (hπ i (by omega))) rfl 1 (by decide) (hN _ (List.mem_of_getElem? (i := 4) rfl)) (fun _ h9 => h9) (v := .int (((wl_w π d i).1) (8 + (π i)) 1)) rfl dX3_watch_29 ?_
      refine gw_iald hx hb hK hP 1 0 (by decide) wl_c1 rfl (i := ((wl_w π d i).1) (8 + (π i)) 1) (by rw [hpm]; exact vp_in_nI hm1 (by omega)) dX3_watch_32 ?_
      refine lv_istore (lv' := [(4, .int (wl_val (wl_w π d i).1 (8 + (π i)))), (3, .ref (X.2.1 (8 + (π i)))), (2, .int (nI i)), (1, .int ((wl_w π d i).2)), (0, .ref (X.2.1 0))]) hx hb dX3_watch_33 hl (by decide) rfl (fun ls hl => ?_)
      refine lv_aload_n hx hb dX3_watch_35 rfl (lv_at hl 1 rfl) ?_
      refine gw_getN hx hb hts inX1 hown hK hP (8 + (π i)) (wl_kL (hπ i (by omega))) (wl_cL (hπ i (by omega))) rfl 7 (by decide) (hN _ (List.mem_of_getElem? (i := 7) rfl)) (fun _ h9 => h9) (v := .int (((wl_w π d i).1) (8 + (π i)) 7)) rfl dX3_watch_36 ?_
      refine lv_if_eq (tgt := 88) hx hb dX3_watch_39 (by decide) (fun c_2 => ?_) (fun c_2 => ?_)
      · have off := c_2
        have e9 : wl_w π d (i + 1) = ((wl_w π d i).1, (wl_w π d i).2) := wl_step0 off
        refine lv_iinc (v := nI (i + 1)) (lv' := [(2, .int (nI (i + 1))), (4, .int (wl_val (wl_w π d i).1 (8 + (π i)))), (3, .ref (X.2.1 (8 + (π i)))), (1, .int ((wl_w π d i).2)), (0, .ref (X.2.1 0))]) hx hb dX3_watch_88 hl (k := 2) rfl (nI_1 i) (by decide) rfl (fun ls hl => ?_)
        have hl9 := lv_sub hl [0, 3, 4] rfl
        refine lv_goto (tgt := 9) hx hb dX3_watch_91 (by decide) ?_
        exact ih (i := i + 1) (ls := ls) (H := _) (locs := locs) (hS := hS) (hP := by rw [e9]; exact hP) (hi1 := by omega) (hl := by rw [e9]; exact hl9) (hg := by omega)
      · have off := c_2
        refine lv_aload_n hx hb dX3_watch_42 rfl (lv_at hl 1 rfl) ?_
        refine lv_iload hx hb dX3_watch_43 (lv_at hl 0 rfl) ?_
        refine gw_calli (va_runVN (As := [.int (wl_val (wl_w π d i).1 (8 + (π i)))]) (rest := []) ⟨hx, hb, hml, hown, hts⟩ (c_Limit_breaksAt X hX ((wl_w π d i).1) π (π i) (hπ i (by omega)) (wl_val (wl_w π d i).1 (8 + (π i))) ) ⟨va_cnB 1 hts giX1_breaksAt rfl rfl rfl (hN _ (List.mem_of_getElem? (i := 14) rfl)) (hts _ mG_24) pdX1_breaksAt ⟨Nat.le_of_ble_eq_true rfl, Nat.le_of_ble_eq_true rfl⟩, hts _ mG_124, hts _ mG_5⟩ ⟨wl_blind, gw_recv hK hP (8 + (π i)) (wl_kL (hπ i (by omega))) (wl_cL (hπ i (by omega))) rfl, wl_at hP hK hN⟩ rfl rfl hl.1 rfl (lv_room (Nat.le_of_ble_eq_true rfl)) dX3_watch_45 ⟨Nat.le_of_ble_eq_true rfl, Nat.le_of_ble_eq_true rfl⟩) hS (fun r_3 u_3 t_3 locs hw hP hS => ?_)
        obtain ⟨rfl, rfl⟩ := hw
        have hP : va_P X.1 vwCl (wl_ws X (wl_bd ((wl_w π d i).1) (8 + (π i)) (wl_val (wl_w π d i).1 (8 + (π i)))) π) t_3.heap := hP
        refine lv_if_eq (tgt := 88) hx hb dX3_watch_48 (by decide) (fun c_4 => ?_) (fun c_4 => ?_)
        · have brk := c_4
          have e9 : wl_w π d (i + 1) = (wl_bd (wl_w π d i).1 (8 + (π i)) (wl_val (wl_w π d i).1 (8 + (π i))), (wl_w π d i).2) := wl_step1 off brk
          refine lv_iinc (v := nI (i + 1)) (lv' := [(2, .int (nI (i + 1))), (4, .int (wl_val (wl_w π d i).1 (8 + (π i)))), (3, .ref (X.2.1 (8 + (π i)))), (1, .int ((wl_w π d i).2)), (0, .ref (X.2.1 0))]) hx hb dX3_watch_88 hl (k := 2) rfl (nI_1 i) (by decide) rfl (fun ls hl => ?_)
          have hl9 := lv_sub hl [0, 3, 4] rfl
          refine lv_goto (tgt := 9) hx hb dX3_watch_91 (by decide) ?_
          exact ih (i := i + 1) (ls := ls) (H := _) (locs := locs) (hS := hS) (hP := by rw [e9]; exact hP) (hi1 := by omega) (hl := by rw [e9]; exact hl9) (hg := by omega)
        · have brk := c_4
          refine lv_iinc (v := ((wl_w π d i).2) + 1) (lv' := [(1, .int (((wl_w π d i).2) + 1)), (4, .int (wl_val (wl_w π d i).1 (8 + (π i)))), (3, .ref (X.2.1 (8 + (π i)))), (2, .int (nI i)), (0, .ref (X.2.1 0))]) hx hb dX3_watch_51 hl (k := 3) rfl rfl (by decide) rfl (fun ls hl => ?_)
          refine lv_aload_n hx hb dX3_watch_54 rfl (lv_at hl 4 rfl) ?_
          refine lv_aload_n hx hb dX3_watch_55 rfl (lv_at hl 4 rfl) ?_
          refine gw_get hx hb hts inX3 hown hK hP 0 (by decide) wl_c0 rfl 4 (by decide) (hts _ mG_74) (fun _ h9 => h9) (v := .int ((wl_bd ((wl_w π d i).1) (8 + (π i)) (wl_val (wl_w π d i).1 (8 + (π i)))) 0 4)) rfl dX3_watch_56 ?_
          refine lv_if_ne (tgt := 69) hx hb dX3_watch_59 (by decide) (fun c_5 => ?_) (fun c_5 => ?_)
          · have lb := c_5
            refine lv_iconst (v := 1) hx hb dX3_watch_69 (by decide) ?_
            refine lv_goto (tgt := 74) hx hb dX3_watch_70 (by decide) ?_
            refine gw_put hx hb hts inX3 tyX3 okX3 nmX3 hown hK hP hX hS 0 (by decide) wl_c0 rfl 4 (by decide) (hts _ mG_74) (fun _ h9 => h9) rfl (ty := .boolean) (v := .int 1) (by decide +kernel) (gw_nz (by decide)) (gw_fz (by decide)) (Nat.le_of_ble_eq_true rfl) (cf' := wl_c X (up2 (wl_bd ((wl_w π d i).1) (8 + (π i)) (wl_val (wl_w π d i).1 (8 + (π i)))) 0 4 1) π) rfl wl_o dX3_watch_74 (fun H locs hP hS => ?_)
            have hP : va_P X.1 vwCl (wl_ws X (wl_bl (wl_w π d i).1 (8 + (π i)) (wl_val (wl_w π d i).1 (8 + (π i)))) π) H := by
              unfold wl_bl
              rw [show wl_or (wl_bd (wl_w π d i).1 (8 + π i) (wl_val (wl_w π d i).1 (8 + π i)) 0 4) (wl_bd (wl_w π d i).1 (8 + π i) (wl_val (wl_w π d i).1 (8 + π i)) (8 + π i) 6) = 1 from by unfold wl_or; rw [if_neg lb]]; exact hP
            have g4 : wl_bl (wl_w π d i).1 (8 + (π i)) (wl_val (wl_w π d i).1 (8 + (π i))) 4 2 = nI f := by rw [wl_bl_k (by omega) (by omega)]; exact hI4
            have g6 : wl_bl (wl_w π d i).1 (8 + (π i)) (wl_val (wl_w π d i).1 (8 + (π i))) 4 3 = nI q1 := by rw [wl_bl_k (by omega) (by omega)]; exact hI6
            refine lv_aload_n hx hb dX3_watch_77 rfl (lv_at hl 4 rfl) ?_
            refine lv_aload_n hx hb dX3_watch_78 rfl (lv_at hl 2 rfl) ?_
            refine gw_getN hx hb hts inX1 hown hK hP (8 + (π i)) (wl_kL (hπ i (by omega))) (wl_cL (hπ i (by omega))) rfl 5 (by decide) (hN _ (List.mem_of_getElem? (i := 5) rfl)) (fun _ h9 => h9) (v := .int ((wl_bl (wl_w π d i).1 (8 + (π i)) (wl_val (wl_w π d i).1 (8 + (π i)))) (8 + (π i)) 5)) rfl dX3_watch_79 ?_
            refine lv_iload hx hb dX3_watch_82 (lv_at hl 1 rfl) ?_
            refine gw_calli (va_runV (As := [.int ((wl_bl (wl_w π d i).1 (8 + (π i)) (wl_val (wl_w π d i).1 (8 + (π i)))) (8 + (π i)) 5), .int (wl_val (wl_w π d i).1 (8 + (π i)))]) (rest := []) ⟨hx, hb, hml, hown, hts⟩ (c_WatchList_waitOrLose X hX (wl_bl (wl_w π d i).1 (8 + (π i)) (wl_val (wl_w π d i).1 (8 + (π i)))) π ((wl_bl (wl_w π d i).1 (8 + (π i)) (wl_val (wl_w π d i).1 (8 + (π i)))) (8 + (π i)) 5) (wl_val (wl_w π d i).1 (8 + (π i))) f q1 g4 g6 hf6 hI5) ⟨callB_of 2 hts giX3_waitOrLose rfl rfl rfl (hts _ mG_22) (hts _ mG_126) pdX3_waitOrLose ⟨Nat.le_of_ble_eq_true rfl, Nat.le_of_ble_eq_true rfl⟩, hts _ mG_127, hts _ mG_6⟩ ⟨wl_blind, gw_recv hK hP 0 (by decide) wl_c0 rfl, wl_at hP hK hN⟩ rfl rfl hl.1 rfl (lv_room (Nat.le_of_ble_eq_true rfl)) dX3_watch_84 ⟨Nat.le_of_ble_eq_true rfl, Nat.le_of_ble_eq_true rfl⟩) hS (fun r_6 u_6 t_6 locs hw hP hS => ?_)
            obtain ⟨rfl, rfl⟩ := hw
            have hP : va_P X.1 vwCl (wl_ws X (wl_wol (wl_bl (wl_w π d i).1 (8 + (π i)) (wl_val (wl_w π d i).1 (8 + (π i)))) f q1 ((wl_bl (wl_w π d i).1 (8 + (π i)) (wl_val (wl_w π d i).1 (8 + (π i)))) (8 + (π i)) 5) (wl_val (wl_w π d i).1 (8 + (π i)))) π) t_6.heap := hP
            refine lv_pop hx hb dX3_watch_87 rfl ?_
            have e9 : wl_w π d (i + 1) = (wl_wol (wl_bl (wl_w π d i).1 (8 + (π i)) (wl_val (wl_w π d i).1 (8 + (π i)))) f q1 (wl_bl (wl_w π d i).1 (8 + (π i)) (wl_val (wl_w π d i).1 (8 + (π i))) (8 + (π i)) 5) (wl_val (wl_w π d i).1 (8 + (π i))), (wl_w π d i).2 + 1) := by
              rw [← wl_wolD_eq g4 g6 (by omega) (by omega)]; exact wl_step2 off brk
            refine lv_iinc (v := nI (i + 1)) (lv' := [(2, .int (nI (i + 1))), (1, .int (((wl_w π d i).2) + 1)), (4, .int (wl_val (wl_w π d i).1 (8 + (π i)))), (3, .ref (X.2.1 (8 + (π i)))), (0, .ref (X.2.1 0))]) hx hb dX3_watch_88 hl (k := 3) rfl (nI_1 i) (by decide) rfl (fun ls hl => ?_)
            have hl9 := lv_sub hl [0, 1, 4] rfl
            refine lv_goto (tgt := 9) hx hb dX3_watch_91 (by decide) ?_
            exact ih (i := i + 1) (ls := ls) (H := _) (locs := locs) (hS := hS) (hP := by rw [e9]; exact hP) (hi1 := by omega) (hl := by rw [e9]; exact hl9) (hg := by omega)
          · have lb := c_5
            refine lv_aload_n hx hb dX3_watch_62 rfl (lv_at hl 2 rfl) ?_
            refine gw_getN hx hb hts inX1 hown hK hP (8 + (π i)) (wl_kL (hπ i (by omega))) (wl_cL (hπ i (by omega))) rfl 6 (by decide) (hN _ (List.mem_of_getElem? (i := 6) rfl)) (fun _ h9 => h9) (v := .int ((wl_bd ((wl_w π d i).1) (8 + (π i)) (wl_val (wl_w π d i).1 (8 + (π i)))) (8 + (π i)) 6)) rfl dX3_watch_63 ?_
            refine lv_if_eq (tgt := 73) hx hb dX3_watch_66 (by decide) (fun c_7 => ?_) (fun c_7 => ?_)
            · have lk := c_7
              refine lv_iconst (v := 0) hx hb dX3_watch_73 (by decide) ?_
              refine gw_put hx hb hts inX3 tyX3 okX3 nmX3 hown hK hP hX hS 0 (by decide) wl_c0 rfl 4 (by decide) (hts _ mG_74) (fun _ h9 => h9) rfl (ty := .boolean) (v := .int 0) (by decide +kernel) (gw_nz (by decide)) (gw_fz (by decide)) (Nat.le_of_ble_eq_true rfl) (cf' := wl_c X (up2 (wl_bd ((wl_w π d i).1) (8 + (π i)) (wl_val (wl_w π d i).1 (8 + (π i)))) 0 4 0) π) rfl wl_o dX3_watch_74 (fun H locs hP hS => ?_)
              have hP : va_P X.1 vwCl (wl_ws X (wl_bl (wl_w π d i).1 (8 + (π i)) (wl_val (wl_w π d i).1 (8 + (π i)))) π) H := by
                unfold wl_bl
                rw [show wl_or (wl_bd (wl_w π d i).1 (8 + π i) (wl_val (wl_w π d i).1 (8 + π i)) 0 4) (wl_bd (wl_w π d i).1 (8 + π i) (wl_val (wl_w π d i).1 (8 + π i)) (8 + π i) 6) = 0 from by unfold wl_or; rw [if_pos lb, if_pos lk]]; exact hP
              have g4 : wl_bl (wl_w π d i).1 (8 + (π i)) (wl_val (wl_w π d i).1 (8 + (π i))) 4 2 = nI f := by rw [wl_bl_k (by omega) (by omega)]; exact hI4
              have g6 : wl_bl (wl_w π d i).1 (8 + (π i)) (wl_val (wl_w π d i).1 (8 + (π i))) 4 3 = nI q1 := by rw [wl_bl_k (by omega) (by omega)]; exact hI6
              refine lv_aload_n hx hb dX3_watch_77 rfl (lv_at hl 4 rfl) ?_
              refine lv_aload_n hx hb dX3_watch_78 rfl (lv_at hl 2 rfl) ?_
              refine gw_getN hx hb hts inX1 hown hK hP (8 + (π i)) (wl_kL (hπ i (by omega))) (wl_cL (hπ i (by omega))) rfl 5 (by decide) (hN _ (List.mem_of_getElem? (i := 5) rfl)) (fun _ h9 => h9) (v := .int ((wl_bl (wl_w π d i).1 (8 + (π i)) (wl_val (wl_w π d i).1 (8 + (π i)))) (8 + (π i)) 5)) rfl dX3_watch_79 ?_
              refine lv_iload hx hb dX3_watch_82 (lv_at hl 1 rfl) ?_
              refine gw_calli (va_runV (As := [.int ((wl_bl (wl_w π d i).1 (8 + (π i)) (wl_val (wl_w π d i).1 (8 + (π i)))) (8 + (π i)) 5), .int (wl_val (wl_w π d i).1 (8 + (π i)))]) (rest := []) ⟨hx, hb, hml, hown, hts⟩ (c_WatchList_waitOrLose X hX (wl_bl (wl_w π d i).1 (8 + (π i)) (wl_val (wl_w π d i).1 (8 + (π i)))) π ((wl_bl (wl_w π d i).1 (8 + (π i)) (wl_val (wl_w π d i).1 (8 + (π i)))) (8 + (π i)) 5) (wl_val (wl_w π d i).1 (8 + (π i))) f q1 g4 g6 hf6 hI5) ⟨callB_of 2 hts giX3_waitOrLose rfl rfl rfl (hts _ mG_22) (hts _ mG_126) pdX3_waitOrLose ⟨Nat.le_of_ble_eq_true rfl, Nat.le_of_ble_eq_true rfl⟩, hts _ mG_127, hts _ mG_6⟩ ⟨wl_blind, gw_recv hK hP 0 (by decide) wl_c0 rfl, wl_at hP hK hN⟩ rfl rfl hl.1 rfl (lv_room (Nat.le_of_ble_eq_true rfl)) dX3_watch_84 ⟨Nat.le_of_ble_eq_true rfl, Nat.le_of_ble_eq_true rfl⟩) hS (fun r_8 u_8 t_8 locs hw hP hS => ?_)
              obtain ⟨rfl, rfl⟩ := hw
              have hP : va_P X.1 vwCl (wl_ws X (wl_wol (wl_bl (wl_w π d i).1 (8 + (π i)) (wl_val (wl_w π d i).1 (8 + (π i)))) f q1 ((wl_bl (wl_w π d i).1 (8 + (π i)) (wl_val (wl_w π d i).1 (8 + (π i)))) (8 + (π i)) 5) (wl_val (wl_w π d i).1 (8 + (π i)))) π) t_8.heap := hP
              refine lv_pop hx hb dX3_watch_87 rfl ?_
              have e9 : wl_w π d (i + 1) = (wl_wol (wl_bl (wl_w π d i).1 (8 + (π i)) (wl_val (wl_w π d i).1 (8 + (π i)))) f q1 (wl_bl (wl_w π d i).1 (8 + (π i)) (wl_val (wl_w π d i).1 (8 + (π i))) (8 + (π i)) 5) (wl_val (wl_w π d i).1 (8 + (π i))), (wl_w π d i).2 + 1) := by
                rw [← wl_wolD_eq g4 g6 (by omega) (by omega)]; exact wl_step2 off brk
              refine lv_iinc (v := nI (i + 1)) (lv' := [(2, .int (nI (i + 1))), (1, .int (((wl_w π d i).2) + 1)), (4, .int (wl_val (wl_w π d i).1 (8 + (π i)))), (3, .ref (X.2.1 (8 + (π i)))), (0, .ref (X.2.1 0))]) hx hb dX3_watch_88 hl (k := 3) rfl (nI_1 i) (by decide) rfl (fun ls hl => ?_)
              have hl9 := lv_sub hl [0, 1, 4] rfl
              refine lv_goto (tgt := 9) hx hb dX3_watch_91 (by decide) ?_
              exact ih (i := i + 1) (ls := ls) (H := _) (locs := locs) (hS := hS) (hP := by rw [e9]; exact hP) (hi1 := by omega) (hl := by rw [e9]; exact hl9) (hg := by omega)
            · have lk := c_7
              refine lv_iconst (v := 1) hx hb dX3_watch_69 (by decide) ?_
              refine lv_goto (tgt := 74) hx hb dX3_watch_70 (by decide) ?_
              refine gw_put hx hb hts inX3 tyX3 okX3 nmX3 hown hK hP hX hS 0 (by decide) wl_c0 rfl 4 (by decide) (hts _ mG_74) (fun _ h9 => h9) rfl (ty := .boolean) (v := .int 1) (by decide +kernel) (gw_nz (by decide)) (gw_fz (by decide)) (Nat.le_of_ble_eq_true rfl) (cf' := wl_c X (up2 (wl_bd ((wl_w π d i).1) (8 + (π i)) (wl_val (wl_w π d i).1 (8 + (π i)))) 0 4 1) π) rfl wl_o dX3_watch_74 (fun H locs hP hS => ?_)
              have hP : va_P X.1 vwCl (wl_ws X (wl_bl (wl_w π d i).1 (8 + (π i)) (wl_val (wl_w π d i).1 (8 + (π i)))) π) H := by
                unfold wl_bl
                rw [show wl_or (wl_bd (wl_w π d i).1 (8 + π i) (wl_val (wl_w π d i).1 (8 + π i)) 0 4) (wl_bd (wl_w π d i).1 (8 + π i) (wl_val (wl_w π d i).1 (8 + π i)) (8 + π i) 6) = 1 from by unfold wl_or; rw [if_pos lb, if_neg lk]]; exact hP
              have g4 : wl_bl (wl_w π d i).1 (8 + (π i)) (wl_val (wl_w π d i).1 (8 + (π i))) 4 2 = nI f := by rw [wl_bl_k (by omega) (by omega)]; exact hI4
              have g6 : wl_bl (wl_w π d i).1 (8 + (π i)) (wl_val (wl_w π d i).1 (8 + (π i))) 4 3 = nI q1 := by rw [wl_bl_k (by omega) (by omega)]; exact hI6
              refine lv_aload_n hx hb dX3_watch_77 rfl (lv_at hl 4 rfl) ?_
              refine lv_aload_n hx hb dX3_watch_78 rfl (lv_at hl 2 rfl) ?_
              refine gw_getN hx hb hts inX1 hown hK hP (8 + (π i)) (wl_kL (hπ i (by omega))) (wl_cL (hπ i (by omega))) rfl 5 (by decide) (hN _ (List.mem_of_getElem? (i := 5) rfl)) (fun _ h9 => h9) (v := .int ((wl_bl (wl_w π d i).1 (8 + (π i)) (wl_val (wl_w π d i).1 (8 + (π i)))) (8 + (π i)) 5)) rfl dX3_watch_79 ?_
              refine lv_iload hx hb dX3_watch_82 (lv_at hl 1 rfl) ?_
              refine gw_calli (va_runV (As := [.int ((wl_bl (wl_w π d i).1 (8 + (π i)) (wl_val (wl_w π d i).1 (8 + (π i)))) (8 + (π i)) 5), .int (wl_val (wl_w π d i).1 (8 + (π i)))]) (rest := []) ⟨hx, hb, hml, hown, hts⟩ (c_WatchList_waitOrLose X hX (wl_bl (wl_w π d i).1 (8 + (π i)) (wl_val (wl_w π d i).1 (8 + (π i)))) π ((wl_bl (wl_w π d i).1 (8 + (π i)) (wl_val (wl_w π d i).1 (8 + (π i)))) (8 + (π i)) 5) (wl_val (wl_w π d i).1 (8 + (π i))) f q1 g4 g6 hf6 hI5) ⟨callB_of 2 hts giX3_waitOrLose rfl rfl rfl (hts _ mG_22) (hts _ mG_126) pdX3_waitOrLose ⟨Nat.le_of_ble_eq_true rfl, Nat.le_of_ble_eq_true rfl⟩, hts _ mG_127, hts _ mG_6⟩ ⟨wl_blind, gw_recv hK hP 0 (by decide) wl_c0 rfl, wl_at hP hK hN⟩ rfl rfl hl.1 rfl (lv_room (Nat.le_of_ble_eq_true rfl)) dX3_watch_84 ⟨Nat.le_of_ble_eq_true rfl, Nat.le_of_ble_eq_true rfl⟩) hS (fun r_9 u_9 t_9 locs hw hP hS => ?_)
              obtain ⟨rfl, rfl⟩ := hw
              have hP : va_P X.1 vwCl (wl_ws X (wl_wol (wl_bl (wl_w π d i).1 (8 + (π i)) (wl_val (wl_w π d i).1 (8 + (π i)))) f q1 ((wl_bl (wl_w π d i).1 (8 + (π i)) (wl_val (wl_w π d i).1 (8 + (π i)))) (8 + (π i)) 5) (wl_val (wl_w π d i).1 (8 + (π i)))) π) t_9.heap := hP
              refine lv_pop hx hb dX3_watch_87 rfl ?_
              have e9 : wl_w π d (i + 1) = (wl_wol (wl_bl (wl_w π d i).1 (8 + (π i)) (wl_val (wl_w π d i).1 (8 + (π i)))) f q1 (wl_bl (wl_w π d i).1 (8 + (π i)) (wl_val (wl_w π d i).1 (8 + (π i))) (8 + (π i)) 5) (wl_val (wl_w π d i).1 (8 + (π i))), (wl_w π d i).2 + 1) := by
                rw [← wl_wolD_eq g4 g6 (by omega) (by omega)]; exact wl_step2 off brk
              refine lv_iinc (v := nI (i + 1)) (lv' := [(2, .int (nI (i + 1))), (1, .int (((wl_w π d i).2) + 1)), (4, .int (wl_val (wl_w π d i).1 (8 + (π i)))), (3, .ref (X.2.1 (8 + (π i)))), (0, .ref (X.2.1 0))]) hx hb dX3_watch_88 hl (k := 3) rfl (nI_1 i) (by decide) rfl (fun ls hl => ?_)
              have hl9 := lv_sub hl [0, 1, 4] rfl
              refine lv_goto (tgt := 9) hx hb dX3_watch_91 (by decide) ?_
              exact ih (i := i + 1) (ls := ls) (H := _) (locs := locs) (hS := hS) (hP := by rw [e9]; exact hP) (hi1 := by omega) (hl := by rw [e9]; exact hl9) (hg := by omega)
end
section
/-! PART 10: the reference's world: 18 cells. 0 the object, 1 parameters, 2 there, 3 on, 4 links, 5 of, 6 times, 7 low, 8 high, 9 raises, 10 counts, 11 events, 12 numbers, 13 silent, 14 sizes, 15 armed, 16 actions, 17 text. (π is carried along, and means nothing here.) -/
abbrev rf_X : Type := va_G × (Nat → Nat) × ClassId × ClassId × ClassId
def rf_row (X : rf_X) (k : Nat) (r : Nat → Int32) : va_E :=
  if k = 0 then .inr (4, [.int (r 0), .ref (X.2.1 1), .ref (X.2.1 2), .ref (X.2.1 3), .ref (X.2.1 4), .ref (X.2.1 5), .ref (X.2.1 6), .ref (X.2.1 7), .ref (X.2.1 8), .ref (X.2.1 9), .ref (X.2.1 10), .int (r 11), .int (r 12), .int (r 13), .ref (X.2.1 11), .ref (X.2.1 12), .int (r 16), .int (r 17), .ref (X.2.1 13), .ref (X.2.1 14), .ref (X.2.1 15), .ref (X.2.1 16), .int (r 22), .ref (X.2.1 17)])
  else if k = 1 then .inl (X.2.2.1, 32, .inl r)
  else if k = 2 then .inl (X.2.2.2.1, 256, .inl r)
  else if k = 3 then .inl (X.2.2.2.1, 256, .inl r)
  else if k = 4 then .inl (X.2.2.2.1, 256, .inl r)
  else if k = 11 then .inl (X.2.2.1, 64, .inl r)
  else if k = 12 then .inl (X.2.2.1, 64, .inl r)
  else if k = 13 then .inl (X.2.2.2.1, 32, .inl r)
  else if k = 14 then .inl (X.2.2.1, 32, .inl r)
  else if k = 15 then .inl (X.2.2.2.1, 32, .inl r)
  else if k = 16 then .inl (X.2.2.2.2, 8192, .inl r)
  else if k = 17 then .inl (X.2.2.2.2, 256, .inl r)
  else .inl (X.2.2.1, 256, .inl r)
def rf_c (X : rf_X) (d : Nat → Nat → Int32) (_ : Nat → Nat) (k : Nat) : va_E := rf_row X k (d k)
def rf_ty (X : rf_X) : List (ClassId × FieldType) := [(X.2.2.1, .int), (X.2.2.2.1, .boolean), (X.2.2.2.2, .byte)]
abbrev rf_ws (X : rf_X) (d : Nat → Nat → Int32) (π : Nat → Nat) : va_W := gw_W 18 X.2.1 (rf_c X d π)
section RFC
variable {X : rf_X} {d : Nat → Nat → Int32} {π : Nat → Nat}
theorem rf_c0 : rf_c X d π 0 = .inr (4, [.int (d 0 0), .ref (X.2.1 1), .ref (X.2.1 2), .ref (X.2.1 3), .ref (X.2.1 4), .ref (X.2.1 5), .ref (X.2.1 6), .ref (X.2.1 7), .ref (X.2.1 8), .ref (X.2.1 9), .ref (X.2.1 10), .int (d 0 11), .int (d 0 12), .int (d 0 13), .ref (X.2.1 11), .ref (X.2.1 12), .int (d 0 16), .int (d 0 17), .ref (X.2.1 13), .ref (X.2.1 14), .ref (X.2.1 15), .ref (X.2.1 16), .int (d 0 22), .ref (X.2.1 17)]) := rfl
theorem rf_c1 : rf_c X d π 1 = .inl (X.2.2.1, 32, .inl (d 1)) := rfl
theorem rf_c2 : rf_c X d π 2 = .inl (X.2.2.2.1, 256, .inl (d 2)) := rfl
theorem rf_c3 : rf_c X d π 3 = .inl (X.2.2.2.1, 256, .inl (d 3)) := rfl
theorem rf_c4 : rf_c X d π 4 = .inl (X.2.2.2.1, 256, .inl (d 4)) := rfl
theorem rf_c5 : rf_c X d π 5 = .inl (X.2.2.1, 256, .inl (d 5)) := rfl
theorem rf_c6 : rf_c X d π 6 = .inl (X.2.2.1, 256, .inl (d 6)) := rfl
theorem rf_c7 : rf_c X d π 7 = .inl (X.2.2.1, 256, .inl (d 7)) := rfl
theorem rf_c8 : rf_c X d π 8 = .inl (X.2.2.1, 256, .inl (d 8)) := rfl
theorem rf_c9 : rf_c X d π 9 = .inl (X.2.2.1, 256, .inl (d 9)) := rfl
theorem rf_c10 : rf_c X d π 10 = .inl (X.2.2.1, 256, .inl (d 10)) := rfl
theorem rf_c11 : rf_c X d π 11 = .inl (X.2.2.1, 64, .inl (d 11)) := rfl
theorem rf_c12 : rf_c X d π 12 = .inl (X.2.2.1, 64, .inl (d 12)) := rfl
theorem rf_c13 : rf_c X d π 13 = .inl (X.2.2.2.1, 32, .inl (d 13)) := rfl
theorem rf_c14 : rf_c X d π 14 = .inl (X.2.2.1, 32, .inl (d 14)) := rfl
theorem rf_c15 : rf_c X d π 15 = .inl (X.2.2.2.1, 32, .inl (d 15)) := rfl
theorem rf_c16 : rf_c X d π 16 = .inl (X.2.2.2.2, 8192, .inl (d 16)) := rfl
theorem rf_c17 : rf_c X d π 17 = .inl (X.2.2.2.2, 256, .inl (d 17)) := rfl
theorem rf_o {k j : Nat} {v : Int32} : ∀ a, a ≠ k → rf_c X (up2 d k j v) π a = rf_c X d π a := by
  intro a h
  unfold rf_c
  rw [up2_ne h]
end RFC
theorem gw_vz {x : Int32} (h : x = 0 ∨ x = 1) : vp_nar .boolean x = x := by
  rcases h with rfl | rfl <;> rfl
def rf_pre (X : rf_X) (av : List Value) (d : Nat → Nat → Int32) (π : Nat → Nat) : Array Value → State → Prop := va_Pc av (fun U => va_P X.1 vwCl (rf_ws X d π) U.heap ∧ va_K X.1 vwCl (rf_ty X) U ∧ True)
def rf_b (X : rf_X) (u : (Nat → Nat → Int32) × (Nat → Nat)) (t : State) : Prop := va_P X.1 vwCl (rf_ws X u.1 u.2) t.heap
theorem rf_blind {X : rf_X} {av : List Value} {d : Nat → Nat → Int32} {π : Nat → Nat} : FrameBlind (rf_pre X av d π) := by
  intro a U g mk q
  obtain ⟨q0, qP, qK, qN⟩ := q
  exact ⟨q0, qP, va_K.moved (u := U) (U := U.calling g mk a) (Vm.Alike.refl U.vm) qK, qN⟩
theorem rf_at {X : rf_X} {av : List Value} {d : Nat → Nat → Int32} {π : Nat → Nat} {s : State} {H : Heap} (hP : va_P X.1 vwCl (rf_ws X d π) H) (hK : va_K X.1 vwCl (rf_ty X) s) (_ : True) : ∀ U : State, U.heap = H → s.WarmedH U.vm → rf_pre X av d π av.toArray U :=
  fun U hU hW => ⟨rfl, by rw [hU]; exact hP, va_K.moved hW.alike hK, trivial⟩
theorem rf_hB {X : rf_X} {d : Nat → Nat → Int32} {π : Nat → Nat} {H : Heap} (hP : va_P X.1 vwCl (rf_ws X d π) H) : ∀ t : State, t.heap = H → rf_b X (d, π) t := fun t ht => by
  show va_P X.1 vwCl (rf_ws X d π) t.heap
  rw [ht]; exact hP
/-! what the reference's methods answer and do -/
def rf_T (d : Nat → Nat → Int32) : Nat → Nat → Int32 := up2 d 0 0 0
theorem rf_T_k {d : Nat → Nat → Int32} {k j : Nat} (h : k ≠ 0) : rf_T d k j = d k j := up2_k h
theorem rf_T_j {d : Nat → Nat → Int32} {j : Nat} (h : j ≠ 0) : rf_T d 0 j = d 0 j := up2_j h
theorem rf_T_r {d : Nat → Nat → Int32} {k : Nat} (h : k ≠ 0) : rf_T d k = d k := up2_ne h
def rf_in (v a b : Int32) : Bool := decide (a ≤ v) && decide (v ≤ b)
theorem rf_in_lt {v a b : Int32} (h : v < a) : rf_in v a b = false := by simp [rf_in, wl_nle_of h]
theorem rf_in_gt {v a b : Int32} (h : b < v) : rf_in v a b = false := by simp [rf_in, wl_nle_of h]
theorem rf_in_t {v a b : Int32} (h1 : ¬ v < a) (h2 : ¬ b < v) : rf_in v a b = true := by simp [rf_in, wl_le_of h1, wl_le_of h2]
theorem rf_le_lt {k : Int32} (m : Nat) (hm : m + 1 < 2 ^ 31) : k ≤ nI m ↔ k < nI (m + 1) := by
  rw [Int32.le_iff_toInt_le, Int32.lt_iff_toInt_lt, nI_toInt (by omega), nI_toInt hm]
  omega
theorem rf_in31 (k : Int32) : rf_in k 0 31 = wl_ok k 32 := by
  unfold rf_in wl_ok
  congr 1
  exact decide_eq_decide.mpr (rf_le_lt 31 (by omega))
theorem rf_in255 (k : Int32) : rf_in k 0 255 = wl_ok k 256 := by
  unfold rf_in wl_ok
  congr 1
  exact decide_eq_decide.mpr (rf_le_lt 255 (by omega))
theorem rf_ok256c {k : Int32} (h : wl_ok k 256 = true) : vp_in k 256 ∧ k.toNatClampNeg < 256 := by
  obtain ⟨j, hj, rfl⟩ := wl_ok256 h
  rw [nI_clamp (by omega)]
  exact ⟨vp_in_nI hj (by omega), hj⟩
def rf_th (d : Nat → Nat → Int32) (id : Int32) : Bool := wl_ok id 256 && decide (¬ d 2 id.toNatClampNeg = 0)
theorem rf_th0 {d : Nat → Nat → Int32} {id : Int32} (h : wl_ok id 256 = false) : rf_th d id = false := by simp [rf_th, h]
theorem rf_th1 {d : Nat → Nat → Int32} {id : Int32} (h : d 2 id.toNatClampNeg = 0) : rf_th d id = false := by simp [rf_th, h]
theorem rf_th2 {d : Nat → Nat → Int32} {id : Int32} (h1 : wl_ok id 256 = true) (h : ¬ d 2 id.toNatClampNeg = 0) : rf_th d id = true := by simp [rf_th, h1, h]
theorem rf_th_ok {d : Nat → Nat → Int32} {id : Int32} (h : rf_th d id = true) : wl_ok id 256 = true ∧ ¬ d 2 id.toNatClampNeg = 0 := by
  simpa [rf_th] using h
/-- how many of the first places are not 0 -/
def rf_cnt (g : Nat → Int32) : Nat → Nat
  | 0 => 0
  | i + 1 => rf_cnt g i + (if g i = 0 then 0 else 1)
theorem rf_cnt_le (g : Nat → Int32) (i : Nat) : rf_cnt g i ≤ i := by
  induction i with
  | zero => exact Nat.le_refl 0
  | succ i ih =>
    unfold rf_cnt
    split <;> omega
def rf_wt (d : Nat → Nat → Int32) (q : Nat) (ev nu : Int32) : Nat → Nat → Int32 := if q < 64 then up2 (up2 (up2 d 11 q ev) 12 q nu) 0 13 (nI (q + 1)) else up2 d 0 16 (d 0 16 + 1)
def rf_add (d : Nat → Nat → Int32) (j : Nat) (pa ti lo hi ev lk : Int32) : Nat → Nat → Int32 := up2 (up2 (up2 (up2 (up2 (up2 (up2 (up2 (up2 d 2 j 1) 3 j 0) 4 j lk) 5 j pa) 6 j ti) 7 j lo) 8 j hi) 9 j ev) 10 j 0
/-- one id is watched -/
def rf_v (d : Nat → Nat → Int32) (i : Nat) : Int32 := d 1 (d 5 i).toNatClampNeg
def rf_ct (d : Nat → Nat → Int32) (i : Nat) : Nat → Nat → Int32 := up2 d 10 i (if rf_in (rf_v d i) (d 7 i) (d 8 i) = true then 0 else d 10 i + 1)
def rf_wtD (d : Nat → Nat → Int32) (ev nu : Int32) : Nat → Nat → Int32 := rf_wt d (d 0 13).toNatClampNeg ev nu
def rf_bk (d : Nat → Nat → Int32) (i : Nat) : Nat → Nat → Int32 := rf_wtD (rf_ct d i) (rf_ct d i 9 i) (rf_v d i)
def rf_step (i : Nat) (d : Nat → Nat → Int32) (b : Int32) : (Nat → Nat → Int32) × Int32 :=
  if d 2 i = 0 then (d, b) else if d 3 i = 0 then (d, b) else if rf_ct d i 10 i = rf_ct d i 6 i then (up2 (rf_bk d i) 0 12 (wl_or (rf_bk d i 0 12) (rf_bk d i 4 i)), b + 1) else (rf_ct d i, b)
def rf_w (d : Nat → Nat → Int32) : Nat → (Nat → Nat → Int32) × Int32
  | 0 => (up2 d 0 12 0, 0)
  | i + 1 => rf_step i (rf_w d i).1 (rf_w d i).2
theorem rf_step0 {i : Nat} {d : Nat → Nat → Int32} {b : Int32} (h : d 2 i = 0) : rf_step i d b = (d, b) := by unfold rf_step; rw [if_pos h]
theorem rf_step1 {i : Nat} {d : Nat → Nat → Int32} {b : Int32} (h : ¬ d 2 i = 0) (h2 : d 3 i = 0) : rf_step i d b = (d, b) := by unfold rf_step; rw [if_neg h, if_pos h2]
theorem rf_step2 {i : Nat} {d : Nat → Nat → Int32} {b : Int32} (h : ¬ d 2 i = 0) (h2 : ¬ d 3 i = 0) (h3 : ¬ rf_ct d i 10 i = rf_ct d i 6 i) : rf_step i d b = (rf_ct d i, b) := by unfold rf_step; rw [if_neg h, if_neg h2, if_neg h3]
theorem rf_step3 {i : Nat} {d : Nat → Nat → Int32} {b : Int32} (h : ¬ d 2 i = 0) (h2 : ¬ d 3 i = 0) (h3 : rf_ct d i 10 i = rf_ct d i 6 i) : rf_step i d b = (up2 (rf_bk d i) 0 12 (wl_or (rf_bk d i 0 12) (rf_bk d i 4 i)), b + 1) := by unfold rf_step; rw [if_neg h, if_neg h2, if_pos h3]
theorem rf_wtD_eq {d : Nat → Nat → Int32} {q : Nat} {ev nu : Int32} (hq : d 0 13 = nI q) (h2 : q < 2 ^ 31) : rf_wtD d ev nu = rf_wt d q ev nu := by
  unfold rf_wtD
  rw [hq, nI_clamp h2]
theorem rf_ct_k {d : Nat → Nat → Int32} {i k j : Nat} (h : k ≠ 10) : rf_ct d i k j = d k j := up2_k h
theorem rf_wt_k {d : Nat → Nat → Int32} {q : Nat} {ev nu : Int32} {k j : Nat} (h : (k ≠ 0 ∨ (j ≠ 13 ∧ j ≠ 16)) ∧ k ≠ 11 ∧ k ≠ 12) : rf_wt d q ev nu k j = d k j := by
  unfold rf_wt
  split
  · rw [up2_at, if_neg (by omega), up2_k (by omega), up2_k (by omega)]
  · rw [up2_at, if_neg (by omega)]
theorem rf_wt_q {d : Nat → Nat → Int32} {q : Nat} {ev nu : Int32} (hq : d 0 13 = nI q) (h6 : q ≤ 64) : ∃ q', q' ≤ 64 ∧ rf_wt d q ev nu 0 13 = nI q' := by
  unfold rf_wt
  split
  · exact ⟨q + 1, by omega, up2_s⟩
  · exact ⟨q, h6, by rw [up2_j (by decide)]; exact hq⟩
/-- what the reference's watching keeps -/
def rf_wI (d0 d : Nat → Nat → Int32) : Prop := (∀ k j, k ≠ 0 → k ≠ 10 → k ≠ 11 → k ≠ 12 → d k j = d0 k j) ∧ (d 0 12 = 0 ∨ d 0 12 = 1) ∧ ∃ q, q ≤ 64 ∧ d 0 13 = nI q
theorem wl_or01 (a b : Int32) : wl_or a b = 0 ∨ wl_or a b = 1 := by
  unfold wl_or
  split
  · split
    · exact Or.inl rfl
    · exact Or.inr rfl
  · exact Or.inr rfl
theorem rf_step_I {i : Nat} {d0 d : Nat → Nat → Int32} {b : Int32} (h : rf_wI d0 d) : rf_wI d0 (rf_step i d b).1 := by
  obtain ⟨h1, h2, q, h5, h6⟩ := h
  unfold rf_step
  split
  · exact ⟨h1, h2, q, h5, h6⟩
  · split
    · exact ⟨h1, h2, q, h5, h6⟩
    · split
      · have g6 : rf_ct d i 0 13 = nI q := by rw [rf_ct_k (by omega)]; exact h6
        dsimp only
        unfold rf_bk
        rw [rf_wtD_eq g6 (by omega)]
        refine ⟨fun k j a0 a1 a2 a3 => ?_, ?_, ?_⟩
        · rw [up2_k a0, rf_wt_k (by omega), rf_ct_k a1]; exact h1 k j a0 a1 a2 a3
        · rw [up2_s]; exact wl_or01 _ _
        · obtain ⟨q', e1, e2⟩ := rf_wt_q (ev := rf_ct d i 9 i) (nu := rf_v d i) g6 h5
          exact ⟨q', e1, by rw [up2_j (by decide)]; exact e2⟩
      · dsimp only
        refine ⟨fun k j a0 a1 a2 a3 => by rw [rf_ct_k a1]; exact h1 k j a0 a1 a2 a3, by rw [rf_ct_k (by omega)]; exact h2, q, h5, by rw [rf_ct_k (by omega)]; exact h6⟩
theorem rf_w_I {q : Nat} {d : Nat → Nat → Int32} (hq : d 0 13 = nI q) (hq6 : q ≤ 64) (i : Nat) : rf_wI d (rf_w d i).1 := by
  induction i with
  | zero =>
    show rf_wI d (up2 d 0 12 0)
    refine ⟨fun k j a0 a1 a2 a3 => by rw [up2_k a0], Or.inl up2_s, q, hq6, by rw [up2_j (by decide)]; exact hq⟩
  | succ i ih => exact rf_step_I ih
/-- the first of the queue is taken out: the others move down, k of them have -/
def rf_sf (g : Nat → Int32) (k : Nat) : Nat → Int32 := fun j => if j < k then g (j + 1) else g j
theorem rf_sf_step (g : Nat → Int32) (k : Nat) : upd (rf_sf g k) k (g (k + 1)) = rf_sf g (k + 1) := by
  funext j
  unfold upd rf_sf
  by_cases e : j = k
  · subst e
    rw [if_pos rfl, if_pos (by omega)]
  · rw [if_neg e]
    by_cases h : j < k
    · rw [if_pos h, if_pos (by omega)]
    · rw [if_neg h, if_neg (by omega)]
theorem rf_sf_0 (g : Nat → Int32) : rf_sf g 0 = g := by
  funext j
  unfold rf_sf
  rw [if_neg (by omega)]
theorem rf_sf_hi {g : Nat → Int32} {k j : Nat} (h : k ≤ j) : rf_sf g k j = g j := by
  unfold rf_sf
  rw [if_neg (by omega)]
def rf_sh (d : Nat → Nat → Int32) (k : Nat) : Nat → Nat → Int32 := va_up (va_up d 11 (rf_sf (d 11) k)) 12 (rf_sf (d 12) k)
theorem rf_sh_0 (d : Nat → Nat → Int32) : rf_sh d 0 = d := by
  funext k
  unfold rf_sh
  rw [rf_sf_0, rf_sf_0]
  unfold va_up
  by_cases e : k = 12
  · rw [if_pos e, e]
  · rw [if_neg e]
    by_cases e2 : k = 11
    · rw [if_pos e2, e2]
    · rw [if_neg e2]
theorem rf_sh_11 {d : Nat → Nat → Int32} {k : Nat} : rf_sh d k 11 = rf_sf (d 11) k := by
  unfold rf_sh
  rw [va_up_ne _ _ (by decide), va_up_self]
theorem rf_sh_12 {d : Nat → Nat → Int32} {k : Nat} : rf_sh d k 12 = rf_sf (d 12) k := by
  unfold rf_sh
  rw [va_up_self]
theorem rf_sh_ne {d : Nat → Nat → Int32} {k a : Nat} (h : a ≠ 11) (h2 : a ≠ 12) : rf_sh d k a = d a := by
  unfold rf_sh
  rw [va_up_ne _ _ h2, va_up_ne _ _ h]
theorem rf_sh_step (d : Nat → Nat → Int32) (k : Nat) : up2 (up2 (rf_sh d k) 11 k (d 11 (k + 1))) 12 k (d 12 (k + 1)) = rf_sh d (k + 1) := by
  funext a
  by_cases e : a = 12
  · subst e
    rw [up2_same, up2_ne (by decide), rf_sh_12, rf_sh_12, rf_sf_step]
  · rw [up2_ne e]
    by_cases e2 : a = 11
    · subst e2
      rw [up2_same, rf_sh_11, rf_sh_11, rf_sf_step]
    · rw [up2_ne e2, rf_sh_ne e2 e, rf_sh_ne e2 e]
/-- an action's bytes: k of them have been copied -/
def rf_cp (d : Nat → Nat → Int32) (j k : Nat) : Nat → Nat → Int32 := va_up d 16 (fun i => if 256 * j ≤ i ∧ i < 256 * j + k then d 17 (i - 256 * j) else d 16 i)
theorem rf_cp_0 (d : Nat → Nat → Int32) (j : Nat) : rf_cp d j 0 = d := by
  funext a
  unfold rf_cp va_up
  by_cases e : a = 16
  · rw [if_pos e]
    funext i
    rw [if_neg (by omega), e]
  · rw [if_neg e]
theorem rf_cp_ne {d : Nat → Nat → Int32} {j k a : Nat} (h : a ≠ 16) : rf_cp d j k a = d a := va_up_ne _ _ h
theorem rf_cp_step (d : Nat → Nat → Int32) (j k : Nat) : up2 (rf_cp d j k) 16 (256 * j + k) (d 17 k) = rf_cp d j (k + 1) := by
  funext a
  by_cases e : a = 16
  · subst e
    rw [up2_same]
    unfold rf_cp
    rw [va_up_self, va_up_self]
    funext i
    unfold upd
    by_cases g : i = 256 * j + k
    · rw [if_pos g, if_pos (by omega), g, Nat.add_sub_cancel_left]
    · rw [if_neg g]
      dsimp only
      by_cases h : 256 * j ≤ i ∧ i < 256 * j + k
      · rw [if_pos h, if_pos (by omega)]
      · rw [if_neg h, if_neg (by omega)]
  · rw [up2_ne e, rf_cp_ne e, rf_cp_ne e]
def rf_ltell (d : Nat → Nat → Int32) (j : Nat) (w : Int32) : Int32 := if w = 0 then (if d 3 j = 0 then 0 else 1) else if w = 1 then d 10 j else if w = 2 then d 5 j else if w = 3 then d 6 j else if w = 4 then d 9 j else if w = 5 then (if d 4 j = 0 then 0 else 1) else -1
theorem rf_ltell_o {d : Nat → Nat → Int32} {k : Nat} {w : Int32} (h : w.toInt < 0 ∨ 5 < w.toInt) : rf_ltell d k w = -1 := by
  have a := wl_out 5 h
  unfold rf_ltell
  rw [if_neg (show ¬ w = 0 from a 0 (by omega) (by omega)), if_neg (show ¬ w = 1 from a 1 (by omega) (by omega)), if_neg (show ¬ w = 2 from a 2 (by omega) (by omega)), if_neg (show ¬ w = 3 from a 3 (by omega) (by omega)), if_neg (show ¬ w = 4 from a 4 (by omega) (by omega)), if_neg (show ¬ w = 5 from a 5 (by omega) (by omega))]
def rf_etell (d : Nat → Nat → Int32) (j : Nat) (w : Int32) : Int32 := if w = 0 then (if d 13 j = 0 then 1 else 0) else if w = 1 then d 14 j else if w = 2 then (if 0 < d 14 j then (if d 15 j = 0 then 0 else 1) else 0) else -1
def rf_count (d : Nat → Nat → Int32) (w : Int32) : Int32 := if w = 0 then nI (rf_cnt (d 2) 256) else if w = 1 then d 0 11 else if w = 2 then d 0 13 else if w = 3 then d 0 16 else if w = 4 then d 0 17 else -1
theorem rf_q64 {x : Int32} {q : Nat} (hq : x = nI q) (h : ¬ x = 64) (h6 : q ≤ 64) : q < 64 := by
  have : ¬ q = 64 := fun z => h (by rw [hq, z]; rfl)
  omega
theorem rf_q64e {x : Int32} {q : Nat} (hq : x = nI q) (h : x = 64) (h6 : q ≤ 64) : q = 64 := (nI_eq (b := 64) (by omega) (by omega)).mp (by rw [← hq]; exact h)
theorem rf_t256 {x : Int32} {q : Nat} (hq : x = nI q) (h : ¬ x = 256) (h6 : q ≤ 256) : q < 256 := by
  have : ¬ q = 256 := fun z => h (by rw [hq, z]; rfl)
  omega
theorem rf_t256e {x : Int32} {q : Nat} (hq : x = nI q) (h : x = 256) (h6 : q ≤ 256) : q = 256 := (nI_eq (b := 256) (by omega) (by omega)).mp (by rw [← hq]; exact h)
section RFB
variable {id pa ti lo hi ev : Int32}
theorem rf_in1 {ti : Int32} : rf_in ti 1 255 = (decide (1 ≤ ti) && decide (ti ≤ 255)) := rfl
theorem rf_bad1 (h : rf_in ti 1 255 = false) : wl_bad id pa ti lo hi ev = true := by
  unfold wl_bad
  rw [rf_in1] at h
  cases h1 : decide (1 ≤ ti) <;> simp_all
theorem rf_bad2 (h : rf_in pa 0 31 = false) : wl_bad id pa ti lo hi ev = true := wl_bad2 (by rw [← rf_in31]; exact h)
theorem rf_bad3 (h : rf_in ev 0 31 = false) : wl_bad id pa ti lo hi ev = true := wl_bad3 (by rw [← rf_in31]; exact h)
theorem rf_bad4 (h : rf_in id 0 255 = false) : wl_bad id pa ti lo hi ev = true := wl_bad1 (by rw [← rf_in255]; exact h)
theorem rf_good (h1 : rf_in ti 1 255 = true) (h2 : ¬ hi < lo) (h3 : rf_in pa 0 31 = true) (h4 : rf_in ev 0 31 = true) (h5 : rf_in id 0 255 = true) : wl_bad id pa ti lo hi ev = false := by
  rw [rf_in31] at h3 h4
  rw [rf_in255] at h5
  rw [rf_in1, Bool.and_eq_true] at h1
  simp [wl_bad, h3, h4, h5, h1.1, h1.2, wl_le_of h2]
end RFB
theorem rf_lt_pos {x : Int32} (h : ¬ x ≤ 0) : 0 < x := wl_lt_of h
theorem rf_v0 : vp_in 0 64 := vp_in_nI (n := 0) (by omega) (by omega)
end
section
variable {l : Launch}
set_option maxHeartbeats 4000000 in
set_option maxRecDepth 100000 in
theorem c_WatchListModel_isIn (X : rf_X) (hX : gw_inj 18 X.2.1) (d : Nat → Nat → Int32) (π : Nat → Nat)  (v : Int32) (a : Int32) (b : Int32)  : Met l yX4_isIn wsX4_isIn ({ frames := 0, cells := 0, slots := 0, locals := 0 }) (rf_pre X [.int v, .int a, .int b] d π) (va_Qi (fun r u => r = wl_i (rf_in v a b) ∧ u = (d, π)) (rf_b X) (gw_A 18 X.2.1)) 0 0 (gw_A 18 X.2.1) := by
  refine Met.ofW (cc := cX4_isIn) (maxL := 3) (ret := (some .boolean)) (by decide) rfl ?_
  intro p e s m args below meth c s₁ B hml hv
  obtain ⟨rfl, hP, hK, hN⟩ := hv
  have hx := B.exec
  have hb := B.bytes
  have hr := B.returns
  have hts : ∀ w ∈ gG, w.before _ s = true := fun w h => atoms_spec (ws := wsX4_isIn) B.pre w (List.mem_cons_of_mem _ h)
  have hown : s.vm.findClass RX4 = some m.cls := findClass_of_methodNamed B.named
  have hlocks := B.notSynchronized
  have hS : va_S (gw_A 18 X.2.1) s.heap s.heap [] := va_S.rf
  have hl := lv_entry ([.int v, .int a, .int b]) (n := 3) (Nat.le_of_ble_eq_true rfl)
  rw [lg_entry_eq]
  generalize (lg_sl ([.int v, .int a, .int b]) ++ List.replicate (3 - (lg_sl ([.int v, .int a, .int b])).length) Slot.unset).toArray = ls at hl ⊢
  have hl : lv_has ls 3 [(0, .int v), (1, .int a), (2, .int b)] := hl
  refine lv_iload_n hx hb dX4_isIn_0 rfl (lv_at hl 0 rfl) ?_
  refine lv_iload_n hx hb dX4_isIn_1 rfl (lv_at hl 1 rfl) ?_
  refine lv_icmp_lt (tgt := 14) hx hb dX4_isIn_2 (by decide) (fun c_1 => ?_) (fun c_1 => ?_)
  · refine lv_iconst (v := 0) hx hb dX4_isIn_14 (by decide) ?_
    refine gw_zret (d, π) hx hb hr hlocks (by decide) (rf_hB hP) hS dX4_isIn_15 ?_
    rw [rf_in_lt c_1]; exact ⟨rfl, rfl⟩
  · refine lv_iload_n hx hb dX4_isIn_5 rfl (lv_at hl 0 rfl) ?_
    refine lv_iload_n hx hb dX4_isIn_6 rfl (lv_at hl 2 rfl) ?_
    refine lv_icmp_gt (tgt := 14) hx hb dX4_isIn_7 (by decide) (fun c_2 => ?_) (fun c_2 => ?_)
    · refine lv_iconst (v := 0) hx hb dX4_isIn_14 (by decide) ?_
      refine gw_zret (d, π) hx hb hr hlocks (by decide) (rf_hB hP) hS dX4_isIn_15 ?_
      rw [rf_in_gt c_2]; exact ⟨rfl, rfl⟩
    · refine lv_iconst (v := 1) hx hb dX4_isIn_10 (by decide) ?_
      refine lv_goto (tgt := 15) hx hb dX4_isIn_11 (by decide) ?_
      refine gw_zret (d, π) hx hb hr hlocks (by decide) (rf_hB hP) hS dX4_isIn_15 ?_
      rw [rf_in_t c_1 c_2]; exact ⟨rfl, rfl⟩
set_option maxHeartbeats 4000000 in
set_option maxRecDepth 100000 in
theorem c_WatchListModel_isEvent (X : rf_X) (hX : gw_inj 18 X.2.1) (d : Nat → Nat → Int32) (π : Nat → Nat)  (ev : Int32)  : Met l yX4_isEvent wsX4_isEvent ({ frames := 1, cells := 0, slots := 0, locals := 22 }) (rf_pre X [.int ev] d π) (va_Qi (fun r u => r = wl_i (wl_ok ev 32) ∧ u = (d, π)) (rf_b X) (gw_A 18 X.2.1)) 0 0 (gw_A 18 X.2.1) := by
  refine Met.ofW (cc := cX4_isEvent) (maxL := 1) (ret := (some .boolean)) (by decide) rfl ?_
  intro p e s m args below meth c s₁ B hml hv
  obtain ⟨rfl, hP, hK, hN⟩ := hv
  have hx := B.exec
  have hb := B.bytes
  have hr := B.returns
  have hts : ∀ w ∈ gG, w.before _ s = true := fun w h => atoms_spec (ws := wsX4_isEvent) B.pre w (List.mem_cons_of_mem _ h)
  have hown : s.vm.findClass RX4 = some m.cls := findClass_of_methodNamed B.named
  have hlocks := B.notSynchronized
  have hS : va_S (gw_A 18 X.2.1) s.heap s.heap [] := va_S.rf
  have hl := lv_entry ([.int ev]) (n := 1) (Nat.le_of_ble_eq_true rfl)
  rw [lg_entry_eq]
  generalize (lg_sl ([.int ev]) ++ List.replicate (1 - (lg_sl ([.int ev])).length) Slot.unset).toArray = ls at hl ⊢
  have hl : lv_has ls 1 [(0, .int ev)] := hl
  refine lv_iload_n hx hb dX4_isEvent_0 rfl (lv_at hl 0 rfl) ?_
  refine lv_iconst (v := 0) hx hb dX4_isEvent_1 (by decide) ?_
  refine lv_bipush (v := 31) hx hb dX4_isEvent_2 (by decide) ?_
  refine gw_calli (va_runS (As := [.int ev, .int 0, .int 31]) (rest := []) ⟨hx, hb, hml, hown, hts⟩ (c_WatchListModel_isIn X hX d π ev 0 31 ) ⟨callB_of 3 hts giX4_isIn rfl rfl rfl (hts _ mG_26) (hts _ mG_248) pdX4_isIn ⟨Nat.le_of_ble_eq_true rfl, Nat.le_of_ble_eq_true rfl⟩, hts _ mG_249⟩ ⟨rf_blind, rf_at hP hK hN⟩ rfl rfl hl.1 rfl (lv_room (Nat.le_of_ble_eq_true rfl)) dX4_isEvent_4 ⟨Nat.le_of_ble_eq_true rfl, Nat.le_of_ble_eq_true rfl⟩) hS (fun r_1 u_1 t_1 locs hw hP hS => ?_)
  obtain ⟨rfl, rfl⟩ := hw
  have hP : va_P X.1 vwCl (rf_ws X d π) t_1.heap := hP
  refine gw_zret (d, π) hx hb hr hlocks (wl_i01 _) (rf_hB hP) hS dX4_isEvent_7 ?_
  exact ⟨by rw [rf_in31], rfl⟩
set_option maxHeartbeats 4000000 in
set_option maxRecDepth 100000 in
theorem c_WatchListModel_isThere (X : rf_X) (hX : gw_inj 18 X.2.1) (d : Nat → Nat → Int32) (π : Nat → Nat)  (id : Int32)  : Met l yX4_isThere wsX4_isThere ({ frames := 0, cells := 0, slots := 0, locals := 0 }) (rf_pre X [.ref (X.2.1 0), .int id] d π) (va_Qi (fun r u => r = wl_i (rf_th d id) ∧ u = (d, π)) (rf_b X) (gw_A 18 X.2.1)) 0 0 (gw_A 18 X.2.1) := by
  refine Met.ofW (cc := cX4_isThere) (maxL := 2) (ret := (some .boolean)) (by decide) rfl ?_
  intro p e s m args below meth c s₁ B hml hv
  obtain ⟨rfl, hP, hK, hN⟩ := hv
  have hx := B.exec
  have hb := B.bytes
  have hr := B.returns
  have hts : ∀ w ∈ gG, w.before _ s = true := fun w h => atoms_spec (ws := wsX4_isThere) B.pre w (List.mem_cons_of_mem _ h)
  have hown : s.vm.findClass RX4 = some m.cls := findClass_of_methodNamed B.named
  have hlocks := B.notSynchronized
  have hS : va_S (gw_A 18 X.2.1) s.heap s.heap [] := va_S.rf
  have hl := lv_entry ([.ref (X.2.1 0), .int id]) (n := 2) (Nat.le_of_ble_eq_true rfl)
  rw [lg_entry_eq]
  generalize (lg_sl ([.ref (X.2.1 0), .int id]) ++ List.replicate (2 - (lg_sl ([.ref (X.2.1 0), .int id])).length) Slot.unset).toArray = ls at hl ⊢
  have hl : lv_has ls 2 [(0, .ref (X.2.1 0)), (1, .int id)] := hl
  refine lv_iload_n hx hb dX4_isThere_0 rfl (lv_at hl 1 rfl) ?_
  refine lv_if_lt (tgt := 24) hx hb dX4_isThere_1 (by decide) (fun c_1 => ?_) (fun c_1 => ?_)
  · refine lv_iconst (v := 0) hx hb dX4_isThere_24 (by decide) ?_
    refine gw_zret (d, π) hx hb hr hlocks (by decide) (rf_hB hP) hS dX4_isThere_25 ?_
    rw [rf_th0 (wl_ok_lt c_1)]; exact ⟨rfl, rfl⟩
  · refine lv_iload_n hx hb dX4_isThere_4 rfl (lv_at hl 1 rfl) ?_
    refine lv_sipush (v := 256) hx hb dX4_isThere_5 (by decide) ?_
    refine lv_icmp_ge (tgt := 24) hx hb dX4_isThere_8 (by decide) (fun c_2 => ?_) (fun c_2 => ?_)
    · refine lv_iconst (v := 0) hx hb dX4_isThere_24 (by decide) ?_
      refine gw_zret (d, π) hx hb hr hlocks (by decide) (rf_hB hP) hS dX4_isThere_25 ?_
      rw [rf_th0 (wl_ok_ge c_2)]; exact ⟨rfl, rfl⟩
    · refine lv_aload_n hx hb dX4_isThere_11 rfl (lv_at hl 0 rfl) ?_
      refine gw_get hx hb hts inX4 hown hK hP 0 (by decide) rf_c0 rfl 2 (by decide) (hts _ mG_217) (fun _ h9 => h9) (v := .ref (X.2.1 2)) rfl dX4_isThere_12 ?_
      refine lv_iload_n hx hb dX4_isThere_15 rfl (lv_at hl 1 rfl) ?_
      refine gw_zald hx hb hK hP 2 1 (by decide) rf_c2 rfl (i := id) (rf_ok256c (wl_ok_t c_1 c_2)).1 dX4_isThere_16 ?_
      refine lv_if_eq (tgt := 24) hx hb dX4_isThere_17 (by decide) (fun c_3 => ?_) (fun c_3 => ?_)
      · refine lv_iconst (v := 0) hx hb dX4_isThere_24 (by decide) ?_
        refine gw_zret (d, π) hx hb hr hlocks (by decide) (rf_hB hP) hS dX4_isThere_25 ?_
        rw [rf_th1 c_3]; exact ⟨rfl, rfl⟩
      · refine lv_iconst (v := 1) hx hb dX4_isThere_20 (by decide) ?_
        refine lv_goto (tgt := 25) hx hb dX4_isThere_21 (by decide) ?_
        refine gw_zret (d, π) hx hb hr hlocks (by decide) (rf_hB hP) hS dX4_isThere_25 ?_
        rw [rf_th2 (wl_ok_t c_1 c_2) c_3]; exact ⟨rfl, rfl⟩
set_option maxHeartbeats 4000000 in
set_option maxRecDepth 100000 in
theorem c_WatchListModel_limits (X : rf_X) (hX : gw_inj 18 X.2.1) (d : Nat → Nat → Int32) (π : Nat → Nat)    : Met l yX4_limits wsX4_limits ({ frames := 0, cells := 0, slots := 0, locals := 0 }) (rf_pre X [.ref (X.2.1 0)] d π) (va_Qi (fun r u => r = nI (rf_cnt (d 2) 256) ∧ u = (d, π)) (rf_b X) (gw_A 18 X.2.1)) 0 0 (gw_A 18 X.2.1) := by
  refine Met.ofW (cc := cX4_limits) (maxL := 3) (ret := (some .int)) (by decide) rfl ?_
  intro p e s m args below meth c s₁ B hml hv
  obtain ⟨rfl, hP, hK, hN⟩ := hv
  have hx := B.exec
  have hb := B.bytes
  have hr := B.returns
  have hts : ∀ w ∈ gG, w.before _ s = true := fun w h => atoms_spec (ws := wsX4_limits) B.pre w (List.mem_cons_of_mem _ h)
  have hown : s.vm.findClass RX4 = some m.cls := findClass_of_methodNamed B.named
  have hlocks := B.notSynchronized
  have hS : va_S (gw_A 18 X.2.1) s.heap s.heap [] := va_S.rf
  have hl := lv_entry ([.ref (X.2.1 0)]) (n := 3) (Nat.le_of_ble_eq_true rfl)
  rw [lg_entry_eq]
  generalize (lg_sl ([.ref (X.2.1 0)]) ++ List.replicate (3 - (lg_sl ([.ref (X.2.1 0)])).length) Slot.unset).toArray = ls at hl ⊢
  have hl : lv_has ls 3 [(0, .ref (X.2.1 0))] := hl
  refine lv_iconst (v := 0) hx hb dX4_limits_0 (by decide) ?_
  refine lv_istore_n (lv' := [(1, .int 0), (0, .ref (X.2.1 0))]) hx hb dX4_limits_1 rfl hl (by decide) rfl (fun ls hl => ?_)
  refine lv_iconst (v := 0) hx hb dX4_limits_2 (by decide) ?_
  refine lv_istore_n (lv' := [(2, .int 0), (1, .int 0), (0, .ref (X.2.1 0))]) hx hb dX4_limits_3 rfl hl (by decide) rfl (fun ls hl => ?_)
  obtain ⟨i, hi⟩ : ∃ i : Nat, i = 0 := ⟨0, rfl⟩
  have hi1 : i ≤ 256 := by omega
  replace hl : lv_has ls 3 [(2, .int (nI i)), (1, .int (nI (rf_cnt (d 2) i))), (0, .ref (X.2.1 0))] := by rw [hi]; exact hl
  obtain ⟨g, hg⟩ : ∃ g : Nat, 256 < i + g := ⟨257, by omega⟩
  clear hi
  induction g generalizing i ls with
  | zero => exact absurd hg (by omega)
  | succ g ih =>
    refine lv_iload_n hx hb dX4_limits_4 rfl (lv_at hl 0 rfl) ?_
    refine lv_sipush (v := 256) hx hb dX4_limits_5 (by decide) ?_
    refine lv_icmp_ge (tgt := 34) hx hb dX4_limits_8 (by decide) (fun c_1 => ?_) (fun c_1 => ?_)
    · have hex : 256 ≤ i := (nI_leI (a := 256) (by omega) (by omega)).mp c_1
      refine lv_iload_n hx hb dX4_limits_34 rfl (lv_at hl 1 rfl) ?_
      refine gw_iret (d, π) hx hb hr hlocks (rf_hB hP) hS dX4_limits_35 ?_
      rw [show i = 256 by omega]; exact ⟨rfl, rfl⟩
    · have hlt : i < 256 := Nat.lt_of_not_le (fun z => c_1 (nI_le z (by omega)))
      refine lv_iload_n hx hb dX4_limits_11 rfl (lv_at hl 1 rfl) ?_
      refine lv_aload_n hx hb dX4_limits_12 rfl (lv_at hl 2 rfl) ?_
      refine gw_get hx hb hts inX4 hown hK hP 0 (by decide) rf_c0 rfl 2 (by decide) (hts _ mG_217) (fun _ h9 => h9) (v := .ref (X.2.1 2)) rfl dX4_limits_13 ?_
      refine lv_iload_n hx hb dX4_limits_16 rfl (lv_at hl 0 rfl) ?_
      refine gw_zald hx hb hK hP 2 1 (by decide) rf_c2 rfl (i := nI i) (vp_in_nI hlt (by omega)) dX4_limits_17 ?_
      refine W.eq (g2 := F0 m 18 ls (.int (d 2 i) :: .int (nI (rf_cnt (d 2) i)) :: [])) (by rw [nI_clamp (show i < 2 ^ 31 by omega)]) ?_
      refine lv_if_eq (tgt := 25) hx hb dX4_limits_18 (by decide) (fun c_2 => ?_) (fun c_2 => ?_)
      · have e9 : rf_cnt (d 2) (i + 1) = rf_cnt (d 2) i + 0 := by show rf_cnt (d 2) i + _ = _; rw [if_pos c_2]
        refine lv_iconst (v := 0) hx hb dX4_limits_25 (by decide) ?_
        refine lv_iadd hx hb dX4_limits_26 ?_
        refine W.eq (g2 := F0 m 27 ls (.int (nI (rf_cnt (d 2) i + 0)) :: [])) (by rw [show nI (rf_cnt (d 2) i) + 0 = nI (rf_cnt (d 2) i + 0) from nI_add _ 0]) ?_
        refine lv_istore_n (lv' := [(1, .int (nI (rf_cnt (d 2) i + 0))), (2, .int (nI i)), (0, .ref (X.2.1 0))]) hx hb dX4_limits_27 rfl hl (by decide) rfl (fun ls hl => ?_)
        refine lv_iinc (v := nI (i + 1)) (lv' := [(2, .int (nI (i + 1))), (1, .int (nI (rf_cnt (d 2) i + 0))), (0, .ref (X.2.1 0))]) hx hb dX4_limits_28 hl (k := 1) rfl (nI_1 i) (by decide) rfl (fun ls hl => ?_)
        refine lv_goto (tgt := 4) hx hb dX4_limits_31 (by decide) ?_
        exact ih (i := i + 1) (ls := ls) (hi1 := by omega) (hl := by rw [e9]; exact lv_sub hl [0, 1, 2] rfl) (hg := by omega)
      · have e9 : rf_cnt (d 2) (i + 1) = rf_cnt (d 2) i + 1 := by show rf_cnt (d 2) i + _ = _; rw [if_neg c_2]
        refine lv_iconst (v := 1) hx hb dX4_limits_21 (by decide) ?_
        refine lv_goto (tgt := 26) hx hb dX4_limits_22 (by decide) ?_
        refine lv_iadd hx hb dX4_limits_26 ?_
        refine W.eq (g2 := F0 m 27 ls (.int (nI (rf_cnt (d 2) i + 1)) :: [])) (by rw [nI_1]) ?_
        refine lv_istore_n (lv' := [(1, .int (nI (rf_cnt (d 2) i + 1))), (2, .int (nI i)), (0, .ref (X.2.1 0))]) hx hb dX4_limits_27 rfl hl (by decide) rfl (fun ls hl => ?_)
        refine lv_iinc (v := nI (i + 1)) (lv' := [(2, .int (nI (i + 1))), (1, .int (nI (rf_cnt (d 2) i + 1))), (0, .ref (X.2.1 0))]) hx hb dX4_limits_28 hl (k := 1) rfl (nI_1 i) (by decide) rfl (fun ls hl => ?_)
        refine lv_goto (tgt := 4) hx hb dX4_limits_31 (by decide) ?_
        exact ih (i := i + 1) (ls := ls) (hi1 := by omega) (hl := by rw [e9]; exact lv_sub hl [0, 1, 2] rfl) (hg := by omega)
set_option maxHeartbeats 4000000 in
set_option maxRecDepth 100000 in
theorem c_WatchListModel_waits (X : rf_X) (hX : gw_inj 18 X.2.1) (d : Nat → Nat → Int32) (π : Nat → Nat)  (ev : Int32) (nu : Int32) (q : Nat) (hq : d 0 13 = nI q) (hq6 : q ≤ 64) : Met l yX4_waits wsX4_waits ({ frames := 0, cells := 0, slots := 0, locals := 0 }) (rf_pre X [.ref (X.2.1 0), .int ev, .int nu] d π) (va_Qi (fun r u => r = wl_i (decide (q < 64)) ∧ u = (rf_wt d q ev nu, π)) (rf_b X) (gw_A 18 X.2.1)) 0 0 (gw_A 18 X.2.1) := by
  refine Met.ofW (cc := cX4_waits) (maxL := 3) (ret := (some .boolean)) (by decide) rfl ?_
  intro p e s m args below meth c s₁ B hml hv
  obtain ⟨rfl, hP, hK, hN⟩ := hv
  have hx := B.exec
  have hb := B.bytes
  have hr := B.returns
  have hts : ∀ w ∈ gG, w.before _ s = true := fun w h => atoms_spec (ws := wsX4_waits) B.pre w (List.mem_cons_of_mem _ h)
  have hown : s.vm.findClass RX4 = some m.cls := findClass_of_methodNamed B.named
  have hlocks := B.notSynchronized
  have hS : va_S (gw_A 18 X.2.1) s.heap s.heap [] := va_S.rf
  have hl := lv_entry ([.ref (X.2.1 0), .int ev, .int nu]) (n := 3) (Nat.le_of_ble_eq_true rfl)
  rw [lg_entry_eq]
  generalize (lg_sl ([.ref (X.2.1 0), .int ev, .int nu]) ++ List.replicate (3 - (lg_sl ([.ref (X.2.1 0), .int ev, .int nu])).length) Slot.unset).toArray = ls at hl ⊢
  have hl : lv_has ls 3 [(0, .ref (X.2.1 0)), (1, .int ev), (2, .int nu)] := hl
  refine lv_aload_n hx hb dX4_waits_0 rfl (lv_at hl 0 rfl) ?_
  refine gw_get hx hb hts inX4 hown hK hP 0 (by decide) rf_c0 rfl 13 (by decide) (hts _ mG_228) (fun _ h9 => h9) (v := .int (d 0 13)) rfl dX4_waits_1 ?_
  refine lv_bipush (v := 64) hx hb dX4_waits_4 (by decide) ?_
  refine lv_icmp_ne (tgt := 21) hx hb dX4_waits_6 (by decide) (fun c_1 => ?_) (fun c_1 => ?_)
  · have e9 := rf_q64 hq c_1 hq6
    refine lv_aload_n hx hb dX4_waits_21 rfl (lv_at hl 0 rfl) ?_
    refine gw_get hx hb hts inX4 hown hK hP 0 (by decide) rf_c0 rfl 14 (by decide) (hts _ mG_229) (fun _ h9 => h9) (v := .ref (X.2.1 11)) rfl dX4_waits_22 ?_
    refine lv_aload_n hx hb dX4_waits_25 rfl (lv_at hl 0 rfl) ?_
    refine gw_get hx hb hts inX4 hown hK hP 0 (by decide) rf_c0 rfl 13 (by decide) (hts _ mG_228) (fun _ h9 => h9) (v := .int (d 0 13)) rfl dX4_waits_26 ?_
    refine lv_iload_n hx hb dX4_waits_29 rfl (lv_at hl 1 rfl) ?_
    refine gw_iast hx hb hK hP hX hS 11 0 (by decide) rf_c11 rfl (i := d 0 13) (x := ev) (by rw [hq]; exact vp_in_nI e9 (by omega)) (cf' := rf_c X (up2 d 11 (d 0 13).toNatClampNeg ev) π) rfl rf_o dX4_waits_30 (fun H locs hP hS => ?_)
    refine lv_aload_n hx hb dX4_waits_31 rfl (lv_at hl 0 rfl) ?_
    refine gw_get hx hb hts inX4 hown hK hP 0 (by decide) rf_c0 rfl 15 (by decide) (hts _ mG_230) (fun _ h9 => h9) (v := .ref (X.2.1 12)) rfl dX4_waits_32 ?_
    refine lv_aload_n hx hb dX4_waits_35 rfl (lv_at hl 0 rfl) ?_
    refine gw_get hx hb hts inX4 hown hK hP 0 (by decide) rf_c0 rfl 13 (by decide) (hts _ mG_228) (fun _ h9 => h9) (v := .int (d 0 13)) rfl dX4_waits_36 ?_
    refine lv_iload_n hx hb dX4_waits_39 rfl (lv_at hl 2 rfl) ?_
    refine gw_iast hx hb hK hP hX hS 12 0 (by decide) rf_c12 rfl (i := d 0 13) (x := nu) (by rw [hq]; exact vp_in_nI e9 (by omega)) (cf' := rf_c X (up2 (up2 d 11 (d 0 13).toNatClampNeg ev) 12 (d 0 13).toNatClampNeg nu) π) rfl rf_o dX4_waits_40 (fun H locs hP hS => ?_)
    refine lv_aload_n hx hb dX4_waits_41 rfl (lv_at hl 0 rfl) ?_
    refine lv_dup hx hb dX4_waits_42 rfl ?_
    refine gw_get hx hb hts inX4 hown hK hP 0 (by decide) rf_c0 rfl 13 (by decide) (hts _ mG_228) (fun _ h9 => h9) (v := .int (d 0 13)) rfl dX4_waits_43 ?_
    refine lv_iconst (v := 1) hx hb dX4_waits_46 (by decide) ?_
    refine lv_iadd hx hb dX4_waits_47 ?_
    refine gw_put hx hb hts inX4 tyX4 okX4 nmX4 hown hK hP hX hS 0 (by decide) rf_c0 rfl 13 (by decide) (hts _ mG_228) (fun _ h9 => h9) rfl (ty := .int) (v := .int ((d 0 13) + 1)) (by decide +kernel) rfl rfl (Nat.le_of_ble_eq_true rfl) (cf' := rf_c X (up2 (up2 (up2 d 11 (d 0 13).toNatClampNeg ev) 12 (d 0 13).toNatClampNeg nu) 0 13 ((d 0 13) + 1)) π) rfl rf_o dX4_waits_48 (fun H locs hP hS => ?_)
    refine lv_iconst (v := 1) hx hb dX4_waits_51 (by decide) ?_
    refine gw_zret (up2 (up2 (up2 d 11 (d 0 13).toNatClampNeg ev) 12 (d 0 13).toNatClampNeg nu) 0 13 ((d 0 13) + 1), π) hx hb hr hlocks (by decide) (rf_hB hP) hS dX4_waits_52 ?_
    unfold rf_wt
    rw [if_pos e9, hq, nI_clamp (by omega), nI_1, decide_eq_true e9]; exact ⟨rfl, rfl⟩
  · have e9 := rf_q64e hq c_1 hq6
    refine lv_aload_n hx hb dX4_waits_9 rfl (lv_at hl 0 rfl) ?_
    refine lv_dup hx hb dX4_waits_10 rfl ?_
    refine gw_get hx hb hts inX4 hown hK hP 0 (by decide) rf_c0 rfl 16 (by decide) (hts _ mG_231) (fun _ h9 => h9) (v := .int (d 0 16)) rfl dX4_waits_11 ?_
    refine lv_iconst (v := 1) hx hb dX4_waits_14 (by decide) ?_
    refine lv_iadd hx hb dX4_waits_15 ?_
    refine gw_put hx hb hts inX4 tyX4 okX4 nmX4 hown hK hP hX hS 0 (by decide) rf_c0 rfl 16 (by decide) (hts _ mG_231) (fun _ h9 => h9) rfl (ty := .int) (v := .int ((d 0 16) + 1)) (by decide +kernel) rfl rfl (Nat.le_of_ble_eq_true rfl) (cf' := rf_c X (up2 d 0 16 ((d 0 16) + 1)) π) rfl rf_o dX4_waits_16 (fun H locs hP hS => ?_)
    refine lv_iconst (v := 0) hx hb dX4_waits_19 (by decide) ?_
    refine gw_zret (up2 d 0 16 ((d 0 16) + 1), π) hx hb hr hlocks (by decide) (rf_hB hP) hS dX4_waits_20 ?_
    unfold rf_wt
    rw [if_neg (by omega), decide_eq_false (by omega)]; exact ⟨rfl, rfl⟩
end
section
variable {l : Launch}
set_option maxHeartbeats 4000000 in
set_option maxRecDepth 100000 in
theorem c_WatchListModel_set (X : rf_X) (hX : gw_inj 18 X.2.1) (d : Nat → Nat → Int32) (π : Nat → Nat)  (k : Int32) (v : Int32)  : Met l yX4_set wsX4_set ({ frames := 0, cells := 0, slots := 0, locals := 0 }) (rf_pre X [.ref (X.2.1 0), .int k, .int v] d π) (va_Qi (fun r u => r = wl_i (wl_ok k 32) ∧ u = (if wl_ok k 32 = true then up2 (rf_T d) 1 k.toNatClampNeg v else rf_T d, π)) (rf_b X) (gw_A 18 X.2.1)) 0 0 (gw_A 18 X.2.1) := by
  refine Met.ofW (cc := cX4_set) (maxL := 3) (ret := (some .boolean)) (by decide) rfl ?_
  intro p e s m args below meth c s₁ B hml hv
  obtain ⟨rfl, hP, hK, hN⟩ := hv
  have hx := B.exec
  have hb := B.bytes
  have hr := B.returns
  have hts : ∀ w ∈ gG, w.before _ s = true := fun w h => atoms_spec (ws := wsX4_set) B.pre w (List.mem_cons_of_mem _ h)
  have hown : s.vm.findClass RX4 = some m.cls := findClass_of_methodNamed B.named
  have hlocks := B.notSynchronized
  have hS : va_S (gw_A 18 X.2.1) s.heap s.heap [] := va_S.rf
  have hl := lv_entry ([.ref (X.2.1 0), .int k, .int v]) (n := 3) (Nat.le_of_ble_eq_true rfl)
  rw [lg_entry_eq]
  generalize (lg_sl ([.ref (X.2.1 0), .int k, .int v]) ++ List.replicate (3 - (lg_sl ([.ref (X.2.1 0), .int k, .int v])).length) Slot.unset).toArray = ls at hl ⊢
  have hl : lv_has ls 3 [(0, .ref (X.2.1 0)), (1, .int k), (2, .int v)] := hl
  refine lv_aload_n hx hb dX4_set_0 rfl (lv_at hl 0 rfl) ?_
  refine lv_iconst (v := 0) hx hb dX4_set_1 (by decide) ?_
  refine gw_put hx hb hts inX4 tyX4 okX4 nmX4 hown hK hP hX hS 0 (by decide) rf_c0 rfl 0 (by decide) (hts _ mG_215) (fun _ h9 => h9) rfl (ty := .int) (v := .int 0) (by decide +kernel) rfl rfl (Nat.le_of_ble_eq_true rfl) (cf' := rf_c X (up2 d 0 0 0) π) rfl rf_o dX4_set_2 (fun H locs hP hS => ?_)
  have hP : va_P X.1 vwCl (rf_ws X (rf_T d) π) H := hP
  refine lv_iload_n hx hb dX4_set_5 rfl (lv_at hl 1 rfl) ?_
  refine lv_if_lt (tgt := 15) hx hb dX4_set_6 (by decide) (fun c_1 => ?_) (fun c_1 => ?_)
  · refine lv_iconst (v := 0) hx hb dX4_set_15 (by decide) ?_
    refine gw_zret (rf_T d, π) hx hb hr hlocks (by decide) (rf_hB hP) hS dX4_set_16 ?_
    have ok_1 : wl_ok k 32 = false := wl_ok_lt c_1
    constructor <;> (try simp only [ok_1, Bool.false_eq_true, if_false]) <;> (try rfl)
  · refine lv_iload_n hx hb dX4_set_9 rfl (lv_at hl 1 rfl) ?_
    refine lv_bipush (v := 31) hx hb dX4_set_10 (by decide) ?_
    refine lv_icmp_le (tgt := 17) hx hb dX4_set_12 (by decide) (fun c_2 => ?_) (fun c_2 => ?_)
    · have ok_1 : wl_ok k 32 = true := by rw [← rf_in31]; exact rf_in_t c_1 (wl_nlt_of c_2)
      have hj := wl_ok32c ok_1
      refine lv_aload_n hx hb dX4_set_17 rfl (lv_at hl 0 rfl) ?_
      refine gw_get hx hb hts inX4 hown hK hP 0 (by decide) rf_c0 rfl 1 (by decide) (hts _ mG_216) (fun _ h9 => h9) (v := .ref (X.2.1 1)) rfl dX4_set_18 ?_
      refine lv_iload_n hx hb dX4_set_21 rfl (lv_at hl 1 rfl) ?_
      refine lv_iload_n hx hb dX4_set_22 rfl (lv_at hl 2 rfl) ?_
      refine gw_iast hx hb hK hP hX hS 1 0 (by decide) rf_c1 rfl (i := k) (x := v) hj.1 (cf' := rf_c X (up2 (rf_T d) 1 k.toNatClampNeg v) π) rfl rf_o dX4_set_23 (fun H locs hP hS => ?_)
      refine lv_iconst (v := 1) hx hb dX4_set_24 (by decide) ?_
      refine gw_zret (up2 (rf_T d) 1 k.toNatClampNeg v, π) hx hb hr hlocks (by decide) (rf_hB hP) hS dX4_set_25 ?_
      constructor <;> (try simp only [ok_1, if_true]) <;> (try rfl)
    · have ok_1 : wl_ok k 32 = false := by rw [← rf_in31]; exact rf_in_gt (wl_lt_of c_2)
      refine lv_iconst (v := 0) hx hb dX4_set_15 (by decide) ?_
      refine gw_zret (rf_T d, π) hx hb hr hlocks (by decide) (rf_hB hP) hS dX4_set_16 ?_
      constructor <;> (try simp only [ok_1, Bool.false_eq_true, if_false]) <;> (try rfl)
set_option maxHeartbeats 4000000 in
set_option maxRecDepth 100000 in
theorem c_WatchListModel_add (X : rf_X) (hX : gw_inj 18 X.2.1) (d : Nat → Nat → Int32) (π : Nat → Nat)  (id : Int32) (pa : Int32) (ti : Int32) (lo : Int32) (hi2 : Int32) (ev : Int32) (lk : Int32) (hz : lk = 0 ∨ lk = 1) : Met l yX4_add wsX4_add ({ frames := 1, cells := 0, slots := 0, locals := 22 }) (rf_pre X [.ref (X.2.1 0), .int id, .int pa, .int ti, .int lo, .int hi2, .int ev, .int lk] d π) (va_Qi (fun r u => (r = 13 ∧ u = (rf_T d, π) ∧ wl_bad id pa ti lo hi2 ev = true) ∨ (wl_bad id pa ti lo hi2 ev = false ∧ ((r = 25 ∧ u = (rf_T d, π) ∧ ¬ rf_T d 2 id.toNatClampNeg = 0) ∨ (rf_T d 2 id.toNatClampNeg = 0 ∧ ((r = 26 ∧ u = (rf_T d, π) ∧ rf_cnt (rf_T d 2) 256 = 16) ∨ (r = 0 ∧ ¬ rf_cnt (rf_T d 2) 256 = 16 ∧ u = (rf_add (rf_T d) id.toNatClampNeg pa ti lo hi2 ev lk, π))))))) (rf_b X) (gw_A 18 X.2.1)) 0 0 (gw_A 18 X.2.1) := by
  refine Met.ofW (cc := cX4_add) (maxL := 8) (ret := (some .int)) (by decide) rfl ?_
  intro p e s m args below meth c s₁ B hml hv
  obtain ⟨rfl, hP, hK, hN⟩ := hv
  have hx := B.exec
  have hb := B.bytes
  have hr := B.returns
  have hts : ∀ w ∈ gG, w.before _ s = true := fun w h => atoms_spec (ws := wsX4_add) B.pre w (List.mem_cons_of_mem _ h)
  have hown : s.vm.findClass RX4 = some m.cls := findClass_of_methodNamed B.named
  have hlocks := B.notSynchronized
  have hS : va_S (gw_A 18 X.2.1) s.heap s.heap [] := va_S.rf
  have hl := lv_entry ([.ref (X.2.1 0), .int id, .int pa, .int ti, .int lo, .int hi2, .int ev, .int lk]) (n := 8) (Nat.le_of_ble_eq_true rfl)
  rw [lg_entry_eq]
  generalize (lg_sl ([.ref (X.2.1 0), .int id, .int pa, .int ti, .int lo, .int hi2, .int ev, .int lk]) ++ List.replicate (8 - (lg_sl ([.ref (X.2.1 0), .int id, .int pa, .int ti, .int lo, .int hi2, .int ev, .int lk])).length) Slot.unset).toArray = ls at hl ⊢
  have hl : lv_has ls 8 [(0, .ref (X.2.1 0)), (1, .int id), (2, .int pa), (3, .int ti), (4, .int lo), (5, .int hi2), (6, .int ev), (7, .int lk)] := hl
  refine lv_aload_n hx hb dX4_add_0 rfl (lv_at hl 0 rfl) ?_
  refine lv_iconst (v := 0) hx hb dX4_add_1 (by decide) ?_
  refine gw_put hx hb hts inX4 tyX4 okX4 nmX4 hown hK hP hX hS 0 (by decide) rf_c0 rfl 0 (by decide) (hts _ mG_215) (fun _ h9 => h9) rfl (ty := .int) (v := .int 0) (by decide +kernel) rfl rfl (Nat.le_of_ble_eq_true rfl) (cf' := rf_c X (up2 d 0 0 0) π) rfl rf_o dX4_add_2 (fun H locs hP hS => ?_)
  have hP : va_P X.1 vwCl (rf_ws X (rf_T d) π) H := hP
  refine lv_iload_n hx hb dX4_add_5 rfl (lv_at hl 3 rfl) ?_
  refine lv_iconst (v := 1) hx hb dX4_add_6 (by decide) ?_
  refine lv_sipush (v := 255) hx hb dX4_add_7 (by decide) ?_
  refine gw_calli (va_runS (As := [.int ti, .int 1, .int 255]) (rest := []) ⟨hx, hb, hml, hown, hts⟩ (c_WatchListModel_isIn X hX (rf_T d) π ti 1 255 ) ⟨callB_of 3 hts giX4_isIn rfl rfl rfl (hts _ mG_26) (hts _ mG_248) pdX4_isIn ⟨Nat.le_of_ble_eq_true rfl, Nat.le_of_ble_eq_true rfl⟩, hts _ mG_249⟩ ⟨rf_blind, rf_at hP hK hN⟩ rfl rfl hl.1 rfl (lv_room (Nat.le_of_ble_eq_true rfl)) dX4_add_10 ⟨Nat.le_of_ble_eq_true rfl, Nat.le_of_ble_eq_true rfl⟩) hS (fun r_1 u_1 t_1 locs hw hP hS => ?_)
  obtain ⟨rfl, rfl⟩ := hw
  have hP : va_P X.1 vwCl (rf_ws X (rf_T d) π) t_1.heap := hP
  refine lv_if_eq (tgt := 55) hx hb dX4_add_13 (by decide) (fun c_2 => ?_) (fun c_2 => ?_)
  · have k_1 := wl_if c_2
    refine lv_bipush (v := 13) hx hb dX4_add_55 (by decide) ?_
    refine gw_iret (rf_T d, π) hx hb hr hlocks (rf_hB hP) hS dX4_add_57 ?_
    exact Or.inl ⟨rfl, rfl, rf_bad1 k_1⟩
  · have k_1 := wl_it c_2
    refine lv_iload hx hb dX4_add_16 (lv_at hl 4 rfl) ?_
    refine lv_iload hx hb dX4_add_18 (lv_at hl 5 rfl) ?_
    refine lv_icmp_gt (tgt := 55) hx hb dX4_add_20 (by decide) (fun c_3 => ?_) (fun c_3 => ?_)
    · have k_2 := c_3
      refine lv_bipush (v := 13) hx hb dX4_add_55 (by decide) ?_
      refine gw_iret (rf_T d, π) hx hb hr hlocks (rf_hB hP) hS dX4_add_57 ?_
      exact Or.inl ⟨rfl, rfl, wl_bad6 (wl_nle_of k_2)⟩
    · have k_2 := c_3
      refine lv_iload_n hx hb dX4_add_23 rfl (lv_at hl 2 rfl) ?_
      refine lv_iconst (v := 0) hx hb dX4_add_24 (by decide) ?_
      refine lv_bipush (v := 31) hx hb dX4_add_25 (by decide) ?_
      refine gw_calli (va_runS (As := [.int pa, .int 0, .int 31]) (rest := []) ⟨hx, hb, hml, hown, hts⟩ (c_WatchListModel_isIn X hX (rf_T d) π pa 0 31 ) ⟨callB_of 3 hts giX4_isIn rfl rfl rfl (hts _ mG_26) (hts _ mG_248) pdX4_isIn ⟨Nat.le_of_ble_eq_true rfl, Nat.le_of_ble_eq_true rfl⟩, hts _ mG_249⟩ ⟨rf_blind, rf_at hP hK hN⟩ rfl rfl hl.1 rfl (lv_room (Nat.le_of_ble_eq_true rfl)) dX4_add_27 ⟨Nat.le_of_ble_eq_true rfl, Nat.le_of_ble_eq_true rfl⟩) hS (fun r_4 u_4 t_4 locs hw hP hS => ?_)
      obtain ⟨rfl, rfl⟩ := hw
      have hP : va_P X.1 vwCl (rf_ws X (rf_T d) π) t_4.heap := hP
      refine lv_if_eq (tgt := 55) hx hb dX4_add_30 (by decide) (fun c_5 => ?_) (fun c_5 => ?_)
      · have k_3 := wl_if c_5
        refine lv_bipush (v := 13) hx hb dX4_add_55 (by decide) ?_
        refine gw_iret (rf_T d, π) hx hb hr hlocks (rf_hB hP) hS dX4_add_57 ?_
        exact Or.inl ⟨rfl, rfl, rf_bad2 k_3⟩
      · have k_3 := wl_it c_5
        refine lv_iload hx hb dX4_add_33 (lv_at hl 6 rfl) ?_
        refine lv_iconst (v := 0) hx hb dX4_add_35 (by decide) ?_
        refine lv_bipush (v := 31) hx hb dX4_add_36 (by decide) ?_
        refine gw_calli (va_runS (As := [.int ev, .int 0, .int 31]) (rest := []) ⟨hx, hb, hml, hown, hts⟩ (c_WatchListModel_isIn X hX (rf_T d) π ev 0 31 ) ⟨callB_of 3 hts giX4_isIn rfl rfl rfl (hts _ mG_26) (hts _ mG_248) pdX4_isIn ⟨Nat.le_of_ble_eq_true rfl, Nat.le_of_ble_eq_true rfl⟩, hts _ mG_249⟩ ⟨rf_blind, rf_at hP hK hN⟩ rfl rfl hl.1 rfl (lv_room (Nat.le_of_ble_eq_true rfl)) dX4_add_38 ⟨Nat.le_of_ble_eq_true rfl, Nat.le_of_ble_eq_true rfl⟩) hS (fun r_6 u_6 t_6 locs hw hP hS => ?_)
        obtain ⟨rfl, rfl⟩ := hw
        have hP : va_P X.1 vwCl (rf_ws X (rf_T d) π) t_6.heap := hP
        refine lv_if_eq (tgt := 55) hx hb dX4_add_41 (by decide) (fun c_7 => ?_) (fun c_7 => ?_)
        · have k_4 := wl_if c_7
          refine lv_bipush (v := 13) hx hb dX4_add_55 (by decide) ?_
          refine gw_iret (rf_T d, π) hx hb hr hlocks (rf_hB hP) hS dX4_add_57 ?_
          exact Or.inl ⟨rfl, rfl, rf_bad3 k_4⟩
        · have k_4 := wl_it c_7
          refine lv_iload_n hx hb dX4_add_44 rfl (lv_at hl 1 rfl) ?_
          refine lv_iconst (v := 0) hx hb dX4_add_45 (by decide) ?_
          refine lv_sipush (v := 255) hx hb dX4_add_46 (by decide) ?_
          refine gw_calli (va_runS (As := [.int id, .int 0, .int 255]) (rest := []) ⟨hx, hb, hml, hown, hts⟩ (c_WatchListModel_isIn X hX (rf_T d) π id 0 255 ) ⟨callB_of 3 hts giX4_isIn rfl rfl rfl (hts _ mG_26) (hts _ mG_248) pdX4_isIn ⟨Nat.le_of_ble_eq_true rfl, Nat.le_of_ble_eq_true rfl⟩, hts _ mG_249⟩ ⟨rf_blind, rf_at hP hK hN⟩ rfl rfl hl.1 rfl (lv_room (Nat.le_of_ble_eq_true rfl)) dX4_add_49 ⟨Nat.le_of_ble_eq_true rfl, Nat.le_of_ble_eq_true rfl⟩) hS (fun r_8 u_8 t_8 locs hw hP hS => ?_)
          obtain ⟨rfl, rfl⟩ := hw
          have hP : va_P X.1 vwCl (rf_ws X (rf_T d) π) t_8.heap := hP
          refine lv_if_ne (tgt := 58) hx hb dX4_add_52 (by decide) (fun c_9 => ?_) (fun c_9 => ?_)
          · have k_5 := wl_it c_9
            have hj := rf_ok256c ((rf_in255 id).symm.trans k_5)
            refine lv_aload_n hx hb dX4_add_58 rfl (lv_at hl 0 rfl) ?_
            refine gw_get hx hb hts inX4 hown hK hP 0 (by decide) rf_c0 rfl 2 (by decide) (hts _ mG_217) (fun _ h9 => h9) (v := .ref (X.2.1 2)) rfl dX4_add_59 ?_
            refine lv_iload_n hx hb dX4_add_62 rfl (lv_at hl 1 rfl) ?_
            refine gw_zald hx hb hK hP 2 1 (by decide) rf_c2 rfl (i := id) hj.1 dX4_add_63 ?_
            refine lv_if_eq (tgt := 70) hx hb dX4_add_64 (by decide) (fun c_10 => ?_) (fun c_10 => ?_)
            · have th_1 := c_10
              refine lv_aload_n hx hb dX4_add_70 rfl (lv_at hl 0 rfl) ?_
              refine gw_calli (va_runV (As := []) (rest := []) ⟨hx, hb, hml, hown, hts⟩ (c_WatchListModel_limits X hX (rf_T d) π  ) ⟨callB_of 0 hts giX4_limits rfl rfl rfl (hts _ mG_26) (hts _ mG_251) pdX4_limits ⟨Nat.le_of_ble_eq_true rfl, Nat.le_of_ble_eq_true rfl⟩, hts _ mG_252, hts _ mG_18⟩ ⟨rf_blind, gw_recv hK hP 0 (by decide) rf_c0 rfl, rf_at hP hK hN⟩ rfl rfl hl.1 rfl (lv_room (Nat.le_of_ble_eq_true rfl)) dX4_add_71 ⟨Nat.le_of_ble_eq_true rfl, Nat.le_of_ble_eq_true rfl⟩) hS (fun r_11 u_11 t_11 locs hw hP hS => ?_)
              obtain ⟨rfl, rfl⟩ := hw
              have hP : va_P X.1 vwCl (rf_ws X (rf_T d) π) t_11.heap := hP
              refine lv_bipush (v := 16) hx hb dX4_add_74 (by decide) ?_
              refine lv_icmp_ne (tgt := 82) hx hb dX4_add_76 (by decide) (fun c_12 => ?_) (fun c_12 => ?_)
              · have n_1 : ¬ rf_cnt (rf_T d 2) 256 = 16 := fun z => c_12 (by rw [z]; rfl)
                refine lv_aload_n hx hb dX4_add_82 rfl (lv_at hl 0 rfl) ?_
                refine gw_get hx hb hts inX4 hown hK hP 0 (by decide) rf_c0 rfl 2 (by decide) (hts _ mG_217) (fun _ h9 => h9) (v := .ref (X.2.1 2)) rfl dX4_add_83 ?_
                refine lv_iload_n hx hb dX4_add_86 rfl (lv_at hl 1 rfl) ?_
                refine lv_iconst (v := 1) hx hb dX4_add_87 (by decide) ?_
                refine gw_zast hx hb hK hP hX hS 2 1 (by decide) rf_c2 rfl (i := id) (x := 1) hj.1 (cf' := rf_c X (up2 (rf_T d) 2 id.toNatClampNeg 1) π) (by rw [gw_vz (by decide)]; rfl) rf_o dX4_add_88 (fun H locs hP hS => ?_)
                refine lv_aload_n hx hb dX4_add_89 rfl (lv_at hl 0 rfl) ?_
                refine gw_get hx hb hts inX4 hown hK hP 0 (by decide) rf_c0 rfl 3 (by decide) (hts _ mG_218) (fun _ h9 => h9) (v := .ref (X.2.1 3)) rfl dX4_add_90 ?_
                refine lv_iload_n hx hb dX4_add_93 rfl (lv_at hl 1 rfl) ?_
                refine lv_iconst (v := 0) hx hb dX4_add_94 (by decide) ?_
                refine gw_zast hx hb hK hP hX hS 3 1 (by decide) rf_c3 rfl (i := id) (x := 0) hj.1 (cf' := rf_c X (up2 (up2 (rf_T d) 2 id.toNatClampNeg 1) 3 id.toNatClampNeg 0) π) (by rw [gw_vz (by decide)]; rfl) rf_o dX4_add_95 (fun H locs hP hS => ?_)
                refine lv_aload_n hx hb dX4_add_96 rfl (lv_at hl 0 rfl) ?_
                refine gw_get hx hb hts inX4 hown hK hP 0 (by decide) rf_c0 rfl 4 (by decide) (hts _ mG_219) (fun _ h9 => h9) (v := .ref (X.2.1 4)) rfl dX4_add_97 ?_
                refine lv_iload_n hx hb dX4_add_100 rfl (lv_at hl 1 rfl) ?_
                refine lv_iload hx hb dX4_add_101 (lv_at hl 7 rfl) ?_
                refine gw_zast hx hb hK hP hX hS 4 1 (by decide) rf_c4 rfl (i := id) (x := lk) hj.1 (cf' := rf_c X (up2 (up2 (up2 (rf_T d) 2 id.toNatClampNeg 1) 3 id.toNatClampNeg 0) 4 id.toNatClampNeg lk) π) (by rw [gw_vz hz]; rfl) rf_o dX4_add_103 (fun H locs hP hS => ?_)
                refine lv_aload_n hx hb dX4_add_104 rfl (lv_at hl 0 rfl) ?_
                refine gw_get hx hb hts inX4 hown hK hP 0 (by decide) rf_c0 rfl 5 (by decide) (hts _ mG_220) (fun _ h9 => h9) (v := .ref (X.2.1 5)) rfl dX4_add_105 ?_
                refine lv_iload_n hx hb dX4_add_108 rfl (lv_at hl 1 rfl) ?_
                refine lv_iload_n hx hb dX4_add_109 rfl (lv_at hl 2 rfl) ?_
                refine gw_iast hx hb hK hP hX hS 5 0 (by decide) rf_c5 rfl (i := id) (x := pa) hj.1 (cf' := rf_c X (up2 (up2 (up2 (up2 (rf_T d) 2 id.toNatClampNeg 1) 3 id.toNatClampNeg 0) 4 id.toNatClampNeg lk) 5 id.toNatClampNeg pa) π) rfl rf_o dX4_add_110 (fun H locs hP hS => ?_)
                refine lv_aload_n hx hb dX4_add_111 rfl (lv_at hl 0 rfl) ?_
                refine gw_get hx hb hts inX4 hown hK hP 0 (by decide) rf_c0 rfl 6 (by decide) (hts _ mG_221) (fun _ h9 => h9) (v := .ref (X.2.1 6)) rfl dX4_add_112 ?_
                refine lv_iload_n hx hb dX4_add_115 rfl (lv_at hl 1 rfl) ?_
                refine lv_iload_n hx hb dX4_add_116 rfl (lv_at hl 3 rfl) ?_
                refine gw_iast hx hb hK hP hX hS 6 0 (by decide) rf_c6 rfl (i := id) (x := ti) hj.1 (cf' := rf_c X (up2 (up2 (up2 (up2 (up2 (rf_T d) 2 id.toNatClampNeg 1) 3 id.toNatClampNeg 0) 4 id.toNatClampNeg lk) 5 id.toNatClampNeg pa) 6 id.toNatClampNeg ti) π) rfl rf_o dX4_add_117 (fun H locs hP hS => ?_)
                refine lv_aload_n hx hb dX4_add_118 rfl (lv_at hl 0 rfl) ?_
                refine gw_get hx hb hts inX4 hown hK hP 0 (by decide) rf_c0 rfl 7 (by decide) (hts _ mG_222) (fun _ h9 => h9) (v := .ref (X.2.1 7)) rfl dX4_add_119 ?_
                refine lv_iload_n hx hb dX4_add_122 rfl (lv_at hl 1 rfl) ?_
                refine lv_iload hx hb dX4_add_123 (lv_at hl 4 rfl) ?_
                refine gw_iast hx hb hK hP hX hS 7 0 (by decide) rf_c7 rfl (i := id) (x := lo) hj.1 (cf' := rf_c X (up2 (up2 (up2 (up2 (up2 (up2 (rf_T d) 2 id.toNatClampNeg 1) 3 id.toNatClampNeg 0) 4 id.toNatClampNeg lk) 5 id.toNatClampNeg pa) 6 id.toNatClampNeg ti) 7 id.toNatClampNeg lo) π) rfl rf_o dX4_add_125 (fun H locs hP hS => ?_)
                refine lv_aload_n hx hb dX4_add_126 rfl (lv_at hl 0 rfl) ?_
                refine gw_get hx hb hts inX4 hown hK hP 0 (by decide) rf_c0 rfl 8 (by decide) (hts _ mG_223) (fun _ h9 => h9) (v := .ref (X.2.1 8)) rfl dX4_add_127 ?_
                refine lv_iload_n hx hb dX4_add_130 rfl (lv_at hl 1 rfl) ?_
                refine lv_iload hx hb dX4_add_131 (lv_at hl 5 rfl) ?_
                refine gw_iast hx hb hK hP hX hS 8 0 (by decide) rf_c8 rfl (i := id) (x := hi2) hj.1 (cf' := rf_c X (up2 (up2 (up2 (up2 (up2 (up2 (up2 (rf_T d) 2 id.toNatClampNeg 1) 3 id.toNatClampNeg 0) 4 id.toNatClampNeg lk) 5 id.toNatClampNeg pa) 6 id.toNatClampNeg ti) 7 id.toNatClampNeg lo) 8 id.toNatClampNeg hi2) π) rfl rf_o dX4_add_133 (fun H locs hP hS => ?_)
                refine lv_aload_n hx hb dX4_add_134 rfl (lv_at hl 0 rfl) ?_
                refine gw_get hx hb hts inX4 hown hK hP 0 (by decide) rf_c0 rfl 9 (by decide) (hts _ mG_224) (fun _ h9 => h9) (v := .ref (X.2.1 9)) rfl dX4_add_135 ?_
                refine lv_iload_n hx hb dX4_add_138 rfl (lv_at hl 1 rfl) ?_
                refine lv_iload hx hb dX4_add_139 (lv_at hl 6 rfl) ?_
                refine gw_iast hx hb hK hP hX hS 9 0 (by decide) rf_c9 rfl (i := id) (x := ev) hj.1 (cf' := rf_c X (up2 (up2 (up2 (up2 (up2 (up2 (up2 (up2 (rf_T d) 2 id.toNatClampNeg 1) 3 id.toNatClampNeg 0) 4 id.toNatClampNeg lk) 5 id.toNatClampNeg pa) 6 id.toNatClampNeg ti) 7 id.toNatClampNeg lo) 8 id.toNatClampNeg hi2) 9 id.toNatClampNeg ev) π) rfl rf_o dX4_add_141 (fun H locs hP hS => ?_)
                refine lv_aload_n hx hb dX4_add_142 rfl (lv_at hl 0 rfl) ?_
                refine gw_get hx hb hts inX4 hown hK hP 0 (by decide) rf_c0 rfl 10 (by decide) (hts _ mG_225) (fun _ h9 => h9) (v := .ref (X.2.1 10)) rfl dX4_add_143 ?_
                refine lv_iload_n hx hb dX4_add_146 rfl (lv_at hl 1 rfl) ?_
                refine lv_iconst (v := 0) hx hb dX4_add_147 (by decide) ?_
                refine gw_iast hx hb hK hP hX hS 10 0 (by decide) rf_c10 rfl (i := id) (x := 0) hj.1 (cf' := rf_c X (up2 (up2 (up2 (up2 (up2 (up2 (up2 (up2 (up2 (rf_T d) 2 id.toNatClampNeg 1) 3 id.toNatClampNeg 0) 4 id.toNatClampNeg lk) 5 id.toNatClampNeg pa) 6 id.toNatClampNeg ti) 7 id.toNatClampNeg lo) 8 id.toNatClampNeg hi2) 9 id.toNatClampNeg ev) 10 id.toNatClampNeg 0) π) rfl rf_o dX4_add_148 (fun H locs hP hS => ?_)
                refine lv_iconst (v := 0) hx hb dX4_add_149 (by decide) ?_
                refine gw_iret (up2 (up2 (up2 (up2 (up2 (up2 (up2 (up2 (up2 (rf_T d) 2 id.toNatClampNeg 1) 3 id.toNatClampNeg 0) 4 id.toNatClampNeg lk) 5 id.toNatClampNeg pa) 6 id.toNatClampNeg ti) 7 id.toNatClampNeg lo) 8 id.toNatClampNeg hi2) 9 id.toNatClampNeg ev) 10 id.toNatClampNeg 0, π) hx hb hr hlocks (rf_hB hP) hS dX4_add_150 ?_
                exact Or.inr ⟨rf_good k_1 k_2 k_3 k_4 k_5, Or.inr ⟨th_1, Or.inr ⟨rfl, n_1, rfl⟩⟩⟩
              · have n_1 : rf_cnt (rf_T d 2) 256 = 16 := (nI_eq (b := 16) (by have := rf_cnt_le (rf_T d 2) 256; omega) (by omega)).mp c_12
                refine lv_bipush (v := 26) hx hb dX4_add_79 (by decide) ?_
                refine gw_iret (rf_T d, π) hx hb hr hlocks (rf_hB hP) hS dX4_add_81 ?_
                exact Or.inr ⟨rf_good k_1 k_2 k_3 k_4 k_5, Or.inr ⟨th_1, Or.inl ⟨rfl, rfl, n_1⟩⟩⟩
            · have th_1 := c_10
              refine lv_bipush (v := 25) hx hb dX4_add_67 (by decide) ?_
              refine gw_iret (rf_T d, π) hx hb hr hlocks (rf_hB hP) hS dX4_add_69 ?_
              exact Or.inr ⟨rf_good k_1 k_2 k_3 k_4 k_5, Or.inl ⟨rfl, rfl, th_1⟩⟩
          · have k_5 := wl_if c_9
            refine lv_bipush (v := 13) hx hb dX4_add_55 (by decide) ?_
            refine gw_iret (rf_T d, π) hx hb hr hlocks (rf_hB hP) hS dX4_add_57 ?_
            exact Or.inl ⟨rfl, rfl, rf_bad4 k_5⟩
set_option maxHeartbeats 4000000 in
set_option maxRecDepth 100000 in
theorem c_WatchListModel_remove (X : rf_X) (hX : gw_inj 18 X.2.1) (d : Nat → Nat → Int32) (π : Nat → Nat)  (id : Int32) (hb3 : ∀ j, j < 256 → rf_T d 3 j = 0 ∨ rf_T d 3 j = 1) : Met l yX4_remove wsX4_remove ({ frames := 1, cells := 0, slots := 0, locals := 21 }) (rf_pre X [.ref (X.2.1 0), .int id] d π) (va_Qi (fun r u => (rf_th (rf_T d) id = false ∧ r = 27 ∧ u = (rf_T d, π)) ∨ (rf_th (rf_T d) id = true ∧ ((¬ rf_T d 3 id.toNatClampNeg = 0 ∧ r = 15) ∨ (rf_T d 3 id.toNatClampNeg = 0 ∧ r = 0)) ∧ u = (up2 (rf_T d) 2 id.toNatClampNeg (rf_T d 3 id.toNatClampNeg), π))) (rf_b X) (gw_A 18 X.2.1)) 0 0 (gw_A 18 X.2.1) := by
  refine Met.ofW (cc := cX4_remove) (maxL := 2) (ret := (some .int)) (by decide) rfl ?_
  intro p e s m args below meth c s₁ B hml hv
  obtain ⟨rfl, hP, hK, hN⟩ := hv
  have hx := B.exec
  have hb := B.bytes
  have hr := B.returns
  have hts : ∀ w ∈ gG, w.before _ s = true := fun w h => atoms_spec (ws := wsX4_remove) B.pre w (List.mem_cons_of_mem _ h)
  have hown : s.vm.findClass RX4 = some m.cls := findClass_of_methodNamed B.named
  have hlocks := B.notSynchronized
  have hS : va_S (gw_A 18 X.2.1) s.heap s.heap [] := va_S.rf
  have hl := lv_entry ([.ref (X.2.1 0), .int id]) (n := 2) (Nat.le_of_ble_eq_true rfl)
  rw [lg_entry_eq]
  generalize (lg_sl ([.ref (X.2.1 0), .int id]) ++ List.replicate (2 - (lg_sl ([.ref (X.2.1 0), .int id])).length) Slot.unset).toArray = ls at hl ⊢
  have hl : lv_has ls 2 [(0, .ref (X.2.1 0)), (1, .int id)] := hl
  refine lv_aload_n hx hb dX4_remove_0 rfl (lv_at hl 0 rfl) ?_
  refine lv_iconst (v := 0) hx hb dX4_remove_1 (by decide) ?_
  refine gw_put hx hb hts inX4 tyX4 okX4 nmX4 hown hK hP hX hS 0 (by decide) rf_c0 rfl 0 (by decide) (hts _ mG_215) (fun _ h9 => h9) rfl (ty := .int) (v := .int 0) (by decide +kernel) rfl rfl (Nat.le_of_ble_eq_true rfl) (cf' := rf_c X (up2 d 0 0 0) π) rfl rf_o dX4_remove_2 (fun H locs hP hS => ?_)
  have hP : va_P X.1 vwCl (rf_ws X (rf_T d) π) H := hP
  refine lv_aload_n hx hb dX4_remove_5 rfl (lv_at hl 0 rfl) ?_
  refine lv_iload_n hx hb dX4_remove_6 rfl (lv_at hl 1 rfl) ?_
  refine gw_calli (va_runV (As := [.int id]) (rest := []) ⟨hx, hb, hml, hown, hts⟩ (c_WatchListModel_isThere X hX (rf_T d) π id ) ⟨callB_of 1 hts giX4_isThere rfl rfl rfl (hts _ mG_26) (hts _ mG_258) pdX4_isThere ⟨Nat.le_of_ble_eq_true rfl, Nat.le_of_ble_eq_true rfl⟩, hts _ mG_259, hts _ mG_19⟩ ⟨rf_blind, gw_recv hK hP 0 (by decide) rf_c0 rfl, rf_at hP hK hN⟩ rfl rfl hl.1 rfl (lv_room (Nat.le_of_ble_eq_true rfl)) dX4_remove_7 ⟨Nat.le_of_ble_eq_true rfl, Nat.le_of_ble_eq_true rfl⟩) hS (fun r_1 u_1 t_1 locs hw hP hS => ?_)
  obtain ⟨rfl, rfl⟩ := hw
  have hP : va_P X.1 vwCl (rf_ws X (rf_T d) π) t_1.heap := hP
  refine lv_if_ne (tgt := 16) hx hb dX4_remove_10 (by decide) (fun c_2 => ?_) (fun c_2 => ?_)
  · have th_1 := wl_it c_2
    have hj := rf_ok256c (rf_th_ok th_1).1
    refine lv_aload_n hx hb dX4_remove_16 rfl (lv_at hl 0 rfl) ?_
    refine gw_get hx hb hts inX4 hown hK hP 0 (by decide) rf_c0 rfl 2 (by decide) (hts _ mG_217) (fun _ h9 => h9) (v := .ref (X.2.1 2)) rfl dX4_remove_17 ?_
    refine lv_iload_n hx hb dX4_remove_20 rfl (lv_at hl 1 rfl) ?_
    refine lv_aload_n hx hb dX4_remove_21 rfl (lv_at hl 0 rfl) ?_
    refine gw_get hx hb hts inX4 hown hK hP 0 (by decide) rf_c0 rfl 3 (by decide) (hts _ mG_218) (fun _ h9 => h9) (v := .ref (X.2.1 3)) rfl dX4_remove_22 ?_
    refine lv_iload_n hx hb dX4_remove_25 rfl (lv_at hl 1 rfl) ?_
    refine gw_zald hx hb hK hP 3 1 (by decide) rf_c3 rfl (i := id) hj.1 dX4_remove_26 ?_
    refine gw_zast hx hb hK hP hX hS 2 1 (by decide) rf_c2 rfl (i := id) (x := (rf_T d) 3 id.toNatClampNeg) hj.1 (cf' := rf_c X (up2 (rf_T d) 2 id.toNatClampNeg ((rf_T d) 3 id.toNatClampNeg)) π) (by rw [gw_vz (hb3 _ hj.2)]; rfl) rf_o dX4_remove_27 (fun H locs hP hS => ?_)
    refine lv_aload_n hx hb dX4_remove_28 rfl (lv_at hl 0 rfl) ?_
    refine gw_get hx hb hts inX4 hown hK hP 0 (by decide) rf_c0 rfl 3 (by decide) (hts _ mG_218) (fun _ h9 => h9) (v := .ref (X.2.1 3)) rfl dX4_remove_29 ?_
    refine lv_iload_n hx hb dX4_remove_32 rfl (lv_at hl 1 rfl) ?_
    refine gw_zald hx hb hK hP 3 1 (by decide) rf_c3 rfl (i := id) hj.1 dX4_remove_33 ?_
    refine lv_if_eq (tgt := 42) hx hb dX4_remove_34 (by decide) (fun c_3 => ?_) (fun c_3 => ?_)
    · have on_1 : rf_T d 3 id.toNatClampNeg = 0 := c_3
      refine lv_iconst (v := 0) hx hb dX4_remove_42 (by decide) ?_
      refine gw_iret (up2 (rf_T d) 2 id.toNatClampNeg ((rf_T d) 3 id.toNatClampNeg), π) hx hb hr hlocks (rf_hB hP) hS dX4_remove_43 ?_
      exact Or.inr ⟨th_1, Or.inr ⟨on_1, rfl⟩, rfl⟩
    · have on_1 : ¬ rf_T d 3 id.toNatClampNeg = 0 := c_3
      refine lv_bipush (v := 15) hx hb dX4_remove_37 (by decide) ?_
      refine lv_goto (tgt := 43) hx hb dX4_remove_39 (by decide) ?_
      refine gw_iret (up2 (rf_T d) 2 id.toNatClampNeg ((rf_T d) 3 id.toNatClampNeg), π) hx hb hr hlocks (rf_hB hP) hS dX4_remove_43 ?_
      exact Or.inr ⟨th_1, Or.inl ⟨on_1, rfl⟩, rfl⟩
  · have th_1 := wl_if c_2
    refine lv_bipush (v := 27) hx hb dX4_remove_13 (by decide) ?_
    refine gw_iret (rf_T d, π) hx hb hr hlocks (rf_hB hP) hS dX4_remove_15 ?_
    exact Or.inl ⟨th_1, rfl, rfl⟩
set_option maxHeartbeats 4000000 in
set_option maxRecDepth 100000 in
theorem c_WatchListModel_enable (X : rf_X) (hX : gw_inj 18 X.2.1) (d : Nat → Nat → Int32) (π : Nat → Nat)  (id : Int32) (on : Int32) (hz : on = 0 ∨ on = 1) : Met l yX4_enable wsX4_enable ({ frames := 1, cells := 0, slots := 0, locals := 21 }) (rf_pre X [.ref (X.2.1 0), .int id, .int on] d π) (va_Qi (fun r u => (rf_th (rf_T d) id = false ∧ r = 27 ∧ u = (rf_T d, π)) ∨ (rf_th (rf_T d) id = true ∧ r = 0 ∧ u = (up2 (up2 (rf_T d) 3 id.toNatClampNeg on) 10 id.toNatClampNeg 0, π))) (rf_b X) (gw_A 18 X.2.1)) 0 0 (gw_A 18 X.2.1) := by
  refine Met.ofW (cc := cX4_enable) (maxL := 3) (ret := (some .int)) (by decide) rfl ?_
  intro p e s m args below meth c s₁ B hml hv
  obtain ⟨rfl, hP, hK, hN⟩ := hv
  have hx := B.exec
  have hb := B.bytes
  have hr := B.returns
  have hts : ∀ w ∈ gG, w.before _ s = true := fun w h => atoms_spec (ws := wsX4_enable) B.pre w (List.mem_cons_of_mem _ h)
  have hown : s.vm.findClass RX4 = some m.cls := findClass_of_methodNamed B.named
  have hlocks := B.notSynchronized
  have hS : va_S (gw_A 18 X.2.1) s.heap s.heap [] := va_S.rf
  have hl := lv_entry ([.ref (X.2.1 0), .int id, .int on]) (n := 3) (Nat.le_of_ble_eq_true rfl)
  rw [lg_entry_eq]
  generalize (lg_sl ([.ref (X.2.1 0), .int id, .int on]) ++ List.replicate (3 - (lg_sl ([.ref (X.2.1 0), .int id, .int on])).length) Slot.unset).toArray = ls at hl ⊢
  have hl : lv_has ls 3 [(0, .ref (X.2.1 0)), (1, .int id), (2, .int on)] := hl
  refine lv_aload_n hx hb dX4_enable_0 rfl (lv_at hl 0 rfl) ?_
  refine lv_iconst (v := 0) hx hb dX4_enable_1 (by decide) ?_
  refine gw_put hx hb hts inX4 tyX4 okX4 nmX4 hown hK hP hX hS 0 (by decide) rf_c0 rfl 0 (by decide) (hts _ mG_215) (fun _ h9 => h9) rfl (ty := .int) (v := .int 0) (by decide +kernel) rfl rfl (Nat.le_of_ble_eq_true rfl) (cf' := rf_c X (up2 d 0 0 0) π) rfl rf_o dX4_enable_2 (fun H locs hP hS => ?_)
  have hP : va_P X.1 vwCl (rf_ws X (rf_T d) π) H := hP
  refine lv_aload_n hx hb dX4_enable_5 rfl (lv_at hl 0 rfl) ?_
  refine lv_iload_n hx hb dX4_enable_6 rfl (lv_at hl 1 rfl) ?_
  refine gw_calli (va_runV (As := [.int id]) (rest := []) ⟨hx, hb, hml, hown, hts⟩ (c_WatchListModel_isThere X hX (rf_T d) π id ) ⟨callB_of 1 hts giX4_isThere rfl rfl rfl (hts _ mG_26) (hts _ mG_258) pdX4_isThere ⟨Nat.le_of_ble_eq_true rfl, Nat.le_of_ble_eq_true rfl⟩, hts _ mG_259, hts _ mG_19⟩ ⟨rf_blind, gw_recv hK hP 0 (by decide) rf_c0 rfl, rf_at hP hK hN⟩ rfl rfl hl.1 rfl (lv_room (Nat.le_of_ble_eq_true rfl)) dX4_enable_7 ⟨Nat.le_of_ble_eq_true rfl, Nat.le_of_ble_eq_true rfl⟩) hS (fun r_1 u_1 t_1 locs hw hP hS => ?_)
  obtain ⟨rfl, rfl⟩ := hw
  have hP : va_P X.1 vwCl (rf_ws X (rf_T d) π) t_1.heap := hP
  refine lv_if_ne (tgt := 16) hx hb dX4_enable_10 (by decide) (fun c_2 => ?_) (fun c_2 => ?_)
  · have th_1 := wl_it c_2
    have hj := rf_ok256c (rf_th_ok th_1).1
    refine lv_aload_n hx hb dX4_enable_16 rfl (lv_at hl 0 rfl) ?_
    refine gw_get hx hb hts inX4 hown hK hP 0 (by decide) rf_c0 rfl 3 (by decide) (hts _ mG_218) (fun _ h9 => h9) (v := .ref (X.2.1 3)) rfl dX4_enable_17 ?_
    refine lv_iload_n hx hb dX4_enable_20 rfl (lv_at hl 1 rfl) ?_
    refine lv_iload_n hx hb dX4_enable_21 rfl (lv_at hl 2 rfl) ?_
    refine gw_zast hx hb hK hP hX hS 3 1 (by decide) rf_c3 rfl (i := id) (x := on) hj.1 (cf' := rf_c X (up2 (rf_T d) 3 id.toNatClampNeg on) π) (by rw [gw_vz hz]; rfl) rf_o dX4_enable_22 (fun H locs hP hS => ?_)
    refine lv_aload_n hx hb dX4_enable_23 rfl (lv_at hl 0 rfl) ?_
    refine gw_get hx hb hts inX4 hown hK hP 0 (by decide) rf_c0 rfl 10 (by decide) (hts _ mG_225) (fun _ h9 => h9) (v := .ref (X.2.1 10)) rfl dX4_enable_24 ?_
    refine lv_iload_n hx hb dX4_enable_27 rfl (lv_at hl 1 rfl) ?_
    refine lv_iconst (v := 0) hx hb dX4_enable_28 (by decide) ?_
    refine gw_iast hx hb hK hP hX hS 10 0 (by decide) rf_c10 rfl (i := id) (x := 0) hj.1 (cf' := rf_c X (up2 (up2 (rf_T d) 3 id.toNatClampNeg on) 10 id.toNatClampNeg 0) π) rfl rf_o dX4_enable_29 (fun H locs hP hS => ?_)
    refine lv_iconst (v := 0) hx hb dX4_enable_30 (by decide) ?_
    refine gw_iret (up2 (up2 (rf_T d) 3 id.toNatClampNeg on) 10 id.toNatClampNeg 0, π) hx hb hr hlocks (rf_hB hP) hS dX4_enable_31 ?_
    exact Or.inr ⟨th_1, rfl, rfl⟩
  · have th_1 := wl_if c_2
    refine lv_bipush (v := 27) hx hb dX4_enable_13 (by decide) ?_
    refine gw_iret (rf_T d, π) hx hb hr hlocks (rf_hB hP) hS dX4_enable_15 ?_
    exact Or.inl ⟨th_1, rfl, rfl⟩
set_option maxHeartbeats 4000000 in
set_option maxRecDepth 100000 in
theorem c_WatchListModel_linked (X : rf_X) (hX : gw_inj 18 X.2.1) (d : Nat → Nat → Int32) (π : Nat → Nat)   (hz : rf_T d 0 12 = 0 ∨ rf_T d 0 12 = 1) : Met l yX4_linked wsX4_linked ({ frames := 0, cells := 0, slots := 0, locals := 0 }) (rf_pre X [.ref (X.2.1 0)] d π) (va_Qi (fun r u => r = rf_T d 0 12 ∧ u = (rf_T d, π)) (rf_b X) (gw_A 18 X.2.1)) 0 0 (gw_A 18 X.2.1) := by
  refine Met.ofW (cc := cX4_linked) (maxL := 1) (ret := (some .boolean)) (by decide) rfl ?_
  intro p e s m args below meth c s₁ B hml hv
  obtain ⟨rfl, hP, hK, hN⟩ := hv
  have hx := B.exec
  have hb := B.bytes
  have hr := B.returns
  have hts : ∀ w ∈ gG, w.before _ s = true := fun w h => atoms_spec (ws := wsX4_linked) B.pre w (List.mem_cons_of_mem _ h)
  have hown : s.vm.findClass RX4 = some m.cls := findClass_of_methodNamed B.named
  have hlocks := B.notSynchronized
  have hS : va_S (gw_A 18 X.2.1) s.heap s.heap [] := va_S.rf
  have hl := lv_entry ([.ref (X.2.1 0)]) (n := 1) (Nat.le_of_ble_eq_true rfl)
  rw [lg_entry_eq]
  generalize (lg_sl ([.ref (X.2.1 0)]) ++ List.replicate (1 - (lg_sl ([.ref (X.2.1 0)])).length) Slot.unset).toArray = ls at hl ⊢
  have hl : lv_has ls 1 [(0, .ref (X.2.1 0))] := hl
  refine lv_aload_n hx hb dX4_linked_0 rfl (lv_at hl 0 rfl) ?_
  refine lv_iconst (v := 0) hx hb dX4_linked_1 (by decide) ?_
  refine gw_put hx hb hts inX4 tyX4 okX4 nmX4 hown hK hP hX hS 0 (by decide) rf_c0 rfl 0 (by decide) (hts _ mG_215) (fun _ h9 => h9) rfl (ty := .int) (v := .int 0) (by decide +kernel) rfl rfl (Nat.le_of_ble_eq_true rfl) (cf' := rf_c X (up2 d 0 0 0) π) rfl rf_o dX4_linked_2 (fun H locs hP hS => ?_)
  have hP : va_P X.1 vwCl (rf_ws X (rf_T d) π) H := hP
  refine lv_aload_n hx hb dX4_linked_5 rfl (lv_at hl 0 rfl) ?_
  refine gw_get hx hb hts inX4 hown hK hP 0 (by decide) rf_c0 rfl 12 (by decide) (hts _ mG_227) (fun _ h9 => h9) (v := .int ((rf_T d) 0 12)) rfl dX4_linked_6 ?_
  refine gw_zret (rf_T d, π) hx hb hr hlocks hz (rf_hB hP) hS dX4_linked_9 ?_
  exact ⟨rfl, rfl⟩
set_option maxHeartbeats 4000000 in
set_option maxRecDepth 100000 in
theorem c_WatchListModel_raise (X : rf_X) (hX : gw_inj 18 X.2.1) (d : Nat → Nat → Int32) (π : Nat → Nat)  (ev : Int32) (nu : Int32) (q : Nat) (hq : rf_T d 0 13 = nI q) (hq6 : q ≤ 64) : Met l yX4_raise wsX4_raise ({ frames := 2, cells := 0, slots := 0, locals := 42 }) (rf_pre X [.ref (X.2.1 0), .int ev, .int nu] d π) (va_Qi (fun r u => (wl_ok ev 32 = true → r = wl_i (decide (q < 64)) ∧ u = (rf_wt (rf_T d) q ev nu, π)) ∧ (wl_ok ev 32 = false → r = 0 ∧ u = (rf_T d, π))) (rf_b X) (gw_A 18 X.2.1)) 0 0 (gw_A 18 X.2.1) := by
  refine Met.ofW (cc := cX4_raise) (maxL := 3) (ret := (some .boolean)) (by decide) rfl ?_
  intro p e s m args below meth c s₁ B hml hv
  obtain ⟨rfl, hP, hK, hN⟩ := hv
  have hx := B.exec
  have hb := B.bytes
  have hr := B.returns
  have hts : ∀ w ∈ gG, w.before _ s = true := fun w h => atoms_spec (ws := wsX4_raise) B.pre w (List.mem_cons_of_mem _ h)
  have hown : s.vm.findClass RX4 = some m.cls := findClass_of_methodNamed B.named
  have hlocks := B.notSynchronized
  have hS : va_S (gw_A 18 X.2.1) s.heap s.heap [] := va_S.rf
  have hl := lv_entry ([.ref (X.2.1 0), .int ev, .int nu]) (n := 3) (Nat.le_of_ble_eq_true rfl)
  rw [lg_entry_eq]
  generalize (lg_sl ([.ref (X.2.1 0), .int ev, .int nu]) ++ List.replicate (3 - (lg_sl ([.ref (X.2.1 0), .int ev, .int nu])).length) Slot.unset).toArray = ls at hl ⊢
  have hl : lv_has ls 3 [(0, .ref (X.2.1 0)), (1, .int ev), (2, .int nu)] := hl
  refine lv_aload_n hx hb dX4_raise_0 rfl (lv_at hl 0 rfl) ?_
  refine lv_iconst (v := 0) hx hb dX4_raise_1 (by decide) ?_
  refine gw_put hx hb hts inX4 tyX4 okX4 nmX4 hown hK hP hX hS 0 (by decide) rf_c0 rfl 0 (by decide) (hts _ mG_215) (fun _ h9 => h9) rfl (ty := .int) (v := .int 0) (by decide +kernel) rfl rfl (Nat.le_of_ble_eq_true rfl) (cf' := rf_c X (up2 d 0 0 0) π) rfl rf_o dX4_raise_2 (fun H locs hP hS => ?_)
  have hP : va_P X.1 vwCl (rf_ws X (rf_T d) π) H := hP
  refine lv_iload_n hx hb dX4_raise_5 rfl (lv_at hl 1 rfl) ?_
  refine gw_calli (va_runS (As := [.int ev]) (rest := []) ⟨hx, hb, hml, hown, hts⟩ (c_WatchListModel_isEvent X hX (rf_T d) π ev ) ⟨callB_of 1 hts giX4_isEvent rfl rfl rfl (hts _ mG_26) (hts _ mG_280) pdX4_isEvent ⟨Nat.le_of_ble_eq_true rfl, Nat.le_of_ble_eq_true rfl⟩, hts _ mG_281⟩ ⟨rf_blind, rf_at hP hK hN⟩ rfl rfl hl.1 rfl (lv_room (Nat.le_of_ble_eq_true rfl)) dX4_raise_6 ⟨Nat.le_of_ble_eq_true rfl, Nat.le_of_ble_eq_true rfl⟩) hS (fun r_1 u_1 t_1 locs hw hP hS => ?_)
  obtain ⟨rfl, rfl⟩ := hw
  have hP : va_P X.1 vwCl (rf_ws X (rf_T d) π) t_1.heap := hP
  refine lv_if_eq (tgt := 25) hx hb dX4_raise_9 (by decide) (fun c_2 => ?_) (fun c_2 => ?_)
  · have ok_1 := wl_if c_2
    refine lv_iconst (v := 0) hx hb dX4_raise_25 (by decide) ?_
    refine gw_zret (rf_T d, π) hx hb hr hlocks (by decide) (rf_hB hP) hS dX4_raise_26 ?_
    exact ⟨fun z => absurd (ok_1.symm.trans z) (by decide), fun _ => ⟨rfl, rfl⟩⟩
  · have ok_1 := wl_it c_2
    have hj := wl_ok32c ok_1
    refine lv_aload_n hx hb dX4_raise_12 rfl (lv_at hl 0 rfl) ?_
    refine lv_iload_n hx hb dX4_raise_13 rfl (lv_at hl 1 rfl) ?_
    refine lv_iload_n hx hb dX4_raise_14 rfl (lv_at hl 2 rfl) ?_
    refine gw_calli (va_runV (As := [.int ev, .int nu]) (rest := []) ⟨hx, hb, hml, hown, hts⟩ (c_WatchListModel_waits X hX (rf_T d) π ev nu q hq hq6) ⟨callB_of 2 hts giX4_waits rfl rfl rfl (hts _ mG_26) (hts _ mG_269) pdX4_waits ⟨Nat.le_of_ble_eq_true rfl, Nat.le_of_ble_eq_true rfl⟩, hts _ mG_270, hts _ mG_20⟩ ⟨rf_blind, gw_recv hK hP 0 (by decide) rf_c0 rfl, rf_at hP hK hN⟩ rfl rfl hl.1 rfl (lv_room (Nat.le_of_ble_eq_true rfl)) dX4_raise_15 ⟨Nat.le_of_ble_eq_true rfl, Nat.le_of_ble_eq_true rfl⟩) hS (fun r_3 u_3 t_3 locs hw hP hS => ?_)
    obtain ⟨rfl, rfl⟩ := hw
    have hP : va_P X.1 vwCl (rf_ws X (rf_wt (rf_T d) q ev nu) π) t_3.heap := hP
    refine lv_if_eq (tgt := 25) hx hb dX4_raise_18 (by decide) (fun c_4 => ?_) (fun c_4 => ?_)
    · have w_1 := c_4
      refine lv_iconst (v := 0) hx hb dX4_raise_25 (by decide) ?_
      refine gw_zret (rf_wt (rf_T d) q ev nu, π) hx hb hr hlocks (by decide) (rf_hB hP) hS dX4_raise_26 ?_
      exact ⟨fun _ => ⟨w_1.symm, rfl⟩, fun z => absurd (ok_1.symm.trans z) (by decide)⟩
    · have w_1 := c_4
      refine lv_iconst (v := 1) hx hb dX4_raise_21 (by decide) ?_
      refine lv_goto (tgt := 26) hx hb dX4_raise_22 (by decide) ?_
      refine gw_zret (rf_wt (rf_T d) q ev nu, π) hx hb hr hlocks (by decide) (rf_hB hP) hS dX4_raise_26 ?_
      exact ⟨fun _ => ⟨by rw [wl_it w_1]; rfl, rfl⟩, fun z => absurd (ok_1.symm.trans z) (by decide)⟩
set_option maxHeartbeats 4000000 in
set_option maxRecDepth 100000 in
theorem c_WatchListModel_work (X : rf_X) (hX : gw_inj 18 X.2.1) (d : Nat → Nat → Int32) (π : Nat → Nat)   (q : Nat) (hq : rf_T d 0 13 = nI q) (hq6 : q ≤ 64) : Met l yX4_work wsX4_work ({ frames := 0, cells := 0, slots := 0, locals := 0 }) (rf_pre X [.ref (X.2.1 0)] d π) (va_Qi (fun r u => (q = 0 ∧ r = -1 ∧ u = (rf_T d, π)) ∨ (0 < q ∧ r = rf_T d 11 0 ∧ u = (rf_sh (up2 (up2 (rf_T d) 0 17 (rf_T d 12 0)) 0 13 (nI (q - 1))) (q - 1), π))) (rf_b X) (gw_A 18 X.2.1)) 0 0 (gw_A 18 X.2.1) := by
  refine Met.ofW (cc := cX4_work) (maxL := 3) (ret := (some .int)) (by decide) rfl ?_
  intro p e s m args below meth c s₁ B hml hv
  obtain ⟨rfl, hP, hK, hN⟩ := hv
  have hx := B.exec
  have hb := B.bytes
  have hr := B.returns
  have hts : ∀ w ∈ gG, w.before _ s = true := fun w h => atoms_spec (ws := wsX4_work) B.pre w (List.mem_cons_of_mem _ h)
  have hown : s.vm.findClass RX4 = some m.cls := findClass_of_methodNamed B.named
  have hlocks := B.notSynchronized
  have hS : va_S (gw_A 18 X.2.1) s.heap s.heap [] := va_S.rf
  have hl := lv_entry ([.ref (X.2.1 0)]) (n := 3) (Nat.le_of_ble_eq_true rfl)
  rw [lg_entry_eq]
  generalize (lg_sl ([.ref (X.2.1 0)]) ++ List.replicate (3 - (lg_sl ([.ref (X.2.1 0)])).length) Slot.unset).toArray = ls at hl ⊢
  have hl : lv_has ls 3 [(0, .ref (X.2.1 0))] := hl
  refine lv_aload_n hx hb dX4_work_0 rfl (lv_at hl 0 rfl) ?_
  refine lv_iconst (v := 0) hx hb dX4_work_1 (by decide) ?_
  refine gw_put hx hb hts inX4 tyX4 okX4 nmX4 hown hK hP hX hS 0 (by decide) rf_c0 rfl 0 (by decide) (hts _ mG_215) (fun _ h9 => h9) rfl (ty := .int) (v := .int 0) (by decide +kernel) rfl rfl (Nat.le_of_ble_eq_true rfl) (cf' := rf_c X (up2 d 0 0 0) π) rfl rf_o dX4_work_2 (fun H locs hP hS => ?_)
  have hP : va_P X.1 vwCl (rf_ws X (rf_T d) π) H := hP
  refine lv_aload_n hx hb dX4_work_5 rfl (lv_at hl 0 rfl) ?_
  refine gw_get hx hb hts inX4 hown hK hP 0 (by decide) rf_c0 rfl 13 (by decide) (hts _ mG_228) (fun _ h9 => h9) (v := .int ((rf_T d) 0 13)) rfl dX4_work_6 ?_
  refine lv_if_ne (tgt := 14) hx hb dX4_work_9 (by decide) (fun c_1 => ?_) (fun c_1 => ?_)
  · have qz := c_1
    refine lv_aload_n hx hb dX4_work_14 rfl (lv_at hl 0 rfl) ?_
    refine gw_get hx hb hts inX4 hown hK hP 0 (by decide) rf_c0 rfl 14 (by decide) (hts _ mG_229) (fun _ h9 => h9) (v := .ref (X.2.1 11)) rfl dX4_work_15 ?_
    refine lv_iconst (v := 0) hx hb dX4_work_18 (by decide) ?_
    refine gw_iald hx hb hK hP 11 0 (by decide) rf_c11 rfl (i := 0) rf_v0 dX4_work_19 ?_
    refine W.eq (g2 := F0 m 20 ls (.int (rf_T d 11 0) :: [])) (by rw [sb_cl0]) ?_
    refine lv_istore_n (lv' := [(1, .int (rf_T d 11 0)), (0, .ref (X.2.1 0))]) hx hb dX4_work_20 rfl hl (by decide) rfl (fun ls hl => ?_)
    refine lv_aload_n hx hb dX4_work_21 rfl (lv_at hl 1 rfl) ?_
    refine lv_aload_n hx hb dX4_work_22 rfl (lv_at hl 1 rfl) ?_
    refine gw_get hx hb hts inX4 hown hK hP 0 (by decide) rf_c0 rfl 15 (by decide) (hts _ mG_230) (fun _ h9 => h9) (v := .ref (X.2.1 12)) rfl dX4_work_23 ?_
    refine lv_iconst (v := 0) hx hb dX4_work_26 (by decide) ?_
    refine gw_iald hx hb hK hP 12 0 (by decide) rf_c12 rfl (i := 0) rf_v0 dX4_work_27 ?_
    refine W.eq (g2 := F0 m 28 ls (.int (rf_T d 12 0) :: .ref (X.2.1 0) :: [])) (by rw [sb_cl0]) ?_
    refine gw_put hx hb hts inX4 tyX4 okX4 nmX4 hown hK hP hX hS 0 (by decide) rf_c0 rfl 17 (by decide) (hts _ mG_232) (fun _ h9 => h9) rfl (ty := .int) (v := .int (rf_T d 12 0)) (by decide +kernel) rfl rfl (Nat.le_of_ble_eq_true rfl) (cf' := rf_c X (up2 (rf_T d) 0 17 (rf_T d 12 0)) π) rfl rf_o dX4_work_28 (fun H locs hP hS => ?_)
    refine lv_aload_n hx hb dX4_work_31 rfl (lv_at hl 1 rfl) ?_
    refine lv_dup hx hb dX4_work_32 rfl ?_
    refine gw_get hx hb hts inX4 hown hK hP 0 (by decide) rf_c0 rfl 13 (by decide) (hts _ mG_228) (fun _ h9 => h9) (v := .int (rf_T d 0 13)) rfl dX4_work_33 ?_
    refine lv_iconst (v := 1) hx hb dX4_work_36 (by decide) ?_
    refine lv_isub hx hb dX4_work_37 ?_
    refine gw_put hx hb hts inX4 tyX4 okX4 nmX4 hown hK hP hX hS 0 (by decide) rf_c0 rfl 13 (by decide) (hts _ mG_228) (fun _ h9 => h9) rfl (ty := .int) (v := .int ((rf_T d 0 13) - 1)) (by decide +kernel) rfl rfl (Nat.le_of_ble_eq_true rfl) (cf' := rf_c X (up2 (up2 (rf_T d) 0 17 (rf_T d 12 0)) 0 13 ((rf_T d 0 13) - 1)) π) rfl rf_o dX4_work_38 (fun H locs hP hS => ?_)
    replace hP : va_P X.1 vwCl (rf_ws X (up2 (up2 (rf_T d) 0 17 (rf_T d 12 0)) 0 13 (nI (q - 1))) π) H := by rw [← wl_pm1 (wl_q0 hq qz hq6), ← hq]; exact hP
    refine lv_iconst (v := 0) hx hb dX4_work_41 (by decide) ?_
    refine lv_istore_n (lv' := [(2, .int 0), (1, .int (rf_T d 11 0)), (0, .ref (X.2.1 0))]) hx hb dX4_work_42 rfl hl (by decide) rfl (fun ls hl => ?_)
    obtain ⟨D0, hD0⟩ : ∃ z, z = up2 (up2 (rf_T d) 0 17 (rf_T d 12 0)) 0 13 (nI (q - 1)) := ⟨_, rfl⟩
    have h13 : D0 0 13 = nI (q - 1) := by rw [hD0, up2_s]
    obtain ⟨k, hk⟩ : ∃ i : Nat, i = 0 := ⟨0, rfl⟩
    replace hP : va_P X.1 vwCl (rf_ws X (rf_sh D0 k) π) H := by rw [hk, rf_sh_0, hD0]; exact hP
    have hk1 : k ≤ q - 1 := by omega
    replace hl : lv_has ls 3 [(2, .int (nI k)), (1, .int (rf_T d 11 0)), (0, .ref (X.2.1 0))] := by rw [hk, nI_0]; exact hl
    obtain ⟨g, hg⟩ : ∃ g : Nat, q < k + g := ⟨q + 1, by omega⟩
    clear hk
    induction g generalizing k ls H locs with
    | zero => exact absurd hg (by omega)
    | succ g ih =>
      refine lv_iload_n hx hb dX4_work_43 rfl (lv_at hl 0 rfl) ?_
      refine lv_aload_n hx hb dX4_work_44 rfl (lv_at hl 2 rfl) ?_
      refine gw_get hx hb hts inX4 hown hK hP 0 (by decide) rf_c0 rfl 13 (by decide) (hts _ mG_228) (fun _ h9 => h9) (v := .int ((rf_sh D0 k) 0 13)) rfl dX4_work_45 ?_
      refine lv_icmp_ge (tgt := 85) hx hb dX4_work_48 (by decide) (fun c_2 => ?_) (fun c_2 => ?_)
      · have hex : q - 1 ≤ k := (nI_leI (by omega) (by omega)).mp (by rw [← h13]; exact c_2)
        refine lv_iload_n hx hb dX4_work_85 rfl (lv_at hl 1 rfl) ?_
        refine gw_iret (rf_sh D0 k, π) hx hb hr hlocks (rf_hB hP) hS dX4_work_86 ?_
        refine Or.inr ⟨wl_q0 hq qz hq6, rfl, ?_⟩
        rw [show q - 1 = k by omega] at hD0 ⊢
        rw [hD0]
      · have hlt : k < q - 1 := Nat.lt_of_not_le (fun z => c_2 (by show D0 0 13 ≤ _; rw [h13]; exact nI_le z (by omega)))
        refine lv_aload_n hx hb dX4_work_51 rfl (lv_at hl 2 rfl) ?_
        refine gw_get hx hb hts inX4 hown hK hP 0 (by decide) rf_c0 rfl 14 (by decide) (hts _ mG_229) (fun _ h9 => h9) (v := .ref (X.2.1 11)) rfl dX4_work_52 ?_
        refine lv_iload_n hx hb dX4_work_55 rfl (lv_at hl 0 rfl) ?_
        refine lv_aload_n hx hb dX4_work_56 rfl (lv_at hl 2 rfl) ?_
        refine gw_get hx hb hts inX4 hown hK hP 0 (by decide) rf_c0 rfl 14 (by decide) (hts _ mG_229) (fun _ h9 => h9) (v := .ref (X.2.1 11)) rfl dX4_work_57 ?_
        refine lv_iload_n hx hb dX4_work_60 rfl (lv_at hl 0 rfl) ?_
        refine lv_iconst (v := 1) hx hb dX4_work_61 (by decide) ?_
        refine lv_iadd hx hb dX4_work_62 ?_
        refine W.eq (g2 := F0 m 63 ls (.int (nI (k + 1)) :: .ref (X.2.1 11) :: .int (nI k) :: .ref (X.2.1 11) :: [])) (by rw [nI_1]) ?_
        refine gw_iald hx hb hK hP 11 0 (by decide) rf_c11 rfl (i := nI (k + 1)) (vp_in_nI (by omega) (by omega)) dX4_work_63 ?_
        refine W.eq (g2 := F0 m 64 ls (.int (D0 11 (k + 1)) :: .int (nI k) :: .ref (X.2.1 11) :: [])) (by rw [nI_clamp (show k + 1 < 2 ^ 31 by omega), rf_sh_11, rf_sf_hi (by omega)]) ?_
        refine gw_iast hx hb hK hP hX hS 11 0 (by decide) rf_c11 rfl (i := nI k) (x := D0 11 (k + 1)) (vp_in_nI (by omega) (by omega)) (cf' := rf_c X (up2 (rf_sh D0 k) 11 (nI k).toNatClampNeg (D0 11 (k + 1))) π) rfl rf_o dX4_work_64 (fun H locs hP hS => ?_)
        rw [nI_clamp (show k < 2 ^ 31 by omega)] at hP
        refine lv_aload_n hx hb dX4_work_65 rfl (lv_at hl 2 rfl) ?_
        refine gw_get hx hb hts inX4 hown hK hP 0 (by decide) rf_c0 rfl 15 (by decide) (hts _ mG_230) (fun _ h9 => h9) (v := .ref (X.2.1 12)) rfl dX4_work_66 ?_
        refine lv_iload_n hx hb dX4_work_69 rfl (lv_at hl 0 rfl) ?_
        refine lv_aload_n hx hb dX4_work_70 rfl (lv_at hl 2 rfl) ?_
        refine gw_get hx hb hts inX4 hown hK hP 0 (by decide) rf_c0 rfl 15 (by decide) (hts _ mG_230) (fun _ h9 => h9) (v := .ref (X.2.1 12)) rfl dX4_work_71 ?_
        refine lv_iload_n hx hb dX4_work_74 rfl (lv_at hl 0 rfl) ?_
        refine lv_iconst (v := 1) hx hb dX4_work_75 (by decide) ?_
        refine lv_iadd hx hb dX4_work_76 ?_
        refine W.eq (g2 := F0 m 77 ls (.int (nI (k + 1)) :: .ref (X.2.1 12) :: .int (nI k) :: .ref (X.2.1 12) :: [])) (by rw [nI_1]) ?_
        refine gw_iald hx hb hK hP 12 0 (by decide) rf_c12 rfl (i := nI (k + 1)) (vp_in_nI (by omega) (by omega)) dX4_work_77 ?_
        refine W.eq (g2 := F0 m 78 ls (.int (D0 12 (k + 1)) :: .int (nI k) :: .ref (X.2.1 12) :: [])) (by rw [nI_clamp (show k + 1 < 2 ^ 31 by omega), up2_ne (by decide), rf_sh_12, rf_sf_hi (by omega)]) ?_
        refine gw_iast hx hb hK hP hX hS 12 0 (by decide) rf_c12 rfl (i := nI k) (x := D0 12 (k + 1)) (vp_in_nI (by omega) (by omega)) (cf' := rf_c X (up2 (up2 (rf_sh D0 k) 11 k (D0 11 (k + 1))) 12 (nI k).toNatClampNeg (D0 12 (k + 1))) π) rfl rf_o dX4_work_78 (fun H locs hP hS => ?_)
        rw [nI_clamp (show k < 2 ^ 31 by omega)] at hP
        refine lv_iinc (v := nI (k + 1)) (lv' := [(2, .int (nI (k + 1))), (1, .int (rf_T d 11 0)), (0, .ref (X.2.1 0))]) hx hb dX4_work_79 hl (k := 0) rfl (nI_1 k) (by decide) rfl (fun ls hl => ?_)
        refine lv_goto (tgt := 43) hx hb dX4_work_82 (by decide) ?_
        exact ih (k := k + 1) (ls := ls) (H := _) (locs := locs) (hS := hS) (hP := by rw [← rf_sh_step]; exact hP) (hk1 := by omega) (hl := lv_sub hl [0, 1, 2] rfl) (hg := by omega)
  · have qz := c_1
    refine lv_iconst (v := (-1)) hx hb dX4_work_12 (by decide) ?_
    refine gw_iret (rf_T d, π) hx hb hr hlocks (rf_hB hP) hS dX4_work_13 ?_
    exact Or.inl ⟨wl_q1 hq qz hq6, rfl, rfl⟩
set_option maxHeartbeats 4000000 in
set_option maxRecDepth 100000 in
theorem c_WatchListModel_lose (X : rf_X) (hX : gw_inj 18 X.2.1) (d : Nat → Nat → Int32) (π : Nat → Nat)    : Met l yX4_lose wsX4_lose ({ frames := 0, cells := 0, slots := 0, locals := 0 }) (rf_pre X [.ref (X.2.1 0)] d π) (va_Qi (fun r u => r = rf_T d 0 13 ∧ u = (up2 (up2 (rf_T d) 0 13 0) 0 16 (rf_T d 0 16 + rf_T d 0 13), π)) (rf_b X) (gw_A 18 X.2.1)) 0 0 (gw_A 18 X.2.1) := by
  refine Met.ofW (cc := cX4_lose) (maxL := 2) (ret := (some .int)) (by decide) rfl ?_
  intro p e s m args below meth c s₁ B hml hv
  obtain ⟨rfl, hP, hK, hN⟩ := hv
  have hx := B.exec
  have hb := B.bytes
  have hr := B.returns
  have hts : ∀ w ∈ gG, w.before _ s = true := fun w h => atoms_spec (ws := wsX4_lose) B.pre w (List.mem_cons_of_mem _ h)
  have hown : s.vm.findClass RX4 = some m.cls := findClass_of_methodNamed B.named
  have hlocks := B.notSynchronized
  have hS : va_S (gw_A 18 X.2.1) s.heap s.heap [] := va_S.rf
  have hl := lv_entry ([.ref (X.2.1 0)]) (n := 2) (Nat.le_of_ble_eq_true rfl)
  rw [lg_entry_eq]
  generalize (lg_sl ([.ref (X.2.1 0)]) ++ List.replicate (2 - (lg_sl ([.ref (X.2.1 0)])).length) Slot.unset).toArray = ls at hl ⊢
  have hl : lv_has ls 2 [(0, .ref (X.2.1 0))] := hl
  refine lv_aload_n hx hb dX4_lose_0 rfl (lv_at hl 0 rfl) ?_
  refine lv_iconst (v := 0) hx hb dX4_lose_1 (by decide) ?_
  refine gw_put hx hb hts inX4 tyX4 okX4 nmX4 hown hK hP hX hS 0 (by decide) rf_c0 rfl 0 (by decide) (hts _ mG_215) (fun _ h9 => h9) rfl (ty := .int) (v := .int 0) (by decide +kernel) rfl rfl (Nat.le_of_ble_eq_true rfl) (cf' := rf_c X (up2 d 0 0 0) π) rfl rf_o dX4_lose_2 (fun H locs hP hS => ?_)
  have hP : va_P X.1 vwCl (rf_ws X (rf_T d) π) H := hP
  refine lv_aload_n hx hb dX4_lose_5 rfl (lv_at hl 0 rfl) ?_
  refine gw_get hx hb hts inX4 hown hK hP 0 (by decide) rf_c0 rfl 13 (by decide) (hts _ mG_228) (fun _ h9 => h9) (v := .int ((rf_T d) 0 13)) rfl dX4_lose_6 ?_
  refine lv_istore_n (lv' := [(1, .int ((rf_T d) 0 13)), (0, .ref (X.2.1 0))]) hx hb dX4_lose_9 rfl hl (by decide) rfl (fun ls hl => ?_)
  refine lv_aload_n hx hb dX4_lose_10 rfl (lv_at hl 1 rfl) ?_
  refine lv_iconst (v := 0) hx hb dX4_lose_11 (by decide) ?_
  refine gw_put hx hb hts inX4 tyX4 okX4 nmX4 hown hK hP hX hS 0 (by decide) rf_c0 rfl 13 (by decide) (hts _ mG_228) (fun _ h9 => h9) rfl (ty := .int) (v := .int 0) (by decide +kernel) rfl rfl (Nat.le_of_ble_eq_true rfl) (cf' := rf_c X (up2 (rf_T d) 0 13 0) π) rfl rf_o dX4_lose_12 (fun H locs hP hS => ?_)
  refine lv_aload_n hx hb dX4_lose_15 rfl (lv_at hl 1 rfl) ?_
  refine lv_dup hx hb dX4_lose_16 rfl ?_
  refine gw_get hx hb hts inX4 hown hK hP 0 (by decide) rf_c0 rfl 16 (by decide) (hts _ mG_231) (fun _ h9 => h9) (v := .int ((up2 (rf_T d) 0 13 0) 0 16)) rfl dX4_lose_17 ?_
  refine lv_iload_n hx hb dX4_lose_20 rfl (lv_at hl 0 rfl) ?_
  refine lv_iadd hx hb dX4_lose_21 ?_
  refine gw_put hx hb hts inX4 tyX4 okX4 nmX4 hown hK hP hX hS 0 (by decide) rf_c0 rfl 16 (by decide) (hts _ mG_231) (fun _ h9 => h9) rfl (ty := .int) (v := .int (((up2 (rf_T d) 0 13 0) 0 16) + ((rf_T d) 0 13))) (by decide +kernel) rfl rfl (Nat.le_of_ble_eq_true rfl) (cf' := rf_c X (up2 (up2 (rf_T d) 0 13 0) 0 16 (((up2 (rf_T d) 0 13 0) 0 16) + ((rf_T d) 0 13))) π) rfl rf_o dX4_lose_22 (fun H locs hP hS => ?_)
  refine lv_iload_n hx hb dX4_lose_25 rfl (lv_at hl 0 rfl) ?_
  refine gw_iret (up2 (up2 (rf_T d) 0 13 0) 0 16 (((up2 (rf_T d) 0 13 0) 0 16) + ((rf_T d) 0 13)), π) hx hb hr hlocks (rf_hB hP) hS dX4_lose_26 ?_
  exact ⟨rfl, rfl⟩
set_option maxHeartbeats 4000000 in
set_option maxRecDepth 100000 in
theorem c_WatchListModel_tell (X : rf_X) (hX : gw_inj 18 X.2.1) (d : Nat → Nat → Int32) (π : Nat → Nat)  (ev : Int32) (on : Int32)  : Met l yX4_tell wsX4_tell ({ frames := 2, cells := 0, slots := 0, locals := 42 }) (rf_pre X [.ref (X.2.1 0), .int ev, .int on] d π) (va_Qi (fun r u => (wl_ok ev 32 = true → r = 0 ∧ u = (up2 (rf_T d) 13 ev.toNatClampNeg (if on = 0 then 1 else 0), π)) ∧ (wl_ok ev 32 = false → r = 16 ∧ u = (rf_T d, π))) (rf_b X) (gw_A 18 X.2.1)) 0 0 (gw_A 18 X.2.1) := by
  refine Met.ofW (cc := cX4_tell) (maxL := 3) (ret := (some .int)) (by decide) rfl ?_
  intro p e s m args below meth c s₁ B hml hv
  obtain ⟨rfl, hP, hK, hN⟩ := hv
  have hx := B.exec
  have hb := B.bytes
  have hr := B.returns
  have hts : ∀ w ∈ gG, w.before _ s = true := fun w h => atoms_spec (ws := wsX4_tell) B.pre w (List.mem_cons_of_mem _ h)
  have hown : s.vm.findClass RX4 = some m.cls := findClass_of_methodNamed B.named
  have hlocks := B.notSynchronized
  have hS : va_S (gw_A 18 X.2.1) s.heap s.heap [] := va_S.rf
  have hl := lv_entry ([.ref (X.2.1 0), .int ev, .int on]) (n := 3) (Nat.le_of_ble_eq_true rfl)
  rw [lg_entry_eq]
  generalize (lg_sl ([.ref (X.2.1 0), .int ev, .int on]) ++ List.replicate (3 - (lg_sl ([.ref (X.2.1 0), .int ev, .int on])).length) Slot.unset).toArray = ls at hl ⊢
  have hl : lv_has ls 3 [(0, .ref (X.2.1 0)), (1, .int ev), (2, .int on)] := hl
  refine lv_aload_n hx hb dX4_tell_0 rfl (lv_at hl 0 rfl) ?_
  refine lv_iconst (v := 0) hx hb dX4_tell_1 (by decide) ?_
  refine gw_put hx hb hts inX4 tyX4 okX4 nmX4 hown hK hP hX hS 0 (by decide) rf_c0 rfl 0 (by decide) (hts _ mG_215) (fun _ h9 => h9) rfl (ty := .int) (v := .int 0) (by decide +kernel) rfl rfl (Nat.le_of_ble_eq_true rfl) (cf' := rf_c X (up2 d 0 0 0) π) rfl rf_o dX4_tell_2 (fun H locs hP hS => ?_)
  have hP : va_P X.1 vwCl (rf_ws X (rf_T d) π) H := hP
  refine lv_iload_n hx hb dX4_tell_5 rfl (lv_at hl 1 rfl) ?_
  refine gw_calli (va_runS (As := [.int ev]) (rest := []) ⟨hx, hb, hml, hown, hts⟩ (c_WatchListModel_isEvent X hX (rf_T d) π ev ) ⟨callB_of 1 hts giX4_isEvent rfl rfl rfl (hts _ mG_26) (hts _ mG_280) pdX4_isEvent ⟨Nat.le_of_ble_eq_true rfl, Nat.le_of_ble_eq_true rfl⟩, hts _ mG_281⟩ ⟨rf_blind, rf_at hP hK hN⟩ rfl rfl hl.1 rfl (lv_room (Nat.le_of_ble_eq_true rfl)) dX4_tell_6 ⟨Nat.le_of_ble_eq_true rfl, Nat.le_of_ble_eq_true rfl⟩) hS (fun r_1 u_1 t_1 locs hw hP hS => ?_)
  obtain ⟨rfl, rfl⟩ := hw
  have hP : va_P X.1 vwCl (rf_ws X (rf_T d) π) t_1.heap := hP
  refine lv_if_ne (tgt := 15) hx hb dX4_tell_9 (by decide) (fun c_2 => ?_) (fun c_2 => ?_)
  · have ok_1 := wl_it c_2
    have hj := wl_ok32c ok_1
    refine lv_aload_n hx hb dX4_tell_15 rfl (lv_at hl 0 rfl) ?_
    refine gw_get hx hb hts inX4 hown hK hP 0 (by decide) rf_c0 rfl 18 (by decide) (hts _ mG_233) (fun _ h9 => h9) (v := .ref (X.2.1 13)) rfl dX4_tell_16 ?_
    refine lv_iload_n hx hb dX4_tell_19 rfl (lv_at hl 1 rfl) ?_
    refine lv_iload_n hx hb dX4_tell_20 rfl (lv_at hl 2 rfl) ?_
    refine lv_if_ne (tgt := 28) hx hb dX4_tell_21 (by decide) (fun c_3 => ?_) (fun c_3 => ?_)
    · have on_1 := c_3
      refine lv_iconst (v := 0) hx hb dX4_tell_28 (by decide) ?_
      refine gw_zast hx hb hK hP hX hS 13 1 (by decide) rf_c13 rfl (i := ev) (x := 0) hj.1 (cf' := rf_c X (up2 (rf_T d) 13 ev.toNatClampNeg 0) π) (by rw [gw_vz (by decide)]; rfl) rf_o dX4_tell_29 (fun H locs hP hS => ?_)
      refine lv_iconst (v := 0) hx hb dX4_tell_30 (by decide) ?_
      refine gw_iret (up2 (rf_T d) 13 ev.toNatClampNeg 0, π) hx hb hr hlocks (rf_hB hP) hS dX4_tell_31 ?_
      exact ⟨fun _ => ⟨rfl, by rw [if_neg on_1]⟩, fun z => absurd (ok_1.symm.trans z) (by decide)⟩
    · have on_1 := c_3
      refine lv_iconst (v := 1) hx hb dX4_tell_24 (by decide) ?_
      refine lv_goto (tgt := 29) hx hb dX4_tell_25 (by decide) ?_
      refine gw_zast hx hb hK hP hX hS 13 1 (by decide) rf_c13 rfl (i := ev) (x := 1) hj.1 (cf' := rf_c X (up2 (rf_T d) 13 ev.toNatClampNeg 1) π) (by rw [gw_vz (by decide)]; rfl) rf_o dX4_tell_29 (fun H locs hP hS => ?_)
      refine lv_iconst (v := 0) hx hb dX4_tell_30 (by decide) ?_
      refine gw_iret (up2 (rf_T d) 13 ev.toNatClampNeg 1, π) hx hb hr hlocks (rf_hB hP) hS dX4_tell_31 ?_
      exact ⟨fun _ => ⟨rfl, by rw [if_pos on_1]⟩, fun z => absurd (ok_1.symm.trans z) (by decide)⟩
  · have ok_1 := wl_if c_2
    refine lv_bipush (v := 16) hx hb dX4_tell_12 (by decide) ?_
    refine gw_iret (rf_T d, π) hx hb hr hlocks (rf_hB hP) hS dX4_tell_14 ?_
    exact ⟨fun z => absurd (ok_1.symm.trans z) (by decide), fun _ => ⟨rfl, rfl⟩⟩
set_option maxHeartbeats 4000000 in
set_option maxRecDepth 100000 in
theorem c_WatchListModel_put (X : rf_X) (hX : gw_inj 18 X.2.1) (d : Nat → Nat → Int32) (π : Nat → Nat)  (b : Int32) (ts : Nat) (hts2 : rf_T d 0 22 = nI ts) (ht256 : ts ≤ 256) : Met l yX4_put wsX4_put ({ frames := 0, cells := 0, slots := 0, locals := 0 }) (rf_pre X [.ref (X.2.1 0), .int b] d π) (va_Qi (fun r u => (ts < 256 ∧ r = nI (ts + 1) ∧ u = (up2 (up2 (rf_T d) 17 ts b.toInt8.toInt32) 0 22 (nI (ts + 1)), π)) ∨ (ts = 256 ∧ r = -1 ∧ u = (rf_T d, π))) (rf_b X) (gw_A 18 X.2.1)) 0 0 (gw_A 18 X.2.1) := by
  refine Met.ofW (cc := cX4_put) (maxL := 2) (ret := (some .int)) (by decide) rfl ?_
  intro p e s m args below meth c s₁ B hml hv
  obtain ⟨rfl, hP, hK, hN⟩ := hv
  have hx := B.exec
  have hb := B.bytes
  have hr := B.returns
  have hts : ∀ w ∈ gG, w.before _ s = true := fun w h => atoms_spec (ws := wsX4_put) B.pre w (List.mem_cons_of_mem _ h)
  have hown : s.vm.findClass RX4 = some m.cls := findClass_of_methodNamed B.named
  have hlocks := B.notSynchronized
  have hS : va_S (gw_A 18 X.2.1) s.heap s.heap [] := va_S.rf
  have hl := lv_entry ([.ref (X.2.1 0), .int b]) (n := 2) (Nat.le_of_ble_eq_true rfl)
  rw [lg_entry_eq]
  generalize (lg_sl ([.ref (X.2.1 0), .int b]) ++ List.replicate (2 - (lg_sl ([.ref (X.2.1 0), .int b])).length) Slot.unset).toArray = ls at hl ⊢
  have hl : lv_has ls 2 [(0, .ref (X.2.1 0)), (1, .int b)] := hl
  refine lv_aload_n hx hb dX4_put_0 rfl (lv_at hl 0 rfl) ?_
  refine lv_iconst (v := 0) hx hb dX4_put_1 (by decide) ?_
  refine gw_put hx hb hts inX4 tyX4 okX4 nmX4 hown hK hP hX hS 0 (by decide) rf_c0 rfl 0 (by decide) (hts _ mG_215) (fun _ h9 => h9) rfl (ty := .int) (v := .int 0) (by decide +kernel) rfl rfl (Nat.le_of_ble_eq_true rfl) (cf' := rf_c X (up2 d 0 0 0) π) rfl rf_o dX4_put_2 (fun H locs hP hS => ?_)
  have hP : va_P X.1 vwCl (rf_ws X (rf_T d) π) H := hP
  refine lv_aload_n hx hb dX4_put_5 rfl (lv_at hl 0 rfl) ?_
  refine gw_get hx hb hts inX4 hown hK hP 0 (by decide) rf_c0 rfl 22 (by decide) (hts _ mG_237) (fun _ h9 => h9) (v := .int ((rf_T d) 0 22)) rfl dX4_put_6 ?_
  refine lv_sipush (v := 256) hx hb dX4_put_9 (by decide) ?_
  refine lv_icmp_ne (tgt := 17) hx hb dX4_put_12 (by decide) (fun c_1 => ?_) (fun c_1 => ?_)
  · have e9 := rf_t256 hts2 c_1 ht256
    refine lv_aload_n hx hb dX4_put_17 rfl (lv_at hl 0 rfl) ?_
    refine gw_get hx hb hts inX4 hown hK hP 0 (by decide) rf_c0 rfl 23 (by decide) (hts _ mG_238) (fun _ h9 => h9) (v := .ref (X.2.1 17)) rfl dX4_put_18 ?_
    refine lv_aload_n hx hb dX4_put_21 rfl (lv_at hl 0 rfl) ?_
    refine gw_get hx hb hts inX4 hown hK hP 0 (by decide) rf_c0 rfl 22 (by decide) (hts _ mG_237) (fun _ h9 => h9) (v := .int ((rf_T d) 0 22)) rfl dX4_put_22 ?_
    refine lv_iload_n hx hb dX4_put_25 rfl (lv_at hl 1 rfl) ?_
    refine lv_i2b hx hb dX4_put_26 rfl ?_
    refine gw_bast hx hb hK hP hX hS 17 2 (by decide) rf_c17 rfl (i := (rf_T d) 0 22) (x := b.toInt8.toInt32) (by rw [hts2]; exact vp_in_nI e9 (by omega)) (cf' := rf_c X (up2 (rf_T d) 17 ((rf_T d) 0 22).toNatClampNeg b.toInt8.toInt32) π) (by rw [pk_vb]; rfl) rf_o dX4_put_27 (fun H locs hP hS => ?_)
    refine lv_aload_n hx hb dX4_put_28 rfl (lv_at hl 0 rfl) ?_
    refine lv_dup hx hb dX4_put_29 rfl ?_
    refine gw_get hx hb hts inX4 hown hK hP 0 (by decide) rf_c0 rfl 22 (by decide) (hts _ mG_237) (fun _ h9 => h9) (v := .int (rf_T d 0 22)) rfl dX4_put_30 ?_
    refine lv_iconst (v := 1) hx hb dX4_put_33 (by decide) ?_
    refine lv_iadd hx hb dX4_put_34 ?_
    refine gw_put hx hb hts inX4 tyX4 okX4 nmX4 hown hK hP hX hS 0 (by decide) rf_c0 rfl 22 (by decide) (hts _ mG_237) (fun _ h9 => h9) rfl (ty := .int) (v := .int ((rf_T d 0 22) + 1)) (by decide +kernel) rfl rfl (Nat.le_of_ble_eq_true rfl) (cf' := rf_c X (up2 (up2 (rf_T d) 17 ((rf_T d) 0 22).toNatClampNeg b.toInt8.toInt32) 0 22 ((rf_T d 0 22) + 1)) π) rfl rf_o dX4_put_35 (fun H locs hP hS => ?_)
    refine lv_aload_n hx hb dX4_put_38 rfl (lv_at hl 0 rfl) ?_
    refine gw_get hx hb hts inX4 hown hK hP 0 (by decide) rf_c0 rfl 22 (by decide) (hts _ mG_237) (fun _ h9 => h9) (v := .int (rf_T d 0 22 + 1)) rfl dX4_put_39 ?_
    refine gw_iret (up2 (up2 (rf_T d) 17 ((rf_T d) 0 22).toNatClampNeg b.toInt8.toInt32) 0 22 ((rf_T d 0 22) + 1), π) hx hb hr hlocks (rf_hB hP) hS dX4_put_42 ?_
    refine Or.inl ⟨e9, ?_, ?_⟩
    · rw [hts2, nI_1]
    · rw [hts2, nI_1, nI_clamp (by omega)]
  · have e9 := rf_t256e hts2 c_1 ht256
    refine lv_iconst (v := (-1)) hx hb dX4_put_15 (by decide) ?_
    refine gw_iret (rf_T d, π) hx hb hr hlocks (rf_hB hP) hS dX4_put_16 ?_
    exact Or.inr ⟨e9, rfl, rfl⟩
set_option maxHeartbeats 4000000 in
set_option maxRecDepth 100000 in
theorem c_WatchListModel_act (X : rf_X) (hX : gw_inj 18 X.2.1) (d : Nat → Nat → Int32) (π : Nat → Nat)  (ev : Int32) (ts : Nat) (hts2 : rf_T d 0 22 = nI ts) (ht256 : ts ≤ 256) (hft : ∀ j, j < 256 → (rf_T d 17 j).toInt8.toInt32 = rf_T d 17 j) : Met l yX4_act wsX4_act ({ frames := 2, cells := 0, slots := 0, locals := 42 }) (rf_pre X [.ref (X.2.1 0), .int ev] d π) (va_Qi (fun r u => (r = 16 ∧ wl_ok ev 32 = false ∧ u = (up2 (rf_T d) 0 22 0, π)) ∨ (wl_ok ev 32 = true ∧ ((r = 22 ∧ ts = 0 ∧ u = (up2 (rf_T d) 0 22 0, π)) ∨ (0 < ts ∧ ((r = 29 ∧ 0 < rf_T d 14 ev.toNatClampNeg ∧ u = (up2 (rf_T d) 0 22 0, π)) ∨ (r = 0 ∧ ¬ 0 < rf_T d 14 ev.toNatClampNeg ∧ u = (rf_cp (up2 (up2 (up2 (rf_T d) 0 22 0) 14 ev.toNatClampNeg (nI ts)) 15 ev.toNatClampNeg 0) ev.toNatClampNeg ts, π))))))) (rf_b X) (gw_A 18 X.2.1)) 0 0 (gw_A 18 X.2.1) := by
  refine Met.ofW (cc := cX4_act) (maxL := 4) (ret := (some .int)) (by decide) rfl ?_
  intro p e s m args below meth c s₁ B hml hv
  obtain ⟨rfl, hP, hK, hN⟩ := hv
  have hx := B.exec
  have hb := B.bytes
  have hr := B.returns
  have hts : ∀ w ∈ gG, w.before _ s = true := fun w h => atoms_spec (ws := wsX4_act) B.pre w (List.mem_cons_of_mem _ h)
  have hown : s.vm.findClass RX4 = some m.cls := findClass_of_methodNamed B.named
  have hlocks := B.notSynchronized
  have hS : va_S (gw_A 18 X.2.1) s.heap s.heap [] := va_S.rf
  have hl := lv_entry ([.ref (X.2.1 0), .int ev]) (n := 4) (Nat.le_of_ble_eq_true rfl)
  rw [lg_entry_eq]
  generalize (lg_sl ([.ref (X.2.1 0), .int ev]) ++ List.replicate (4 - (lg_sl ([.ref (X.2.1 0), .int ev])).length) Slot.unset).toArray = ls at hl ⊢
  have hl : lv_has ls 4 [(0, .ref (X.2.1 0)), (1, .int ev)] := hl
  refine lv_aload_n hx hb dX4_act_0 rfl (lv_at hl 0 rfl) ?_
  refine lv_iconst (v := 0) hx hb dX4_act_1 (by decide) ?_
  refine gw_put hx hb hts inX4 tyX4 okX4 nmX4 hown hK hP hX hS 0 (by decide) rf_c0 rfl 0 (by decide) (hts _ mG_215) (fun _ h9 => h9) rfl (ty := .int) (v := .int 0) (by decide +kernel) rfl rfl (Nat.le_of_ble_eq_true rfl) (cf' := rf_c X (up2 d 0 0 0) π) rfl rf_o dX4_act_2 (fun H locs hP hS => ?_)
  have hP : va_P X.1 vwCl (rf_ws X (rf_T d) π) H := hP
  refine lv_aload_n hx hb dX4_act_5 rfl (lv_at hl 0 rfl) ?_
  refine gw_get hx hb hts inX4 hown hK hP 0 (by decide) rf_c0 rfl 22 (by decide) (hts _ mG_237) (fun _ h9 => h9) (v := .int ((rf_T d) 0 22)) rfl dX4_act_6 ?_
  refine lv_istore_n (lv' := [(2, .int ((rf_T d) 0 22)), (0, .ref (X.2.1 0)), (1, .int ev)]) hx hb dX4_act_9 rfl hl (by decide) rfl (fun ls hl => ?_)
  refine lv_aload_n hx hb dX4_act_10 rfl (lv_at hl 1 rfl) ?_
  refine lv_iconst (v := 0) hx hb dX4_act_11 (by decide) ?_
  refine gw_put hx hb hts inX4 tyX4 okX4 nmX4 hown hK hP hX hS 0 (by decide) rf_c0 rfl 22 (by decide) (hts _ mG_237) (fun _ h9 => h9) rfl (ty := .int) (v := .int 0) (by decide +kernel) rfl rfl (Nat.le_of_ble_eq_true rfl) (cf' := rf_c X (up2 (rf_T d) 0 22 0) π) rfl rf_o dX4_act_12 (fun H locs hP hS => ?_)
  refine lv_iload_n hx hb dX4_act_15 rfl (lv_at hl 2 rfl) ?_
  refine gw_calli (va_runS (As := [.int ev]) (rest := []) ⟨hx, hb, hml, hown, hts⟩ (c_WatchListModel_isEvent X hX (up2 (rf_T d) 0 22 0) π ev ) ⟨callB_of 1 hts giX4_isEvent rfl rfl rfl (hts _ mG_26) (hts _ mG_280) pdX4_isEvent ⟨Nat.le_of_ble_eq_true rfl, Nat.le_of_ble_eq_true rfl⟩, hts _ mG_281⟩ ⟨rf_blind, rf_at hP hK hN⟩ rfl rfl hl.1 rfl (lv_room (Nat.le_of_ble_eq_true rfl)) dX4_act_16 ⟨Nat.le_of_ble_eq_true rfl, Nat.le_of_ble_eq_true rfl⟩) hS (fun r_1 u_1 t_1 locs hw hP hS => ?_)
  obtain ⟨rfl, rfl⟩ := hw
  have hP : va_P X.1 vwCl (rf_ws X (up2 (rf_T d) 0 22 0) π) t_1.heap := hP
  refine lv_if_eq (tgt := 35) hx hb dX4_act_19 (by decide) (fun c_2 => ?_) (fun c_2 => ?_)
  · have ok_1 := wl_if c_2
    refine lv_iload_n hx hb dX4_act_35 rfl (lv_at hl 2 rfl) ?_
    refine gw_calli (va_runS (As := [.int ev]) (rest := []) ⟨hx, hb, hml, hown, hts⟩ (c_WatchListModel_isEvent X hX (up2 (rf_T d) 0 22 0) π ev ) ⟨callB_of 1 hts giX4_isEvent rfl rfl rfl (hts _ mG_26) (hts _ mG_280) pdX4_isEvent ⟨Nat.le_of_ble_eq_true rfl, Nat.le_of_ble_eq_true rfl⟩, hts _ mG_281⟩ ⟨rf_blind, rf_at hP hK hN⟩ rfl rfl hl.1 rfl (lv_room (Nat.le_of_ble_eq_true rfl)) dX4_act_36 ⟨Nat.le_of_ble_eq_true rfl, Nat.le_of_ble_eq_true rfl⟩) hS (fun r_3 u_3 t_3 locs hw hP hS => ?_)
    obtain ⟨rfl, rfl⟩ := hw
    have hP : va_P X.1 vwCl (rf_ws X (up2 (rf_T d) 0 22 0) π) t_3.heap := hP
    refine lv_if_ne (tgt := 47) hx hb dX4_act_39 (by decide) (fun c_4 => ?_) (fun c_4 => ?_)
    · exact absurd (ok_1.symm.trans (wl_it c_4)) (by decide)
    · refine lv_bipush (v := 16) hx hb dX4_act_42 (by decide) ?_
      refine lv_goto (tgt := 58) hx hb dX4_act_44 (by decide) ?_
      refine gw_iret (up2 (rf_T d) 0 22 0, π) hx hb hr hlocks (rf_hB hP) hS dX4_act_58 ?_
      exact Or.inl ⟨rfl, ok_1, rfl⟩
  · have ok_1 := wl_it c_2
    have hj := wl_ok32c ok_1
    refine lv_iload_n hx hb dX4_act_22 rfl (lv_at hl 0 rfl) ?_
    refine lv_if_eq (tgt := 35) hx hb dX4_act_23 (by decide) (fun c_5 => ?_) (fun c_5 => ?_)
    · have sz := c_5
      refine lv_iload_n hx hb dX4_act_35 rfl (lv_at hl 2 rfl) ?_
      refine gw_calli (va_runS (As := [.int ev]) (rest := []) ⟨hx, hb, hml, hown, hts⟩ (c_WatchListModel_isEvent X hX (up2 (rf_T d) 0 22 0) π ev ) ⟨callB_of 1 hts giX4_isEvent rfl rfl rfl (hts _ mG_26) (hts _ mG_280) pdX4_isEvent ⟨Nat.le_of_ble_eq_true rfl, Nat.le_of_ble_eq_true rfl⟩, hts _ mG_281⟩ ⟨rf_blind, rf_at hP hK hN⟩ rfl rfl hl.1 rfl (lv_room (Nat.le_of_ble_eq_true rfl)) dX4_act_36 ⟨Nat.le_of_ble_eq_true rfl, Nat.le_of_ble_eq_true rfl⟩) hS (fun r_6 u_6 t_6 locs hw hP hS => ?_)
      obtain ⟨rfl, rfl⟩ := hw
      have hP : va_P X.1 vwCl (rf_ws X (up2 (rf_T d) 0 22 0) π) t_6.heap := hP
      refine lv_if_ne (tgt := 47) hx hb dX4_act_39 (by decide) (fun c_7 => ?_) (fun c_7 => ?_)
      · refine lv_iload_n hx hb dX4_act_47 rfl (lv_at hl 0 rfl) ?_
        refine lv_if_ne (tgt := 56) hx hb dX4_act_48 (by decide) (fun c_8 => ?_) (fun c_8 => ?_)
        · exact absurd sz c_8
        · refine lv_bipush (v := 22) hx hb dX4_act_51 (by decide) ?_
          refine lv_goto (tgt := 58) hx hb dX4_act_53 (by decide) ?_
          refine gw_iret (up2 (rf_T d) 0 22 0, π) hx hb hr hlocks (rf_hB hP) hS dX4_act_58 ?_
          exact Or.inr ⟨ok_1, Or.inl ⟨rfl, wl_ts1 hts2 sz ht256, rfl⟩⟩
      · exact absurd (ok_1.symm.trans (wl_if c_7)) (by decide)
    · have sz := c_5
      refine lv_aload_n hx hb dX4_act_26 rfl (lv_at hl 1 rfl) ?_
      refine gw_get hx hb hts inX4 hown hK hP 0 (by decide) rf_c0 rfl 19 (by decide) (hts _ mG_234) (fun _ h9 => h9) (v := .ref (X.2.1 14)) rfl dX4_act_27 ?_
      refine lv_iload_n hx hb dX4_act_30 rfl (lv_at hl 2 rfl) ?_
      refine gw_iald hx hb hK hP 14 0 (by decide) rf_c14 rfl (i := ev) hj.1 dX4_act_31 ?_
      refine lv_if_le (tgt := 59) hx hb dX4_act_32 (by decide) (fun c_9 => ?_) (fun c_9 => ?_)
      · have s_1 : rf_T d 14 ev.toNatClampNeg ≤ 0 := c_9
        refine lv_aload_n hx hb dX4_act_59 rfl (lv_at hl 1 rfl) ?_
        refine gw_get hx hb hts inX4 hown hK hP 0 (by decide) rf_c0 rfl 19 (by decide) (hts _ mG_234) (fun _ h9 => h9) (v := .ref (X.2.1 14)) rfl dX4_act_60 ?_
        refine lv_iload_n hx hb dX4_act_63 rfl (lv_at hl 2 rfl) ?_
        refine lv_iload_n hx hb dX4_act_64 rfl (lv_at hl 0 rfl) ?_
        refine gw_iast hx hb hK hP hX hS 14 0 (by decide) rf_c14 rfl (i := ev) (x := (rf_T d) 0 22) hj.1 (cf' := rf_c X (up2 (up2 (rf_T d) 0 22 0) 14 ev.toNatClampNeg ((rf_T d) 0 22)) π) rfl rf_o dX4_act_65 (fun H locs hP hS => ?_)
        refine lv_aload_n hx hb dX4_act_66 rfl (lv_at hl 1 rfl) ?_
        refine gw_get hx hb hts inX4 hown hK hP 0 (by decide) rf_c0 rfl 20 (by decide) (hts _ mG_235) (fun _ h9 => h9) (v := .ref (X.2.1 15)) rfl dX4_act_67 ?_
        refine lv_iload_n hx hb dX4_act_70 rfl (lv_at hl 2 rfl) ?_
        refine lv_iconst (v := 0) hx hb dX4_act_71 (by decide) ?_
        refine gw_zast hx hb hK hP hX hS 15 1 (by decide) rf_c15 rfl (i := ev) (x := 0) hj.1 (cf' := rf_c X (up2 (up2 (up2 (rf_T d) 0 22 0) 14 ev.toNatClampNeg ((rf_T d) 0 22)) 15 ev.toNatClampNeg 0) π) (by rw [gw_vz (by decide)]; rfl) rf_o dX4_act_72 (fun H locs hP hS => ?_)
        refine lv_iconst (v := 0) hx hb dX4_act_73 (by decide) ?_
        refine lv_istore_n (lv' := [(3, .int 0), (2, .int ((rf_T d) 0 22)), (0, .ref (X.2.1 0)), (1, .int ev)]) hx hb dX4_act_74 rfl hl (by decide) rfl (fun ls hl => ?_)
        obtain ⟨j, hj3, hj4⟩ : ∃ j : Nat, j < 32 ∧ ev = nI j := wl_ok32 ok_1
        obtain ⟨D0, hD0⟩ : ∃ z, z = up2 (up2 (up2 (rf_T d) 0 22 0) 14 ev.toNatClampNeg (nI ts)) 15 ev.toNatClampNeg 0 := ⟨_, rfl⟩
        have h17 : ∀ k, D0 17 k = rf_T d 17 k := fun k => by rw [hD0, up2_k (by decide), up2_k (by decide), up2_k (by decide)]
        obtain ⟨k, hk⟩ : ∃ i : Nat, i = 0 := ⟨0, rfl⟩
        replace hP : va_P X.1 vwCl (rf_ws X (rf_cp D0 j k) π) H := by rw [hk, rf_cp_0, hD0, ← hts2]; exact hP
        have hk1 : k ≤ ts := by omega
        replace hl : lv_has ls 4 [(3, .int (nI k)), (2, .int (nI ts)), (0, .ref (X.2.1 0)), (1, .int (nI j))] := by rw [hk, nI_0, ← hj4, ← hts2]; exact hl
        obtain ⟨g, hg⟩ : ∃ g : Nat, ts < k + g := ⟨ts + 1, by omega⟩
        clear hk
        induction g generalizing k ls H locs with
        | zero => exact absurd hg (by omega)
        | succ g ih =>
          refine lv_iload_n hx hb dX4_act_75 rfl (lv_at hl 0 rfl) ?_
          refine lv_iload_n hx hb dX4_act_76 rfl (lv_at hl 1 rfl) ?_
          refine lv_icmp_ge (tgt := 104) hx hb dX4_act_77 (by decide) (fun c_10 => ?_) (fun c_10 => ?_)
          · have hex : ts ≤ k := (nI_leI (by omega) (by omega)).mp c_10
            refine lv_iconst (v := 0) hx hb dX4_act_104 (by decide) ?_
            refine gw_iret (rf_cp D0 j k, π) hx hb hr hlocks (rf_hB hP) hS dX4_act_105 ?_
            refine Or.inr ⟨ok_1, Or.inr ⟨wl_ts0 hts2 sz ht256, Or.inr ⟨rfl, wl_nlt_of s_1, ?_⟩⟩⟩
            rw [show ts = k by omega] at hD0 ⊢
            rw [hD0, hj4, nI_clamp (by omega)]
          · have hlt : k < ts := Nat.lt_of_not_le (fun z => c_10 (nI_le z (by omega)))
            refine lv_aload_n hx hb dX4_act_80 rfl (lv_at hl 2 rfl) ?_
            refine gw_get hx hb hts inX4 hown hK hP 0 (by decide) rf_c0 rfl 21 (by decide) (hts _ mG_236) (fun _ h9 => h9) (v := .ref (X.2.1 16)) rfl dX4_act_81 ?_
            refine lv_sipush (v := 256) hx hb dX4_act_84 (by decide) ?_
            refine lv_iload_n hx hb dX4_act_87 rfl (lv_at hl 3 rfl) ?_
            refine lv_imul hx hb dX4_act_88 ?_
            refine W.eq (g2 := F0 m 89 ls (.int (nI (256 * j)) :: .ref (X.2.1 16) :: [])) (by rw [show (256 : Int32) * nI j = nI (256 * j) from pk_mul 256 j]) ?_
            refine lv_iload_n hx hb dX4_act_89 rfl (lv_at hl 0 rfl) ?_
            refine lv_iadd hx hb dX4_act_90 ?_
            refine W.eq (g2 := F0 m 91 ls (.int (nI (256 * j + k)) :: .ref (X.2.1 16) :: [])) (by rw [nI_add]) ?_
            refine lv_aload_n hx hb dX4_act_91 rfl (lv_at hl 2 rfl) ?_
            refine gw_get hx hb hts inX4 hown hK hP 0 (by decide) rf_c0 rfl 23 (by decide) (hts _ mG_238) (fun _ h9 => h9) (v := .ref (X.2.1 17)) rfl dX4_act_92 ?_
            refine lv_iload_n hx hb dX4_act_95 rfl (lv_at hl 0 rfl) ?_
            refine gw_bald hx hb hK hP 17 2 (by decide) rf_c17 rfl (i := nI k) (vp_in_nI (by omega) (by omega)) dX4_act_96 ?_
            refine W.eq (g2 := F0 m 97 ls (.int (D0 17 k) :: .int (nI (256 * j + k)) :: .ref (X.2.1 16) :: [])) (by rw [nI_clamp (show k < 2 ^ 31 by omega), rf_cp_ne (by decide)]) ?_
            refine gw_bast hx hb hK hP hX hS 16 2 (by decide) rf_c16 rfl (i := nI (256 * j + k)) (x := D0 17 k) (vp_in_nI (by omega) (by omega)) (cf' := rf_c X (up2 (rf_cp D0 j k) 16 (nI (256 * j + k)).toNatClampNeg (D0 17 k)) π) (by rw [vp_nar_byte, h17, hft k (by omega)]; rfl) rf_o dX4_act_97 (fun H locs hP hS => ?_)
            rw [nI_clamp (show 256 * j + k < 2 ^ 31 by omega)] at hP
            refine lv_iinc (v := nI (k + 1)) (lv' := [(3, .int (nI (k + 1))), (2, .int (nI ts)), (0, .ref (X.2.1 0)), (1, .int (nI j))]) hx hb dX4_act_98 hl (k := 0) rfl (nI_1 k) (by decide) rfl (fun ls hl => ?_)
            refine lv_goto (tgt := 75) hx hb dX4_act_101 (by decide) ?_
            exact ih (k := k + 1) (ls := ls) (H := _) (locs := locs) (hS := hS) (hP := by rw [← rf_cp_step]; exact hP) (hk1 := by omega) (hl := lv_sub hl [0, 1, 2, 3] rfl) (hg := by omega)
      · have s_1 : ¬ rf_T d 14 ev.toNatClampNeg ≤ 0 := c_9
        refine lv_iload_n hx hb dX4_act_35 rfl (lv_at hl 2 rfl) ?_
        refine gw_calli (va_runS (As := [.int ev]) (rest := []) ⟨hx, hb, hml, hown, hts⟩ (c_WatchListModel_isEvent X hX (up2 (rf_T d) 0 22 0) π ev ) ⟨callB_of 1 hts giX4_isEvent rfl rfl rfl (hts _ mG_26) (hts _ mG_280) pdX4_isEvent ⟨Nat.le_of_ble_eq_true rfl, Nat.le_of_ble_eq_true rfl⟩, hts _ mG_281⟩ ⟨rf_blind, rf_at hP hK hN⟩ rfl rfl hl.1 rfl (lv_room (Nat.le_of_ble_eq_true rfl)) dX4_act_36 ⟨Nat.le_of_ble_eq_true rfl, Nat.le_of_ble_eq_true rfl⟩) hS (fun r_11 u_11 t_11 locs hw hP hS => ?_)
        obtain ⟨rfl, rfl⟩ := hw
        have hP : va_P X.1 vwCl (rf_ws X (up2 (rf_T d) 0 22 0) π) t_11.heap := hP
        refine lv_if_ne (tgt := 47) hx hb dX4_act_39 (by decide) (fun c_12 => ?_) (fun c_12 => ?_)
        · refine lv_iload_n hx hb dX4_act_47 rfl (lv_at hl 0 rfl) ?_
          refine lv_if_ne (tgt := 56) hx hb dX4_act_48 (by decide) (fun c_13 => ?_) (fun c_13 => ?_)
          · refine lv_bipush (v := 29) hx hb dX4_act_56 (by decide) ?_
            refine gw_iret (up2 (rf_T d) 0 22 0, π) hx hb hr hlocks (rf_hB hP) hS dX4_act_58 ?_
            exact Or.inr ⟨ok_1, Or.inr ⟨wl_ts0 hts2 sz ht256, Or.inl ⟨rfl, rf_lt_pos s_1, rfl⟩⟩⟩
          · exact absurd c_13 sz
        · exact absurd (ok_1.symm.trans (wl_if c_12)) (by decide)
set_option maxHeartbeats 4000000 in
set_option maxRecDepth 100000 in
theorem c_WatchListModel_drop (X : rf_X) (hX : gw_inj 18 X.2.1) (d : Nat → Nat → Int32) (π : Nat → Nat)  (ev : Int32)  : Met l yX4_drop wsX4_drop ({ frames := 2, cells := 0, slots := 0, locals := 42 }) (rf_pre X [.ref (X.2.1 0), .int ev] d π) (va_Qi (fun r u => (wl_ok ev 32 = false ∧ r = 16 ∧ u = (rf_T d, π)) ∨ (wl_ok ev 32 = true ∧ ((rf_T d 14 ev.toNatClampNeg = 0 ∧ r = 30 ∧ u = (rf_T d, π)) ∨ (¬ rf_T d 14 ev.toNatClampNeg = 0 ∧ ((¬ rf_T d 15 ev.toNatClampNeg = 0 ∧ r = 15 ∧ u = (rf_T d, π)) ∨ (rf_T d 15 ev.toNatClampNeg = 0 ∧ r = 0 ∧ u = (up2 (rf_T d) 14 ev.toNatClampNeg 0, π))))))) (rf_b X) (gw_A 18 X.2.1)) 0 0 (gw_A 18 X.2.1) := by
  refine Met.ofW (cc := cX4_drop) (maxL := 2) (ret := (some .int)) (by decide) rfl ?_
  intro p e s m args below meth c s₁ B hml hv
  obtain ⟨rfl, hP, hK, hN⟩ := hv
  have hx := B.exec
  have hb := B.bytes
  have hr := B.returns
  have hts : ∀ w ∈ gG, w.before _ s = true := fun w h => atoms_spec (ws := wsX4_drop) B.pre w (List.mem_cons_of_mem _ h)
  have hown : s.vm.findClass RX4 = some m.cls := findClass_of_methodNamed B.named
  have hlocks := B.notSynchronized
  have hS : va_S (gw_A 18 X.2.1) s.heap s.heap [] := va_S.rf
  have hl := lv_entry ([.ref (X.2.1 0), .int ev]) (n := 2) (Nat.le_of_ble_eq_true rfl)
  rw [lg_entry_eq]
  generalize (lg_sl ([.ref (X.2.1 0), .int ev]) ++ List.replicate (2 - (lg_sl ([.ref (X.2.1 0), .int ev])).length) Slot.unset).toArray = ls at hl ⊢
  have hl : lv_has ls 2 [(0, .ref (X.2.1 0)), (1, .int ev)] := hl
  refine lv_aload_n hx hb dX4_drop_0 rfl (lv_at hl 0 rfl) ?_
  refine lv_iconst (v := 0) hx hb dX4_drop_1 (by decide) ?_
  refine gw_put hx hb hts inX4 tyX4 okX4 nmX4 hown hK hP hX hS 0 (by decide) rf_c0 rfl 0 (by decide) (hts _ mG_215) (fun _ h9 => h9) rfl (ty := .int) (v := .int 0) (by decide +kernel) rfl rfl (Nat.le_of_ble_eq_true rfl) (cf' := rf_c X (up2 d 0 0 0) π) rfl rf_o dX4_drop_2 (fun H locs hP hS => ?_)
  have hP : va_P X.1 vwCl (rf_ws X (rf_T d) π) H := hP
  refine lv_iload_n hx hb dX4_drop_5 rfl (lv_at hl 1 rfl) ?_
  refine gw_calli (va_runS (As := [.int ev]) (rest := []) ⟨hx, hb, hml, hown, hts⟩ (c_WatchListModel_isEvent X hX (rf_T d) π ev ) ⟨callB_of 1 hts giX4_isEvent rfl rfl rfl (hts _ mG_26) (hts _ mG_280) pdX4_isEvent ⟨Nat.le_of_ble_eq_true rfl, Nat.le_of_ble_eq_true rfl⟩, hts _ mG_281⟩ ⟨rf_blind, rf_at hP hK hN⟩ rfl rfl hl.1 rfl (lv_room (Nat.le_of_ble_eq_true rfl)) dX4_drop_6 ⟨Nat.le_of_ble_eq_true rfl, Nat.le_of_ble_eq_true rfl⟩) hS (fun r_1 u_1 t_1 locs hw hP hS => ?_)
  obtain ⟨rfl, rfl⟩ := hw
  have hP : va_P X.1 vwCl (rf_ws X (rf_T d) π) t_1.heap := hP
  refine lv_if_eq (tgt := 30) hx hb dX4_drop_9 (by decide) (fun c_2 => ?_) (fun c_2 => ?_)
  · have ok_1 := wl_if c_2
    refine lv_iload_n hx hb dX4_drop_30 rfl (lv_at hl 1 rfl) ?_
    refine gw_calli (va_runS (As := [.int ev]) (rest := []) ⟨hx, hb, hml, hown, hts⟩ (c_WatchListModel_isEvent X hX (rf_T d) π ev ) ⟨callB_of 1 hts giX4_isEvent rfl rfl rfl (hts _ mG_26) (hts _ mG_280) pdX4_isEvent ⟨Nat.le_of_ble_eq_true rfl, Nat.le_of_ble_eq_true rfl⟩, hts _ mG_281⟩ ⟨rf_blind, rf_at hP hK hN⟩ rfl rfl hl.1 rfl (lv_room (Nat.le_of_ble_eq_true rfl)) dX4_drop_31 ⟨Nat.le_of_ble_eq_true rfl, Nat.le_of_ble_eq_true rfl⟩) hS (fun r_3 u_3 t_3 locs hw hP hS => ?_)
    obtain ⟨rfl, rfl⟩ := hw
    have hP : va_P X.1 vwCl (rf_ws X (rf_T d) π) t_3.heap := hP
    refine lv_if_ne (tgt := 42) hx hb dX4_drop_34 (by decide) (fun c_4 => ?_) (fun c_4 => ?_)
    · exact absurd (ok_1.symm.trans (wl_it c_4)) (by decide)
    · refine lv_bipush (v := 16) hx hb dX4_drop_37 (by decide) ?_
      refine lv_goto (tgt := 58) hx hb dX4_drop_39 (by decide) ?_
      refine gw_iret (rf_T d, π) hx hb hr hlocks (rf_hB hP) hS dX4_drop_58 ?_
      exact Or.inl ⟨ok_1, rfl, rfl⟩
  · have ok_1 := wl_it c_2
    have hj := wl_ok32c ok_1
    refine lv_aload_n hx hb dX4_drop_12 rfl (lv_at hl 0 rfl) ?_
    refine gw_get hx hb hts inX4 hown hK hP 0 (by decide) rf_c0 rfl 19 (by decide) (hts _ mG_234) (fun _ h9 => h9) (v := .ref (X.2.1 14)) rfl dX4_drop_13 ?_
    refine lv_iload_n hx hb dX4_drop_16 rfl (lv_at hl 1 rfl) ?_
    refine gw_iald hx hb hK hP 14 0 (by decide) rf_c14 rfl (i := ev) hj.1 dX4_drop_17 ?_
    refine lv_if_eq (tgt := 30) hx hb dX4_drop_18 (by decide) (fun c_5 => ?_) (fun c_5 => ?_)
    · have s_1 := c_5
      refine lv_iload_n hx hb dX4_drop_30 rfl (lv_at hl 1 rfl) ?_
      refine gw_calli (va_runS (As := [.int ev]) (rest := []) ⟨hx, hb, hml, hown, hts⟩ (c_WatchListModel_isEvent X hX (rf_T d) π ev ) ⟨callB_of 1 hts giX4_isEvent rfl rfl rfl (hts _ mG_26) (hts _ mG_280) pdX4_isEvent ⟨Nat.le_of_ble_eq_true rfl, Nat.le_of_ble_eq_true rfl⟩, hts _ mG_281⟩ ⟨rf_blind, rf_at hP hK hN⟩ rfl rfl hl.1 rfl (lv_room (Nat.le_of_ble_eq_true rfl)) dX4_drop_31 ⟨Nat.le_of_ble_eq_true rfl, Nat.le_of_ble_eq_true rfl⟩) hS (fun r_6 u_6 t_6 locs hw hP hS => ?_)
      obtain ⟨rfl, rfl⟩ := hw
      have hP : va_P X.1 vwCl (rf_ws X (rf_T d) π) t_6.heap := hP
      refine lv_if_ne (tgt := 42) hx hb dX4_drop_34 (by decide) (fun c_7 => ?_) (fun c_7 => ?_)
      · refine lv_aload_n hx hb dX4_drop_42 rfl (lv_at hl 0 rfl) ?_
        refine gw_get hx hb hts inX4 hown hK hP 0 (by decide) rf_c0 rfl 19 (by decide) (hts _ mG_234) (fun _ h9 => h9) (v := .ref (X.2.1 14)) rfl dX4_drop_43 ?_
        refine lv_iload_n hx hb dX4_drop_46 rfl (lv_at hl 1 rfl) ?_
        refine gw_iald hx hb hK hP 14 0 (by decide) rf_c14 rfl (i := ev) hj.1 dX4_drop_47 ?_
        refine lv_if_ne (tgt := 56) hx hb dX4_drop_48 (by decide) (fun c_8 => ?_) (fun c_8 => ?_)
        · exact absurd s_1 c_8
        · refine lv_bipush (v := 30) hx hb dX4_drop_51 (by decide) ?_
          refine lv_goto (tgt := 58) hx hb dX4_drop_53 (by decide) ?_
          refine gw_iret (rf_T d, π) hx hb hr hlocks (rf_hB hP) hS dX4_drop_58 ?_
          exact Or.inr ⟨ok_1, Or.inl ⟨s_1, rfl, rfl⟩⟩
      · exact absurd (ok_1.symm.trans (wl_if c_7)) (by decide)
    · have s_1 := c_5
      refine lv_aload_n hx hb dX4_drop_21 rfl (lv_at hl 0 rfl) ?_
      refine gw_get hx hb hts inX4 hown hK hP 0 (by decide) rf_c0 rfl 20 (by decide) (hts _ mG_235) (fun _ h9 => h9) (v := .ref (X.2.1 15)) rfl dX4_drop_22 ?_
      refine lv_iload_n hx hb dX4_drop_25 rfl (lv_at hl 1 rfl) ?_
      refine gw_zald hx hb hK hP 15 1 (by decide) rf_c15 rfl (i := ev) hj.1 dX4_drop_26 ?_
      refine lv_if_eq (tgt := 59) hx hb dX4_drop_27 (by decide) (fun c_9 => ?_) (fun c_9 => ?_)
      · have a_1 := c_9
        refine lv_aload_n hx hb dX4_drop_59 rfl (lv_at hl 0 rfl) ?_
        refine gw_get hx hb hts inX4 hown hK hP 0 (by decide) rf_c0 rfl 19 (by decide) (hts _ mG_234) (fun _ h9 => h9) (v := .ref (X.2.1 14)) rfl dX4_drop_60 ?_
        refine lv_iload_n hx hb dX4_drop_63 rfl (lv_at hl 1 rfl) ?_
        refine lv_iconst (v := 0) hx hb dX4_drop_64 (by decide) ?_
        refine gw_iast hx hb hK hP hX hS 14 0 (by decide) rf_c14 rfl (i := ev) (x := 0) hj.1 (cf' := rf_c X (up2 (rf_T d) 14 ev.toNatClampNeg 0) π) rfl rf_o dX4_drop_65 (fun H locs hP hS => ?_)
        refine lv_iconst (v := 0) hx hb dX4_drop_66 (by decide) ?_
        refine gw_iret (up2 (rf_T d) 14 ev.toNatClampNeg 0, π) hx hb hr hlocks (rf_hB hP) hS dX4_drop_67 ?_
        exact Or.inr ⟨ok_1, Or.inr ⟨s_1, Or.inr ⟨a_1, rfl, rfl⟩⟩⟩
      · have a_1 := c_9
        refine lv_iload_n hx hb dX4_drop_30 rfl (lv_at hl 1 rfl) ?_
        refine gw_calli (va_runS (As := [.int ev]) (rest := []) ⟨hx, hb, hml, hown, hts⟩ (c_WatchListModel_isEvent X hX (rf_T d) π ev ) ⟨callB_of 1 hts giX4_isEvent rfl rfl rfl (hts _ mG_26) (hts _ mG_280) pdX4_isEvent ⟨Nat.le_of_ble_eq_true rfl, Nat.le_of_ble_eq_true rfl⟩, hts _ mG_281⟩ ⟨rf_blind, rf_at hP hK hN⟩ rfl rfl hl.1 rfl (lv_room (Nat.le_of_ble_eq_true rfl)) dX4_drop_31 ⟨Nat.le_of_ble_eq_true rfl, Nat.le_of_ble_eq_true rfl⟩) hS (fun r_10 u_10 t_10 locs hw hP hS => ?_)
        obtain ⟨rfl, rfl⟩ := hw
        have hP : va_P X.1 vwCl (rf_ws X (rf_T d) π) t_10.heap := hP
        refine lv_if_ne (tgt := 42) hx hb dX4_drop_34 (by decide) (fun c_11 => ?_) (fun c_11 => ?_)
        · refine lv_aload_n hx hb dX4_drop_42 rfl (lv_at hl 0 rfl) ?_
          refine gw_get hx hb hts inX4 hown hK hP 0 (by decide) rf_c0 rfl 19 (by decide) (hts _ mG_234) (fun _ h9 => h9) (v := .ref (X.2.1 14)) rfl dX4_drop_43 ?_
          refine lv_iload_n hx hb dX4_drop_46 rfl (lv_at hl 1 rfl) ?_
          refine gw_iald hx hb hK hP 14 0 (by decide) rf_c14 rfl (i := ev) hj.1 dX4_drop_47 ?_
          refine lv_if_ne (tgt := 56) hx hb dX4_drop_48 (by decide) (fun c_12 => ?_) (fun c_12 => ?_)
          · refine lv_bipush (v := 15) hx hb dX4_drop_56 (by decide) ?_
            refine gw_iret (rf_T d, π) hx hb hr hlocks (rf_hB hP) hS dX4_drop_58 ?_
            exact Or.inr ⟨ok_1, Or.inr ⟨s_1, Or.inl ⟨a_1, rfl, rfl⟩⟩⟩
          · exact absurd c_12 s_1
        · exact absurd (ok_1.symm.trans (wl_if c_11)) (by decide)
set_option maxHeartbeats 4000000 in
set_option maxRecDepth 100000 in
theorem c_WatchListModel_arm (X : rf_X) (hX : gw_inj 18 X.2.1) (d : Nat → Nat → Int32) (π : Nat → Nat)  (ev : Int32) (on : Int32) (hz : on = 0 ∨ on = 1) : Met l yX4_arm wsX4_arm ({ frames := 2, cells := 0, slots := 0, locals := 42 }) (rf_pre X [.ref (X.2.1 0), .int ev, .int on] d π) (va_Qi (fun r u => (wl_ok ev 32 = false ∧ r = 16 ∧ u = (rf_T d, π)) ∨ (wl_ok ev 32 = true ∧ ((rf_T d 14 ev.toNatClampNeg = 0 ∧ r = 30 ∧ u = (rf_T d, π)) ∨ (¬ rf_T d 14 ev.toNatClampNeg = 0 ∧ r = 0 ∧ u = (up2 (rf_T d) 15 ev.toNatClampNeg on, π))))) (rf_b X) (gw_A 18 X.2.1)) 0 0 (gw_A 18 X.2.1) := by
  refine Met.ofW (cc := cX4_arm) (maxL := 3) (ret := (some .int)) (by decide) rfl ?_
  intro p e s m args below meth c s₁ B hml hv
  obtain ⟨rfl, hP, hK, hN⟩ := hv
  have hx := B.exec
  have hb := B.bytes
  have hr := B.returns
  have hts : ∀ w ∈ gG, w.before _ s = true := fun w h => atoms_spec (ws := wsX4_arm) B.pre w (List.mem_cons_of_mem _ h)
  have hown : s.vm.findClass RX4 = some m.cls := findClass_of_methodNamed B.named
  have hlocks := B.notSynchronized
  have hS : va_S (gw_A 18 X.2.1) s.heap s.heap [] := va_S.rf
  have hl := lv_entry ([.ref (X.2.1 0), .int ev, .int on]) (n := 3) (Nat.le_of_ble_eq_true rfl)
  rw [lg_entry_eq]
  generalize (lg_sl ([.ref (X.2.1 0), .int ev, .int on]) ++ List.replicate (3 - (lg_sl ([.ref (X.2.1 0), .int ev, .int on])).length) Slot.unset).toArray = ls at hl ⊢
  have hl : lv_has ls 3 [(0, .ref (X.2.1 0)), (1, .int ev), (2, .int on)] := hl
  refine lv_aload_n hx hb dX4_arm_0 rfl (lv_at hl 0 rfl) ?_
  refine lv_iconst (v := 0) hx hb dX4_arm_1 (by decide) ?_
  refine gw_put hx hb hts inX4 tyX4 okX4 nmX4 hown hK hP hX hS 0 (by decide) rf_c0 rfl 0 (by decide) (hts _ mG_215) (fun _ h9 => h9) rfl (ty := .int) (v := .int 0) (by decide +kernel) rfl rfl (Nat.le_of_ble_eq_true rfl) (cf' := rf_c X (up2 d 0 0 0) π) rfl rf_o dX4_arm_2 (fun H locs hP hS => ?_)
  have hP : va_P X.1 vwCl (rf_ws X (rf_T d) π) H := hP
  refine lv_iload_n hx hb dX4_arm_5 rfl (lv_at hl 1 rfl) ?_
  refine gw_calli (va_runS (As := [.int ev]) (rest := []) ⟨hx, hb, hml, hown, hts⟩ (c_WatchListModel_isEvent X hX (rf_T d) π ev ) ⟨callB_of 1 hts giX4_isEvent rfl rfl rfl (hts _ mG_26) (hts _ mG_280) pdX4_isEvent ⟨Nat.le_of_ble_eq_true rfl, Nat.le_of_ble_eq_true rfl⟩, hts _ mG_281⟩ ⟨rf_blind, rf_at hP hK hN⟩ rfl rfl hl.1 rfl (lv_room (Nat.le_of_ble_eq_true rfl)) dX4_arm_6 ⟨Nat.le_of_ble_eq_true rfl, Nat.le_of_ble_eq_true rfl⟩) hS (fun r_1 u_1 t_1 locs hw hP hS => ?_)
  obtain ⟨rfl, rfl⟩ := hw
  have hP : va_P X.1 vwCl (rf_ws X (rf_T d) π) t_1.heap := hP
  refine lv_if_eq (tgt := 21) hx hb dX4_arm_9 (by decide) (fun c_2 => ?_) (fun c_2 => ?_)
  · have ok_1 := wl_if c_2
    refine lv_iload_n hx hb dX4_arm_21 rfl (lv_at hl 1 rfl) ?_
    refine gw_calli (va_runS (As := [.int ev]) (rest := []) ⟨hx, hb, hml, hown, hts⟩ (c_WatchListModel_isEvent X hX (rf_T d) π ev ) ⟨callB_of 1 hts giX4_isEvent rfl rfl rfl (hts _ mG_26) (hts _ mG_280) pdX4_isEvent ⟨Nat.le_of_ble_eq_true rfl, Nat.le_of_ble_eq_true rfl⟩, hts _ mG_281⟩ ⟨rf_blind, rf_at hP hK hN⟩ rfl rfl hl.1 rfl (lv_room (Nat.le_of_ble_eq_true rfl)) dX4_arm_22 ⟨Nat.le_of_ble_eq_true rfl, Nat.le_of_ble_eq_true rfl⟩) hS (fun r_3 u_3 t_3 locs hw hP hS => ?_)
    obtain ⟨rfl, rfl⟩ := hw
    have hP : va_P X.1 vwCl (rf_ws X (rf_T d) π) t_3.heap := hP
    refine lv_if_ne (tgt := 33) hx hb dX4_arm_25 (by decide) (fun c_4 => ?_) (fun c_4 => ?_)
    · exact absurd (ok_1.symm.trans (wl_it c_4)) (by decide)
    · refine lv_bipush (v := 16) hx hb dX4_arm_28 (by decide) ?_
      refine lv_goto (tgt := 35) hx hb dX4_arm_30 (by decide) ?_
      refine gw_iret (rf_T d, π) hx hb hr hlocks (rf_hB hP) hS dX4_arm_35 ?_
      exact Or.inl ⟨ok_1, rfl, rfl⟩
  · have ok_1 := wl_it c_2
    have hj := wl_ok32c ok_1
    refine lv_aload_n hx hb dX4_arm_12 rfl (lv_at hl 0 rfl) ?_
    refine gw_get hx hb hts inX4 hown hK hP 0 (by decide) rf_c0 rfl 19 (by decide) (hts _ mG_234) (fun _ h9 => h9) (v := .ref (X.2.1 14)) rfl dX4_arm_13 ?_
    refine lv_iload_n hx hb dX4_arm_16 rfl (lv_at hl 1 rfl) ?_
    refine gw_iald hx hb hK hP 14 0 (by decide) rf_c14 rfl (i := ev) hj.1 dX4_arm_17 ?_
    refine lv_if_ne (tgt := 36) hx hb dX4_arm_18 (by decide) (fun c_5 => ?_) (fun c_5 => ?_)
    · have s_1 := c_5
      refine lv_aload_n hx hb dX4_arm_36 rfl (lv_at hl 0 rfl) ?_
      refine gw_get hx hb hts inX4 hown hK hP 0 (by decide) rf_c0 rfl 20 (by decide) (hts _ mG_235) (fun _ h9 => h9) (v := .ref (X.2.1 15)) rfl dX4_arm_37 ?_
      refine lv_iload_n hx hb dX4_arm_40 rfl (lv_at hl 1 rfl) ?_
      refine lv_iload_n hx hb dX4_arm_41 rfl (lv_at hl 2 rfl) ?_
      refine gw_zast hx hb hK hP hX hS 15 1 (by decide) rf_c15 rfl (i := ev) (x := on) hj.1 (cf' := rf_c X (up2 (rf_T d) 15 ev.toNatClampNeg on) π) (by rw [gw_vz hz]; rfl) rf_o dX4_arm_42 (fun H locs hP hS => ?_)
      refine lv_iconst (v := 0) hx hb dX4_arm_43 (by decide) ?_
      refine gw_iret (up2 (rf_T d) 15 ev.toNatClampNeg on, π) hx hb hr hlocks (rf_hB hP) hS dX4_arm_44 ?_
      exact Or.inr ⟨ok_1, Or.inr ⟨s_1, rfl, rfl⟩⟩
    · have s_1 := c_5
      refine lv_iload_n hx hb dX4_arm_21 rfl (lv_at hl 1 rfl) ?_
      refine gw_calli (va_runS (As := [.int ev]) (rest := []) ⟨hx, hb, hml, hown, hts⟩ (c_WatchListModel_isEvent X hX (rf_T d) π ev ) ⟨callB_of 1 hts giX4_isEvent rfl rfl rfl (hts _ mG_26) (hts _ mG_280) pdX4_isEvent ⟨Nat.le_of_ble_eq_true rfl, Nat.le_of_ble_eq_true rfl⟩, hts _ mG_281⟩ ⟨rf_blind, rf_at hP hK hN⟩ rfl rfl hl.1 rfl (lv_room (Nat.le_of_ble_eq_true rfl)) dX4_arm_22 ⟨Nat.le_of_ble_eq_true rfl, Nat.le_of_ble_eq_true rfl⟩) hS (fun r_6 u_6 t_6 locs hw hP hS => ?_)
      obtain ⟨rfl, rfl⟩ := hw
      have hP : va_P X.1 vwCl (rf_ws X (rf_T d) π) t_6.heap := hP
      refine lv_if_ne (tgt := 33) hx hb dX4_arm_25 (by decide) (fun c_7 => ?_) (fun c_7 => ?_)
      · refine lv_bipush (v := 30) hx hb dX4_arm_33 (by decide) ?_
        refine gw_iret (rf_T d, π) hx hb hr hlocks (rf_hB hP) hS dX4_arm_35 ?_
        exact Or.inr ⟨ok_1, Or.inl ⟨s_1, rfl, rfl⟩⟩
      · exact absurd (ok_1.symm.trans (wl_if c_7)) (by decide)
set_option maxHeartbeats 4000000 in
set_option maxRecDepth 100000 in
theorem c_WatchListModel_limit (X : rf_X) (hX : gw_inj 18 X.2.1) (d : Nat → Nat → Int32) (π : Nat → Nat)  (id : Int32) (w : Int32)  : Met l yX4_limit wsX4_limit ({ frames := 1, cells := 0, slots := 0, locals := 21 }) (rf_pre X [.ref (X.2.1 0), .int id, .int w] d π) (va_Qi (fun r u => (rf_th (rf_T d) id = false ∧ r = -1 ∧ u = (rf_T d, π)) ∨ (rf_th (rf_T d) id = true ∧ r = rf_ltell (rf_T d) id.toNatClampNeg w ∧ u = (rf_T d, π))) (rf_b X) (gw_A 18 X.2.1)) 0 0 (gw_A 18 X.2.1) := by
  refine Met.ofW (cc := cX4_limit) (maxL := 3) (ret := (some .int)) (by decide) rfl ?_
  intro p e s m args below meth c s₁ B hml hv
  obtain ⟨rfl, hP, hK, hN⟩ := hv
  have hx := B.exec
  have hb := B.bytes
  have hr := B.returns
  have hts : ∀ w ∈ gG, w.before _ s = true := fun w h => atoms_spec (ws := wsX4_limit) B.pre w (List.mem_cons_of_mem _ h)
  have hown : s.vm.findClass RX4 = some m.cls := findClass_of_methodNamed B.named
  have hlocks := B.notSynchronized
  have hS : va_S (gw_A 18 X.2.1) s.heap s.heap [] := va_S.rf
  have hl := lv_entry ([.ref (X.2.1 0), .int id, .int w]) (n := 3) (Nat.le_of_ble_eq_true rfl)
  rw [lg_entry_eq]
  generalize (lg_sl ([.ref (X.2.1 0), .int id, .int w]) ++ List.replicate (3 - (lg_sl ([.ref (X.2.1 0), .int id, .int w])).length) Slot.unset).toArray = ls at hl ⊢
  have hl : lv_has ls 3 [(0, .ref (X.2.1 0)), (1, .int id), (2, .int w)] := hl
  refine lv_aload_n hx hb dX4_limit_0 rfl (lv_at hl 0 rfl) ?_
  refine lv_iconst (v := 0) hx hb dX4_limit_1 (by decide) ?_
  refine gw_put hx hb hts inX4 tyX4 okX4 nmX4 hown hK hP hX hS 0 (by decide) rf_c0 rfl 0 (by decide) (hts _ mG_215) (fun _ h9 => h9) rfl (ty := .int) (v := .int 0) (by decide +kernel) rfl rfl (Nat.le_of_ble_eq_true rfl) (cf' := rf_c X (up2 d 0 0 0) π) rfl rf_o dX4_limit_2 (fun H locs hP hS => ?_)
  have hP : va_P X.1 vwCl (rf_ws X (rf_T d) π) H := hP
  refine lv_aload_n hx hb dX4_limit_5 rfl (lv_at hl 0 rfl) ?_
  refine lv_iload_n hx hb dX4_limit_6 rfl (lv_at hl 1 rfl) ?_
  refine gw_calli (va_runV (As := [.int id]) (rest := []) ⟨hx, hb, hml, hown, hts⟩ (c_WatchListModel_isThere X hX (rf_T d) π id ) ⟨callB_of 1 hts giX4_isThere rfl rfl rfl (hts _ mG_26) (hts _ mG_258) pdX4_isThere ⟨Nat.le_of_ble_eq_true rfl, Nat.le_of_ble_eq_true rfl⟩, hts _ mG_259, hts _ mG_19⟩ ⟨rf_blind, gw_recv hK hP 0 (by decide) rf_c0 rfl, rf_at hP hK hN⟩ rfl rfl hl.1 rfl (lv_room (Nat.le_of_ble_eq_true rfl)) dX4_limit_7 ⟨Nat.le_of_ble_eq_true rfl, Nat.le_of_ble_eq_true rfl⟩) hS (fun r_1 u_1 t_1 locs hw hP hS => ?_)
  obtain ⟨rfl, rfl⟩ := hw
  have hP : va_P X.1 vwCl (rf_ws X (rf_T d) π) t_1.heap := hP
  refine lv_if_ne (tgt := 15) hx hb dX4_limit_10 (by decide) (fun c_2 => ?_) (fun c_2 => ?_)
  · have th_1 := wl_it c_2
    have hj := rf_ok256c (rf_th_ok th_1).1
    refine lv_iload_n hx hb dX4_limit_15 rfl (lv_at hl 2 rfl) ?_
    by_cases c_3 : w.toInt < 0 ∨ 5 < w.toInt
    · refine lv_tableOut (tgt := 114) hx hb dX4_limit_16 c_3 (by decide) ?_
      refine lv_iconst (v := (-1)) hx hb dX4_limit_114 (by decide) ?_
      refine gw_iret (rf_T d, π) hx hb hr hlocks (rf_hB hP) hS dX4_limit_115 ?_
      exact Or.inr ⟨th_1, by rw [rf_ltell_o c_3], rfl⟩
    · have h_c_3 : w = 0 ∨ w = 1 ∨ w = 2 ∨ w = 3 ∨ w = 4 ∨ w = 5 := wl_sw0_5 c_3
      rcases h_c_3 with e_c_3 | e_c_3 | e_c_3 | e_c_3 | e_c_3 | e_c_3
      · refine lv_tableIn (tgt := 56) hx hb dX4_limit_16 (by rw [e_c_3]; decide) (by rw [e_c_3]; decide) (by rw [e_c_3]; rfl) (by decide) ?_
        refine lv_aload_n hx hb dX4_limit_56 rfl (lv_at hl 0 rfl) ?_
        refine gw_get hx hb hts inX4 hown hK hP 0 (by decide) rf_c0 rfl 3 (by decide) (hts _ mG_218) (fun _ h9 => h9) (v := .ref (X.2.1 3)) rfl dX4_limit_57 ?_
        refine lv_iload_n hx hb dX4_limit_60 rfl (lv_at hl 1 rfl) ?_
        refine gw_zald hx hb hK hP 3 1 (by decide) rf_c3 rfl (i := id) hj.1 dX4_limit_61 ?_
        refine lv_if_eq (tgt := 69) hx hb dX4_limit_62 (by decide) (fun c_4 => ?_) (fun c_4 => ?_)
        · have b_1 := c_4
          refine lv_iconst (v := 0) hx hb dX4_limit_69 (by decide) ?_
          refine gw_iret (rf_T d, π) hx hb hr hlocks (rf_hB hP) hS dX4_limit_70 ?_
          exact Or.inr ⟨th_1, by rw [e_c_3]; show (0 : Int32) = if _ = _ then 0 else 1; rw [if_pos b_1], rfl⟩
        · have b_1 := c_4
          refine lv_iconst (v := 1) hx hb dX4_limit_65 (by decide) ?_
          refine lv_goto (tgt := 70) hx hb dX4_limit_66 (by decide) ?_
          refine gw_iret (rf_T d, π) hx hb hr hlocks (rf_hB hP) hS dX4_limit_70 ?_
          exact Or.inr ⟨th_1, by rw [e_c_3]; show (1 : Int32) = if _ = _ then 0 else 1; rw [if_neg b_1], rfl⟩
      · refine lv_tableIn (tgt := 71) hx hb dX4_limit_16 (by rw [e_c_3]; decide) (by rw [e_c_3]; decide) (by rw [e_c_3]; rfl) (by decide) ?_
        refine lv_aload_n hx hb dX4_limit_71 rfl (lv_at hl 0 rfl) ?_
        refine gw_get hx hb hts inX4 hown hK hP 0 (by decide) rf_c0 rfl 10 (by decide) (hts _ mG_225) (fun _ h9 => h9) (v := .ref (X.2.1 10)) rfl dX4_limit_72 ?_
        refine lv_iload_n hx hb dX4_limit_75 rfl (lv_at hl 1 rfl) ?_
        refine gw_iald hx hb hK hP 10 0 (by decide) rf_c10 rfl (i := id) hj.1 dX4_limit_76 ?_
        refine gw_iret (rf_T d, π) hx hb hr hlocks (rf_hB hP) hS dX4_limit_77 ?_
        exact Or.inr ⟨th_1, by rw [e_c_3]; rfl, rfl⟩
      · refine lv_tableIn (tgt := 78) hx hb dX4_limit_16 (by rw [e_c_3]; decide) (by rw [e_c_3]; decide) (by rw [e_c_3]; rfl) (by decide) ?_
        refine lv_aload_n hx hb dX4_limit_78 rfl (lv_at hl 0 rfl) ?_
        refine gw_get hx hb hts inX4 hown hK hP 0 (by decide) rf_c0 rfl 5 (by decide) (hts _ mG_220) (fun _ h9 => h9) (v := .ref (X.2.1 5)) rfl dX4_limit_79 ?_
        refine lv_iload_n hx hb dX4_limit_82 rfl (lv_at hl 1 rfl) ?_
        refine gw_iald hx hb hK hP 5 0 (by decide) rf_c5 rfl (i := id) hj.1 dX4_limit_83 ?_
        refine gw_iret (rf_T d, π) hx hb hr hlocks (rf_hB hP) hS dX4_limit_84 ?_
        exact Or.inr ⟨th_1, by rw [e_c_3]; rfl, rfl⟩
      · refine lv_tableIn (tgt := 85) hx hb dX4_limit_16 (by rw [e_c_3]; decide) (by rw [e_c_3]; decide) (by rw [e_c_3]; rfl) (by decide) ?_
        refine lv_aload_n hx hb dX4_limit_85 rfl (lv_at hl 0 rfl) ?_
        refine gw_get hx hb hts inX4 hown hK hP 0 (by decide) rf_c0 rfl 6 (by decide) (hts _ mG_221) (fun _ h9 => h9) (v := .ref (X.2.1 6)) rfl dX4_limit_86 ?_
        refine lv_iload_n hx hb dX4_limit_89 rfl (lv_at hl 1 rfl) ?_
        refine gw_iald hx hb hK hP 6 0 (by decide) rf_c6 rfl (i := id) hj.1 dX4_limit_90 ?_
        refine gw_iret (rf_T d, π) hx hb hr hlocks (rf_hB hP) hS dX4_limit_91 ?_
        exact Or.inr ⟨th_1, by rw [e_c_3]; rfl, rfl⟩
      · refine lv_tableIn (tgt := 92) hx hb dX4_limit_16 (by rw [e_c_3]; decide) (by rw [e_c_3]; decide) (by rw [e_c_3]; rfl) (by decide) ?_
        refine lv_aload_n hx hb dX4_limit_92 rfl (lv_at hl 0 rfl) ?_
        refine gw_get hx hb hts inX4 hown hK hP 0 (by decide) rf_c0 rfl 9 (by decide) (hts _ mG_224) (fun _ h9 => h9) (v := .ref (X.2.1 9)) rfl dX4_limit_93 ?_
        refine lv_iload_n hx hb dX4_limit_96 rfl (lv_at hl 1 rfl) ?_
        refine gw_iald hx hb hK hP 9 0 (by decide) rf_c9 rfl (i := id) hj.1 dX4_limit_97 ?_
        refine gw_iret (rf_T d, π) hx hb hr hlocks (rf_hB hP) hS dX4_limit_98 ?_
        exact Or.inr ⟨th_1, by rw [e_c_3]; rfl, rfl⟩
      · refine lv_tableIn (tgt := 99) hx hb dX4_limit_16 (by rw [e_c_3]; decide) (by rw [e_c_3]; decide) (by rw [e_c_3]; rfl) (by decide) ?_
        refine lv_aload_n hx hb dX4_limit_99 rfl (lv_at hl 0 rfl) ?_
        refine gw_get hx hb hts inX4 hown hK hP 0 (by decide) rf_c0 rfl 4 (by decide) (hts _ mG_219) (fun _ h9 => h9) (v := .ref (X.2.1 4)) rfl dX4_limit_100 ?_
        refine lv_iload_n hx hb dX4_limit_103 rfl (lv_at hl 1 rfl) ?_
        refine gw_zald hx hb hK hP 4 1 (by decide) rf_c4 rfl (i := id) hj.1 dX4_limit_104 ?_
        refine lv_if_eq (tgt := 112) hx hb dX4_limit_105 (by decide) (fun c_5 => ?_) (fun c_5 => ?_)
        · have b_1 := c_5
          refine lv_iconst (v := 0) hx hb dX4_limit_112 (by decide) ?_
          refine gw_iret (rf_T d, π) hx hb hr hlocks (rf_hB hP) hS dX4_limit_113 ?_
          exact Or.inr ⟨th_1, by rw [e_c_3]; show (0 : Int32) = if _ = _ then 0 else 1; rw [if_pos b_1], rfl⟩
        · have b_1 := c_5
          refine lv_iconst (v := 1) hx hb dX4_limit_108 (by decide) ?_
          refine lv_goto (tgt := 113) hx hb dX4_limit_109 (by decide) ?_
          refine gw_iret (rf_T d, π) hx hb hr hlocks (rf_hB hP) hS dX4_limit_113 ?_
          exact Or.inr ⟨th_1, by rw [e_c_3]; show (1 : Int32) = if _ = _ then 0 else 1; rw [if_neg b_1], rfl⟩
  · have th_1 := wl_if c_2
    refine lv_iconst (v := (-1)) hx hb dX4_limit_13 (by decide) ?_
    refine gw_iret (rf_T d, π) hx hb hr hlocks (rf_hB hP) hS dX4_limit_14 ?_
    exact Or.inl ⟨th_1, rfl, rfl⟩
set_option maxHeartbeats 4000000 in
set_option maxRecDepth 100000 in
theorem c_WatchListModel_event (X : rf_X) (hX : gw_inj 18 X.2.1) (d : Nat → Nat → Int32) (π : Nat → Nat)  (ev : Int32) (w : Int32)  : Met l yX4_event wsX4_event ({ frames := 2, cells := 0, slots := 0, locals := 42 }) (rf_pre X [.ref (X.2.1 0), .int ev, .int w] d π) (va_Qi (fun r u => u = (rf_T d, π) ∧ r = (if wl_ok ev 32 = true then rf_etell (rf_T d) ev.toNatClampNeg w else -1)) (rf_b X) (gw_A 18 X.2.1)) 0 0 (gw_A 18 X.2.1) := by
  refine Met.ofW (cc := cX4_event) (maxL := 3) (ret := (some .int)) (by decide) rfl ?_
  intro p e s m args below meth c s₁ B hml hv
  obtain ⟨rfl, hP, hK, hN⟩ := hv
  have hx := B.exec
  have hb := B.bytes
  have hr := B.returns
  have hts : ∀ w ∈ gG, w.before _ s = true := fun w h => atoms_spec (ws := wsX4_event) B.pre w (List.mem_cons_of_mem _ h)
  have hown : s.vm.findClass RX4 = some m.cls := findClass_of_methodNamed B.named
  have hlocks := B.notSynchronized
  have hS : va_S (gw_A 18 X.2.1) s.heap s.heap [] := va_S.rf
  have hl := lv_entry ([.ref (X.2.1 0), .int ev, .int w]) (n := 3) (Nat.le_of_ble_eq_true rfl)
  rw [lg_entry_eq]
  generalize (lg_sl ([.ref (X.2.1 0), .int ev, .int w]) ++ List.replicate (3 - (lg_sl ([.ref (X.2.1 0), .int ev, .int w])).length) Slot.unset).toArray = ls at hl ⊢
  have hl : lv_has ls 3 [(0, .ref (X.2.1 0)), (1, .int ev), (2, .int w)] := hl
  refine lv_aload_n hx hb dX4_event_0 rfl (lv_at hl 0 rfl) ?_
  refine lv_iconst (v := 0) hx hb dX4_event_1 (by decide) ?_
  refine gw_put hx hb hts inX4 tyX4 okX4 nmX4 hown hK hP hX hS 0 (by decide) rf_c0 rfl 0 (by decide) (hts _ mG_215) (fun _ h9 => h9) rfl (ty := .int) (v := .int 0) (by decide +kernel) rfl rfl (Nat.le_of_ble_eq_true rfl) (cf' := rf_c X (up2 d 0 0 0) π) rfl rf_o dX4_event_2 (fun H locs hP hS => ?_)
  have hP : va_P X.1 vwCl (rf_ws X (rf_T d) π) H := hP
  refine lv_iload_n hx hb dX4_event_5 rfl (lv_at hl 1 rfl) ?_
  refine gw_calli (va_runS (As := [.int ev]) (rest := []) ⟨hx, hb, hml, hown, hts⟩ (c_WatchListModel_isEvent X hX (rf_T d) π ev ) ⟨callB_of 1 hts giX4_isEvent rfl rfl rfl (hts _ mG_26) (hts _ mG_280) pdX4_isEvent ⟨Nat.le_of_ble_eq_true rfl, Nat.le_of_ble_eq_true rfl⟩, hts _ mG_281⟩ ⟨rf_blind, rf_at hP hK hN⟩ rfl rfl hl.1 rfl (lv_room (Nat.le_of_ble_eq_true rfl)) dX4_event_6 ⟨Nat.le_of_ble_eq_true rfl, Nat.le_of_ble_eq_true rfl⟩) hS (fun r_1 u_1 t_1 locs hw hP hS => ?_)
  obtain ⟨rfl, rfl⟩ := hw
  have hP : va_P X.1 vwCl (rf_ws X (rf_T d) π) t_1.heap := hP
  refine lv_if_ne (tgt := 14) hx hb dX4_event_9 (by decide) (fun c_2 => ?_) (fun c_2 => ?_)
  · have ok_1 := wl_it c_2
    have hj := wl_ok32c ok_1
    refine lv_iload_n hx hb dX4_event_14 rfl (lv_at hl 2 rfl) ?_
    refine lv_if_ne (tgt := 35) hx hb dX4_event_15 (by decide) (fun c_3 => ?_) (fun c_3 => ?_)
    · have w_0 := c_3
      refine lv_iload_n hx hb dX4_event_35 rfl (lv_at hl 2 rfl) ?_
      refine lv_iconst (v := 1) hx hb dX4_event_36 (by decide) ?_
      refine lv_icmp_ne (tgt := 49) hx hb dX4_event_37 (by decide) (fun c_4 => ?_) (fun c_4 => ?_)
      · have w_1 := c_4
        refine lv_iload_n hx hb dX4_event_49 rfl (lv_at hl 2 rfl) ?_
        refine lv_iconst (v := 2) hx hb dX4_event_50 (by decide) ?_
        refine lv_icmp_ne (tgt := 80) hx hb dX4_event_51 (by decide) (fun c_5 => ?_) (fun c_5 => ?_)
        · have w_2 := c_5
          refine lv_iconst (v := (-1)) hx hb dX4_event_80 (by decide) ?_
          refine gw_iret (rf_T d, π) hx hb hr hlocks (rf_hB hP) hS dX4_event_81 ?_
          refine ⟨rfl, ?_⟩; rw [if_pos ok_1]; unfold rf_etell; rw [if_neg w_0, if_neg w_1, if_neg w_2]
        · have w_2 := c_5
          refine lv_aload_n hx hb dX4_event_54 rfl (lv_at hl 0 rfl) ?_
          refine gw_get hx hb hts inX4 hown hK hP 0 (by decide) rf_c0 rfl 19 (by decide) (hts _ mG_234) (fun _ h9 => h9) (v := .ref (X.2.1 14)) rfl dX4_event_55 ?_
          refine lv_iload_n hx hb dX4_event_58 rfl (lv_at hl 1 rfl) ?_
          refine gw_iald hx hb hK hP 14 0 (by decide) rf_c14 rfl (i := ev) hj.1 dX4_event_59 ?_
          refine lv_if_le (tgt := 76) hx hb dX4_event_60 (by decide) (fun c_6 => ?_) (fun c_6 => ?_)
          · have s_1 := c_6
            refine lv_iconst (v := 0) hx hb dX4_event_76 (by decide) ?_
            refine lv_goto (tgt := 81) hx hb dX4_event_77 (by decide) ?_
            refine gw_iret (rf_T d, π) hx hb hr hlocks (rf_hB hP) hS dX4_event_81 ?_
            refine ⟨rfl, ?_⟩; rw [if_pos ok_1]; unfold rf_etell; rw [if_neg w_0, if_neg w_1, if_pos w_2, if_neg (wl_nlt_of s_1)]
          · have s_1 := c_6
            refine lv_aload_n hx hb dX4_event_63 rfl (lv_at hl 0 rfl) ?_
            refine gw_get hx hb hts inX4 hown hK hP 0 (by decide) rf_c0 rfl 20 (by decide) (hts _ mG_235) (fun _ h9 => h9) (v := .ref (X.2.1 15)) rfl dX4_event_64 ?_
            refine lv_iload_n hx hb dX4_event_67 rfl (lv_at hl 1 rfl) ?_
            refine gw_zald hx hb hK hP 15 1 (by decide) rf_c15 rfl (i := ev) hj.1 dX4_event_68 ?_
            refine lv_if_eq (tgt := 76) hx hb dX4_event_69 (by decide) (fun c_7 => ?_) (fun c_7 => ?_)
            · have a_1 := c_7
              refine lv_iconst (v := 0) hx hb dX4_event_76 (by decide) ?_
              refine lv_goto (tgt := 81) hx hb dX4_event_77 (by decide) ?_
              refine gw_iret (rf_T d, π) hx hb hr hlocks (rf_hB hP) hS dX4_event_81 ?_
              refine ⟨rfl, ?_⟩; rw [if_pos ok_1]; unfold rf_etell; rw [if_neg w_0, if_neg w_1, if_pos w_2, if_pos (rf_lt_pos s_1), if_pos a_1]
            · have a_1 := c_7
              refine lv_iconst (v := 1) hx hb dX4_event_72 (by decide) ?_
              refine lv_goto (tgt := 81) hx hb dX4_event_73 (by decide) ?_
              refine gw_iret (rf_T d, π) hx hb hr hlocks (rf_hB hP) hS dX4_event_81 ?_
              refine ⟨rfl, ?_⟩; rw [if_pos ok_1]; unfold rf_etell; rw [if_neg w_0, if_neg w_1, if_pos w_2, if_pos (rf_lt_pos s_1), if_neg a_1]
      · have w_1 := c_4
        refine lv_aload_n hx hb dX4_event_40 rfl (lv_at hl 0 rfl) ?_
        refine gw_get hx hb hts inX4 hown hK hP 0 (by decide) rf_c0 rfl 19 (by decide) (hts _ mG_234) (fun _ h9 => h9) (v := .ref (X.2.1 14)) rfl dX4_event_41 ?_
        refine lv_iload_n hx hb dX4_event_44 rfl (lv_at hl 1 rfl) ?_
        refine gw_iald hx hb hK hP 14 0 (by decide) rf_c14 rfl (i := ev) hj.1 dX4_event_45 ?_
        refine lv_goto (tgt := 81) hx hb dX4_event_46 (by decide) ?_
        refine gw_iret (rf_T d, π) hx hb hr hlocks (rf_hB hP) hS dX4_event_81 ?_
        refine ⟨rfl, ?_⟩; rw [if_pos ok_1]; unfold rf_etell; rw [if_neg w_0, if_pos w_1]
    · have w_0 := c_3
      refine lv_aload_n hx hb dX4_event_18 rfl (lv_at hl 0 rfl) ?_
      refine gw_get hx hb hts inX4 hown hK hP 0 (by decide) rf_c0 rfl 18 (by decide) (hts _ mG_233) (fun _ h9 => h9) (v := .ref (X.2.1 13)) rfl dX4_event_19 ?_
      refine lv_iload_n hx hb dX4_event_22 rfl (lv_at hl 1 rfl) ?_
      refine gw_zald hx hb hK hP 13 1 (by decide) rf_c13 rfl (i := ev) hj.1 dX4_event_23 ?_
      refine lv_if_eq (tgt := 31) hx hb dX4_event_24 (by decide) (fun c_8 => ?_) (fun c_8 => ?_)
      · have b_1 := c_8
        refine lv_iconst (v := 1) hx hb dX4_event_31 (by decide) ?_
        refine lv_goto (tgt := 81) hx hb dX4_event_32 (by decide) ?_
        refine gw_iret (rf_T d, π) hx hb hr hlocks (rf_hB hP) hS dX4_event_81 ?_
        refine ⟨rfl, ?_⟩; rw [if_pos ok_1]; unfold rf_etell; rw [if_pos w_0, if_pos b_1]
      · have b_1 := c_8
        refine lv_iconst (v := 0) hx hb dX4_event_27 (by decide) ?_
        refine lv_goto (tgt := 81) hx hb dX4_event_28 (by decide) ?_
        refine gw_iret (rf_T d, π) hx hb hr hlocks (rf_hB hP) hS dX4_event_81 ?_
        refine ⟨rfl, ?_⟩; rw [if_pos ok_1]; unfold rf_etell; rw [if_pos w_0, if_neg b_1]
  · have ok_1 := wl_if c_2
    refine lv_iconst (v := (-1)) hx hb dX4_event_12 (by decide) ?_
    refine gw_iret (rf_T d, π) hx hb hr hlocks (rf_hB hP) hS dX4_event_13 ?_
    exact ⟨rfl, by rw [if_neg (by rw [ok_1]; decide)]⟩
set_option maxHeartbeats 4000000 in
set_option maxRecDepth 100000 in
theorem c_WatchListModel_actionAt (X : rf_X) (hX : gw_inj 18 X.2.1) (d : Nat → Nat → Int32) (π : Nat → Nat)  (ev : Int32) (k : Int32) (hsz : ∀ j, j < 32 → ∃ z, rf_T d 14 j = nI z ∧ z ≤ 256) : Met l yX4_actionAt wsX4_actionAt ({ frames := 2, cells := 0, slots := 0, locals := 42 }) (rf_pre X [.ref (X.2.1 0), .int ev, .int k] d π) (va_Qi (fun r u => u = (rf_T d, π) ∧ r = (if wl_ok ev 32 = true then (if wl_ok k (rf_T d 14 ev.toNatClampNeg) = true then rf_T d 16 (256 * ev.toNatClampNeg + k.toNatClampNeg) &&& 255 else -1) else -1)) (rf_b X) (gw_A 18 X.2.1)) 0 0 (gw_A 18 X.2.1) := by
  refine Met.ofW (cc := cX4_actionAt) (maxL := 3) (ret := (some .int)) (by decide) rfl ?_
  intro p e s m args below meth c s₁ B hml hv
  obtain ⟨rfl, hP, hK, hN⟩ := hv
  have hx := B.exec
  have hb := B.bytes
  have hr := B.returns
  have hts : ∀ w ∈ gG, w.before _ s = true := fun w h => atoms_spec (ws := wsX4_actionAt) B.pre w (List.mem_cons_of_mem _ h)
  have hown : s.vm.findClass RX4 = some m.cls := findClass_of_methodNamed B.named
  have hlocks := B.notSynchronized
  have hS : va_S (gw_A 18 X.2.1) s.heap s.heap [] := va_S.rf
  have hl := lv_entry ([.ref (X.2.1 0), .int ev, .int k]) (n := 3) (Nat.le_of_ble_eq_true rfl)
  rw [lg_entry_eq]
  generalize (lg_sl ([.ref (X.2.1 0), .int ev, .int k]) ++ List.replicate (3 - (lg_sl ([.ref (X.2.1 0), .int ev, .int k])).length) Slot.unset).toArray = ls at hl ⊢
  have hl : lv_has ls 3 [(0, .ref (X.2.1 0)), (1, .int ev), (2, .int k)] := hl
  refine lv_aload_n hx hb dX4_actionAt_0 rfl (lv_at hl 0 rfl) ?_
  refine lv_iconst (v := 0) hx hb dX4_actionAt_1 (by decide) ?_
  refine gw_put hx hb hts inX4 tyX4 okX4 nmX4 hown hK hP hX hS 0 (by decide) rf_c0 rfl 0 (by decide) (hts _ mG_215) (fun _ h9 => h9) rfl (ty := .int) (v := .int 0) (by decide +kernel) rfl rfl (Nat.le_of_ble_eq_true rfl) (cf' := rf_c X (up2 d 0 0 0) π) rfl rf_o dX4_actionAt_2 (fun H locs hP hS => ?_)
  have hP : va_P X.1 vwCl (rf_ws X (rf_T d) π) H := hP
  refine lv_iload_n hx hb dX4_actionAt_5 rfl (lv_at hl 1 rfl) ?_
  refine gw_calli (va_runS (As := [.int ev]) (rest := []) ⟨hx, hb, hml, hown, hts⟩ (c_WatchListModel_isEvent X hX (rf_T d) π ev ) ⟨callB_of 1 hts giX4_isEvent rfl rfl rfl (hts _ mG_26) (hts _ mG_280) pdX4_isEvent ⟨Nat.le_of_ble_eq_true rfl, Nat.le_of_ble_eq_true rfl⟩, hts _ mG_281⟩ ⟨rf_blind, rf_at hP hK hN⟩ rfl rfl hl.1 rfl (lv_room (Nat.le_of_ble_eq_true rfl)) dX4_actionAt_6 ⟨Nat.le_of_ble_eq_true rfl, Nat.le_of_ble_eq_true rfl⟩) hS (fun r_1 u_1 t_1 locs hw hP hS => ?_)
  obtain ⟨rfl, rfl⟩ := hw
  have hP : va_P X.1 vwCl (rf_ws X (rf_T d) π) t_1.heap := hP
  refine lv_if_eq (tgt := 45) hx hb dX4_actionAt_9 (by decide) (fun c_2 => ?_) (fun c_2 => ?_)
  · have ok_1 := wl_if c_2
    refine lv_iconst (v := (-1)) hx hb dX4_actionAt_45 (by decide) ?_
    refine gw_iret (rf_T d, π) hx hb hr hlocks (rf_hB hP) hS dX4_actionAt_46 ?_
    exact ⟨rfl, by rw [if_neg (by rw [ok_1]; decide)]⟩
  · have ok_1 := wl_it c_2
    have hj := wl_ok32c ok_1
    obtain ⟨z, hsz1, hsz2⟩ := hsz _ hj.2
    refine lv_iload_n hx hb dX4_actionAt_12 rfl (lv_at hl 2 rfl) ?_
    refine lv_if_lt (tgt := 45) hx hb dX4_actionAt_13 (by decide) (fun c_3 => ?_) (fun c_3 => ?_)
    · have k_1 := c_3
      refine lv_iconst (v := (-1)) hx hb dX4_actionAt_45 (by decide) ?_
      refine gw_iret (rf_T d, π) hx hb hr hlocks (rf_hB hP) hS dX4_actionAt_46 ?_
      exact ⟨rfl, by rw [if_pos ok_1, if_neg (by rw [wl_ok_lt k_1]; decide)]⟩
    · have k_1 := c_3
      refine lv_iload_n hx hb dX4_actionAt_16 rfl (lv_at hl 2 rfl) ?_
      refine lv_aload_n hx hb dX4_actionAt_17 rfl (lv_at hl 0 rfl) ?_
      refine gw_get hx hb hts inX4 hown hK hP 0 (by decide) rf_c0 rfl 19 (by decide) (hts _ mG_234) (fun _ h9 => h9) (v := .ref (X.2.1 14)) rfl dX4_actionAt_18 ?_
      refine lv_iload_n hx hb dX4_actionAt_21 rfl (lv_at hl 1 rfl) ?_
      refine gw_iald hx hb hK hP 14 0 (by decide) rf_c14 rfl (i := ev) hj.1 dX4_actionAt_22 ?_
      refine lv_icmp_ge (tgt := 45) hx hb dX4_actionAt_23 (by decide) (fun c_4 => ?_) (fun c_4 => ?_)
      · have k_2 := c_4
        refine lv_iconst (v := (-1)) hx hb dX4_actionAt_45 (by decide) ?_
        refine gw_iret (rf_T d, π) hx hb hr hlocks (rf_hB hP) hS dX4_actionAt_46 ?_
        exact ⟨rfl, by rw [if_pos ok_1, if_neg (by rw [wl_ok_ge k_2]; decide)]⟩
      · have k_2 := c_4
        obtain ⟨j, hj3, ej⟩ := wl_ok32 ok_1
        obtain ⟨kk, hk3, ek⟩ := vp_in_of (wl_in_sz k_1 (by rw [← hsz1]; exact k_2) hsz2 (by omega)) (by omega)
        refine lv_aload_n hx hb dX4_actionAt_26 rfl (lv_at hl 0 rfl) ?_
        refine gw_get hx hb hts inX4 hown hK hP 0 (by decide) rf_c0 rfl 21 (by decide) (hts _ mG_236) (fun _ h9 => h9) (v := .ref (X.2.1 16)) rfl dX4_actionAt_27 ?_
        refine lv_sipush (v := 256) hx hb dX4_actionAt_30 (by decide) ?_
        refine lv_iload_n hx hb dX4_actionAt_33 rfl (lv_at hl 1 rfl) ?_
        refine lv_imul hx hb dX4_actionAt_34 ?_
        refine W.eq (g2 := F0 m 35 ls (.int (nI (256 * j)) :: .ref (X.2.1 16) :: [])) (by rw [ej, show (256 : Int32) * nI j = nI (256 * j) from pk_mul 256 j]) ?_
        refine lv_iload_n hx hb dX4_actionAt_35 rfl (lv_at hl 2 rfl) ?_
        refine lv_iadd hx hb dX4_actionAt_36 ?_
        refine W.eq (g2 := F0 m 37 ls (.int (nI (256 * j + kk)) :: .ref (X.2.1 16) :: [])) (by rw [ek, nI_add]) ?_
        refine gw_bald hx hb hK hP 16 2 (by decide) rf_c16 rfl (i := nI (256 * j + kk)) (vp_in_nI (by omega) (by omega)) dX4_actionAt_37 ?_
        refine W.eq (g2 := F0 m 38 ls (.int (rf_T d 16 (256 * j + kk)) :: [])) (by rw [nI_clamp (show 256 * j + kk < 2 ^ 31 by omega)]) ?_
        refine lv_sipush (v := 255) hx hb dX4_actionAt_38 (by decide) ?_
        refine lv_iand hx hb dX4_actionAt_41 ?_
        refine lv_goto (tgt := 46) hx hb dX4_actionAt_42 (by decide) ?_
        refine gw_iret (rf_T d, π) hx hb hr hlocks (rf_hB hP) hS dX4_actionAt_46 ?_
        exact ⟨rfl, by rw [if_pos ok_1, if_pos (wl_ok_t k_1 k_2), ej, ek, nI_clamp (show j < 2 ^ 31 by omega), nI_clamp (show kk < 2 ^ 31 by omega)]⟩
set_option maxHeartbeats 4000000 in
set_option maxRecDepth 100000 in
theorem c_WatchListModel_count (X : rf_X) (hX : gw_inj 18 X.2.1) (d : Nat → Nat → Int32) (π : Nat → Nat)  (w : Int32)  : Met l yX4_count wsX4_count ({ frames := 1, cells := 0, slots := 0, locals := 22 }) (rf_pre X [.ref (X.2.1 0), .int w] d π) (va_Qi (fun r u => u = (rf_T d, π) ∧ r = rf_count (rf_T d) w) (rf_b X) (gw_A 18 X.2.1)) 0 0 (gw_A 18 X.2.1) := by
  refine Met.ofW (cc := cX4_count) (maxL := 2) (ret := (some .int)) (by decide) rfl ?_
  intro p e s m args below meth c s₁ B hml hv
  obtain ⟨rfl, hP, hK, hN⟩ := hv
  have hx := B.exec
  have hb := B.bytes
  have hr := B.returns
  have hts : ∀ w ∈ gG, w.before _ s = true := fun w h => atoms_spec (ws := wsX4_count) B.pre w (List.mem_cons_of_mem _ h)
  have hown : s.vm.findClass RX4 = some m.cls := findClass_of_methodNamed B.named
  have hlocks := B.notSynchronized
  have hS : va_S (gw_A 18 X.2.1) s.heap s.heap [] := va_S.rf
  have hl := lv_entry ([.ref (X.2.1 0), .int w]) (n := 2) (Nat.le_of_ble_eq_true rfl)
  rw [lg_entry_eq]
  generalize (lg_sl ([.ref (X.2.1 0), .int w]) ++ List.replicate (2 - (lg_sl ([.ref (X.2.1 0), .int w])).length) Slot.unset).toArray = ls at hl ⊢
  have hl : lv_has ls 2 [(0, .ref (X.2.1 0)), (1, .int w)] := hl
  refine lv_aload_n hx hb dX4_count_0 rfl (lv_at hl 0 rfl) ?_
  refine lv_iconst (v := 0) hx hb dX4_count_1 (by decide) ?_
  refine gw_put hx hb hts inX4 tyX4 okX4 nmX4 hown hK hP hX hS 0 (by decide) rf_c0 rfl 0 (by decide) (hts _ mG_215) (fun _ h9 => h9) rfl (ty := .int) (v := .int 0) (by decide +kernel) rfl rfl (Nat.le_of_ble_eq_true rfl) (cf' := rf_c X (up2 d 0 0 0) π) rfl rf_o dX4_count_2 (fun H locs hP hS => ?_)
  have hP : va_P X.1 vwCl (rf_ws X (rf_T d) π) H := hP
  refine lv_iload_n hx hb dX4_count_5 rfl (lv_at hl 1 rfl) ?_
  refine lv_if_ne (tgt := 16) hx hb dX4_count_6 (by decide) (fun c_1 => ?_) (fun c_1 => ?_)
  · have w_0 := c_1
    refine lv_iload_n hx hb dX4_count_16 rfl (lv_at hl 1 rfl) ?_
    refine lv_iconst (v := 1) hx hb dX4_count_17 (by decide) ?_
    refine lv_icmp_ne (tgt := 28) hx hb dX4_count_18 (by decide) (fun c_2 => ?_) (fun c_2 => ?_)
    · have w_1 := c_2
      refine lv_iload_n hx hb dX4_count_28 rfl (lv_at hl 1 rfl) ?_
      refine lv_iconst (v := 2) hx hb dX4_count_29 (by decide) ?_
      refine lv_icmp_ne (tgt := 40) hx hb dX4_count_30 (by decide) (fun c_3 => ?_) (fun c_3 => ?_)
      · have w_2 := c_3
        refine lv_iload_n hx hb dX4_count_40 rfl (lv_at hl 1 rfl) ?_
        refine lv_iconst (v := 3) hx hb dX4_count_41 (by decide) ?_
        refine lv_icmp_ne (tgt := 52) hx hb dX4_count_42 (by decide) (fun c_4 => ?_) (fun c_4 => ?_)
        · have w_3 := c_4
          refine lv_iload_n hx hb dX4_count_52 rfl (lv_at hl 1 rfl) ?_
          refine lv_iconst (v := 4) hx hb dX4_count_53 (by decide) ?_
          refine lv_icmp_ne (tgt := 64) hx hb dX4_count_54 (by decide) (fun c_5 => ?_) (fun c_5 => ?_)
          · have w_4 := c_5
            refine lv_iconst (v := (-1)) hx hb dX4_count_64 (by decide) ?_
            refine gw_iret (rf_T d, π) hx hb hr hlocks (rf_hB hP) hS dX4_count_65 ?_
            refine ⟨rfl, ?_⟩; unfold rf_count; rw [if_neg w_0, if_neg w_1, if_neg w_2, if_neg w_3, if_neg w_4]
          · have w_4 := c_5
            refine lv_aload_n hx hb dX4_count_57 rfl (lv_at hl 0 rfl) ?_
            refine gw_get hx hb hts inX4 hown hK hP 0 (by decide) rf_c0 rfl 17 (by decide) (hts _ mG_232) (fun _ h9 => h9) (v := .int ((rf_T d) 0 17)) rfl dX4_count_58 ?_
            refine lv_goto (tgt := 65) hx hb dX4_count_61 (by decide) ?_
            refine gw_iret (rf_T d, π) hx hb hr hlocks (rf_hB hP) hS dX4_count_65 ?_
            refine ⟨rfl, ?_⟩; unfold rf_count; rw [if_neg w_0, if_neg w_1, if_neg w_2, if_neg w_3, if_pos w_4]
        · have w_3 := c_4
          refine lv_aload_n hx hb dX4_count_45 rfl (lv_at hl 0 rfl) ?_
          refine gw_get hx hb hts inX4 hown hK hP 0 (by decide) rf_c0 rfl 16 (by decide) (hts _ mG_231) (fun _ h9 => h9) (v := .int ((rf_T d) 0 16)) rfl dX4_count_46 ?_
          refine lv_goto (tgt := 65) hx hb dX4_count_49 (by decide) ?_
          refine gw_iret (rf_T d, π) hx hb hr hlocks (rf_hB hP) hS dX4_count_65 ?_
          refine ⟨rfl, ?_⟩; unfold rf_count; rw [if_neg w_0, if_neg w_1, if_neg w_2, if_pos w_3]
      · have w_2 := c_3
        refine lv_aload_n hx hb dX4_count_33 rfl (lv_at hl 0 rfl) ?_
        refine gw_get hx hb hts inX4 hown hK hP 0 (by decide) rf_c0 rfl 13 (by decide) (hts _ mG_228) (fun _ h9 => h9) (v := .int ((rf_T d) 0 13)) rfl dX4_count_34 ?_
        refine lv_goto (tgt := 65) hx hb dX4_count_37 (by decide) ?_
        refine gw_iret (rf_T d, π) hx hb hr hlocks (rf_hB hP) hS dX4_count_65 ?_
        refine ⟨rfl, ?_⟩; unfold rf_count; rw [if_neg w_0, if_neg w_1, if_pos w_2]
    · have w_1 := c_2
      refine lv_aload_n hx hb dX4_count_21 rfl (lv_at hl 0 rfl) ?_
      refine gw_get hx hb hts inX4 hown hK hP 0 (by decide) rf_c0 rfl 11 (by decide) (hts _ mG_226) (fun _ h9 => h9) (v := .int ((rf_T d) 0 11)) rfl dX4_count_22 ?_
      refine lv_goto (tgt := 65) hx hb dX4_count_25 (by decide) ?_
      refine gw_iret (rf_T d, π) hx hb hr hlocks (rf_hB hP) hS dX4_count_65 ?_
      refine ⟨rfl, ?_⟩; unfold rf_count; rw [if_neg w_0, if_pos w_1]
  · have w_0 := c_1
    refine lv_aload_n hx hb dX4_count_9 rfl (lv_at hl 0 rfl) ?_
    refine gw_calli (va_runV (As := []) (rest := []) ⟨hx, hb, hml, hown, hts⟩ (c_WatchListModel_limits X hX (rf_T d) π  ) ⟨callB_of 0 hts giX4_limits rfl rfl rfl (hts _ mG_26) (hts _ mG_251) pdX4_limits ⟨Nat.le_of_ble_eq_true rfl, Nat.le_of_ble_eq_true rfl⟩, hts _ mG_252, hts _ mG_18⟩ ⟨rf_blind, gw_recv hK hP 0 (by decide) rf_c0 rfl, rf_at hP hK hN⟩ rfl rfl hl.1 rfl (lv_room (Nat.le_of_ble_eq_true rfl)) dX4_count_10 ⟨Nat.le_of_ble_eq_true rfl, Nat.le_of_ble_eq_true rfl⟩) hS (fun r_6 u_6 t_6 locs hw hP hS => ?_)
    obtain ⟨rfl, rfl⟩ := hw
    have hP : va_P X.1 vwCl (rf_ws X (rf_T d) π) t_6.heap := hP
    refine lv_goto (tgt := 65) hx hb dX4_count_13 (by decide) ?_
    refine gw_iret (rf_T d, π) hx hb hr hlocks (rf_hB hP) hS dX4_count_65 ?_
    refine ⟨rfl, ?_⟩; unfold rf_count; rw [if_pos w_0]
end
section
variable {l : Launch}
set_option maxHeartbeats 4000000 in
set_option maxRecDepth 100000 in
theorem c_WatchListModel_watch (X : rf_X) (hX : gw_inj 18 X.2.1) (d : Nat → Nat → Int32) (π : Nat → Nat)   (q : Nat) (hq : rf_T d 0 13 = nI q) (hq6 : q ≤ 64) (hof : ∀ j, j < 256 → ∃ m, m < 32 ∧ rf_T d 5 j = nI m) : Met l yX4_watch wsX4_watch ({ frames := 1, cells := 0, slots := 0, locals := 22 }) (rf_pre X [.ref (X.2.1 0)] d π) (va_Qi (fun r u => r = (rf_w (rf_T d) 256).2 ∧ u = (up2 (rf_w (rf_T d) 256).1 0 11 ((rf_w (rf_T d) 256).1 0 11 + (rf_w (rf_T d) 256).2), π)) (rf_b X) (gw_A 18 X.2.1)) 0 0 (gw_A 18 X.2.1) := by
  refine Met.ofW (cc := cX4_watch) (maxL := 5) (ret := (some .int)) (by decide) rfl ?_
  intro p e s m args below meth c s₁ B hml hv
  obtain ⟨rfl, hP, hK, hN⟩ := hv
  have hx := B.exec
  have hb := B.bytes
  have hr := B.returns
  have hts : ∀ w ∈ gG, w.before _ s = true := fun w h => atoms_spec (ws := wsX4_watch) B.pre w (List.mem_cons_of_mem _ h)
  have hown : s.vm.findClass RX4 = some m.cls := findClass_of_methodNamed B.named
  have hlocks := B.notSynchronized
  have hS : va_S (gw_A 18 X.2.1) s.heap s.heap [] := va_S.rf
  have hl := lv_entry ([.ref (X.2.1 0)]) (n := 5) (Nat.le_of_ble_eq_true rfl)
  rw [lg_entry_eq]
  generalize (lg_sl ([.ref (X.2.1 0)]) ++ List.replicate (5 - (lg_sl ([.ref (X.2.1 0)])).length) Slot.unset).toArray = ls at hl ⊢
  have hl : lv_has ls 5 [(0, .ref (X.2.1 0))] := hl
  refine lv_aload_n hx hb dX4_watch_0 rfl (lv_at hl 0 rfl) ?_
  refine lv_iconst (v := 0) hx hb dX4_watch_1 (by decide) ?_
  refine gw_put hx hb hts inX4 tyX4 okX4 nmX4 hown hK hP hX hS 0 (by decide) rf_c0 rfl 0 (by decide) (hts _ mG_215) (fun _ h9 => h9) rfl (ty := .int) (v := .int 0) (by decide +kernel) rfl rfl (Nat.le_of_ble_eq_true rfl) (cf' := rf_c X (up2 d 0 0 0) π) rfl rf_o dX4_watch_2 (fun H locs hP hS => ?_)
  have hP : va_P X.1 vwCl (rf_ws X (rf_T d) π) H := hP
  refine lv_iconst (v := 0) hx hb dX4_watch_5 (by decide) ?_
  refine lv_istore_n (lv' := [(1, .int 0), (0, .ref (X.2.1 0))]) hx hb dX4_watch_6 rfl hl (by decide) rfl (fun ls hl => ?_)
  refine lv_aload_n hx hb dX4_watch_7 rfl (lv_at hl 1 rfl) ?_
  refine lv_iconst (v := 0) hx hb dX4_watch_8 (by decide) ?_
  refine gw_put hx hb hts inX4 tyX4 okX4 nmX4 hown hK hP hX hS 0 (by decide) rf_c0 rfl 12 (by decide) (hts _ mG_227) (fun _ h9 => h9) rfl (ty := .boolean) (v := .int 0) (by decide +kernel) (gw_nz (by decide)) (gw_fz (by decide)) (Nat.le_of_ble_eq_true rfl) (cf' := rf_c X (up2 (rf_T d) 0 12 0) π) rfl rf_o dX4_watch_9 (fun H locs hP hS => ?_)
  refine lv_iconst (v := 0) hx hb dX4_watch_12 (by decide) ?_
  refine lv_istore_n (lv' := [(2, .int 0), (1, .int 0), (0, .ref (X.2.1 0))]) hx hb dX4_watch_13 rfl hl (by decide) rfl (fun ls hl => ?_)
  obtain ⟨i, hi⟩ : ∃ i : Nat, i = 0 := ⟨0, rfl⟩
  replace hP : va_P X.1 vwCl (rf_ws X (rf_w (rf_T d) i).1 π) H := by rw [hi]; exact hP
  have hi1 : i ≤ 256 := by omega
  replace hl : lv_has ls 5 [(2, .int (nI i)), (1, .int (rf_w (rf_T d) i).2), (0, .ref (X.2.1 0))] := by rw [hi, nI_0]; exact hl
  obtain ⟨g, hg⟩ : ∃ g : Nat, 256 < i + g := ⟨257, by omega⟩
  clear hi
  induction g generalizing i ls H locs with
  | zero => exact absurd hg (by omega)
  | succ g ih =>
    obtain ⟨hI1, hI2, q1, hI5, hI6⟩ := rf_w_I hq hq6 i
    have hci : (nI i).toNatClampNeg = i := nI_clamp (show i < 2 ^ 31 by omega)
    obtain ⟨D, hD⟩ : ∃ z, z = (rf_w (rf_T d) i).1 := ⟨_, rfl⟩
    rw [← hD] at hP hI1 hI2 hI6
    refine lv_iload_n hx hb dX4_watch_14 rfl (lv_at hl 0 rfl) ?_
    refine lv_sipush (v := 256) hx hb dX4_watch_15 (by decide) ?_
    refine lv_icmp_ge (tgt := 150) hx hb dX4_watch_18 (by decide) (fun c_1 => ?_) (fun c_1 => ?_)
    · have hex : 256 ≤ i := (nI_leI (a := 256) (by omega) (by omega)).mp c_1
      refine lv_aload_n hx hb dX4_watch_150 rfl (lv_at hl 2 rfl) ?_
      refine lv_dup hx hb dX4_watch_151 rfl ?_
      refine gw_get hx hb hts inX4 hown hK hP 0 (by decide) rf_c0 rfl 11 (by decide) (hts _ mG_226) (fun _ h9 => h9) (v := .int (D 0 11)) rfl dX4_watch_152 ?_
      refine lv_iload_n hx hb dX4_watch_155 rfl (lv_at hl 1 rfl) ?_
      refine lv_iadd hx hb dX4_watch_156 ?_
      refine gw_put hx hb hts inX4 tyX4 okX4 nmX4 hown hK hP hX hS 0 (by decide) rf_c0 rfl 11 (by decide) (hts _ mG_226) (fun _ h9 => h9) rfl (ty := .int) (v := .int ((D 0 11) + ((rf_w (rf_T d) i).2))) (by decide +kernel) rfl rfl (Nat.le_of_ble_eq_true rfl) (cf' := rf_c X (up2 D 0 11 ((D 0 11) + ((rf_w (rf_T d) i).2))) π) rfl rf_o dX4_watch_157 (fun H locs hP hS => ?_)
      refine lv_iload_n hx hb dX4_watch_160 rfl (lv_at hl 1 rfl) ?_
      refine gw_iret (up2 D 0 11 ((D 0 11) + ((rf_w (rf_T d) i).2)), π) hx hb hr hlocks (rf_hB hP) hS dX4_watch_161 ?_
      rw [hD, show i = 256 by omega]; exact ⟨rfl, rfl⟩
    · have hlt : i < 256 := Nat.lt_of_not_le (fun z => c_1 (nI_le z (by omega)))
      obtain ⟨m9, hm1, hm2⟩ := hof i hlt
      have hpm : D 5 i = nI m9 := by rw [hI1 5 i (by decide) (by decide) (by decide) (by decide)]; exact hm2
      have g6 : rf_ct D i 0 13 = nI q1 := by rw [rf_ct_k (by decide)]; exact hI6
      refine lv_aload_n hx hb dX4_watch_21 rfl (lv_at hl 2 rfl) ?_
      refine gw_get hx hb hts inX4 hown hK hP 0 (by decide) rf_c0 rfl 1 (by decide) (hts _ mG_216) (fun _ h9 => h9) (v := .ref (X.2.1 1)) rfl dX4_watch_22 ?_
      refine lv_aload_n hx hb dX4_watch_25 rfl (lv_at hl 2 rfl) ?_
      refine gw_get hx hb hts inX4 hown hK hP 0 (by decide) rf_c0 rfl 5 (by decide) (hts _ mG_220) (fun _ h9 => h9) (v := .ref (X.2.1 5)) rfl dX4_watch_26 ?_
      refine lv_iload_n hx hb dX4_watch_29 rfl (lv_at hl 0 rfl) ?_
      refine gw_iald hx hb hK hP 5 0 (by decide) rf_c5 rfl (i := nI i) (vp_in_nI hlt (by omega)) dX4_watch_30 ?_
      refine W.eq (g2 := F0 m 31 ls (.int (D 5 i) :: .ref (X.2.1 1) :: [])) (by rw [hci]) ?_
      refine gw_iald hx hb hK hP 1 0 (by decide) rf_c1 rfl (i := D 5 i) (by rw [hpm]; exact vp_in_nI hm1 (by omega)) dX4_watch_31 ?_
      refine lv_istore_n (lv' := [(3, .int (rf_v D i)), (2, .int (nI i)), (1, .int ((rf_w (rf_T d) i).2)), (0, .ref (X.2.1 0))]) hx hb dX4_watch_32 rfl hl (by decide) rfl (fun ls hl => ?_)
      refine lv_aload_n hx hb dX4_watch_33 rfl (lv_at hl 3 rfl) ?_
      refine gw_get hx hb hts inX4 hown hK hP 0 (by decide) rf_c0 rfl 2 (by decide) (hts _ mG_217) (fun _ h9 => h9) (v := .ref (X.2.1 2)) rfl dX4_watch_34 ?_
      refine lv_iload_n hx hb dX4_watch_37 rfl (lv_at hl 1 rfl) ?_
      refine gw_zald hx hb hK hP 2 1 (by decide) rf_c2 rfl (i := nI i) (vp_in_nI hlt (by omega)) dX4_watch_38 ?_
      refine W.eq (g2 := F0 m 39 ls (.int (D 2 i) :: [])) (by rw [hci]) ?_
      refine lv_if_eq (tgt := 144) hx hb dX4_watch_39 (by decide) (fun c_2 => ?_) (fun c_2 => ?_)
      · have th_1 : D 2 i = 0 := c_2
        rw [hD] at th_1
        have e9 : rf_w (rf_T d) (i + 1) = (D, (rf_w (rf_T d) i).2) := by rw [hD]; exact rf_step0 th_1
        refine lv_iinc (v := nI (i + 1)) (lv' := [(2, .int (nI (i + 1))), (3, .int (rf_v D i)), (1, .int ((rf_w (rf_T d) i).2)), (0, .ref (X.2.1 0))]) hx hb dX4_watch_144 hl (k := 1) rfl (nI_1 i) (by decide) rfl (fun ls hl => ?_)
        have hl9 := lv_sub hl [0, 2, 3] rfl
        refine lv_goto (tgt := 14) hx hb dX4_watch_147 (by decide) ?_
        exact ih (i := i + 1) (ls := ls) (H := _) (locs := locs) (hS := hS) (hP := by rw [e9]; exact hP) (hi1 := by omega) (hl := by rw [e9]; exact hl9) (hg := by omega)
      · have th_1 : ¬ D 2 i = 0 := c_2
        rw [hD] at th_1
        refine lv_aload_n hx hb dX4_watch_42 rfl (lv_at hl 3 rfl) ?_
        refine gw_get hx hb hts inX4 hown hK hP 0 (by decide) rf_c0 rfl 3 (by decide) (hts _ mG_218) (fun _ h9 => h9) (v := .ref (X.2.1 3)) rfl dX4_watch_43 ?_
        refine lv_iload_n hx hb dX4_watch_46 rfl (lv_at hl 1 rfl) ?_
        refine gw_zald hx hb hK hP 3 1 (by decide) rf_c3 rfl (i := nI i) (vp_in_nI hlt (by omega)) dX4_watch_47 ?_
        refine W.eq (g2 := F0 m 48 ls (.int (D 3 i) :: [])) (by rw [hci]) ?_
        refine lv_if_eq (tgt := 144) hx hb dX4_watch_48 (by decide) (fun c_3 => ?_) (fun c_3 => ?_)
        · have on_1 : D 3 i = 0 := c_3
          rw [hD] at on_1
          have e9 : rf_w (rf_T d) (i + 1) = (D, (rf_w (rf_T d) i).2) := by rw [hD]; exact rf_step1 th_1 on_1
          refine lv_iinc (v := nI (i + 1)) (lv' := [(2, .int (nI (i + 1))), (3, .int (rf_v D i)), (1, .int ((rf_w (rf_T d) i).2)), (0, .ref (X.2.1 0))]) hx hb dX4_watch_144 hl (k := 1) rfl (nI_1 i) (by decide) rfl (fun ls hl => ?_)
          have hl9 := lv_sub hl [0, 2, 3] rfl
          refine lv_goto (tgt := 14) hx hb dX4_watch_147 (by decide) ?_
          exact ih (i := i + 1) (ls := ls) (H := _) (locs := locs) (hS := hS) (hP := by rw [e9]; exact hP) (hi1 := by omega) (hl := by rw [e9]; exact hl9) (hg := by omega)
        · have on_1 : ¬ D 3 i = 0 := c_3
          rw [hD] at on_1
          refine lv_aload_n hx hb dX4_watch_51 rfl (lv_at hl 3 rfl) ?_
          refine gw_get hx hb hts inX4 hown hK hP 0 (by decide) rf_c0 rfl 10 (by decide) (hts _ mG_225) (fun _ h9 => h9) (v := .ref (X.2.1 10)) rfl dX4_watch_52 ?_
          refine lv_iload_n hx hb dX4_watch_55 rfl (lv_at hl 1 rfl) ?_
          refine lv_iload_n hx hb dX4_watch_56 rfl (lv_at hl 0 rfl) ?_
          refine lv_aload_n hx hb dX4_watch_57 rfl (lv_at hl 3 rfl) ?_
          refine gw_get hx hb hts inX4 hown hK hP 0 (by decide) rf_c0 rfl 7 (by decide) (hts _ mG_222) (fun _ h9 => h9) (v := .ref (X.2.1 7)) rfl dX4_watch_58 ?_
          refine lv_iload_n hx hb dX4_watch_61 rfl (lv_at hl 1 rfl) ?_
          refine gw_iald hx hb hK hP 7 0 (by decide) rf_c7 rfl (i := nI i) (vp_in_nI hlt (by omega)) dX4_watch_62 ?_
          refine W.eq (g2 := F0 m 63 ls (.int (D 7 i) :: .int (rf_v D i) :: .int (nI i) :: .ref (X.2.1 10) :: [])) (by rw [hci]) ?_
          refine lv_aload_n hx hb dX4_watch_63 rfl (lv_at hl 3 rfl) ?_
          refine gw_get hx hb hts inX4 hown hK hP 0 (by decide) rf_c0 rfl 8 (by decide) (hts _ mG_223) (fun _ h9 => h9) (v := .ref (X.2.1 8)) rfl dX4_watch_64 ?_
          refine lv_iload_n hx hb dX4_watch_67 rfl (lv_at hl 1 rfl) ?_
          refine gw_iald hx hb hK hP 8 0 (by decide) rf_c8 rfl (i := nI i) (vp_in_nI hlt (by omega)) dX4_watch_68 ?_
          refine W.eq (g2 := F0 m 69 ls (.int (D 8 i) :: .int (D 7 i) :: .int (rf_v D i) :: .int (nI i) :: .ref (X.2.1 10) :: [])) (by rw [hci]) ?_
          refine gw_calli (va_runS (As := [.int (rf_v D i), .int (D 7 i), .int (D 8 i)]) (rest := [.int (nI i), .ref (X.2.1 10)]) ⟨hx, hb, hml, hown, hts⟩ (c_WatchListModel_isIn X hX D π (rf_v D i) (D 7 i) (D 8 i) ) ⟨callB_of 3 hts giX4_isIn rfl rfl rfl (hts _ mG_26) (hts _ mG_248) pdX4_isIn ⟨Nat.le_of_ble_eq_true rfl, Nat.le_of_ble_eq_true rfl⟩, hts _ mG_249⟩ ⟨rf_blind, rf_at hP hK hN⟩ rfl rfl hl.1 rfl (lv_room (Nat.le_of_ble_eq_true rfl)) dX4_watch_69 ⟨Nat.le_of_ble_eq_true rfl, Nat.le_of_ble_eq_true rfl⟩) hS (fun r_4 u_4 t_4 locs hw hP hS => ?_)
          obtain ⟨rfl, rfl⟩ := hw
          have hP : va_P X.1 vwCl (rf_ws X D π) t_4.heap := hP
          refine lv_if_eq (tgt := 79) hx hb dX4_watch_72 (by decide) (fun c_5 => ?_) (fun c_5 => ?_)
          · have in_1 : rf_in (rf_v D i) (D 7 i) (D 8 i) = false := wl_if c_5
            refine lv_aload_n hx hb dX4_watch_79 rfl (lv_at hl 3 rfl) ?_
            refine gw_get hx hb hts inX4 hown hK hP 0 (by decide) rf_c0 rfl 10 (by decide) (hts _ mG_225) (fun _ h9 => h9) (v := .ref (X.2.1 10)) rfl dX4_watch_80 ?_
            refine lv_iload_n hx hb dX4_watch_83 rfl (lv_at hl 1 rfl) ?_
            refine gw_iald hx hb hK hP 10 0 (by decide) rf_c10 rfl (i := nI i) (vp_in_nI hlt (by omega)) dX4_watch_84 ?_
            refine W.eq (g2 := F0 m 85 ls (.int (D 10 i) :: .int (nI i) :: .ref (X.2.1 10) :: [])) (by rw [hci]) ?_
            refine lv_iconst (v := 1) hx hb dX4_watch_85 (by decide) ?_
            refine lv_iadd hx hb dX4_watch_86 ?_
            refine gw_iast hx hb hK hP hX hS 10 0 (by decide) rf_c10 rfl (i := nI i) (x := (D 10 i) + 1) (vp_in_nI hlt (by omega)) (cf' := rf_c X (up2 D 10 (nI i).toNatClampNeg ((D 10 i) + 1)) π) rfl rf_o dX4_watch_87 (fun H locs hP hS => ?_)
            replace hP : va_P X.1 vwCl (rf_ws X (rf_ct D i) π) H := by unfold rf_ct; rw [if_neg (by rw [in_1]; decide)]; rw [hci] at hP; exact hP
            refine lv_aload_n hx hb dX4_watch_88 rfl (lv_at hl 3 rfl) ?_
            refine gw_get hx hb hts inX4 hown hK hP 0 (by decide) rf_c0 rfl 10 (by decide) (hts _ mG_225) (fun _ h9 => h9) (v := .ref (X.2.1 10)) rfl dX4_watch_89 ?_
            refine lv_iload_n hx hb dX4_watch_92 rfl (lv_at hl 1 rfl) ?_
            refine gw_iald hx hb hK hP 10 0 (by decide) rf_c10 rfl (i := nI i) (vp_in_nI hlt (by omega)) dX4_watch_93 ?_
            refine W.eq (g2 := F0 m 94 ls (.int ((rf_ct D i) 10 i) :: [])) (by rw [hci]) ?_
            refine lv_aload_n hx hb dX4_watch_94 rfl (lv_at hl 3 rfl) ?_
            refine gw_get hx hb hts inX4 hown hK hP 0 (by decide) rf_c0 rfl 6 (by decide) (hts _ mG_221) (fun _ h9 => h9) (v := .ref (X.2.1 6)) rfl dX4_watch_95 ?_
            refine lv_iload_n hx hb dX4_watch_98 rfl (lv_at hl 1 rfl) ?_
            refine gw_iald hx hb hK hP 6 0 (by decide) rf_c6 rfl (i := nI i) (vp_in_nI hlt (by omega)) dX4_watch_99 ?_
            refine W.eq (g2 := F0 m 100 ls (.int ((rf_ct D i) 6 i) :: .int ((rf_ct D i) 10 i) :: [])) (by rw [hci]) ?_
            refine lv_icmp_ne (tgt := 144) hx hb dX4_watch_100 (by decide) (fun c_6 => ?_) (fun c_6 => ?_)
            · have k_1 : ¬ rf_ct D i 10 i = rf_ct D i 6 i := c_6
              rw [hD] at k_1
              have e9 : rf_w (rf_T d) (i + 1) = (rf_ct D i, (rf_w (rf_T d) i).2) := by rw [hD]; exact rf_step2 th_1 on_1 k_1
              refine lv_iinc (v := nI (i + 1)) (lv' := [(2, .int (nI (i + 1))), (3, .int (rf_v D i)), (1, .int ((rf_w (rf_T d) i).2)), (0, .ref (X.2.1 0))]) hx hb dX4_watch_144 hl (k := 1) rfl (nI_1 i) (by decide) rfl (fun ls hl => ?_)
              have hl9 := lv_sub hl [0, 2, 3] rfl
              refine lv_goto (tgt := 14) hx hb dX4_watch_147 (by decide) ?_
              exact ih (i := i + 1) (ls := ls) (H := _) (locs := locs) (hS := hS) (hP := by rw [e9]; exact hP) (hi1 := by omega) (hl := by rw [e9]; exact hl9) (hg := by omega)
            · have k_1 : rf_ct D i 10 i = rf_ct D i 6 i := c_6
              rw [hD] at k_1
              refine lv_aload_n hx hb dX4_watch_103 rfl (lv_at hl 3 rfl) ?_
              refine lv_aload_n hx hb dX4_watch_104 rfl (lv_at hl 3 rfl) ?_
              refine gw_get hx hb hts inX4 hown hK hP 0 (by decide) rf_c0 rfl 9 (by decide) (hts _ mG_224) (fun _ h9 => h9) (v := .ref (X.2.1 9)) rfl dX4_watch_105 ?_
              refine lv_iload_n hx hb dX4_watch_108 rfl (lv_at hl 1 rfl) ?_
              refine gw_iald hx hb hK hP 9 0 (by decide) rf_c9 rfl (i := nI i) (vp_in_nI hlt (by omega)) dX4_watch_109 ?_
              refine W.eq (g2 := F0 m 110 ls (.int ((rf_ct D i) 9 i) :: .ref (X.2.1 0) :: [])) (by rw [hci]) ?_
              refine lv_iload_n hx hb dX4_watch_110 rfl (lv_at hl 0 rfl) ?_
              refine gw_calli (va_runV (As := [.int ((rf_ct D i) 9 i), .int (rf_v D i)]) (rest := []) ⟨hx, hb, hml, hown, hts⟩ (c_WatchListModel_waits X hX (rf_ct D i) π ((rf_ct D i) 9 i) (rf_v D i) q1 g6 hI5) ⟨callB_of 2 hts giX4_waits rfl rfl rfl (hts _ mG_26) (hts _ mG_269) pdX4_waits ⟨Nat.le_of_ble_eq_true rfl, Nat.le_of_ble_eq_true rfl⟩, hts _ mG_270, hts _ mG_20⟩ ⟨rf_blind, gw_recv hK hP 0 (by decide) rf_c0 rfl, rf_at hP hK hN⟩ rfl rfl hl.1 rfl (lv_room (Nat.le_of_ble_eq_true rfl)) dX4_watch_111 ⟨Nat.le_of_ble_eq_true rfl, Nat.le_of_ble_eq_true rfl⟩) hS (fun r_7 u_7 t_7 locs hw hP hS => ?_)
              obtain ⟨rfl, rfl⟩ := hw
              have hP : va_P X.1 vwCl (rf_ws X (rf_wt (rf_ct D i) q1 ((rf_ct D i) 9 i) (rf_v D i)) π) t_7.heap := hP
              replace hP : va_P X.1 vwCl (rf_ws X (rf_bk D i) π) t_7.heap := by unfold rf_bk; rw [rf_wtD_eq g6 (by omega)]; exact hP
              refine lv_istore (lv' := [(4, .int (wl_i (decide (q1 < 64)))), (3, .int (rf_v D i)), (2, .int (nI i)), (1, .int ((rf_w (rf_T d) i).2)), (0, .ref (X.2.1 0))]) hx hb dX4_watch_114 hl (by decide) rfl (fun ls hl => ?_)
              refine lv_aload_n hx hb dX4_watch_116 rfl (lv_at hl 4 rfl) ?_
              refine lv_aload_n hx hb dX4_watch_117 rfl (lv_at hl 4 rfl) ?_
              refine gw_get hx hb hts inX4 hown hK hP 0 (by decide) rf_c0 rfl 12 (by decide) (hts _ mG_227) (fun _ h9 => h9) (v := .int ((rf_bk D i) 0 12)) rfl dX4_watch_118 ?_
              refine lv_if_ne (tgt := 133) hx hb dX4_watch_121 (by decide) (fun c_8 => ?_) (fun c_8 => ?_)
              · have lb : ¬ rf_bk D i 0 12 = 0 := c_8
                refine lv_iconst (v := 1) hx hb dX4_watch_133 (by decide) ?_
                refine lv_goto (tgt := 138) hx hb dX4_watch_134 (by decide) ?_
                refine gw_put hx hb hts inX4 tyX4 okX4 nmX4 hown hK hP hX hS 0 (by decide) rf_c0 rfl 12 (by decide) (hts _ mG_227) (fun _ h9 => h9) rfl (ty := .boolean) (v := .int 1) (by decide +kernel) (gw_nz (by decide)) (gw_fz (by decide)) (Nat.le_of_ble_eq_true rfl) (cf' := rf_c X (up2 (rf_bk D i) 0 12 1) π) rfl rf_o dX4_watch_138 (fun H locs hP hS => ?_)
                replace hP : va_P X.1 vwCl (rf_ws X (up2 (rf_bk D i) 0 12 (wl_or (rf_bk D i 0 12) (rf_bk D i 4 i))) π) H := by rw [show wl_or (rf_bk D i 0 12) (rf_bk D i 4 i) = 1 from by unfold wl_or; rw [if_neg lb]]; exact hP
                refine lv_iinc (v := ((rf_w (rf_T d) i).2) + 1) (lv' := [(1, .int (((rf_w (rf_T d) i).2) + 1)), (4, .int (wl_i (decide (q1 < 64)))), (3, .int (rf_v D i)), (2, .int (nI i)), (0, .ref (X.2.1 0))]) hx hb dX4_watch_141 hl (k := 3) rfl rfl (by decide) rfl (fun ls hl => ?_)
                have e9 : rf_w (rf_T d) (i + 1) = (up2 (rf_bk D i) 0 12 (wl_or (rf_bk D i 0 12) (rf_bk D i 4 i)), (rf_w (rf_T d) i).2 + 1) := by rw [hD]; exact rf_step3 th_1 on_1 k_1
                refine lv_iinc (v := nI (i + 1)) (lv' := [(2, .int (nI (i + 1))), (1, .int (((rf_w (rf_T d) i).2) + 1)), (4, .int (wl_i (decide (q1 < 64)))), (3, .int (rf_v D i)), (0, .ref (X.2.1 0))]) hx hb dX4_watch_144 hl (k := 3) rfl (nI_1 i) (by decide) rfl (fun ls hl => ?_)
                have hl9 := lv_sub hl [0, 1, 4] rfl
                refine lv_goto (tgt := 14) hx hb dX4_watch_147 (by decide) ?_
                exact ih (i := i + 1) (ls := ls) (H := _) (locs := locs) (hS := hS) (hP := by rw [e9]; exact hP) (hi1 := by omega) (hl := by rw [e9]; exact hl9) (hg := by omega)
              · have lb : rf_bk D i 0 12 = 0 := c_8
                refine lv_aload_n hx hb dX4_watch_124 rfl (lv_at hl 4 rfl) ?_
                refine gw_get hx hb hts inX4 hown hK hP 0 (by decide) rf_c0 rfl 4 (by decide) (hts _ mG_219) (fun _ h9 => h9) (v := .ref (X.2.1 4)) rfl dX4_watch_125 ?_
                refine lv_iload_n hx hb dX4_watch_128 rfl (lv_at hl 2 rfl) ?_
                refine gw_zald hx hb hK hP 4 1 (by decide) rf_c4 rfl (i := nI i) (vp_in_nI hlt (by omega)) dX4_watch_129 ?_
                refine W.eq (g2 := F0 m 130 ls (.int ((rf_bk D i) 4 i) :: .ref (X.2.1 0) :: [])) (by rw [hci]) ?_
                refine lv_if_eq (tgt := 137) hx hb dX4_watch_130 (by decide) (fun c_9 => ?_) (fun c_9 => ?_)
                · have lk : rf_bk D i 4 i = 0 := c_9
                  refine lv_iconst (v := 0) hx hb dX4_watch_137 (by decide) ?_
                  refine gw_put hx hb hts inX4 tyX4 okX4 nmX4 hown hK hP hX hS 0 (by decide) rf_c0 rfl 12 (by decide) (hts _ mG_227) (fun _ h9 => h9) rfl (ty := .boolean) (v := .int 0) (by decide +kernel) (gw_nz (by decide)) (gw_fz (by decide)) (Nat.le_of_ble_eq_true rfl) (cf' := rf_c X (up2 (rf_bk D i) 0 12 0) π) rfl rf_o dX4_watch_138 (fun H locs hP hS => ?_)
                  replace hP : va_P X.1 vwCl (rf_ws X (up2 (rf_bk D i) 0 12 (wl_or (rf_bk D i 0 12) (rf_bk D i 4 i))) π) H := by rw [show wl_or (rf_bk D i 0 12) (rf_bk D i 4 i) = 0 from by unfold wl_or; rw [if_pos lb, if_pos lk]]; exact hP
                  refine lv_iinc (v := ((rf_w (rf_T d) i).2) + 1) (lv' := [(1, .int (((rf_w (rf_T d) i).2) + 1)), (4, .int (wl_i (decide (q1 < 64)))), (3, .int (rf_v D i)), (2, .int (nI i)), (0, .ref (X.2.1 0))]) hx hb dX4_watch_141 hl (k := 3) rfl rfl (by decide) rfl (fun ls hl => ?_)
                  have e9 : rf_w (rf_T d) (i + 1) = (up2 (rf_bk D i) 0 12 (wl_or (rf_bk D i 0 12) (rf_bk D i 4 i)), (rf_w (rf_T d) i).2 + 1) := by rw [hD]; exact rf_step3 th_1 on_1 k_1
                  refine lv_iinc (v := nI (i + 1)) (lv' := [(2, .int (nI (i + 1))), (1, .int (((rf_w (rf_T d) i).2) + 1)), (4, .int (wl_i (decide (q1 < 64)))), (3, .int (rf_v D i)), (0, .ref (X.2.1 0))]) hx hb dX4_watch_144 hl (k := 3) rfl (nI_1 i) (by decide) rfl (fun ls hl => ?_)
                  have hl9 := lv_sub hl [0, 1, 4] rfl
                  refine lv_goto (tgt := 14) hx hb dX4_watch_147 (by decide) ?_
                  exact ih (i := i + 1) (ls := ls) (H := _) (locs := locs) (hS := hS) (hP := by rw [e9]; exact hP) (hi1 := by omega) (hl := by rw [e9]; exact hl9) (hg := by omega)
                · have lk : ¬ rf_bk D i 4 i = 0 := c_9
                  refine lv_iconst (v := 1) hx hb dX4_watch_133 (by decide) ?_
                  refine lv_goto (tgt := 138) hx hb dX4_watch_134 (by decide) ?_
                  refine gw_put hx hb hts inX4 tyX4 okX4 nmX4 hown hK hP hX hS 0 (by decide) rf_c0 rfl 12 (by decide) (hts _ mG_227) (fun _ h9 => h9) rfl (ty := .boolean) (v := .int 1) (by decide +kernel) (gw_nz (by decide)) (gw_fz (by decide)) (Nat.le_of_ble_eq_true rfl) (cf' := rf_c X (up2 (rf_bk D i) 0 12 1) π) rfl rf_o dX4_watch_138 (fun H locs hP hS => ?_)
                  replace hP : va_P X.1 vwCl (rf_ws X (up2 (rf_bk D i) 0 12 (wl_or (rf_bk D i 0 12) (rf_bk D i 4 i))) π) H := by rw [show wl_or (rf_bk D i 0 12) (rf_bk D i 4 i) = 1 from by unfold wl_or; rw [if_pos lb, if_neg lk]]; exact hP
                  refine lv_iinc (v := ((rf_w (rf_T d) i).2) + 1) (lv' := [(1, .int (((rf_w (rf_T d) i).2) + 1)), (4, .int (wl_i (decide (q1 < 64)))), (3, .int (rf_v D i)), (2, .int (nI i)), (0, .ref (X.2.1 0))]) hx hb dX4_watch_141 hl (k := 3) rfl rfl (by decide) rfl (fun ls hl => ?_)
                  have e9 : rf_w (rf_T d) (i + 1) = (up2 (rf_bk D i) 0 12 (wl_or (rf_bk D i 0 12) (rf_bk D i 4 i)), (rf_w (rf_T d) i).2 + 1) := by rw [hD]; exact rf_step3 th_1 on_1 k_1
                  refine lv_iinc (v := nI (i + 1)) (lv' := [(2, .int (nI (i + 1))), (1, .int (((rf_w (rf_T d) i).2) + 1)), (4, .int (wl_i (decide (q1 < 64)))), (3, .int (rf_v D i)), (0, .ref (X.2.1 0))]) hx hb dX4_watch_144 hl (k := 3) rfl (nI_1 i) (by decide) rfl (fun ls hl => ?_)
                  have hl9 := lv_sub hl [0, 1, 4] rfl
                  refine lv_goto (tgt := 14) hx hb dX4_watch_147 (by decide) ?_
                  exact ih (i := i + 1) (ls := ls) (H := _) (locs := locs) (hS := hS) (hP := by rw [e9]; exact hP) (hi1 := by omega) (hl := by rw [e9]; exact hl9) (hg := by omega)
          · have in_1 : rf_in (rf_v D i) (D 7 i) (D 8 i) = true := wl_it c_5
            refine lv_iconst (v := 0) hx hb dX4_watch_75 (by decide) ?_
            refine lv_goto (tgt := 87) hx hb dX4_watch_76 (by decide) ?_
            refine gw_iast hx hb hK hP hX hS 10 0 (by decide) rf_c10 rfl (i := nI i) (x := 0) (vp_in_nI hlt (by omega)) (cf' := rf_c X (up2 D 10 (nI i).toNatClampNeg 0) π) rfl rf_o dX4_watch_87 (fun H locs hP hS => ?_)
            replace hP : va_P X.1 vwCl (rf_ws X (rf_ct D i) π) H := by unfold rf_ct; rw [if_pos in_1]; rw [hci] at hP; exact hP
            refine lv_aload_n hx hb dX4_watch_88 rfl (lv_at hl 3 rfl) ?_
            refine gw_get hx hb hts inX4 hown hK hP 0 (by decide) rf_c0 rfl 10 (by decide) (hts _ mG_225) (fun _ h9 => h9) (v := .ref (X.2.1 10)) rfl dX4_watch_89 ?_
            refine lv_iload_n hx hb dX4_watch_92 rfl (lv_at hl 1 rfl) ?_
            refine gw_iald hx hb hK hP 10 0 (by decide) rf_c10 rfl (i := nI i) (vp_in_nI hlt (by omega)) dX4_watch_93 ?_
            refine W.eq (g2 := F0 m 94 ls (.int ((rf_ct D i) 10 i) :: [])) (by rw [hci]) ?_
            refine lv_aload_n hx hb dX4_watch_94 rfl (lv_at hl 3 rfl) ?_
            refine gw_get hx hb hts inX4 hown hK hP 0 (by decide) rf_c0 rfl 6 (by decide) (hts _ mG_221) (fun _ h9 => h9) (v := .ref (X.2.1 6)) rfl dX4_watch_95 ?_
            refine lv_iload_n hx hb dX4_watch_98 rfl (lv_at hl 1 rfl) ?_
            refine gw_iald hx hb hK hP 6 0 (by decide) rf_c6 rfl (i := nI i) (vp_in_nI hlt (by omega)) dX4_watch_99 ?_
            refine W.eq (g2 := F0 m 100 ls (.int ((rf_ct D i) 6 i) :: .int ((rf_ct D i) 10 i) :: [])) (by rw [hci]) ?_
            refine lv_icmp_ne (tgt := 144) hx hb dX4_watch_100 (by decide) (fun c_10 => ?_) (fun c_10 => ?_)
            · have k_1 : ¬ rf_ct D i 10 i = rf_ct D i 6 i := c_10
              rw [hD] at k_1
              have e9 : rf_w (rf_T d) (i + 1) = (rf_ct D i, (rf_w (rf_T d) i).2) := by rw [hD]; exact rf_step2 th_1 on_1 k_1
              refine lv_iinc (v := nI (i + 1)) (lv' := [(2, .int (nI (i + 1))), (3, .int (rf_v D i)), (1, .int ((rf_w (rf_T d) i).2)), (0, .ref (X.2.1 0))]) hx hb dX4_watch_144 hl (k := 1) rfl (nI_1 i) (by decide) rfl (fun ls hl => ?_)
              have hl9 := lv_sub hl [0, 2, 3] rfl
              refine lv_goto (tgt := 14) hx hb dX4_watch_147 (by decide) ?_
              exact ih (i := i + 1) (ls := ls) (H := _) (locs := locs) (hS := hS) (hP := by rw [e9]; exact hP) (hi1 := by omega) (hl := by rw [e9]; exact hl9) (hg := by omega)
            · have k_1 : rf_ct D i 10 i = rf_ct D i 6 i := c_10
              rw [hD] at k_1
              refine lv_aload_n hx hb dX4_watch_103 rfl (lv_at hl 3 rfl) ?_
              refine lv_aload_n hx hb dX4_watch_104 rfl (lv_at hl 3 rfl) ?_
              refine gw_get hx hb hts inX4 hown hK hP 0 (by decide) rf_c0 rfl 9 (by decide) (hts _ mG_224) (fun _ h9 => h9) (v := .ref (X.2.1 9)) rfl dX4_watch_105 ?_
              refine lv_iload_n hx hb dX4_watch_108 rfl (lv_at hl 1 rfl) ?_
              refine gw_iald hx hb hK hP 9 0 (by decide) rf_c9 rfl (i := nI i) (vp_in_nI hlt (by omega)) dX4_watch_109 ?_
              refine W.eq (g2 := F0 m 110 ls (.int ((rf_ct D i) 9 i) :: .ref (X.2.1 0) :: [])) (by rw [hci]) ?_
              refine lv_iload_n hx hb dX4_watch_110 rfl (lv_at hl 0 rfl) ?_
              refine gw_calli (va_runV (As := [.int ((rf_ct D i) 9 i), .int (rf_v D i)]) (rest := []) ⟨hx, hb, hml, hown, hts⟩ (c_WatchListModel_waits X hX (rf_ct D i) π ((rf_ct D i) 9 i) (rf_v D i) q1 g6 hI5) ⟨callB_of 2 hts giX4_waits rfl rfl rfl (hts _ mG_26) (hts _ mG_269) pdX4_waits ⟨Nat.le_of_ble_eq_true rfl, Nat.le_of_ble_eq_true rfl⟩, hts _ mG_270, hts _ mG_20⟩ ⟨rf_blind, gw_recv hK hP 0 (by decide) rf_c0 rfl, rf_at hP hK hN⟩ rfl rfl hl.1 rfl (lv_room (Nat.le_of_ble_eq_true rfl)) dX4_watch_111 ⟨Nat.le_of_ble_eq_true rfl, Nat.le_of_ble_eq_true rfl⟩) hS (fun r_11 u_11 t_11 locs hw hP hS => ?_)
              obtain ⟨rfl, rfl⟩ := hw
              have hP : va_P X.1 vwCl (rf_ws X (rf_wt (rf_ct D i) q1 ((rf_ct D i) 9 i) (rf_v D i)) π) t_11.heap := hP
              replace hP : va_P X.1 vwCl (rf_ws X (rf_bk D i) π) t_11.heap := by unfold rf_bk; rw [rf_wtD_eq g6 (by omega)]; exact hP
              refine lv_istore (lv' := [(4, .int (wl_i (decide (q1 < 64)))), (3, .int (rf_v D i)), (2, .int (nI i)), (1, .int ((rf_w (rf_T d) i).2)), (0, .ref (X.2.1 0))]) hx hb dX4_watch_114 hl (by decide) rfl (fun ls hl => ?_)
              refine lv_aload_n hx hb dX4_watch_116 rfl (lv_at hl 4 rfl) ?_
              refine lv_aload_n hx hb dX4_watch_117 rfl (lv_at hl 4 rfl) ?_
              refine gw_get hx hb hts inX4 hown hK hP 0 (by decide) rf_c0 rfl 12 (by decide) (hts _ mG_227) (fun _ h9 => h9) (v := .int ((rf_bk D i) 0 12)) rfl dX4_watch_118 ?_
              refine lv_if_ne (tgt := 133) hx hb dX4_watch_121 (by decide) (fun c_12 => ?_) (fun c_12 => ?_)
              · have lb : ¬ rf_bk D i 0 12 = 0 := c_12
                refine lv_iconst (v := 1) hx hb dX4_watch_133 (by decide) ?_
                refine lv_goto (tgt := 138) hx hb dX4_watch_134 (by decide) ?_
                refine gw_put hx hb hts inX4 tyX4 okX4 nmX4 hown hK hP hX hS 0 (by decide) rf_c0 rfl 12 (by decide) (hts _ mG_227) (fun _ h9 => h9) rfl (ty := .boolean) (v := .int 1) (by decide +kernel) (gw_nz (by decide)) (gw_fz (by decide)) (Nat.le_of_ble_eq_true rfl) (cf' := rf_c X (up2 (rf_bk D i) 0 12 1) π) rfl rf_o dX4_watch_138 (fun H locs hP hS => ?_)
                replace hP : va_P X.1 vwCl (rf_ws X (up2 (rf_bk D i) 0 12 (wl_or (rf_bk D i 0 12) (rf_bk D i 4 i))) π) H := by rw [show wl_or (rf_bk D i 0 12) (rf_bk D i 4 i) = 1 from by unfold wl_or; rw [if_neg lb]]; exact hP
                refine lv_iinc (v := ((rf_w (rf_T d) i).2) + 1) (lv' := [(1, .int (((rf_w (rf_T d) i).2) + 1)), (4, .int (wl_i (decide (q1 < 64)))), (3, .int (rf_v D i)), (2, .int (nI i)), (0, .ref (X.2.1 0))]) hx hb dX4_watch_141 hl (k := 3) rfl rfl (by decide) rfl (fun ls hl => ?_)
                have e9 : rf_w (rf_T d) (i + 1) = (up2 (rf_bk D i) 0 12 (wl_or (rf_bk D i 0 12) (rf_bk D i 4 i)), (rf_w (rf_T d) i).2 + 1) := by rw [hD]; exact rf_step3 th_1 on_1 k_1
                refine lv_iinc (v := nI (i + 1)) (lv' := [(2, .int (nI (i + 1))), (1, .int (((rf_w (rf_T d) i).2) + 1)), (4, .int (wl_i (decide (q1 < 64)))), (3, .int (rf_v D i)), (0, .ref (X.2.1 0))]) hx hb dX4_watch_144 hl (k := 3) rfl (nI_1 i) (by decide) rfl (fun ls hl => ?_)
                have hl9 := lv_sub hl [0, 1, 4] rfl
                refine lv_goto (tgt := 14) hx hb dX4_watch_147 (by decide) ?_
                exact ih (i := i + 1) (ls := ls) (H := _) (locs := locs) (hS := hS) (hP := by rw [e9]; exact hP) (hi1 := by omega) (hl := by rw [e9]; exact hl9) (hg := by omega)
              · have lb : rf_bk D i 0 12 = 0 := c_12
                refine lv_aload_n hx hb dX4_watch_124 rfl (lv_at hl 4 rfl) ?_
                refine gw_get hx hb hts inX4 hown hK hP 0 (by decide) rf_c0 rfl 4 (by decide) (hts _ mG_219) (fun _ h9 => h9) (v := .ref (X.2.1 4)) rfl dX4_watch_125 ?_
                refine lv_iload_n hx hb dX4_watch_128 rfl (lv_at hl 2 rfl) ?_
                refine gw_zald hx hb hK hP 4 1 (by decide) rf_c4 rfl (i := nI i) (vp_in_nI hlt (by omega)) dX4_watch_129 ?_
                refine W.eq (g2 := F0 m 130 ls (.int ((rf_bk D i) 4 i) :: .ref (X.2.1 0) :: [])) (by rw [hci]) ?_
                refine lv_if_eq (tgt := 137) hx hb dX4_watch_130 (by decide) (fun c_13 => ?_) (fun c_13 => ?_)
                · have lk : rf_bk D i 4 i = 0 := c_13
                  refine lv_iconst (v := 0) hx hb dX4_watch_137 (by decide) ?_
                  refine gw_put hx hb hts inX4 tyX4 okX4 nmX4 hown hK hP hX hS 0 (by decide) rf_c0 rfl 12 (by decide) (hts _ mG_227) (fun _ h9 => h9) rfl (ty := .boolean) (v := .int 0) (by decide +kernel) (gw_nz (by decide)) (gw_fz (by decide)) (Nat.le_of_ble_eq_true rfl) (cf' := rf_c X (up2 (rf_bk D i) 0 12 0) π) rfl rf_o dX4_watch_138 (fun H locs hP hS => ?_)
                  replace hP : va_P X.1 vwCl (rf_ws X (up2 (rf_bk D i) 0 12 (wl_or (rf_bk D i 0 12) (rf_bk D i 4 i))) π) H := by rw [show wl_or (rf_bk D i 0 12) (rf_bk D i 4 i) = 0 from by unfold wl_or; rw [if_pos lb, if_pos lk]]; exact hP
                  refine lv_iinc (v := ((rf_w (rf_T d) i).2) + 1) (lv' := [(1, .int (((rf_w (rf_T d) i).2) + 1)), (4, .int (wl_i (decide (q1 < 64)))), (3, .int (rf_v D i)), (2, .int (nI i)), (0, .ref (X.2.1 0))]) hx hb dX4_watch_141 hl (k := 3) rfl rfl (by decide) rfl (fun ls hl => ?_)
                  have e9 : rf_w (rf_T d) (i + 1) = (up2 (rf_bk D i) 0 12 (wl_or (rf_bk D i 0 12) (rf_bk D i 4 i)), (rf_w (rf_T d) i).2 + 1) := by rw [hD]; exact rf_step3 th_1 on_1 k_1
                  refine lv_iinc (v := nI (i + 1)) (lv' := [(2, .int (nI (i + 1))), (1, .int (((rf_w (rf_T d) i).2) + 1)), (4, .int (wl_i (decide (q1 < 64)))), (3, .int (rf_v D i)), (0, .ref (X.2.1 0))]) hx hb dX4_watch_144 hl (k := 3) rfl (nI_1 i) (by decide) rfl (fun ls hl => ?_)
                  have hl9 := lv_sub hl [0, 1, 4] rfl
                  refine lv_goto (tgt := 14) hx hb dX4_watch_147 (by decide) ?_
                  exact ih (i := i + 1) (ls := ls) (H := _) (locs := locs) (hS := hS) (hP := by rw [e9]; exact hP) (hi1 := by omega) (hl := by rw [e9]; exact hl9) (hg := by omega)
                · have lk : ¬ rf_bk D i 4 i = 0 := c_13
                  refine lv_iconst (v := 1) hx hb dX4_watch_133 (by decide) ?_
                  refine lv_goto (tgt := 138) hx hb dX4_watch_134 (by decide) ?_
                  refine gw_put hx hb hts inX4 tyX4 okX4 nmX4 hown hK hP hX hS 0 (by decide) rf_c0 rfl 12 (by decide) (hts _ mG_227) (fun _ h9 => h9) rfl (ty := .boolean) (v := .int 1) (by decide +kernel) (gw_nz (by decide)) (gw_fz (by decide)) (Nat.le_of_ble_eq_true rfl) (cf' := rf_c X (up2 (rf_bk D i) 0 12 1) π) rfl rf_o dX4_watch_138 (fun H locs hP hS => ?_)
                  replace hP : va_P X.1 vwCl (rf_ws X (up2 (rf_bk D i) 0 12 (wl_or (rf_bk D i 0 12) (rf_bk D i 4 i))) π) H := by rw [show wl_or (rf_bk D i 0 12) (rf_bk D i 4 i) = 1 from by unfold wl_or; rw [if_pos lb, if_neg lk]]; exact hP
                  refine lv_iinc (v := ((rf_w (rf_T d) i).2) + 1) (lv' := [(1, .int (((rf_w (rf_T d) i).2) + 1)), (4, .int (wl_i (decide (q1 < 64)))), (3, .int (rf_v D i)), (2, .int (nI i)), (0, .ref (X.2.1 0))]) hx hb dX4_watch_141 hl (k := 3) rfl rfl (by decide) rfl (fun ls hl => ?_)
                  have e9 : rf_w (rf_T d) (i + 1) = (up2 (rf_bk D i) 0 12 (wl_or (rf_bk D i 0 12) (rf_bk D i 4 i)), (rf_w (rf_T d) i).2 + 1) := by rw [hD]; exact rf_step3 th_1 on_1 k_1
                  refine lv_iinc (v := nI (i + 1)) (lv' := [(2, .int (nI (i + 1))), (1, .int (((rf_w (rf_T d) i).2) + 1)), (4, .int (wl_i (decide (q1 < 64)))), (3, .int (rf_v D i)), (0, .ref (X.2.1 0))]) hx hb dX4_watch_144 hl (k := 3) rfl (nI_1 i) (by decide) rfl (fun ls hl => ?_)
                  have hl9 := lv_sub hl [0, 1, 4] rfl
                  refine lv_goto (tgt := 14) hx hb dX4_watch_147 (by decide) ?_
                  exact ih (i := i + 1) (ls := ls) (H := _) (locs := locs) (hS := hS) (hP := by rw [e9]; exact hP) (hi1 := by omega) (hl := by rw [e9]; exact hl9) (hg := by omega)
end
section
/-! PART 15: what ties the class's state (d, π) to the reference's state e -/
def rlF (d e : Nat → Nat → Int32) (k j : Nat) : Prop := d k 7 = e 3 j ∧ d k 6 = e 4 j ∧ d k 1 = e 5 j ∧ d k 2 = e 6 j ∧ d k 3 = e 7 j ∧ d k 4 = e 8 j ∧ d k 5 = e 9 j ∧ d k 8 = e 10 j ∧ ¬ e 6 j = 0
def rlL (d e : Nat → Nat → Int32) (π : Nat → Nat) (n : Nat) (a : Nat → Nat) : Prop :=
  n ≤ 16 ∧ d 0 2 = nI n ∧ (∀ i, i < 16 → π i < 16) ∧ (∀ i j, i < 16 → j < 16 → π i = π j → i = j) ∧
  (∀ i, i < n → a i < 256 ∧ d (8 + π i) 0 = nI (a i)) ∧ (∀ i j, i < j → j < n → a i < a j) ∧
  (∀ j, j < 256 → (¬ e 2 j = 0 ↔ ∃ i, i < n ∧ a i = j)) ∧ (∀ i, i < n → rlF d e (8 + π i) (a i)) ∧ rf_cnt (e 2) 256 = n
def rlB (d e : Nat → Nat → Int32) : Prop := (∀ j, j < 256 → ∃ m, m < 32 ∧ e 5 j = nI m) ∧ (∀ k j, 2 ≤ k → k ≤ 4 → j < 256 → e k j = 0 ∨ e k j = 1) ∧ (∀ j, j < 16 → d (8 + j) 7 = 0 ∨ d (8 + j) 7 = 1) ∧ (∀ j, j < 16 → d (8 + j) 6 = 0 ∨ d (8 + j) 6 = 1)
def rlP (d e : Nat → Nat → Int32) : Prop := ∀ j, j < 32 → d 1 j = e 1 j
def rlC (d e : Nat → Nat → Int32) : Prop := d 0 3 = e 0 11 ∧ d 0 4 = e 0 12 ∧ (d 0 4 = 0 ∨ d 0 4 = 1) ∧ d 0 7 = e 0 16 ∧ d 0 8 = e 0 17
def rlQ (d e : Nat → Nat → Int32) (f q : Nat) : Prop := d 4 2 = nI f ∧ f < 64 ∧ d 4 3 = nI q ∧ q ≤ 64 ∧ e 0 13 = nI q ∧ ∀ j, j < q → d 6 ((f + j) % 64) = e 11 j ∧ d 7 ((f + j) % 64) = e 12 j
def rlE (d e : Nat → Nat → Int32) : Prop := ∀ j, j < 32 → d (24 + j) 0 = (if e 13 j = 0 then 1 else 0) ∧ (∃ z, z ≤ 256 ∧ d (24 + j) 2 = nI z ∧ e 14 j = nI z ∧ ∀ k, k < z → d (56 + j) k = e 16 (256 * j + k)) ∧ d (24 + j) 3 = e 15 j ∧ (e 15 j = 0 ∨ e 15 j = 1) ∧ (e 14 j = 0 → e 15 j = 0)
def rlT (d e : Nat → Nat → Int32) (ts : Nat) : Prop := d 0 10 = nI ts ∧ e 0 22 = nI ts ∧ ts ≤ 256 ∧ (∀ j, j < 256 → (d 5 j).toInt8.toInt32 = d 5 j) ∧ (∀ j, j < 256 → (e 17 j).toInt8.toInt32 = e 17 j) ∧ ∀ j, j < ts → d 5 j = e 17 j
def rl (d : Nat → Nat → Int32) (π : Nat → Nat) (e : Nat → Nat → Int32) : Prop := ∃ (n f q ts : Nat) (a : Nat → Nat), rlL d e π n a ∧ rlB d e ∧ rlP d e ∧ rlC d e ∧ rlQ d e f q ∧ rlE d e ∧ rlT d e ts
section RL
variable {d d' e e' : Nat → Nat → Int32} {π : Nat → Nat} {n f q ts : Nat} {a : Nat → Nat}
theorem rlF_c {k j : Nat} (hd : ∀ x, d' k x = d k x) (he : ∀ x, 3 ≤ x → x ≤ 10 → e' x j = e x j) (h : rlF d e k j) : rlF d' e' k j := by
  unfold rlF at h ⊢
  rw [hd, hd, hd, hd, hd, hd, hd, hd, he 3 (by omega) (by omega), he 4 (by omega) (by omega), he 5 (by omega) (by omega), he 6 (by omega) (by omega), he 7 (by omega) (by omega), he 8 (by omega) (by omega), he 9 (by omega) (by omega), he 10 (by omega) (by omega)]
  exact h
theorem rlL_c (h0 : d' 0 2 = d 0 2) (hd : ∀ k j, 8 ≤ k → k < 24 → d' k j = d k j) (he : ∀ k j, 2 ≤ k → k ≤ 10 → e' k j = e k j) (h : rlL d e π n a) : rlL d' e' π n a := by
  obtain ⟨h1, h2, h3, h4, h5, h6, h7, h8, h9⟩ := h
  have e2 : e' 2 = e 2 := funext (fun j => he 2 j (by omega) (by omega))
  refine ⟨h1, by rw [h0]; exact h2, h3, h4, fun i hi => ⟨(h5 i hi).1, ?_⟩, h6, fun j hj => by rw [e2]; exact h7 j hj, fun i hi => rlF_c (fun x => ?_) (fun x x1 x2 => he x _ (by omega) x2) (h8 i hi), by rw [e2]; exact h9⟩
  · have := h3 i (by omega)
    rw [hd _ _ (by omega) (by omega)]; exact (h5 i hi).2
  · have := h3 i (by omega)
    exact hd _ _ (by omega) (by omega)
theorem rlB_c (hd : ∀ k j, 8 ≤ k → k < 24 → d' k j = d k j) (he : ∀ k j, 2 ≤ k → k ≤ 5 → e' k j = e k j) (h : rlB d e) : rlB d' e' := by
  obtain ⟨h1, h2, h3, h4⟩ := h
  refine ⟨fun j hj => by rw [he 5 j (by omega) (by omega)]; exact h1 j hj, fun k j k1 k2 hj => by rw [he k j k1 (by omega)]; exact h2 k j k1 k2 hj, fun j hj => by rw [hd _ _ (by omega) (by omega)]; exact h3 j hj, fun j hj => by rw [hd _ _ (by omega) (by omega)]; exact h4 j hj⟩
theorem rlP_c (hd : ∀ j, d' 1 j = d 1 j) (he : ∀ j, e' 1 j = e 1 j) (h : rlP d e) : rlP d' e' := fun j hj => by rw [hd, he]; exact h j hj
theorem rlC_c (hd : ∀ j, j = 3 ∨ j = 4 ∨ j = 7 ∨ j = 8 → d' 0 j = d 0 j) (he : ∀ j, j = 11 ∨ j = 12 ∨ j = 16 ∨ j = 17 → e' 0 j = e 0 j) (h : rlC d e) : rlC d' e' := by
  unfold rlC at h ⊢
  rw [hd 3 (by omega), hd 4 (by omega), hd 7 (by omega), hd 8 (by omega), he 11 (by omega), he 12 (by omega), he 16 (by omega), he 17 (by omega)]
  exact h
theorem rlQ_c (hd : ∀ k j, k = 4 ∨ k = 6 ∨ k = 7 → d' k j = d k j) (h0 : e' 0 13 = e 0 13) (he : ∀ k j, k = 11 ∨ k = 12 → e' k j = e k j) (h : rlQ d e f q) : rlQ d' e' f q := by
  obtain ⟨h1, h2, h3, h4, h5, h6⟩ := h
  refine ⟨by rw [hd 4 2 (by omega)]; exact h1, h2, by rw [hd 4 3 (by omega)]; exact h3, h4, by rw [h0]; exact h5, fun j hj => ?_⟩
  rw [hd 6 _ (by omega), hd 7 _ (by omega), he 11 _ (by omega), he 12 _ (by omega)]
  exact h6 j hj
theorem rlE_c (hd : ∀ k j, 24 ≤ k → d' k j = d k j) (he : ∀ k j, 13 ≤ k → k ≤ 16 → e' k j = e k j) (h : rlE d e) : rlE d' e' := by
  intro j hj
  obtain ⟨h1, ⟨z, h2, h3, h4, h5⟩, h6, h7, h8⟩ := h j hj
  rw [hd _ _ (by omega), hd _ _ (by omega), hd _ _ (by omega), he 13 _ (by omega) (by omega), he 14 _ (by omega) (by omega), he 15 _ (by omega) (by omega)]
  exact ⟨h1, ⟨z, h2, h3, h4, fun k hk => by rw [hd _ _ (by omega), he 16 _ (by omega) (by omega)]; exact h5 k hk⟩, h6, h7, h8⟩
theorem rlT_c (h0 : d' 0 10 = d 0 10) (hd : ∀ j, d' 5 j = d 5 j) (h1 : e' 0 22 = e 0 22) (he : ∀ j, e' 17 j = e 17 j) (h : rlT d e ts) : rlT d' e' ts := by
  obtain ⟨g1, g2, g3, g4, g5, g6⟩ := h
  exact ⟨by rw [h0]; exact g1, by rw [h1]; exact g2, g3, fun j hj => by rw [hd]; exact g4 j hj, fun j hj => by rw [he]; exact g5 j hj, fun j hj => by rw [hd, he]; exact g6 j hj⟩
/-- 'thrown' means nothing -/
theorem rl_T (h : rl d π e) : rl d π (rf_T e) := by
  obtain ⟨n, f, q, ts, a, hL, hB, hP, hC, hQ, hE, hT⟩ := h
  exact ⟨n, f, q, ts, a, rlL_c rfl (fun _ _ _ _ => rfl) (fun k j k1 k2 => rf_T_k (by omega)) hL, rlB_c (fun _ _ _ _ => rfl) (fun k j k1 k2 => rf_T_k (by omega)) hB, rlP_c (fun _ => rfl) (fun j => rf_T_k (by omega)) hP, rlC_c (fun _ _ => rfl) (fun j hj => rf_T_j (by omega)) hC, rlQ_c (fun _ _ _ => rfl) (rf_T_j (by omega)) (fun k j hk => rf_T_k (by omega)) hQ, rlE_c (fun _ _ _ => rfl) (fun k j k1 k2 => rf_T_k (by omega)) hE, rlT_c rfl (fun _ => rfl) (rf_T_j (by omega)) (fun j => rf_T_k (by omega)) hT⟩
end RL
/-! the answers, and the states behind a call: calls that touch no limit -/
section OP
variable {d e : Nat → Nat → Int32} {π π' : Nat → Nat} {r1 r2 : Int32} {u1 u2 : (Nat → Nat → Int32) × (Nat → Nat)}
theorem op_set {k v : Int32} (h : rl d π e) (h1 : r1 = wl_i (wl_ok k 32) ∧ u1 = (if wl_ok k 32 = true then up2 d 1 k.toNatClampNeg v else d, π)) (h2 : r2 = wl_i (wl_ok k 32) ∧ u2 = (if wl_ok k 32 = true then up2 e 1 k.toNatClampNeg v else e, π')) : r1 = r2 ∧ rl u1.1 u1.2 u2.1 := by
  obtain ⟨rfl, rfl⟩ := h1
  obtain ⟨rfl, rfl⟩ := h2
  refine ⟨rfl, ?_⟩
  dsimp only
  split
  · obtain ⟨n, f, q, ts, a, hL, hB, hP, hC, hQ, hE, hT⟩ := h
    refine ⟨n, f, q, ts, a, rlL_c (up2_k (by omega)) (fun k j k1 k2 => up2_k (by omega)) (fun k j k1 k2 => up2_k (by omega)) hL, rlB_c (fun k j k1 k2 => up2_k (by omega)) (fun k j k1 k2 => up2_k (by omega)) hB, fun j hj => ?_, rlC_c (fun j hj => up2_k (by omega)) (fun j hj => up2_k (by omega)) hC, rlQ_c (fun k j hk => up2_k (by omega)) (up2_k (by omega)) (fun k j hk => up2_k (by omega)) hQ, rlE_c (fun k j k1 => up2_k (by omega)) (fun k j k1 k2 => up2_k (by omega)) hE, rlT_c (up2_k (by omega)) (fun j => up2_k (by omega)) (up2_k (by omega)) (fun j => up2_k (by omega)) hT⟩
    rw [up2_at, up2_at]
    split
    · rfl
    · exact hP j hj
  · exact h
theorem op_linked (h : rl d π e) (h1 : r1 = d 0 4 ∧ u1 = (d, π)) (h2 : r2 = e 0 12 ∧ u2 = (e, π')) : r1 = r2 ∧ rl u1.1 u1.2 u2.1 := by
  obtain ⟨rfl, rfl⟩ := h1
  obtain ⟨rfl, rfl⟩ := h2
  refine ⟨?_, h⟩
  obtain ⟨n, f, q, ts, a, hL, hB, hP, hC, hQ, hE, hT⟩ := h
  exact hC.2.1
/-- raising an event on both sides -/
theorem rl_raise {f q : Nat} {ev nu : Int32} (hQ : rlQ d e f q) : ∃ q', rlQ (wl_wol d f q ev nu) (rf_wt e q ev nu) f q' := by
  obtain ⟨h1, h2, h3, h4, h5, h6⟩ := hQ
  unfold wl_wol rf_wt
  by_cases hq : q < 64
  · rw [if_neg (by omega), if_pos hq]
    unfold wl_app
    refine ⟨q + 1, ?_, h2, up2_s, by omega, up2_s, fun j hj => ?_⟩
    · rw [up2_j (by decide), up2_k (by decide), up2_k (by decide)]; exact h1
    · have A6 : ∀ x, up2 (up2 (up2 d 6 ((f + q) % 64) ev) 7 ((f + q) % 64) nu) 4 3 (nI (q + 1)) 6 x = if x = (f + q) % 64 then ev else d 6 x := fun x => by
        rw [up2_k (show 6 ≠ 4 by decide), up2_k (show 6 ≠ 7 by decide), up2_same]; rfl
      have A7 : ∀ x, up2 (up2 (up2 d 6 ((f + q) % 64) ev) 7 ((f + q) % 64) nu) 4 3 (nI (q + 1)) 7 x = if x = (f + q) % 64 then nu else d 7 x := fun x => by
        rw [up2_k (show 7 ≠ 4 by decide), up2_same, up2_ne (show 7 ≠ 6 by decide)]; rfl
      have A1 : ∀ x, up2 (up2 (up2 e 11 q ev) 12 q nu) 0 13 (nI (q + 1)) 11 x = if x = q then ev else e 11 x := fun x => by
        rw [up2_k (show 11 ≠ 0 by decide), up2_k (show 11 ≠ 12 by decide), up2_same]; rfl
      have A2 : ∀ x, up2 (up2 (up2 e 11 q ev) 12 q nu) 0 13 (nI (q + 1)) 12 x = if x = q then nu else e 12 x := fun x => by
        rw [up2_k (show 12 ≠ 0 by decide), up2_same, up2_ne (show 12 ≠ 11 by decide)]; rfl
      rw [A6, A7, A1, A2]
      by_cases e9 : j = q
      · subst e9
        rw [if_pos rfl, if_pos rfl, if_pos rfl, if_pos rfl]
        exact ⟨rfl, rfl⟩
      · have e8 : ¬ (f + j) % 64 = (f + q) % 64 := by omega
        rw [if_neg e8, if_neg e8, if_neg e9, if_neg e9]
        exact h6 j (by omega)
  · rw [if_pos (by omega), if_neg hq]
    exact ⟨q, rlQ_c (fun k j hk => up2_k (by omega)) (up2_j (by decide)) (fun k j hk => up2_k (by omega)) ⟨h1, h2, h3, h4, h5, h6⟩⟩
theorem rl_raiseC {f q : Nat} {ev nu : Int32} (hC : rlC d e) : rlC (wl_wol d f q ev nu) (rf_wt e q ev nu) := by
  obtain ⟨h1, h2, h3, h4, h5⟩ := hC
  unfold wl_wol rf_wt
  by_cases hq : q < 64
  · rw [if_neg (by omega), if_pos hq]
    unfold wl_app
    exact rlC_c (fun j hj => by rw [up2_k (by decide), up2_k (by decide), up2_k (by decide)]) (fun j hj => by rw [up2_j (by omega), up2_k (by decide), up2_k (by decide)]) ⟨h1, h2, h3, h4, h5⟩
  · rw [if_pos (by omega), if_neg hq]
    refine ⟨by rw [up2_j (by decide), up2_j (by decide)]; exact h1, by rw [up2_j (by decide), up2_j (by decide)]; exact h2, by rw [up2_j (by decide)]; exact h3, by rw [up2_s, up2_s, h4], by rw [up2_j (by decide), up2_j (by decide)]; exact h5⟩
theorem op_raise {f q : Nat} {ev nu : Int32} (h : rl d π e) (hq1 : d 4 2 = nI f) (hf : f < 64) (hq2 : d 4 3 = nI q) (hq6 : q ≤ 64) (h1 : (wl_ok ev 32 = true → r1 = wl_i (decide (q < 64)) ∧ u1 = (wl_wol d f q ev nu, π)) ∧ (wl_ok ev 32 = false → r1 = 0 ∧ u1 = (d, π))) (h2 : (wl_ok ev 32 = true → r2 = wl_i (decide (q < 64)) ∧ u2 = (rf_wt e q ev nu, π')) ∧ (wl_ok ev 32 = false → r2 = 0 ∧ u2 = (e, π'))) : r1 = r2 ∧ rl u1.1 u1.2 u2.1 := by
  cases ok : wl_ok ev 32 with
  | false =>
    obtain ⟨rfl, rfl⟩ := h1.2 ok
    obtain ⟨rfl, rfl⟩ := h2.2 ok
    exact ⟨rfl, h⟩
  | true =>
    obtain ⟨rfl, rfl⟩ := h1.1 ok
    obtain ⟨rfl, rfl⟩ := h2.1 ok
    refine ⟨rfl, ?_⟩
    obtain ⟨n, f', q', ts, a, hL, hB, hP, hC, hQ, hE, hT⟩ := h
    have ef : f' = f := (nI_eq (by have := hQ.2.1; omega) (by omega)).mp (hQ.1.symm.trans hq1)
    have eq : q' = q := (nI_eq (by have := hQ.2.2.2.1; omega) (by omega)).mp (hQ.2.2.1.symm.trans hq2)
    subst ef eq
    obtain ⟨q2, hQ2⟩ := rl_raise (ev := ev) (nu := nu) hQ
    exact ⟨n, f', q2, ts, a, rlL_c (wl_wol_k (by omega)) (fun k j k1 k2 => wl_wol_k (by omega)) (fun k j k1 k2 => rf_wt_k (by omega)) hL, rlB_c (fun k j k1 k2 => wl_wol_k (by omega)) (fun k j k1 k2 => rf_wt_k (by omega)) hB, rlP_c (fun j => wl_wol_k (by omega)) (fun j => rf_wt_k (by omega)) hP, rl_raiseC hC, hQ2, rlE_c (fun k j k1 => wl_wol_k (by omega)) (fun k j k1 k2 => rf_wt_k (by omega)) hE, rlT_c (wl_wol_k (by omega)) (fun j => wl_wol_k (by omega)) (rf_wt_k (by omega)) (fun j => rf_wt_k (by omega)) hT⟩
theorem op_work {f q : Nat} (h : rl d π e) (hq1 : d 4 2 = nI f) (hf : f < 64) (hq2 : d 4 3 = nI q) (hq6 : q ≤ 64) (h1 : (q = 0 ∧ r1 = -1 ∧ u1 = (d, π)) ∨ (0 < q ∧ r1 = d 6 f ∧ u1 = (up2 (up2 (up2 d 0 8 (d 7 f)) 4 2 (nI ((f + 1) % 64))) 4 3 (nI (q - 1)), π))) (h2 : (q = 0 ∧ r2 = -1 ∧ u2 = (e, π')) ∨ (0 < q ∧ r2 = e 11 0 ∧ u2 = (rf_sh (up2 (up2 e 0 17 (e 12 0)) 0 13 (nI (q - 1))) (q - 1), π'))) : r1 = r2 ∧ rl u1.1 u1.2 u2.1 := by
  rcases h1 with ⟨q0, rfl, rfl⟩ | ⟨q0, rfl, rfl⟩
  · rcases h2 with ⟨-, rfl, rfl⟩ | ⟨q1, -, -⟩
    · exact ⟨rfl, h⟩
    · omega
  · rcases h2 with ⟨q1, -, -⟩ | ⟨-, rfl, rfl⟩
    · omega
    · obtain ⟨n, f', q', ts, a, hL, hB, hP, hC, hQ, hE, hT⟩ := h
      have ef : f' = f := (nI_eq (by have := hQ.2.1; omega) (by omega)).mp (hQ.1.symm.trans hq1)
      have eq : q' = q := (nI_eq (by have := hQ.2.2.2.1; omega) (by omega)).mp (hQ.2.2.1.symm.trans hq2)
      subst ef eq
      have z0 := hQ.2.2.2.2.2 0 q0
      rw [Nat.add_zero, Nat.mod_eq_of_lt hf] at z0
      have er : ∀ k j, k ≠ 0 → k ≠ 11 → k ≠ 12 → rf_sh (up2 (up2 e 0 17 (e 12 0)) 0 13 (nI (q' - 1))) (q' - 1) k j = e k j := fun k j a1 a2 a3 => by rw [rf_sh_ne a2 a3, up2_k a1, up2_k a1]
      have e0 : ∀ j, j ≠ 17 → j ≠ 13 → rf_sh (up2 (up2 e 0 17 (e 12 0)) 0 13 (nI (q' - 1))) (q' - 1) 0 j = e 0 j := fun j a1 a2 => by rw [rf_sh_ne (by decide) (by decide), up2_j a2, up2_j a1]
      have dr : ∀ k j, k ≠ 0 → k ≠ 4 → up2 (up2 (up2 d 0 8 (d 7 f')) 4 2 (nI ((f' + 1) % 64))) 4 3 (nI (q' - 1)) k j = d k j := fun k j a1 a2 => by rw [up2_k a2, up2_k a2, up2_k a1]
      have d0 : ∀ j, j ≠ 8 → up2 (up2 (up2 d 0 8 (d 7 f')) 4 2 (nI ((f' + 1) % 64))) 4 3 (nI (q' - 1)) 0 j = d 0 j := fun j a1 => by rw [up2_k (by decide), up2_k (by decide), up2_j a1]
      dsimp only
      refine ⟨z0.1, n, (f' + 1) % 64, q' - 1, ts, a, rlL_c (d0 2 (by decide)) (fun k j k1 k2 => dr k j (by omega) (by omega)) (fun k j k1 k2 => er k j (by omega) (by omega) (by omega)) hL, rlB_c (fun k j k1 k2 => dr k j (by omega) (by omega)) (fun k j k1 k2 => er k j (by omega) (by omega) (by omega)) hB, rlP_c (fun j => dr 1 j (by omega) (by omega)) (fun j => er 1 j (by omega) (by omega) (by omega)) hP, ?_, ?_, rlE_c (fun k j k1 => dr k j (by omega) (by omega)) (fun k j k1 k2 => er k j (by omega) (by omega) (by omega)) hE, rlT_c (d0 10 (by decide)) (fun j => dr 5 j (by omega) (by omega)) (e0 22 (by decide) (by decide)) (fun j => er 17 j (by omega) (by omega) (by omega)) hT⟩
      · obtain ⟨c1, c2, c3, c4, c5⟩ := hC
        refine ⟨by rw [d0 3 (by decide), e0 11 (by decide) (by decide)]; exact c1, by rw [d0 4 (by decide), e0 12 (by decide) (by decide)]; exact c2, by rw [d0 4 (by decide)]; exact c3, by rw [d0 7 (by decide), e0 16 (by decide) (by decide)]; exact c4, ?_⟩
        rw [up2_k (by decide), up2_k (by decide), up2_s, rf_sh_ne (by decide) (by decide), up2_j (by decide), up2_s]
        exact z0.2
      · refine ⟨by rw [up2_j (by decide), up2_s], by omega, up2_s, by omega, by rw [rf_sh_ne (by decide) (by decide), up2_s], fun j hj => ?_⟩
        have zj := hQ.2.2.2.2.2 (j + 1) (by omega)
        rw [dr 6 _ (by decide) (by decide), dr 7 _ (by decide) (by decide), rf_sh_11, rf_sh_12]
        unfold rf_sf
        rw [if_pos hj, if_pos hj, up2_k (by decide), up2_k (by decide), up2_k (by decide), up2_k (by decide), show ((f' + 1) % 64 + j) % 64 = (f' + (j + 1)) % 64 by omega]
        exact zj
theorem op_lose (h : rl d π e) (h1 : r1 = d 4 3 ∧ u1 = (up2 (up2 d 4 3 0) 0 7 (d 0 7 + d 4 3), π)) (h2 : r2 = e 0 13 ∧ u2 = (up2 (up2 e 0 13 0) 0 16 (e 0 16 + e 0 13), π')) : r1 = r2 ∧ rl u1.1 u1.2 u2.1 := by
  obtain ⟨rfl, rfl⟩ := h1
  obtain ⟨rfl, rfl⟩ := h2
  obtain ⟨n, f, q, ts, a, hL, hB, hP, hC, hQ, hE, hT⟩ := h
  obtain ⟨c1, c2, c3, c4, c5⟩ := hC
  have ew : d 4 3 = e 0 13 := hQ.2.2.1.trans hQ.2.2.2.2.1.symm
  have dr : ∀ k j, k ≠ 0 → k ≠ 4 → up2 (up2 d 4 3 0) 0 7 (d 0 7 + d 4 3) k j = d k j := fun k j a1 a2 => by rw [up2_k a1, up2_k a2]
  have d0 : ∀ j, j ≠ 7 → up2 (up2 d 4 3 0) 0 7 (d 0 7 + d 4 3) 0 j = d 0 j := fun j a1 => by rw [up2_j a1, up2_k (by decide)]
  have er : ∀ k j, k ≠ 0 → up2 (up2 e 0 13 0) 0 16 (e 0 16 + e 0 13) k j = e k j := fun k j a1 => by rw [up2_k a1, up2_k a1]
  have e0 : ∀ j, j ≠ 13 → j ≠ 16 → up2 (up2 e 0 13 0) 0 16 (e 0 16 + e 0 13) 0 j = e 0 j := fun j a1 a2 => by rw [up2_j a2, up2_j a1]
  dsimp only
  refine ⟨ew, n, f, 0, ts, a, rlL_c (d0 2 (by decide)) (fun k j k1 k2 => dr k j (by omega) (by omega)) (fun k j k1 k2 => er k j (by omega)) hL, rlB_c (fun k j k1 k2 => dr k j (by omega) (by omega)) (fun k j k1 k2 => er k j (by omega)) hB, rlP_c (fun j => dr 1 j (by omega) (by omega)) (fun j => er 1 j (by omega)) hP, ?_, ?_, rlE_c (fun k j k1 => dr k j (by omega) (by omega)) (fun k j k1 k2 => er k j (by omega)) hE, rlT_c (d0 10 (by decide)) (fun j => dr 5 j (by omega) (by omega)) (e0 22 (by decide) (by decide)) (fun j => er 17 j (by omega)) hT⟩
  · refine ⟨by rw [d0 3 (by decide), e0 11 (by decide) (by decide)]; exact c1, by rw [d0 4 (by decide), e0 12 (by decide) (by decide)]; exact c2, by rw [d0 4 (by decide)]; exact c3, by rw [up2_s, up2_s, c4, ew], by rw [d0 8 (by decide), e0 17 (by decide) (by decide)]; exact c5⟩
  · exact ⟨by rw [up2_k (show 4 ≠ 0 by decide), up2_j (show 2 ≠ 3 by decide)]; exact hQ.1, hQ.2.1, by rw [up2_k (show 4 ≠ 0 by decide), up2_s]; exact nI_0.symm, by omega, by rw [up2_j (show 13 ≠ 16 by decide), up2_s]; exact nI_0.symm, fun j hj => absurd hj (by omega)⟩
end OP
end
section
/-! PART 16: the calls on events, actions and text; what a limit's calls find -/
def rlE1 (d e : Nat → Nat → Int32) (j : Nat) : Prop := d (24 + j) 0 = (if e 13 j = 0 then 1 else 0) ∧ (∃ z, z ≤ 256 ∧ d (24 + j) 2 = nI z ∧ e 14 j = nI z ∧ ∀ k, k < z → d (56 + j) k = e 16 (256 * j + k)) ∧ d (24 + j) 3 = e 15 j ∧ (e 15 j = 0 ∨ e 15 j = 1) ∧ (e 14 j = 0 → e 15 j = 0)
section RLE
variable {d d' e e' : Nat → Nat → Int32}
theorem rlE_u {j0 : Nat} (hd : ∀ j x, j < 32 → j ≠ j0 → d' (24 + j) x = d (24 + j) x ∧ d' (56 + j) x = d (56 + j) x) (he : ∀ j, j < 32 → j ≠ j0 → e' 13 j = e 13 j ∧ e' 14 j = e 14 j ∧ e' 15 j = e 15 j ∧ ∀ k, k < 256 → e' 16 (256 * j + k) = e 16 (256 * j + k)) (h0 : rlE1 d' e' j0) (h : rlE d e) : rlE d' e' := by
  intro j hj
  by_cases e9 : j = j0
  · subst e9
    exact h0
  · obtain ⟨h1, ⟨z, h2, h3, h4, h5⟩, h6, h7, h8⟩ := h j hj
    obtain ⟨g1, g2, g3, g4⟩ := he j hj e9
    have q : ∀ x, d' (24 + j) x = d (24 + j) x := fun x => (hd j x hj e9).1
    rw [q, q, q, g1, g2, g3]
    exact ⟨h1, ⟨z, h2, h3, h4, fun k hk => by rw [(hd j k hj e9).2, g4 k (by omega)]; exact h5 k hk⟩, h6, h7, h8⟩
theorem rl_pos {z : Nat} (hz : z ≤ 256) : 0 < nI z ↔ ¬ nI z = 0 := by
  rw [← nI_0, nI_ltI (by omega) (by omega), nI_eq (by omega) (by omega)]
  omega
theorem rl_by (x : Int32) : x.toInt8.toInt32.toInt8.toInt32 = x.toInt8.toInt32 := by rw [← vp_nar_byte, pk_vb]
theorem rl_fit {x : Int32} (h : x.toInt8.toInt32 = x) : fits .byte (.int x) = true := by rw [← h]; exact pk_fb x
end RLE
section OP2
variable {d e : Nat → Nat → Int32} {π π' : Nat → Nat} {r1 r2 : Int32} {u1 u2 : (Nat → Nat → Int32) × (Nat → Nat)}
theorem op_tell {ev on : Int32} (hz : on = 0 ∨ on = 1) (h : rl d π e) (h1 : (wl_ok ev 32 = true → r1 = 0 ∧ u1 = (up2 d (24 + ev.toNatClampNeg) 0 on, π)) ∧ (wl_ok ev 32 = false → r1 = 16 ∧ u1 = (d, π))) (h2 : (wl_ok ev 32 = true → r2 = 0 ∧ u2 = (up2 e 13 ev.toNatClampNeg (if on = 0 then 1 else 0), π')) ∧ (wl_ok ev 32 = false → r2 = 16 ∧ u2 = (e, π'))) : r1 = r2 ∧ rl u1.1 u1.2 u2.1 := by
  cases ok : wl_ok ev 32 with
  | false =>
    obtain ⟨rfl, rfl⟩ := h1.2 ok
    obtain ⟨rfl, rfl⟩ := h2.2 ok
    exact ⟨rfl, h⟩
  | true =>
    obtain ⟨rfl, rfl⟩ := h1.1 ok
    obtain ⟨rfl, rfl⟩ := h2.1 ok
    have hj := (wl_ok32c ok).2
    generalize ev.toNatClampNeg = j0 at hj ⊢
    refine ⟨rfl, ?_⟩
    dsimp only
    obtain ⟨n, f, q, ts, a, hL, hB, hP, hC, hQ, hE, hT⟩ := h
    refine ⟨n, f, q, ts, a, rlL_c (up2_k (by omega)) (fun k j k1 k2 => up2_k (by omega)) (fun k j k1 k2 => up2_k (by omega)) hL, rlB_c (fun k j k1 k2 => up2_k (by omega)) (fun k j k1 k2 => up2_k (by omega)) hB, rlP_c (fun j => up2_k (by omega)) (fun j => up2_k (by omega)) hP, rlC_c (fun j hj => up2_k (by omega)) (fun j hj => up2_k (by omega)) hC, rlQ_c (fun k j hk => up2_k (by omega)) (up2_k (by omega)) (fun k j hk => up2_k (by omega)) hQ, rlE_u (j0 := j0) (fun j x a1 a2 => ⟨up2_k (by omega), up2_k (by omega)⟩) (fun j a1 a2 => ⟨up2_j a2, up2_k (by omega), up2_k (by omega), fun k _ => up2_k (by omega)⟩) ?_ hE, rlT_c (up2_k (by omega)) (fun j => up2_k (by omega)) (up2_k (by omega)) (fun j => up2_k (by omega)) hT⟩
    obtain ⟨g1, ⟨z, g2, g3, g4, g5⟩, g6, g7, g8⟩ := hE j0 hj
    unfold rlE1
    rw [up2_s, up2_s, up2_j (show 2 ≠ 0 by decide), up2_j (show 3 ≠ 0 by decide), up2_k (show 14 ≠ 13 by decide), up2_k (show 15 ≠ 13 by decide)]
    refine ⟨?_, ⟨z, g2, g3, g4, fun k hk => by rw [up2_k (by omega), up2_k (by omega)]; exact g5 k hk⟩, g6, g7, g8⟩
    rcases hz with rfl | rfl
    · rfl
    · rfl
theorem op_put {ts : Nat} {b : Int32} (h : rl d π e) (hts : d 0 10 = nI ts) (ht : ts ≤ 256) (h1 : (ts < 256 ∧ r1 = nI (ts + 1) ∧ u1 = (up2 (up2 d 5 ts b.toInt8.toInt32) 0 10 (nI (ts + 1)), π)) ∨ (ts = 256 ∧ r1 = -1 ∧ u1 = (d, π))) (h2 : (ts < 256 ∧ r2 = nI (ts + 1) ∧ u2 = (up2 (up2 e 17 ts b.toInt8.toInt32) 0 22 (nI (ts + 1)), π')) ∨ (ts = 256 ∧ r2 = -1 ∧ u2 = (e, π'))) : r1 = r2 ∧ rl u1.1 u1.2 u2.1 := by
  rcases h1 with ⟨t1, rfl, rfl⟩ | ⟨t1, rfl, rfl⟩
  · rcases h2 with ⟨-, rfl, rfl⟩ | ⟨t2, -, -⟩
    · obtain ⟨n, f, q, ts', a, hL, hB, hP, hC, hQ, hE, hT⟩ := h
      have et : ts' = ts := (nI_eq (by have := hT.2.2.1; omega) (by omega)).mp (hT.1.symm.trans hts)
      subst et
      have dr : ∀ k j, k ≠ 0 → k ≠ 5 → up2 (up2 d 5 ts' b.toInt8.toInt32) 0 10 (nI (ts' + 1)) k j = d k j := fun k j a1 a2 => by rw [up2_k a1, up2_k a2]
      have d0 : ∀ j, j ≠ 10 → up2 (up2 d 5 ts' b.toInt8.toInt32) 0 10 (nI (ts' + 1)) 0 j = d 0 j := fun j a1 => by rw [up2_j a1, up2_k (by decide)]
      have er : ∀ k j, k ≠ 0 → k ≠ 17 → up2 (up2 e 17 ts' b.toInt8.toInt32) 0 22 (nI (ts' + 1)) k j = e k j := fun k j a1 a2 => by rw [up2_k a1, up2_k a2]
      have e0 : ∀ j, j ≠ 22 → up2 (up2 e 17 ts' b.toInt8.toInt32) 0 22 (nI (ts' + 1)) 0 j = e 0 j := fun j a1 => by rw [up2_j a1, up2_k (by decide)]
      dsimp only
      refine ⟨rfl, n, f, q, ts' + 1, a, rlL_c (d0 2 (by decide)) (fun k j k1 k2 => dr k j (by omega) (by omega)) (fun k j k1 k2 => er k j (by omega) (by omega)) hL, rlB_c (fun k j k1 k2 => dr k j (by omega) (by omega)) (fun k j k1 k2 => er k j (by omega) (by omega)) hB, rlP_c (fun j => dr 1 j (by omega) (by omega)) (fun j => er 1 j (by omega) (by omega)) hP, rlC_c (fun j hj => d0 j (by omega)) (fun j hj => e0 j (by omega)) hC, rlQ_c (fun k j hk => dr k j (by omega) (by omega)) (e0 13 (by decide)) (fun k j hk => er k j (by omega) (by omega)) hQ, rlE_c (fun k j k1 => dr k j (by omega) (by omega)) (fun k j k1 k2 => er k j (by omega) (by omega)) hE, ?_⟩
      obtain ⟨g1, g2, g3, g4, g5, g6⟩ := hT
      have A : ∀ x, up2 (up2 d 5 ts' b.toInt8.toInt32) 0 10 (nI (ts' + 1)) 5 x = if x = ts' then b.toInt8.toInt32 else d 5 x := fun x => by
        rw [up2_k (by decide), up2_same]; rfl
      have B : ∀ x, up2 (up2 e 17 ts' b.toInt8.toInt32) 0 22 (nI (ts' + 1)) 17 x = if x = ts' then b.toInt8.toInt32 else e 17 x := fun x => by
        rw [up2_k (by decide), up2_same]; rfl
      refine ⟨up2_s, up2_s, by omega, fun j hj => ?_, fun j hj => ?_, fun j hj => ?_⟩
      · rw [A]
        split
        · exact rl_by b
        · exact g4 j hj
      · rw [B]
        split
        · exact rl_by b
        · exact g5 j hj
      · rw [A, B]
        by_cases e9 : j = ts'
        · rw [if_pos e9, if_pos e9]
        · rw [if_neg e9, if_neg e9]
          exact g6 j (by omega)
    · omega
  · rcases h2 with ⟨t2, -, -⟩ | ⟨-, rfl, rfl⟩
    · omega
    · exact ⟨rfl, h⟩
/-- the text is spent -/
theorem rl_spent (h : rl d π e) : rl (up2 d 0 10 0) π (up2 e 0 22 0) := by
  obtain ⟨n, f, q, ts, a, hL, hB, hP, hC, hQ, hE, hT⟩ := h
  obtain ⟨g1, g2, g3, g4, g5, g6⟩ := hT
  exact ⟨n, f, q, 0, a, rlL_c (up2_j (by decide)) (fun k j k1 k2 => up2_k (by omega)) (fun k j k1 k2 => up2_k (by omega)) hL, rlB_c (fun k j k1 k2 => up2_k (by omega)) (fun k j k1 k2 => up2_k (by omega)) hB, rlP_c (fun j => up2_k (by omega)) (fun j => up2_k (by omega)) hP, rlC_c (fun j hj => up2_j (by omega)) (fun j hj => up2_j (by omega)) hC, rlQ_c (fun k j hk => up2_k (by omega)) (up2_j (by decide)) (fun k j hk => up2_k (by omega)) hQ, rlE_c (fun k j k1 => up2_k (by omega)) (fun k j k1 k2 => up2_k (by omega)) hE, up2_s.trans nI_0.symm, up2_s.trans nI_0.symm, by omega, fun j hj => by rw [up2_k (by decide)]; exact g4 j hj, fun j hj => by rw [up2_k (by decide)]; exact g5 j hj, fun j hj => absurd hj (by omega)⟩
theorem op_act {ts : Nat} {ev : Int32} (h : rl d π e) (hts : d 0 10 = nI ts) (ht : ts ≤ 256)
    (h1 : (r1 = 16 ∧ wl_ok ev 32 = false ∧ u1 = (up2 d 0 10 0, π)) ∨ (wl_ok ev 32 = true ∧ ((r1 = 22 ∧ ts = 0 ∧ u1 = (up2 d 0 10 0, π)) ∨ (0 < ts ∧ ((r1 = 29 ∧ 0 < d (24 + ev.toNatClampNeg) 2 ∧ u1 = (up2 d 0 10 0, π)) ∨ (r1 = 0 ∧ ¬ 0 < d (24 + ev.toNatClampNeg) 2 ∧ u1 = (up2 (up2 (va_up (up2 d 0 10 0) (56 + ev.toNatClampNeg) (va_cpy (d 5) (d (56 + ev.toNatClampNeg)) 0 0 ts)) (24 + ev.toNatClampNeg) 2 (nI ts)) (24 + ev.toNatClampNeg) 3 0, π)))))))
    (h2 : (r2 = 16 ∧ wl_ok ev 32 = false ∧ u2 = (up2 e 0 22 0, π')) ∨ (wl_ok ev 32 = true ∧ ((r2 = 22 ∧ ts = 0 ∧ u2 = (up2 e 0 22 0, π')) ∨ (0 < ts ∧ ((r2 = 29 ∧ 0 < e 14 ev.toNatClampNeg ∧ u2 = (up2 e 0 22 0, π')) ∨ (r2 = 0 ∧ ¬ 0 < e 14 ev.toNatClampNeg ∧ u2 = (rf_cp (up2 (up2 (up2 e 0 22 0) 14 ev.toNatClampNeg (nI ts)) 15 ev.toNatClampNeg 0) ev.toNatClampNeg ts, π'))))))) : r1 = r2 ∧ rl u1.1 u1.2 u2.1 := by
  rcases h1 with ⟨rfl, ok, rfl⟩ | ⟨ok, h1⟩
  · rcases h2 with ⟨rfl, -, rfl⟩ | ⟨ok2, -⟩
    · exact ⟨rfl, rl_spent h⟩
    · rw [ok] at ok2; cases ok2
  · rcases h2 with ⟨-, ok2, -⟩ | ⟨-, h2⟩
    · rw [ok] at ok2; cases ok2
    have hj := (wl_ok32c ok).2
    generalize ev.toNatClampNeg = j0 at hj h1 h2
    rcases h1 with ⟨rfl, t1, rfl⟩ | ⟨t1, h1⟩
    · rcases h2 with ⟨rfl, -, rfl⟩ | ⟨t2, -⟩
      · exact ⟨rfl, rl_spent h⟩
      · omega
    rcases h2 with ⟨-, t2, -⟩ | ⟨-, h2⟩
    · omega
    have hsz : d (24 + j0) 2 = e 14 j0 := by
      obtain ⟨n, f, q, ts', a, hL, hB, hP, hC, hQ, hE, hT⟩ := h
      obtain ⟨g1, ⟨z, g2, g3, g4, g5⟩, g6, g7, g8⟩ := hE j0 hj
      exact g3.trans g4.symm
    rcases h1 with ⟨rfl, p1, rfl⟩ | ⟨rfl, p1, rfl⟩
    · rcases h2 with ⟨rfl, -, rfl⟩ | ⟨-, p2, -⟩
      · exact ⟨rfl, rl_spent h⟩
      · rw [hsz] at p1; exact absurd p1 p2
    rcases h2 with ⟨-, p2, -⟩ | ⟨rfl, -, rfl⟩
    · rw [hsz] at p1; exact absurd p2 p1
    refine ⟨rfl, ?_⟩
    dsimp only
    have hT0 : ∀ k, k < ts → d 5 k = e 17 k := by
      obtain ⟨n, f, q, ts', a, hL, hB, hP, hC, hQ, hE, hT⟩ := h
      have et : ts' = ts := (nI_eq (by have := hT.2.2.1; omega) (by omega)).mp (hT.1.symm.trans hts)
      subst et
      exact hT.2.2.2.2.2
    obtain ⟨n, f, q, ts', a, hL, hB, hP, hC, hQ, hE, hT⟩ := rl_spent h
    have dr : ∀ k j, k ≠ 24 + j0 → k ≠ 56 + j0 → up2 (up2 (va_up (up2 d 0 10 0) (56 + j0) (va_cpy (d 5) (d (56 + j0)) 0 0 ts)) (24 + j0) 2 (nI ts)) (24 + j0) 3 0 k j = up2 d 0 10 0 k j := fun k j a1 a2 => by rw [up2_k a1, up2_k a1, va_up_ne _ _ a2]
    have er : ∀ k j, k ≠ 14 → k ≠ 15 → k ≠ 16 → rf_cp (up2 (up2 (up2 e 0 22 0) 14 j0 (nI ts)) 15 j0 0) j0 ts k j = up2 e 0 22 0 k j := fun k j a1 a2 a3 => by rw [rf_cp_ne a3, up2_k a2, up2_k a1]
    refine ⟨n, f, q, ts', a, rlL_c (dr 0 2 (by omega) (by omega)) (fun k j k1 k2 => dr k j (by omega) (by omega)) (fun k j k1 k2 => er k j (by omega) (by omega) (by omega)) hL, rlB_c (fun k j k1 k2 => dr k j (by omega) (by omega)) (fun k j k1 k2 => er k j (by omega) (by omega) (by omega)) hB, rlP_c (fun j => dr 1 j (by omega) (by omega)) (fun j => er 1 j (by omega) (by omega) (by omega)) hP, rlC_c (fun j hj => dr 0 j (by omega) (by omega)) (fun j hj => er 0 j (by omega) (by omega) (by omega)) hC, rlQ_c (fun k j hk => dr k j (by omega) (by omega)) (er 0 13 (by decide) (by decide) (by decide)) (fun k j hk => er k j (by omega) (by omega) (by omega)) hQ, rlE_u (j0 := j0) (fun j x a1 a2 => ⟨dr _ x (by omega) (by omega), dr _ x (by omega) (by omega)⟩) (fun j a1 a2 => ⟨er 13 j (by omega) (by omega) (by omega), ?_, ?_, fun k hk => ?_⟩) ?_ hE, rlT_c (dr 0 10 (by omega) (by omega)) (fun j => dr 5 j (by omega) (by omega)) (er 0 22 (by decide) (by decide) (by decide)) (fun j => er 17 j (by omega) (by omega) (by omega)) hT⟩
    · rw [rf_cp_ne (by decide), up2_k (by decide), up2_j a2]
    · rw [rf_cp_ne (by decide), up2_j a2, up2_k (by decide)]
    · unfold rf_cp
      rw [va_up_self, if_neg (by omega), up2_k (by decide), up2_k (by decide)]
    · obtain ⟨g1, ⟨z, g2, g3, g4, g5⟩, g6, g7, g8⟩ := hE j0 hj
      rw [up2_k (by omega), up2_k (by omega)] at g1
      unfold rlE1
      rw [up2_j (show 0 ≠ 3 by decide), up2_j (show 0 ≠ 2 by decide), va_up_ne _ _ (show 24 + j0 ≠ 56 + j0 by omega), up2_k (show 24 + j0 ≠ 0 by omega), er 13 j0 (by decide) (by decide) (by decide), up2_k (show 13 ≠ 0 by decide), up2_j (show 2 ≠ 3 by decide), up2_s, up2_s, rf_cp_ne (show 14 ≠ 16 by decide), up2_k (show 14 ≠ 15 by decide), up2_s, rf_cp_ne (show 15 ≠ 16 by decide), up2_s]
      refine ⟨g1, ⟨ts, ht, rfl, rfl, fun k hk => ?_⟩, rfl, Or.inl rfl, fun _ => rfl⟩
      rw [up2_k (by omega), up2_k (by omega), va_up_self, pk_cpy_in (by omega) (by omega)]
      unfold rf_cp
      rw [va_up_self, if_pos (by omega), up2_k (by decide), up2_k (by decide), up2_k (by decide), show 256 * j0 + k - 256 * j0 = k by omega, show 0 + (k - 0) = k by omega]
      exact hT0 k hk
theorem op_drop {ev : Int32} (h : rl d π e) (h1 : (wl_ok ev 32 = false ∧ r1 = 16 ∧ u1 = (d, π)) ∨ (wl_ok ev 32 = true ∧ ((¬ 0 < d (24 + ev.toNatClampNeg) 2 ∧ r1 = 30 ∧ u1 = (d, π)) ∨ (0 < d (24 + ev.toNatClampNeg) 2 ∧ ((¬ d (24 + ev.toNatClampNeg) 3 = 0 ∧ r1 = 15 ∧ u1 = (d, π)) ∨ (d (24 + ev.toNatClampNeg) 3 = 0 ∧ r1 = 0 ∧ u1 = (up2 d (24 + ev.toNatClampNeg) 2 0, π)))))))
    (h2 : (wl_ok ev 32 = false ∧ r2 = 16 ∧ u2 = (e, π')) ∨ (wl_ok ev 32 = true ∧ ((e 14 ev.toNatClampNeg = 0 ∧ r2 = 30 ∧ u2 = (e, π')) ∨ (¬ e 14 ev.toNatClampNeg = 0 ∧ ((¬ e 15 ev.toNatClampNeg = 0 ∧ r2 = 15 ∧ u2 = (e, π')) ∨ (e 15 ev.toNatClampNeg = 0 ∧ r2 = 0 ∧ u2 = (up2 e 14 ev.toNatClampNeg 0, π'))))))) : r1 = r2 ∧ rl u1.1 u1.2 u2.1 := by
  rcases h1 with ⟨ok, rfl, rfl⟩ | ⟨ok, h1⟩
  · rcases h2 with ⟨-, rfl, rfl⟩ | ⟨ok2, -⟩
    · exact ⟨rfl, h⟩
    · rw [ok] at ok2; cases ok2
  · rcases h2 with ⟨ok2, -, -⟩ | ⟨-, h2⟩
    · rw [ok] at ok2; cases ok2
    have hj := (wl_ok32c ok).2
    generalize ev.toNatClampNeg = j0 at hj h1 h2
    obtain ⟨n, f, q, ts, a, hL, hB, hP, hC, hQ, hE, hT⟩ := id h
    obtain ⟨g1, ⟨z, g2, g3, g4, g5⟩, g6, g7, g8⟩ := hE j0 hj
    have hp : 0 < d (24 + j0) 2 ↔ ¬ e 14 j0 = 0 := by rw [g3, g4]; exact rl_pos g2
    rw [hp, g6] at h1
    rcases h1 with ⟨p1, rfl, rfl⟩ | ⟨p1, h1⟩
    · rcases h2 with ⟨-, rfl, rfl⟩ | ⟨p2, -⟩
      · exact ⟨rfl, h⟩
      · exact absurd p2 p1
    rcases h2 with ⟨p2, -, -⟩ | ⟨-, h2⟩
    · exact absurd p2 p1
    rcases h1 with ⟨o1, rfl, rfl⟩ | ⟨o1, rfl, rfl⟩
    · rcases h2 with ⟨-, rfl, rfl⟩ | ⟨o2, -, -⟩
      · exact ⟨rfl, h⟩
      · exact absurd o2 o1
    rcases h2 with ⟨o2, -, -⟩ | ⟨-, rfl, rfl⟩
    · exact absurd o1 o2
    refine ⟨rfl, ?_⟩
    dsimp only
    refine ⟨n, f, q, ts, a, rlL_c (up2_k (by omega)) (fun k j k1 k2 => up2_k (by omega)) (fun k j k1 k2 => up2_k (by omega)) hL, rlB_c (fun k j k1 k2 => up2_k (by omega)) (fun k j k1 k2 => up2_k (by omega)) hB, rlP_c (fun j => up2_k (by omega)) (fun j => up2_k (by omega)) hP, rlC_c (fun j hj => up2_k (by omega)) (fun j hj => up2_k (by omega)) hC, rlQ_c (fun k j hk => up2_k (by omega)) (up2_k (by omega)) (fun k j hk => up2_k (by omega)) hQ, rlE_u (j0 := j0) (fun j x a1 a2 => ⟨up2_k (by omega), up2_k (by omega)⟩) (fun j a1 a2 => ⟨up2_k (by omega), up2_j a2, up2_k (by omega), fun k _ => up2_k (by omega)⟩) ?_ hE, rlT_c (up2_k (by omega)) (fun j => up2_k (by omega)) (up2_k (by omega)) (fun j => up2_k (by omega)) hT⟩
    unfold rlE1
    rw [up2_j (show 0 ≠ 2 by decide), up2_k (show 13 ≠ 14 by decide), up2_s, up2_s, up2_j (show 3 ≠ 2 by decide), up2_k (show 15 ≠ 14 by decide)]
    exact ⟨g1, ⟨0, by omega, nI_0.symm, nI_0.symm, fun k hk => absurd hk (by omega)⟩, g6, g7, fun _ => o1⟩
theorem op_arm {ev on : Int32} (hz : on = 0 ∨ on = 1) (h : rl d π e) (h1 : (wl_ok ev 32 = false ∧ r1 = 16 ∧ u1 = (d, π)) ∨ (wl_ok ev 32 = true ∧ ((¬ 0 < d (24 + ev.toNatClampNeg) 2 ∧ r1 = 30 ∧ u1 = (d, π)) ∨ (0 < d (24 + ev.toNatClampNeg) 2 ∧ r1 = 0 ∧ u1 = (up2 d (24 + ev.toNatClampNeg) 3 on, π)))))
    (h2 : (wl_ok ev 32 = false ∧ r2 = 16 ∧ u2 = (e, π')) ∨ (wl_ok ev 32 = true ∧ ((e 14 ev.toNatClampNeg = 0 ∧ r2 = 30 ∧ u2 = (e, π')) ∨ (¬ e 14 ev.toNatClampNeg = 0 ∧ r2 = 0 ∧ u2 = (up2 e 15 ev.toNatClampNeg on, π'))))) : r1 = r2 ∧ rl u1.1 u1.2 u2.1 := by
  rcases h1 with ⟨ok, rfl, rfl⟩ | ⟨ok, h1⟩
  · rcases h2 with ⟨-, rfl, rfl⟩ | ⟨ok2, -⟩
    · exact ⟨rfl, h⟩
    · rw [ok] at ok2; cases ok2
  · rcases h2 with ⟨ok2, -, -⟩ | ⟨-, h2⟩
    · rw [ok] at ok2; cases ok2
    have hj := (wl_ok32c ok).2
    generalize ev.toNatClampNeg = j0 at hj h1 h2
    obtain ⟨n, f, q, ts, a, hL, hB, hP, hC, hQ, hE, hT⟩ := id h
    obtain ⟨g1, ⟨z, g2, g3, g4, g5⟩, g6, g7, g8⟩ := hE j0 hj
    have hp : 0 < d (24 + j0) 2 ↔ ¬ e 14 j0 = 0 := by rw [g3, g4]; exact rl_pos g2
    rw [hp] at h1
    rcases h1 with ⟨p1, rfl, rfl⟩ | ⟨p1, rfl, rfl⟩
    · rcases h2 with ⟨-, rfl, rfl⟩ | ⟨p2, -, -⟩
      · exact ⟨rfl, h⟩
      · exact absurd p2 p1
    rcases h2 with ⟨p2, -, -⟩ | ⟨-, rfl, rfl⟩
    · exact absurd p2 p1
    refine ⟨rfl, ?_⟩
    dsimp only
    refine ⟨n, f, q, ts, a, rlL_c (up2_k (by omega)) (fun k j k1 k2 => up2_k (by omega)) (fun k j k1 k2 => up2_k (by omega)) hL, rlB_c (fun k j k1 k2 => up2_k (by omega)) (fun k j k1 k2 => up2_k (by omega)) hB, rlP_c (fun j => up2_k (by omega)) (fun j => up2_k (by omega)) hP, rlC_c (fun j hj => up2_k (by omega)) (fun j hj => up2_k (by omega)) hC, rlQ_c (fun k j hk => up2_k (by omega)) (up2_k (by omega)) (fun k j hk => up2_k (by omega)) hQ, rlE_u (j0 := j0) (fun j x a1 a2 => ⟨up2_k (by omega), up2_k (by omega)⟩) (fun j a1 a2 => ⟨up2_k (by omega), up2_k (by omega), up2_j a2, fun k _ => up2_k (by omega)⟩) ?_ hE, rlT_c (up2_k (by omega)) (fun j => up2_k (by omega)) (up2_k (by omega)) (fun j => up2_k (by omega)) hT⟩
    unfold rlE1
    rw [up2_j (show 0 ≠ 3 by decide), up2_k (show 13 ≠ 15 by decide), up2_j (show 2 ≠ 3 by decide), up2_k (show 14 ≠ 15 by decide), up2_s, up2_s]
    exact ⟨g1, ⟨z, g2, g3, g4, fun k hk => by rw [up2_k (by omega), up2_k (by omega)]; exact g5 k hk⟩, rfl, hz, fun q => absurd q p1⟩
theorem rl_01 {x : Int32} (h : x = 0 ∨ x = 1) : (if x = 0 then 0 else 1 : Int32) = x := by
  rcases h with rfl | rfl <;> rfl
theorem op_event {ev w : Int32} (h : rl d π e) (h1 : u1 = (d, π) ∧ r1 = (if wl_ok ev 32 = true then wl_etell d (24 + ev.toNatClampNeg) w else -1)) (h2 : u2 = (e, π') ∧ r2 = (if wl_ok ev 32 = true then rf_etell e ev.toNatClampNeg w else -1)) : r1 = r2 ∧ rl u1.1 u1.2 u2.1 := by
  obtain ⟨rfl, rfl⟩ := h1
  obtain ⟨rfl, rfl⟩ := h2
  refine ⟨?_, h⟩
  split
  · rename_i ok
    have hj := (wl_ok32c ok).2
    generalize ev.toNatClampNeg = j0 at hj ⊢
    obtain ⟨n, f, q, ts, a, hL, hB, hP, hC, hQ, hE, hT⟩ := h
    obtain ⟨g1, ⟨z, g2, g3, g4, g5⟩, g6, g7, g8⟩ := hE j0 hj
    unfold wl_etell rf_etell
    rw [g1, g3, g6, g4, rl_01 g7]
    have : e 15 j0 = if 0 < nI z then e 15 j0 else 0 := by
      split
      · rfl
      · rename_i hn
        rw [rl_pos g2] at hn
        exact g8 (by rw [g4]; exact Decidable.not_not.mp hn)
    rw [← this]
  · rfl
theorem op_actionAt {ev k : Int32} (h : rl d π e) (h1 : u1 = (d, π) ∧ r1 = (if wl_ok ev 32 = true then (if wl_ok k (d (24 + ev.toNatClampNeg) 2) = true then d (56 + ev.toNatClampNeg) k.toNatClampNeg &&& 255 else -1) else -1)) (h2 : u2 = (e, π') ∧ r2 = (if wl_ok ev 32 = true then (if wl_ok k (e 14 ev.toNatClampNeg) = true then e 16 (256 * ev.toNatClampNeg + k.toNatClampNeg) &&& 255 else -1) else -1)) : r1 = r2 ∧ rl u1.1 u1.2 u2.1 := by
  obtain ⟨rfl, rfl⟩ := h1
  obtain ⟨rfl, rfl⟩ := h2
  refine ⟨?_, h⟩
  split
  · rename_i ok
    have hj := (wl_ok32c ok).2
    generalize ev.toNatClampNeg = j0 at hj ⊢
    obtain ⟨n, f, q, ts, a, hL, hB, hP, hC, hQ, hE, hT⟩ := h
    obtain ⟨g1, ⟨z, g2, g3, g4, g5⟩, g6, g7, g8⟩ := hE j0 hj
    rw [g3, g4]
    split
    · rename_i ok2
      obtain ⟨x, hx, rfl⟩ := wl_ok_of (by omega) ok2
      rw [nI_clamp (by omega), g5 x hx]
    · rfl
  · rfl
theorem op_count {w : Int32} (h : rl d π e) (h1 : u1 = (d, π) ∧ r1 = wl_cnt d w) (h2 : u2 = (e, π') ∧ r2 = rf_count e w) : r1 = r2 ∧ rl u1.1 u1.2 u2.1 := by
  obtain ⟨rfl, rfl⟩ := h1
  obtain ⟨rfl, rfl⟩ := h2
  refine ⟨?_, h⟩
  obtain ⟨n, f, q, ts, a, hL, hB, hP, hC, hQ, hE, hT⟩ := h
  obtain ⟨l1, l2, l3, l4, l5, l6, l7, l8, l9⟩ := hL
  obtain ⟨c1, c2, c3, c4, c5⟩ := hC
  unfold wl_cnt rf_count
  rw [l2, l9, c1, hQ.2.2.1, hQ.2.2.2.2.1, c4, c5]
end OP2
end
section
/-! PART 17: the calls on limits -/
theorem rf_cnt_congr {g g' : Nat → Int32} (N : Nat) (h : ∀ x, x < N → (g x = 0 ↔ g' x = 0)) : rf_cnt g N = rf_cnt g' N := by
  induction N with
  | zero => rfl
  | succ N ih =>
    unfold rf_cnt
    rw [ih (fun x hx => h x (by omega))]
    by_cases e : g N = 0
    · rw [if_pos e, if_pos ((h N (by omega)).mp e)]
    · rw [if_neg e, if_neg (fun z => e ((h N (by omega)).mpr z))]
theorem rf_cnt_up {g : Nat → Int32} {j : Nat} {v : Int32} (N : Nat) (hj : j < N) (h0 : g j = 0) (hv : ¬ v = 0) : rf_cnt (upd g j v) N = rf_cnt g N + 1 := by
  induction N with
  | zero => exact absurd hj (by omega)
  | succ N ih =>
    unfold rf_cnt
    by_cases e : j = N
    · subst e
      rw [rf_cnt_congr (g := upd g j v) (g' := g) j (fun x hx => by rw [pk_un (by omega)]), pk_us, if_neg hv, if_pos h0]
    · rw [ih (by omega), pk_un (fun z => e z.symm)]
      omega
theorem rf_cnt_off {g : Nat → Int32} {j : Nat} (N : Nat) (hj : j < N) (h0 : ¬ g j = 0) : rf_cnt (upd g j 0) N + 1 = rf_cnt g N := by
  have h := rf_cnt_up (g := upd g j 0) (j := j) (v := g j) N hj pk_us h0
  rw [← h]
  exact rf_cnt_congr N (fun x _ => by
    by_cases e : x = j
    · subst e; rw [pk_us]
    · rw [pk_un e, pk_un e])
section LM
variable {d d' e e' : Nat → Nat → Int32} {π : Nat → Nat} {n : Nat} {a : Nat → Nat}
theorem rl_found {i : Nat} {id : Int32} (hL : rlL d e π n a) (hi : i < n) (hid : d (8 + π i) 0 = id) : rf_th e id = true ∧ id.toNatClampNeg = a i := by
  obtain ⟨l1, l2, l3, l4, l5, l6, l7, l8, l9⟩ := hL
  obtain ⟨h1, h2⟩ := l5 i hi
  have e1 : id = nI (a i) := hid.symm.trans h2
  have e2 : id.toNatClampNeg = a i := by rw [e1, nI_clamp (by omega)]
  refine ⟨rf_th2 ?_ ?_, e2⟩
  · rw [e1]; exact wl_ok_nI (n := 256) h1 (by omega)
  · rw [e2]; exact (l7 _ h1).mpr ⟨i, hi, rfl⟩
theorem rl_none {id : Int32} (hL : rlL d e π n a) (h : ∀ j, j < n → ¬ d (8 + π j) 0 = id) : rf_th e id = false := by
  obtain ⟨l1, l2, l3, l4, l5, l6, l7, l8, l9⟩ := hL
  cases hh : rf_th e id with
  | false => rfl
  | true =>
    obtain ⟨ok, p⟩ := rf_th_ok hh
    obtain ⟨x, hx, rfl⟩ := wl_ok256 ok
    rw [nI_clamp (by omega)] at p
    obtain ⟨i, hi, ha⟩ := (l7 x hx).mp p
    exact absurd ((l5 i hi).2.trans (by rw [ha])) (h i hi)
theorem rl_ne {i j : Nat} (hL : rlL d e π n a) (hi : i < n) (hj : j < n) (h : i ≠ j) : 8 + π i ≠ 8 + π j ∧ a i ≠ a j := by
  obtain ⟨l1, l2, l3, l4, l5, l6, l7, l8, l9⟩ := hL
  refine ⟨fun z => h (l4 i j (by omega) (by omega) (by omega)), fun z => ?_⟩
  rcases Nat.lt_or_gt_of_ne h with g | g
  · have := l6 i j g hj; omega
  · have := l6 j i g hi; omega
/-- one limit changes -/
theorem rlL_u {i0 : Nat} (hL : rlL d e π n a) (hi0 : i0 < n) (h0 : d' 0 2 = d 0 2) (hd : ∀ k x, 8 ≤ k → k < 24 → k ≠ 8 + π i0 → d' k x = d k x) (hid : d' (8 + π i0) 0 = d (8 + π i0) 0) (he2 : ∀ j, e' 2 j = e 2 j) (he : ∀ k j, 3 ≤ k → k ≤ 10 → j ≠ a i0 → e' k j = e k j) (hF : rlF d' e' (8 + π i0) (a i0)) : rlL d' e' π n a := by
  have hne := fun i (hi : i < n) (h : i ≠ i0) => rl_ne hL hi hi0 h
  obtain ⟨l1, l2, l3, l4, l5, l6, l7, l8, l9⟩ := hL
  have e2 : e' 2 = e 2 := funext he2
  refine ⟨l1, by rw [h0]; exact l2, l3, l4, fun i hi => ⟨(l5 i hi).1, ?_⟩, l6, fun j hj => by rw [e2]; exact l7 j hj, fun i hi => ?_, by rw [e2]; exact l9⟩
  · by_cases g : i = i0
    · subst g; rw [hid]; exact (l5 i hi).2
    · have := l3 i (by omega)
      rw [hd _ _ (by omega) (by omega) (hne i hi g).1]; exact (l5 i hi).2
  · by_cases g : i = i0
    · subst g; exact hF
    · have := l3 i (by omega)
      exact rlF_c (fun x => hd _ _ (by omega) (by omega) (hne i hi g).1) (fun x x1 x2 => he x _ x1 x2 (hne i hi g).2) (l8 i hi)
end LM
section OP3
variable {d e : Nat → Nat → Int32} {π π' : Nat → Nat} {r1 r2 : Int32} {u1 u2 : (Nat → Nat → Int32) × (Nat → Nat)} {n : Nat} {iv : Int32}
theorem op_limit {w : Int32} (h : rl d π e) (hn : d 0 2 = nI n) (hn16 : n ≤ 16) (h1 : u1 = (d, π) ∧ ((r1 = -1 ∧ ∀ j, j < n → ¬ d (8 + π j) 0 = iv) ∨ (∃ i, i < n ∧ d (8 + π i) 0 = iv ∧ r1 = wl_ltell d (8 + π i) w))) (h2 : (rf_th e iv = false ∧ r2 = -1 ∧ u2 = (e, π')) ∨ (rf_th e iv = true ∧ r2 = rf_ltell e iv.toNatClampNeg w ∧ u2 = (e, π'))) : r1 = r2 ∧ rl u1.1 u1.2 u2.1 := by
  obtain ⟨rfl, h1⟩ := h1
  have h' := h
  obtain ⟨n', f, q, ts, a, hL, hB, hP, hC, hQ, hE, hT⟩ := h'
  have en : n' = n := (nI_eq (by have := hL.1; omega) (by omega)).mp (hL.2.1.symm.trans hn)
  subst en
  rcases h1 with ⟨rfl, hno⟩ | ⟨i, hi, hid, rfl⟩
  · have g := rl_none hL hno
    rcases h2 with ⟨-, rfl, rfl⟩ | ⟨g2, -, -⟩
    · exact ⟨rfl, h⟩
    · rw [g] at g2; cases g2
  · obtain ⟨g, g3⟩ := rl_found hL hi hid
    rcases h2 with ⟨g2, -, -⟩ | ⟨-, rfl, rfl⟩
    · rw [g] at g2; cases g2
    · refine ⟨?_, h⟩
      rw [g3]
      have hai := (hL.2.2.2.2.1 i hi).1
      obtain ⟨f1, f2, f3, f4, f5, f6, f7, f8, f9⟩ := hL.2.2.2.2.2.2.2.1 i hi
      unfold wl_ltell rf_ltell
      rw [f1, f2, f3, f4, f7, f8, rl_01 (hB.2.1 3 _ (by omega) (by omega) hai), rl_01 (hB.2.1 4 _ (by omega) (by omega) hai)]
theorem op_enable {on : Int32} (hz : on = 0 ∨ on = 1) (h : rl d π e) (hn : d 0 2 = nI n) (hn16 : n ≤ 16) (h1 : (r1 = 27 ∧ u1 = (d, π) ∧ ∀ j, j < n → ¬ d (8 + π j) 0 = iv) ∨ (r1 = 0 ∧ ∃ i, i < n ∧ d (8 + π i) 0 = iv ∧ (∀ j, j < i → ¬ d (8 + π j) 0 = iv) ∧ u1 = (up2 (up2 d (8 + π i) 7 on) (8 + π i) 8 0, π))) (h2 : (rf_th e iv = false ∧ r2 = 27 ∧ u2 = (e, π')) ∨ (rf_th e iv = true ∧ r2 = 0 ∧ u2 = (up2 (up2 e 3 iv.toNatClampNeg on) 10 iv.toNatClampNeg 0, π'))) : r1 = r2 ∧ rl u1.1 u1.2 u2.1 := by
  have h' := h
  obtain ⟨n', f, q, ts, a, hL, hB, hP, hC, hQ, hE, hT⟩ := h'
  have en : n' = n := (nI_eq (by have := hL.1; omega) (by omega)).mp (hL.2.1.symm.trans hn)
  subst en
  rcases h1 with ⟨rfl, rfl, hno⟩ | ⟨rfl, i, hi, hid, hfst, rfl⟩
  · have g := rl_none hL hno
    rcases h2 with ⟨-, rfl, rfl⟩ | ⟨g2, -, -⟩
    · exact ⟨rfl, h⟩
    · rw [g] at g2; cases g2
  · obtain ⟨g, g3⟩ := rl_found hL hi hid
    rcases h2 with ⟨g2, -, -⟩ | ⟨-, rfl, rfl⟩
    · rw [g] at g2; cases g2
    · refine ⟨rfl, ?_⟩
      dsimp only
      rw [g3]
      have hai := (hL.2.2.2.2.1 i hi).1
      have hpi := hL.2.2.1 i (by omega)
      obtain ⟨f1, f2, f3, f4, f5, f6, f7, f8, f9⟩ := hL.2.2.2.2.2.2.2.1 i hi
      have dr : ∀ k j, k ≠ 8 + π i → up2 (up2 d (8 + π i) 7 on) (8 + π i) 8 0 k j = d k j := fun k j a1 => by rw [up2_k a1, up2_k a1]
      have er : ∀ k j, k ≠ 3 → k ≠ 10 → up2 (up2 e 3 (a i) on) 10 (a i) 0 k j = e k j := fun k j a1 a2 => by rw [up2_k a2, up2_k a1]
      refine ⟨n', f, q, ts, a, rlL_u hL hi (dr 0 2 (by omega)) (fun k x k1 k2 k3 => dr k x k3) (by rw [up2_j (by decide), up2_j (by decide)]) (fun j => er 2 j (by decide) (by decide)) (fun k j k1 k2 k3 => by rw [up2_at, if_neg (by omega), up2_at, if_neg (by omega)]) ?_, ⟨fun j hj => by rw [er 5 j (by decide) (by decide)]; exact hB.1 j hj, fun k j k1 k2 hj => ?_, fun j hj => ?_, fun j hj => ?_⟩, rlP_c (fun j => dr 1 j (by omega)) (fun j => er 1 j (by decide) (by decide)) hP, rlC_c (fun j hj => dr 0 j (by omega)) (fun j hj => er 0 j (by decide) (by decide)) hC, rlQ_c (fun k j hk => dr k j (by omega)) (er 0 13 (by decide) (by decide)) (fun k j hk => er k j (by omega) (by omega)) hQ, rlE_c (fun k j k1 => dr k j (by omega)) (fun k j k1 k2 => er k j (by omega) (by omega)) hE, rlT_c (dr 0 10 (by omega)) (fun j => dr 5 j (by omega)) (er 0 22 (by decide) (by decide)) (fun j => er 17 j (by decide) (by decide)) hT⟩
      · unfold rlF
        simp [up2_at, f2, f3, f4, f5, f6, f7, f9]
      · rw [up2_k (by omega), up2_at]
        split
        · exact hz
        · exact hB.2.1 k j k1 k2 hj
      · rw [up2_at, if_neg (by omega), up2_at]
        split
        · exact hz
        · exact hB.2.2.1 j hj
      · rw [up2_at, if_neg (by omega), up2_at, if_neg (by omega)]
        exact hB.2.2.2 j hj
/-- a limit goes: the others keep their order -/
theorem rlL_rm {a : Nat → Nat} {i : Nat} (hL : rlL d e π n a) (hi : i < n) : rlL (up2 d 0 2 (nI (n - 1))) (up2 e 2 (a i) 0) (va_up (wl_sl π i (n - 1)) (n - 1) (π i)) (n - 1) (fun x => if x < i then a x else a (x + 1)) := by
  have hne := fun j (hj : j < n) (h : j ≠ i) => rl_ne hL hj hi h
  obtain ⟨l1, l2, l3, l4, l5, l6, l7, l8, l9⟩ := hL
  have hp : ∀ x, va_up (wl_sl π i (n - 1)) (n - 1) (π i) x = π (if x < i then x else if x < n - 1 then x + 1 else if x = n - 1 then i else x) := by
    intro x
    unfold va_up wl_sl
    by_cases h1 : x = n - 1
    · rw [if_pos h1, if_neg (by omega), if_neg (by omega), if_pos h1]
    · rw [if_neg h1]
      by_cases h2 : x < i
      · rw [if_neg (by omega), if_pos h2]
      · rw [if_neg h2]
        by_cases h3 : x < n - 1
        · rw [if_pos (by omega), if_pos h3]
        · rw [if_neg (by omega), if_neg h3, if_neg h1]
  have hs : ∀ x, x < n - 1 → va_up (wl_sl π i (n - 1)) (n - 1) (π i) x = π (if x < i then x else x + 1) := by
    intro x hx
    rw [hp]
    congr 1
    split
    · rfl
    · first | rfl | rw [if_pos hx]
  have ha : ∀ x, (if x < i then a x else a (x + 1)) = a (if x < i then x else x + 1) := by
    intro x; split <;> rfl
  refine ⟨by omega, up2_s, fun x hx => ?_, fun x y hx hy hxy => ?_, fun x hx => ?_, fun x y hxy hy => ?_, fun j hj => ?_, fun x hx => ?_, ?_⟩
  · rw [hp]
    apply l3
    split
    · omega
    · split
      · omega
      · split <;> omega
  · rw [hp, hp] at hxy
    have := l4 _ _ (by split; omega; split; omega; split <;> omega) (by split; omega; split; omega; split <;> omega) hxy
    revert this
    split <;> split <;> (try split) <;> (try split) <;> (try split) <;> (try split) <;> omega
  · dsimp only
    rw [ha, hs x hx]
    have h9 : (if x < i then x else x + 1) < n := by split <;> omega
    refine ⟨(l5 _ h9).1, ?_⟩
    rw [up2_k (by omega)]
    exact (l5 _ h9).2
  · dsimp only
    rw [ha, ha]
    exact l6 _ _ (by split <;> split <;> omega) (by split <;> omega)
  · rw [up2_same]
    constructor
    · intro h
      have h2 : j ≠ a i := fun z => h (by rw [z, pk_us])
      rw [pk_un h2] at h
      obtain ⟨x, hx, hxa⟩ := (l7 j hj).mp h
      have hxi : x ≠ i := fun z => h2 (by rw [← hxa, z])
      by_cases g : x < i
      · exact ⟨x, by omega, by dsimp only; rw [if_pos g]; exact hxa⟩
      · exact ⟨x - 1, by omega, by dsimp only; rw [if_neg (by omega), show x - 1 + 1 = x by omega]; exact hxa⟩
    · intro ⟨x, hx, hxa⟩
      dsimp only at hxa
      rw [ha] at hxa
      have h9 : (if x < i then x else x + 1) < n := by split <;> omega
      have h8 : (if x < i then x else x + 1) ≠ i := by split <;> omega
      have h7 := (hne _ h9 h8).2
      rw [hxa] at h7
      rw [pk_un h7]
      exact (l7 j hj).mpr ⟨_, h9, hxa⟩
  · dsimp only
    rw [ha, hs x hx]
    have h9 : (if x < i then x else x + 1) < n := by split <;> omega
    exact rlF_c (fun z => up2_k (by omega)) (fun z z1 z2 => up2_k (by omega)) (l8 _ h9)
  · rw [up2_same]
    have := rf_cnt_off (g := e 2) 256 (l5 i hi).1 ((l7 _ (l5 i hi).1).mpr ⟨i, hi, rfl⟩)
    omega
theorem up2_id {d : Nat → Nat → Int32} {k j : Nat} {v : Int32} (h : v = d k j) : up2 d k j v = d := by
  funext x y
  rw [up2_at]
  split
  · rename_i g; rw [g.1, g.2, h]
  · rfl
theorem op_remove (h : rl d π e) (hn : d 0 2 = nI n) (hn16 : n ≤ 16) (h1 : (r1 = 27 ∧ u1 = (d, π) ∧ ∀ j, j < n → ¬ d (8 + π j) 0 = iv) ∨ ∃ i, i < n ∧ d (8 + π i) 0 = iv ∧ (∀ j, j < i → ¬ d (8 + π j) 0 = iv) ∧ ((r1 = 15 ∧ u1 = (d, π) ∧ ¬ d (8 + π i) 7 = 0) ∨ (r1 = 0 ∧ d (8 + π i) 7 = 0 ∧ u1 = (up2 d 0 2 (nI (n - 1)), va_up (wl_sl π i (n - 1)) (n - 1) (π i))))) (h2 : (rf_th e iv = false ∧ r2 = 27 ∧ u2 = (e, π')) ∨ (rf_th e iv = true ∧ ((¬ e 3 iv.toNatClampNeg = 0 ∧ r2 = 15) ∨ (e 3 iv.toNatClampNeg = 0 ∧ r2 = 0)) ∧ u2 = (up2 e 2 iv.toNatClampNeg (e 3 iv.toNatClampNeg), π'))) : r1 = r2 ∧ rl u1.1 u1.2 u2.1 := by
  have h' := h
  obtain ⟨n', f, q, ts, a, hL, hB, hP, hC, hQ, hE, hT⟩ := h'
  have en : n' = n := (nI_eq (by have := hL.1; omega) (by omega)).mp (hL.2.1.symm.trans hn)
  subst en
  rcases h1 with ⟨rfl, rfl, hno⟩ | ⟨i, hi, hid, hfst, h1⟩
  · have g := rl_none hL hno
    rcases h2 with ⟨-, rfl, rfl⟩ | ⟨g2, -, -⟩
    · exact ⟨rfl, h⟩
    · rw [g] at g2; cases g2
  · obtain ⟨g, g3⟩ := rl_found hL hi hid
    rcases h2 with ⟨g2, -, -⟩ | ⟨-, h2, rfl⟩
    · rw [g] at g2; cases g2
    rw [g3] at h2 ⊢
    have hai := (hL.2.2.2.2.1 i hi).1
    have f1 := (hL.2.2.2.2.2.2.2.1 i hi).1
    rw [f1] at h1
    rcases h1 with ⟨rfl, rfl, o1⟩ | ⟨rfl, o1, rfl⟩
    · rcases h2 with ⟨-, rfl⟩ | ⟨o2, -⟩
      · refine ⟨rfl, ?_⟩
        dsimp only
        rw [up2_id]
        · exact h
        · have p3 := (hB.2.1 3 _ (by omega) (by omega) hai).resolve_left o1
          have p2 := (hB.2.1 2 _ (by omega) (by omega) hai).resolve_left ((hL.2.2.2.2.2.2.1 _ hai).mpr ⟨i, hi, rfl⟩)
          rw [p3, p2]
      · exact absurd o2 o1
    · rcases h2 with ⟨o2, -⟩ | ⟨-, rfl⟩
      · exact absurd o1 o2
      · refine ⟨rfl, ?_⟩
        dsimp only
        rw [o1]
        refine ⟨n' - 1, f, q, ts, _, rlL_rm hL hi, ⟨fun j hj => by rw [up2_k (by decide)]; exact hB.1 j hj, fun k j k1 k2 hj => ?_, fun j hj => by rw [up2_k (by omega)]; exact hB.2.2.1 j hj, fun j hj => by rw [up2_k (by omega)]; exact hB.2.2.2 j hj⟩, rlP_c (fun j => up2_k (by omega)) (fun j => up2_k (by decide)) hP, rlC_c (fun j hj => up2_j (by omega)) (fun j hj => up2_k (by decide)) hC, rlQ_c (fun k j hk => up2_k (by omega)) (up2_k (by decide)) (fun k j hk => up2_k (by omega)) hQ, rlE_c (fun k j k1 => up2_k (by omega)) (fun k j k1 k2 => up2_k (by omega)) hE, rlT_c (up2_j (by decide)) (fun j => up2_k (by decide)) (up2_k (by decide)) (fun j => up2_k (by decide)) hT⟩
        rw [up2_at]
        split
        · exact Or.inl rfl
        · exact hB.2.1 k j k1 k2 hj
end OP3
end
section
/-! PART 18: a limit comes -/
section AD
variable {d e : Nat → Nat → Int32} {id pa ti lo hi ev lk : Int32}
theorem wl_beg_k {k k' x : Nat} (h : k' ≠ k) : wl_beg d k id pa ti lo hi ev lk k' x = d k' x := by
  unfold wl_beg
  rw [up2_k h, up2_k h, up2_k h, up2_k h, up2_k h, up2_k h, up2_k h, up2_k h, up2_k h]
theorem wl_beg_s {k : Nat} : wl_beg d k id pa ti lo hi ev lk k 0 = id ∧ wl_beg d k id pa ti lo hi ev lk k 1 = pa ∧ wl_beg d k id pa ti lo hi ev lk k 2 = ti ∧ wl_beg d k id pa ti lo hi ev lk k 3 = lo ∧ wl_beg d k id pa ti lo hi ev lk k 4 = hi ∧ wl_beg d k id pa ti lo hi ev lk k 5 = ev ∧ wl_beg d k id pa ti lo hi ev lk k 6 = lk ∧ wl_beg d k id pa ti lo hi ev lk k 7 = 0 ∧ wl_beg d k id pa ti lo hi ev lk k 8 = 0 := by
  unfold wl_beg
  simp [up2_at]
theorem rf_add_x {j k x : Nat} (h : x ≠ j) : rf_add e j pa ti lo hi ev lk k x = e k x := by
  unfold rf_add
  rw [up2_at, if_neg (fun z => h z.2), up2_at, if_neg (fun z => h z.2), up2_at, if_neg (fun z => h z.2), up2_at, if_neg (fun z => h z.2), up2_at, if_neg (fun z => h z.2), up2_at, if_neg (fun z => h z.2), up2_at, if_neg (fun z => h z.2), up2_at, if_neg (fun z => h z.2), up2_at, if_neg (fun z => h z.2)]
theorem rf_add_k {j k x : Nat} (h : k < 2 ∨ 10 < k) : rf_add e j pa ti lo hi ev lk k x = e k x := by
  unfold rf_add
  rw [up2_k (by omega), up2_k (by omega), up2_k (by omega), up2_k (by omega), up2_k (by omega), up2_k (by omega), up2_k (by omega), up2_k (by omega), up2_k (by omega)]
theorem rf_add_s {j : Nat} : rf_add e j pa ti lo hi ev lk 2 j = 1 ∧ rf_add e j pa ti lo hi ev lk 3 j = 0 ∧ rf_add e j pa ti lo hi ev lk 4 j = lk ∧ rf_add e j pa ti lo hi ev lk 5 j = pa ∧ rf_add e j pa ti lo hi ev lk 6 j = ti ∧ rf_add e j pa ti lo hi ev lk 7 j = lo ∧ rf_add e j pa ti lo hi ev lk 8 j = hi ∧ rf_add e j pa ti lo hi ev lk 9 j = ev ∧ rf_add e j pa ti lo hi ev lk 10 j = 0 := by
  unfold rf_add
  simp [up2_at]
theorem rf_add_2 {j : Nat} : rf_add e j pa ti lo hi ev lk 2 = upd (e 2) j 1 := by
  funext x
  unfold upd
  by_cases g : x = j
  · rw [if_pos g, g]; exact rf_add_s.1
  · rw [if_neg g]; exact rf_add_x g
theorem rlL_ad {π : Nat → Nat} {n j pl : Nat} {a : Nat → Nat} (hL : rlL d e π n a) (hn : n < 16) (hj : j < 256) (h0 : e 2 j = 0) (hpl : pl ≤ n) (hup : ∀ y, pl ≤ y → y < n → j < a y) (hdn : 0 < pl → a (pl - 1) < j) (hti : ¬ ti = 0) :
    rlL (wl_beg (up2 d 0 2 (nI (n + 1))) (8 + π n) (nI j) pa ti lo hi ev lk) (rf_add e j pa ti lo hi ev lk) (va_up (wl_sh π n pl) pl (π n)) (n + 1) (fun x => if x < pl then a x else if x = pl then j else a (x - 1)) := by
  obtain ⟨l1, l2, l3, l4, l5, l6, l7, l8, l9⟩ := hL
  have hp : ∀ x, va_up (wl_sh π n pl) pl (π n) x = π (if x < pl then x else if x = pl then n else if x ≤ n then x - 1 else x) := by
    intro x
    unfold va_up wl_sh
    by_cases h1 : x = pl
    · rw [if_pos h1, if_neg (by omega), if_pos h1]
    · rw [if_neg h1, if_neg h1]
      by_cases h2 : x < pl
      · rw [if_neg (by omega), if_pos h2]
      · rw [if_neg h2]
        by_cases h3 : x ≤ n
        · rw [if_pos (by omega), if_pos h3]
        · rw [if_neg (by omega), if_neg h3]
  have hpn := l3 n hn
  have old : ∀ y, y < n → π y ≠ π n := fun y hy z => by have := l4 y n (by omega) hn z; omega
  have aj : ∀ y, y < n → a y ≠ j := fun y hy z => (l7 j hj).mpr ⟨y, hy, z⟩ h0
  -- the place x < n + 1: either pl, or an old one y
  have cases : ∀ x, x < n + 1 → (x = pl ∧ va_up (wl_sh π n pl) pl (π n) x = π n ∧ (if x < pl then a x else if x = pl then j else a (x - 1)) = j) ∨ ∃ y, y < n ∧ va_up (wl_sh π n pl) pl (π n) x = π y ∧ (if x < pl then a x else if x = pl then j else a (x - 1)) = a y ∧ ((x < pl ∧ y = x) ∨ (pl < x ∧ y + 1 = x)) := by
    intro x hx
    by_cases h1 : x = pl
    · left
      refine ⟨h1, ?_, ?_⟩
      · rw [hp, if_neg (by omega), if_pos h1]
      · rw [if_neg (by omega), if_pos h1]
    · right
      by_cases h2 : x < pl
      · refine ⟨x, by omega, ?_, ?_, Or.inl ⟨h2, rfl⟩⟩
        · rw [hp, if_pos h2]
        · rw [if_pos h2]
      · refine ⟨x - 1, by omega, ?_, ?_, Or.inr ⟨by omega, by omega⟩⟩
        · rw [hp, if_neg h2, if_neg h1, if_pos (by omega)]
        · rw [if_neg h2, if_neg h1]
  have dB : ∀ y x, y < n → wl_beg (up2 d 0 2 (nI (n + 1))) (8 + π n) (nI j) pa ti lo hi ev lk (8 + π y) x = d (8 + π y) x := fun y x hy => by
    have := old y hy
    rw [wl_beg_k (by omega), up2_k (by omega)]
  have inc : ∀ x y, x < y → y < n + 1 → (if x < pl then a x else if x = pl then j else a (x - 1)) < (if y < pl then a y else if y = pl then j else a (y - 1)) := by
    intro x y hxy hy
    rcases cases x (by omega) with ⟨x1, -, x2⟩ | ⟨x1, x2, -, x3, x4⟩
    · rcases cases y hy with ⟨y1, -, y2⟩ | ⟨y1, y2, -, y3, y4⟩
      · omega
      · rw [x2, y3]; exact hup _ (by omega) y2
    · rcases cases y hy with ⟨y1, -, y2⟩ | ⟨y1, y2, -, y3, y4⟩
      · rw [x3, y2]
        by_cases g : x1 = pl - 1
        · rw [g]; exact hdn (by omega)
        · exact Nat.lt_trans (l6 x1 (pl - 1) (by omega) (by omega)) (hdn (by omega))
      · rw [x3, y3]; exact l6 _ _ (by omega) y2
  refine ⟨by omega, ?_, fun x hx => ?_, fun x y hx hy hxy => ?_, fun x hx => ?_, inc, fun m hm => ?_, fun x hx => ?_, ?_⟩
  · rw [wl_beg_k (by omega), up2_s]
  · rw [hp]
    apply l3
    split
    · omega
    · split
      · omega
      · split <;> omega
  · rw [hp, hp] at hxy
    have := l4 _ _ (by split; omega; split; omega; split <;> omega) (by split; omega; split; omega; split <;> omega) hxy
    revert this
    split <;> split <;> (try split) <;> (try split) <;> (try split) <;> (try split) <;> omega
  · dsimp only
    rcases cases x hx with ⟨x1, x2, x3⟩ | ⟨y, y1, y2, y3, y4⟩
    · rw [x2, x3]
      exact ⟨hj, wl_beg_s.1⟩
    · rw [y2, y3, dB y 0 y1]
      exact l5 y y1
  · rw [rf_add_2]
    by_cases g : m = j
    · subst g
      rw [pk_us]
      refine ⟨fun _ => ⟨pl, by omega, ?_⟩, fun _ => by decide⟩
      dsimp only
      rw [if_neg (by omega), if_pos rfl]
    · rw [pk_un g, l7 m hm]
      constructor
      · rintro ⟨y, hy, rfl⟩
        by_cases g2 : y < pl
        · exact ⟨y, by omega, by dsimp only; rw [if_pos g2]⟩
        · exact ⟨y + 1, by omega, by dsimp only; rw [if_neg (by omega), if_neg (by omega), Nat.add_sub_cancel]⟩
      · rintro ⟨x, hx, hxa⟩
        dsimp only at hxa
        rcases cases x hx with ⟨x1, x2, x3⟩ | ⟨y, y1, y2, y3, y4⟩
        · exact absurd (hxa.symm.trans x3) g
        · exact ⟨y, y1, y3.symm.trans hxa⟩
  · dsimp only
    rcases cases x hx with ⟨x1, x2, x3⟩ | ⟨y, y1, y2, y3, y4⟩
    · rw [x2, x3]
      obtain ⟨s0, s1, s2, s3, s4, s5, s6, s7, s8⟩ := wl_beg_s (d := up2 d 0 2 (nI (n + 1))) (k := 8 + π n) (id := nI j) (pa := pa) (ti := ti) (lo := lo) (hi := hi) (ev := ev) (lk := lk)
      obtain ⟨t2, t3, t4, t5, t6, t7, t8, t9, t10⟩ := rf_add_s (e := e) (j := j) (pa := pa) (ti := ti) (lo := lo) (hi := hi) (ev := ev) (lk := lk)
      exact ⟨s7.trans t3.symm, s6.trans t4.symm, s1.trans t5.symm, s2.trans t6.symm, s3.trans t7.symm, s4.trans t8.symm, s5.trans t9.symm, s8.trans t10.symm, by rw [t6]; exact hti⟩
    · rw [y2, y3]
      exact rlF_c (fun z => dB y z y1) (fun z z1 z2 => rf_add_x (aj y y1)) (l8 y y1)
  · rw [rf_add_2, rf_cnt_up 256 hj h0 (by decide), l9]
end AD
theorem wl_badf {id pa ti lo hi ev : Int32} (h : wl_bad id pa ti lo hi ev = false) : wl_ok id 256 = true ∧ wl_ok pa 32 = true ∧ wl_ok ev 32 = true ∧ 1 ≤ ti ∧ ti ≤ 255 ∧ lo ≤ hi := by
  unfold wl_bad at h
  simp only [Bool.not_eq_false', Bool.and_eq_true, decide_eq_true_eq] at h
  obtain ⟨⟨⟨⟨⟨h1, h2⟩, h3⟩, h4⟩, h5⟩, h6⟩ := h
  exact ⟨h1, h2, h3, h4, h5, h6⟩
section OP4
variable {d e : Nat → Nat → Int32} {π π' : Nat → Nat} {r1 r2 : Int32} {u1 u2 : (Nat → Nat → Int32) × (Nat → Nat)} {n : Nat} {iv pa ti lo hi ev lk : Int32}
theorem op_add (hz : lk = 0 ∨ lk = 1) (h : rl d π e) (hn : d 0 2 = nI n) (hn16 : n ≤ 16)
    (h1 : (r1 = 13 ∧ u1 = (d, π) ∧ wl_bad iv pa ti lo hi ev = true) ∨ (wl_bad iv pa ti lo hi ev = false ∧ ((r1 = 25 ∧ u1 = (d, π) ∧ ∃ i, i < n ∧ d (8 + π i) 0 = iv) ∨ ((∀ j, j < n → ¬ d (8 + π j) 0 = iv) ∧ ((r1 = 26 ∧ u1 = (d, π) ∧ n = 16) ∨ (r1 = 0 ∧ n < 16 ∧ ∃ pl, pl ≤ n ∧ (∀ j, pl ≤ j → j < n → iv < d (8 + π j) 0) ∧ (0 < pl → d (8 + π (pl - 1)) 0 ≤ iv) ∧ u1 = (wl_beg (up2 d 0 2 (nI (n + 1))) (8 + π n) iv pa ti lo hi ev lk, va_up (wl_sh π n pl) pl (π n))))))))
    (h2 : (r2 = 13 ∧ u2 = (e, π') ∧ wl_bad iv pa ti lo hi ev = true) ∨ (wl_bad iv pa ti lo hi ev = false ∧ ((r2 = 25 ∧ u2 = (e, π') ∧ ¬ e 2 iv.toNatClampNeg = 0) ∨ (e 2 iv.toNatClampNeg = 0 ∧ ((r2 = 26 ∧ u2 = (e, π') ∧ rf_cnt (e 2) 256 = 16) ∨ (r2 = 0 ∧ ¬ rf_cnt (e 2) 256 = 16 ∧ u2 = (rf_add e iv.toNatClampNeg pa ti lo hi ev lk, π'))))))) : r1 = r2 ∧ rl u1.1 u1.2 u2.1 := by
  have h' := h
  obtain ⟨n', f, q, ts, a, hL, hB, hP, hC, hQ, hE, hT⟩ := h'
  have en : n' = n := (nI_eq (by have := hL.1; omega) (by omega)).mp (hL.2.1.symm.trans hn)
  subst en
  rcases h1 with ⟨rfl, rfl, b1⟩ | ⟨b1, h1⟩
  · rcases h2 with ⟨rfl, rfl, -⟩ | ⟨b2, -⟩
    · exact ⟨rfl, h⟩
    · rw [b1] at b2; cases b2
  rcases h2 with ⟨-, -, b2⟩ | ⟨-, h2⟩
  · rw [b1] at b2; cases b2
  obtain ⟨o1, o2, o3, o4, o5, o6⟩ := wl_badf b1
  rcases h1 with ⟨rfl, rfl, i, hi, hid⟩ | ⟨hno, h1⟩
  · obtain ⟨g, g3⟩ := rl_found hL hi hid
    rcases h2 with ⟨rfl, rfl, -⟩ | ⟨z, -⟩
    · exact ⟨rfl, h⟩
    · exact absurd z (rf_th_ok g).2
  have g := rl_none hL hno
  obtain ⟨j, hj, rfl⟩ := wl_ok256 o1
  rw [nI_clamp (by omega)] at h2
  have z0 : e 2 j = 0 := Decidable.not_not.mp (fun z => by
    have := rf_th2 (d := e) o1 (by rw [nI_clamp (by omega)]; exact z)
    rw [g] at this; cases this)
  rcases h2 with ⟨-, -, z⟩ | ⟨-, h2⟩
  · exact absurd z0 z
  have l9 := hL.2.2.2.2.2.2.2.2
  rw [l9] at h2
  rcases h1 with ⟨rfl, rfl, n1⟩ | ⟨rfl, n1, pl, p1, p2, p3, rfl⟩
  · rcases h2 with ⟨rfl, rfl, -⟩ | ⟨-, n2, -⟩
    · exact ⟨rfl, h⟩
    · exact absurd n1 n2
  rcases h2 with ⟨-, -, n2⟩ | ⟨rfl, -, rfl⟩
  · omega
  refine ⟨rfl, ?_⟩
  dsimp only
  have l5 := hL.2.2.2.2.1
  have hti : ¬ ti = 0 := fun z => by rw [z] at o4; exact absurd o4 (by decide)
  have hpn := hL.2.2.1 n' n1
  have dk : ∀ k x, k ≠ 8 + π n' → k ≠ 0 → wl_beg (up2 d 0 2 (nI (n' + 1))) (8 + π n') (nI j) pa ti lo hi ev lk k x = d k x := fun k x a1 a2 => by rw [wl_beg_k a1, up2_k a2]
  have d0 : ∀ x, x ≠ 2 → wl_beg (up2 d 0 2 (nI (n' + 1))) (8 + π n') (nI j) pa ti lo hi ev lk 0 x = d 0 x := fun x a1 => by rw [wl_beg_k (by omega), up2_j a1]
  refine ⟨n' + 1, f, q, ts, _, rlL_ad hL n1 hj z0 p1 (fun y y1 y2 => ?_) (fun y0 => ?_) hti, ⟨fun m hm => ?_, fun k m k1 k2 hm => ?_, fun m hm => ?_, fun m hm => ?_⟩, rlP_c (fun m => dk 1 m (by omega) (by omega)) (fun m => rf_add_k (by omega)) hP, rlC_c (fun m hm => d0 m (by omega)) (fun m hm => rf_add_k (by omega)) hC, rlQ_c (fun k m hk => dk k m (by omega) (by omega)) (rf_add_k (by omega)) (fun k m hk => rf_add_k (by omega)) hQ, rlE_c (fun k m k1 => dk k m (by omega) (by omega)) (fun k m k1 k2 => rf_add_k (by omega)) hE, rlT_c (d0 10 (by omega)) (fun m => dk 5 m (by omega) (by omega)) (rf_add_k (by omega)) (fun m => rf_add_k (by omega)) hT⟩
  · have := p2 y y1 y2
    rw [(l5 y y2).2] at this
    exact (nI_ltI (by omega) (by have := (l5 y y2).1; omega)).mp this
  · have := p3 y0
    rw [(l5 (pl - 1) (by omega)).2] at this
    have h3 := (nI_leI (by have := (l5 (pl - 1) (by omega)).1; omega) (by omega)).mp this
    have h4 : a (pl - 1) ≠ j := fun z => (hL.2.2.2.2.2.2.1 j hj).mpr ⟨pl - 1, by omega, z⟩ z0
    omega
  · by_cases g : m = j
    · rw [g, rf_add_s.2.2.2.1]
      exact wl_ok32 o2
    · rw [rf_add_x g]; exact hB.1 m hm
  · by_cases g : m = j
    · rw [g]
      obtain ⟨t2, t3, t4, -⟩ := rf_add_s (e := e) (j := j) (pa := pa) (ti := ti) (lo := lo) (hi := hi) (ev := ev) (lk := lk)
      rcases (show k = 2 ∨ k = 3 ∨ k = 4 by omega) with rfl | rfl | rfl
      · rw [t2]; exact Or.inr rfl
      · rw [t3]; exact Or.inl rfl
      · rw [t4]; exact hz
    · rw [rf_add_x g]; exact hB.2.1 k m k1 k2 hm
  · by_cases g : 8 + m = 8 + π n'
    · rw [g, wl_beg_s.2.2.2.2.2.2.2.1]; exact Or.inl rfl
    · rw [dk _ _ g (by omega)]; exact hB.2.2.1 m hm
  · by_cases g : 8 + m = 8 + π n'
    · rw [g, wl_beg_s.2.2.2.2.2.2.1]; exact hz
    · rw [dk _ _ g (by omega)]; exact hB.2.2.2 m hm
end OP4
end
section
/-! PART 19: watching: the class by its places, the reference by ids -/
theorem up2_comm {d : Nat → Nat → Int32} {k j k' j' : Nat} {v v' : Int32} (h : k ≠ k' ∨ j ≠ j') : up2 (up2 d k j v) k' j' v' = up2 (up2 d k' j' v') k j v := by
  funext x y
  rw [up2_at, up2_at, up2_at, up2_at]
  by_cases h1 : x = k ∧ y = j
  · rw [if_neg (show ¬ (x = k' ∧ y = j') by omega), if_pos h1, if_pos h1]
  · rw [if_neg h1, if_neg h1]
def rlW (d e : Nat → Nat → Int32) (π : Nat → Nat) (n : Nat) (a : Nat → Nat) (f ts : Nat) : Prop := rlL d e π n a ∧ rlB d e ∧ rlP d e ∧ rlC d e ∧ (∃ q, rlQ d e f q) ∧ rlE d e ∧ rlT d e ts
section WA
variable {d e : Nat → Nat → Int32} {π π' : Nat → Nat} {n f ts : Nat} {a : Nat → Nat}
theorem rf_cnt_mono (g : Nat → Int32) {i j : Nat} (h : i ≤ j) : rf_cnt g i ≤ rf_cnt g j := by
  induction j with
  | zero => rw [show i = 0 by omega]; exact Nat.le_refl _
  | succ j ih =>
    by_cases e : i = j + 1
    · rw [e]; exact Nat.le_refl _
    · have := ih (by omega)
      show rf_cnt g i ≤ rf_cnt g j + _
      omega
/-- so many places stand before the id j -/
theorem rl_cnt (hL : rlL d e π n a) (j : Nat) (hj : j ≤ 256) : ∀ i, i < n → (a i < j ↔ i < rf_cnt (e 2) j) := by
  obtain ⟨l1, l2, l3, l4, l5, l6, l7, l8, l9⟩ := hL
  induction j with
  | zero => intro i hi; exact ⟨fun h => absurd h (by omega), fun h => absurd h (Nat.not_lt_zero i)⟩
  | succ j ih =>
    intro i hi
    have ih := ih (by omega)
    show a i < j + 1 ↔ i < rf_cnt (e 2) j + (if e 2 j = 0 then 0 else 1)
    by_cases g : e 2 j = 0
    · rw [if_pos g]
      have h1 := ih i hi
      have : a i ≠ j := fun z => (l7 j (by omega)).mpr ⟨i, hi, z⟩ g
      omega
    · rw [if_neg g]
      obtain ⟨i0, h0, ha⟩ := (l7 j (by omega)).mp g
      have hc : i0 = rf_cnt (e 2) j := by
        rcases Nat.lt_trichotomy i0 (rf_cnt (e 2) j) with z | z | z
        · have := (ih i0 h0).mpr z; omega
        · exact z
        · have h3 := l6 _ _ z h0
          rw [ha] at h3
          have := (ih _ (by omega)).mp h3
          omega
      have h1 := ih i hi
      rw [← hc] at h1 ⊢
      constructor
      · intro h
        by_cases z : a i < j
        · have := h1.mp z; omega
        · have e1 : a i = a i0 := by omega
          rcases Nat.lt_trichotomy i i0 with y | y | y
          · omega
          · omega
          · have := l6 _ _ y hi; omega
      · intro h
        by_cases z : i = i0
        · rw [z]; omega
        · have := h1.mpr (by omega); omega
theorem rl_at (hL : rlL d e π n a) {j : Nat} (hj : j < 256) (g : ¬ e 2 j = 0) : rf_cnt (e 2) j < n ∧ a (rf_cnt (e 2) j) = j := by
  have hc := rl_cnt hL j (by omega)
  obtain ⟨l1, l2, l3, l4, l5, l6, l7, l8, l9⟩ := hL
  obtain ⟨i0, h0, ha⟩ := (l7 j hj).mp g
  have e0 : i0 = rf_cnt (e 2) j := by
    rcases Nat.lt_trichotomy i0 (rf_cnt (e 2) j) with z | z | z
    · have := (hc i0 h0).mpr z; omega
    · exact z
    · have h3 := l6 _ _ z h0
      rw [ha] at h3
      have := (hc _ (by omega)).mp h3
      omega
  rw [← e0]
  exact ⟨h0, ha⟩
theorem rlW_raise {q : Nat} {ev nu : Int32} (h : rlW d e π n a f ts) (hQ : rlQ d e f q) : rlW (wl_wol d f q ev nu) (rf_wt e q ev nu) π n a f ts := by
  obtain ⟨hL, hB, hP, hC, -, hE, hT⟩ := h
  exact ⟨rlL_c (wl_wol_k (by omega)) (fun k j k1 k2 => wl_wol_k (by omega)) (fun k j k1 k2 => rf_wt_k (by omega)) hL, rlB_c (fun k j k1 k2 => wl_wol_k (by omega)) (fun k j k1 k2 => rf_wt_k (by omega)) hB, rlP_c (fun j => wl_wol_k (by omega)) (fun j => rf_wt_k (by omega)) hP, rl_raiseC hC, rl_raise hQ, rlE_c (fun k j k1 => wl_wol_k (by omega)) (fun k j k1 k2 => rf_wt_k (by omega)) hE, rlT_c (wl_wol_k (by omega)) (fun j => wl_wol_k (by omega)) (rf_wt_k (by omega)) (fun j => rf_wt_k (by omega)) hT⟩
theorem rlW_link {x : Int32} (hx : x = 0 ∨ x = 1) (h : rlW d e π n a f ts) : rlW (up2 d 0 4 x) (up2 e 0 12 x) π n a f ts := by
  obtain ⟨hL, hB, hP, ⟨c1, c2, c3, c4, c5⟩, ⟨q, hQ⟩, hE, hT⟩ := h
  exact ⟨rlL_c (up2_j (by decide)) (fun k j k1 k2 => up2_k (by omega)) (fun k j k1 k2 => up2_k (by omega)) hL, rlB_c (fun k j k1 k2 => up2_k (by omega)) (fun k j k1 k2 => up2_k (by omega)) hB, rlP_c (fun j => up2_k (by omega)) (fun j => up2_k (by omega)) hP, ⟨by rw [up2_j (by decide), up2_j (by decide)]; exact c1, by rw [up2_s, up2_s], by rw [up2_s]; exact hx, by rw [up2_j (by decide), up2_j (by decide)]; exact c4, by rw [up2_j (by decide), up2_j (by decide)]; exact c5⟩, ⟨q, rlQ_c (fun k j hk => up2_k (by omega)) (up2_j (by decide)) (fun k j hk => up2_k (by omega)) hQ⟩, rlE_c (fun k j k1 => up2_k (by omega)) (fun k j k1 k2 => up2_k (by omega)) hE, rlT_c (up2_j (by decide)) (fun j => up2_k (by omega)) (up2_j (by decide)) (fun j => up2_k (by omega)) hT⟩
theorem rlW_broken {x : Int32} (h : rlW d e π n a f ts) : rlW (up2 d 0 3 (d 0 3 + x)) (up2 e 0 11 (e 0 11 + x)) π n a f ts := by
  obtain ⟨hL, hB, hP, ⟨c1, c2, c3, c4, c5⟩, ⟨q, hQ⟩, hE, hT⟩ := h
  exact ⟨rlL_c (up2_j (by decide)) (fun k j k1 k2 => up2_k (by omega)) (fun k j k1 k2 => up2_k (by omega)) hL, rlB_c (fun k j k1 k2 => up2_k (by omega)) (fun k j k1 k2 => up2_k (by omega)) hB, rlP_c (fun j => up2_k (by omega)) (fun j => up2_k (by omega)) hP, ⟨by rw [up2_s, up2_s, c1], by rw [up2_j (by decide), up2_j (by decide)]; exact c2, by rw [up2_j (by decide)]; exact c3, by rw [up2_j (by decide), up2_j (by decide)]; exact c4, by rw [up2_j (by decide), up2_j (by decide)]; exact c5⟩, ⟨q, rlQ_c (fun k j hk => up2_k (by omega)) (up2_j (by decide)) (fun k j hk => up2_k (by omega)) hQ⟩, rlE_c (fun k j k1 => up2_k (by omega)) (fun k j k1 k2 => up2_k (by omega)) hE, rlT_c (up2_j (by decide)) (fun j => up2_k (by omega)) (up2_j (by decide)) (fun j => up2_k (by omega)) hT⟩
theorem rlW_ct {i : Nat} {x : Int32} (hi : i < n) (h : rlW d e π n a f ts) : rlW (up2 d (8 + π i) 8 x) (up2 e 10 (a i) x) π n a f ts := by
  obtain ⟨hL, hB, hP, hC, ⟨q, hQ⟩, hE, hT⟩ := h
  have hpi := hL.2.2.1 i (by have := hL.1; omega)
  obtain ⟨f1, f2, f3, f4, f5, f6, f7, f8, f9⟩ := hL.2.2.2.2.2.2.2.1 i hi
  refine ⟨rlL_u hL hi (up2_k (by omega)) (fun k x k1 k2 k3 => up2_k k3) (up2_j (by decide)) (fun j => up2_k (by decide)) (fun k j k1 k2 k3 => by rw [up2_at, if_neg (fun z => k3 z.2)]) ?_, ⟨fun j hj => by rw [up2_k (by decide)]; exact hB.1 j hj, fun k j k1 k2 hj => by rw [up2_k (by omega)]; exact hB.2.1 k j k1 k2 hj, fun j hj => by rw [up2_at, if_neg (by omega)]; exact hB.2.2.1 j hj, fun j hj => by rw [up2_at, if_neg (by omega)]; exact hB.2.2.2 j hj⟩, rlP_c (fun j => up2_k (by omega)) (fun j => up2_k (by omega)) hP, rlC_c (fun j hj => up2_k (by omega)) (fun j hj => up2_k (by omega)) hC, ⟨q, rlQ_c (fun k j hk => up2_k (by omega)) (up2_k (by omega)) (fun k j hk => up2_k (by omega)) hQ⟩, rlE_c (fun k j k1 => up2_k (by omega)) (fun k j k1 k2 => up2_k (by omega)) hE, rlT_c (up2_k (by omega)) (fun j => up2_k (by omega)) (up2_k (by omega)) (fun j => up2_k (by omega)) hT⟩
  refine ⟨?_, ?_, ?_, ?_, ?_, ?_, ?_, ?_, ?_⟩
  · rw [up2_j (by decide), up2_k (by decide)]; exact f1
  · rw [up2_j (by decide), up2_k (by decide)]; exact f2
  · rw [up2_j (by decide), up2_k (by decide)]; exact f3
  · rw [up2_j (by decide), up2_k (by decide)]; exact f4
  · rw [up2_j (by decide), up2_k (by decide)]; exact f5
  · rw [up2_j (by decide), up2_k (by decide)]; exact f6
  · rw [up2_j (by decide), up2_k (by decide)]; exact f7
  · rw [up2_s, up2_s]
  · rw [up2_k (by decide)]; exact f9
theorem rf_wt_link {q : Nat} {ev nu x : Int32} : rf_wt (up2 e 0 12 x) q ev nu = up2 (rf_wt e q ev nu) 0 12 x := by
  unfold rf_wt
  split
  · rw [up2_comm (k := 0) (k' := 11) (by omega), up2_comm (k := 0) (k' := 12) (by omega), up2_comm (k := 0) (j := 12) (k' := 0) (j' := 13) (by omega)]
  · rw [up2_j (by decide), up2_comm (k := 0) (j := 12) (k' := 0) (j' := 16) (by omega)]
/-- one limit is watched on both sides -/
theorem rlW_step {i : Nat} {b : Int32} (hi : i < n) (h : rlW d e π n a f ts) (h2 : ¬ e 2 (a i) = 0) : rlW (wl_step π i d b).1 (rf_step (a i) e b).1 π n a f ts ∧ (wl_step π i d b).2 = (rf_step (a i) e b).2 := by
  have h' := h
  obtain ⟨hL, hB, hP, hC, ⟨q, hQ⟩, hE, hT⟩ := h'
  have hai := (hL.2.2.2.2.1 i hi).1
  have hpi := hL.2.2.1 i (by have := hL.1; omega)
  obtain ⟨f1, f2, f3, f4, f5, f6, f7, f8, f9⟩ := hL.2.2.2.2.2.2.2.1 i hi
  have hv : wl_val d (8 + π i) = rf_v e (a i) := by
    unfold wl_val rf_v
    obtain ⟨m, hm, em⟩ := hB.1 _ hai
    rw [f3, em, nI_clamp (by omega)]
    exact hP m hm
  have hin : ∀ v, wl_inr d (8 + π i) v = rf_in v (e 7 (a i)) (e 8 (a i)) := fun v => by
    unfold wl_inr rf_in
    rw [f5, f6]
  by_cases o1 : d (8 + π i) 7 = 0
  · rw [wl_step0 o1, rf_step1 h2 (f1.symm.trans o1)]
    exact ⟨h, rfl⟩
  have o2 : ¬ e 3 (a i) = 0 := fun z => o1 (f1.trans z)
  have hbd : wl_bd d (8 + π i) (wl_val d (8 + π i)) = up2 d (8 + π i) 8 (if rf_in (rf_v e (a i)) (e 7 (a i)) (e 8 (a i)) = true then 0 else e 10 (a i) + 1) := by
    unfold wl_bd
    rw [hin, hv, f8]
  have hW1 : rlW (wl_bd d (8 + π i) (wl_val d (8 + π i))) (rf_ct e (a i)) π n a f ts := by
    rw [hbd]
    exact rlW_ct hi h
  have hk : wl_brk d (8 + π i) (wl_val d (8 + π i)) = 0 ↔ ¬ rf_ct e (a i) 10 (a i) = rf_ct e (a i) 6 (a i) := by
    unfold wl_brk rf_ct
    rw [hin, hv, up2_s, up2_k (by decide), f8, f4]
    cases rf_in (rf_v e (a i)) (e 7 (a i)) (e 8 (a i)) with
    | true =>
      rw [if_pos rfl, if_pos rfl]
      exact ⟨fun _ z => f9 z.symm, fun _ => rfl⟩
    | false =>
      rw [if_neg (by decide), if_neg (by decide)]
      by_cases g : e 10 (a i) + 1 = e 6 (a i)
      · rw [decide_eq_true g]
        exact ⟨fun z => absurd z (by decide), fun z => absurd g z⟩
      · rw [decide_eq_false g]
        exact ⟨fun _ => g, fun _ => rfl⟩
  by_cases b1 : wl_brk d (8 + π i) (wl_val d (8 + π i)) = 0
  · rw [wl_step1 o1 b1, rf_step2 h2 o2 (hk.mp b1)]
    exact ⟨hW1, rfl⟩
  · rw [wl_step2 o1 b1, rf_step3 h2 o2 (Decidable.not_not.mp (fun z => b1 (hk.mpr z)))]
    refine ⟨?_, rfl⟩
    dsimp only
    have h1' := hW1
    obtain ⟨hL1, hB1, hP1, hC1, ⟨q1, hQ1⟩, hE1, hT1⟩ := h1'
    have g1 := hL1.2.2.2.2.2.2.2.1 i hi
    generalize hD1 : wl_bd d (8 + π i) (wl_val d (8 + π i)) = D1 at *
    generalize hE9 : rf_ct e (a i) = E1 at *
    have hbl : wl_bl d (8 + π i) (wl_val d (8 + π i)) = up2 D1 0 4 (wl_or (E1 0 12) (E1 4 (a i))) := by
      unfold wl_bl
      rw [hD1, hC1.2.1, g1.2.1]
    have hbk : rf_bk e (a i) = rf_wt E1 q1 (E1 9 (a i)) (rf_v e (a i)) := by
      unfold rf_bk
      rw [hE9, rf_wtD_eq hQ1.2.2.2.2.1 (by have := hQ1.2.2.2.1; omega)]
    have hW2 := rlW_link (wl_or01 (E1 0 12) (E1 4 (a i))) hW1
    have hQ2 : rlQ (up2 D1 0 4 (wl_or (E1 0 12) (E1 4 (a i)))) (up2 E1 0 12 (wl_or (E1 0 12) (E1 4 (a i)))) f q1 := rlQ_c (fun k j hk => up2_k (by omega)) (up2_j (by decide)) (fun k j hk => up2_k (by omega)) hQ1
    have hW3 := rlW_raise (ev := E1 9 (a i)) (nu := rf_v e (a i)) hW2 hQ2
    rw [rf_wt_link] at hW3
    rw [hbl, hbk, rf_wt_k (by omega), rf_wt_k (by omega), wl_wolD_eq hQ2.1 hQ2.2.2.1 (by have := hQ2.2.1; omega) (by have := hQ2.2.2.2.1; omega), hv, up2_k (by omega), g1.2.2.2.2.2.2.1]
    exact hW3
theorem rl_watch (h : rlW d e π n a f ts) (j : Nat) (hj : j ≤ 256) : rlW (wl_w π d (rf_cnt (e 2) j)).1 (rf_w e j).1 π n a f ts ∧ (wl_w π d (rf_cnt (e 2) j)).2 = (rf_w e j).2 := by
  have h' := h
  obtain ⟨hL, hB, hP, hC, ⟨q, hQ⟩, hE, hT⟩ := h'
  induction j with
  | zero => exact ⟨rlW_link (Or.inl rfl) h, rfl⟩
  | succ j ih =>
    have ih := ih (by omega)
    have hI := rf_w_I hQ.2.2.2.2.1 hQ.2.2.2.1 j
    have e2 : (rf_w e j).1 2 j = e 2 j := hI.1 2 j (by decide) (by decide) (by decide) (by decide)
    by_cases g : e 2 j = 0
    · have c1 : rf_cnt (e 2) (j + 1) = rf_cnt (e 2) j := by
        show rf_cnt (e 2) j + (if e 2 j = 0 then 0 else 1) = _
        rw [if_pos g]
        omega
      have c2 : rf_w e (j + 1) = ((rf_w e j).1, (rf_w e j).2) := rf_step0 (e2.trans g)
      rw [c1, c2]
      exact ih
    · have c1 : rf_cnt (e 2) (j + 1) = rf_cnt (e 2) j + 1 := by
        show rf_cnt (e 2) j + (if e 2 j = 0 then 0 else 1) = _
        rw [if_neg g]
      obtain ⟨g1, g2⟩ := rl_at hL (by omega) g
      rw [c1]
      show rlW (wl_step π _ _ _).1 (rf_step j _ _).1 π n a f ts ∧ (wl_step π _ _ _).2 = (rf_step j _ _).2
      rw [ih.2]
      have := rlW_step (b := (rf_w e j).2) g1 ih.1 (by rw [g2, e2]; exact g)
      rw [g2] at this
      exact this
theorem op_watch {r1 r2 : Int32} {u1 u2 : (Nat → Nat → Int32) × (Nat → Nat)} (h : rl d π e) (hn : d 0 2 = nI n) (hn16 : n ≤ 16) (h1 : r1 = (wl_w π d n).2 ∧ u1 = (up2 (wl_w π d n).1 0 3 ((wl_w π d n).1 0 3 + (wl_w π d n).2), π)) (h2 : r2 = (rf_w e 256).2 ∧ u2 = (up2 (rf_w e 256).1 0 11 ((rf_w e 256).1 0 11 + (rf_w e 256).2), π')) : r1 = r2 ∧ rl u1.1 u1.2 u2.1 := by
  rw [h1.1, h1.2, h2.1, h2.2]
  clear h1 h2
  obtain ⟨n', f, q, ts, a, hL, hB, hP, hC, hQ, hE, hT⟩ := h
  have en : n' = n := (nI_eq (by have := hL.1; omega) (by omega)).mp (hL.2.1.symm.trans hn)
  subst en
  obtain ⟨hw, hb⟩ := rl_watch (d := d) (e := e) (π := π) (n := n') (a := a) (f := f) (ts := ts) ⟨hL, hB, hP, hC, ⟨q, hQ⟩, hE, hT⟩ 256 (by omega)
  have l9 := hL.2.2.2.2.2.2.2.2
  rw [l9] at hw hb
  refine ⟨hb, ?_⟩
  dsimp only
  rw [← hb]
  obtain ⟨wL, wB, wP, wC, ⟨q', wQ⟩, wE, wT⟩ := rlW_broken (x := (wl_w π d n').2) hw
  exact ⟨n', f, q', ts, a, wL, wB, wP, wC, wQ, wE, wT⟩
end WA
end
section
/-! PART 20: the small constructors, and the reference's -/
variable {l : Launch}
theorem gw_D1 {A : Nat → Prop} {a : Nat} {e : va_E} (h : A a) : va_D A [(a, e)] := by
  refine ⟨fun i j p q hi hj _ => ?_, fun k q hk => ?_⟩
  · have h1 := (List.getElem?_eq_some_iff.mp hi).1
    have h2 := (List.getElem?_eq_some_iff.mp hj).1
    simp at h1 h2
    omega
  · have h1 := List.mem_of_getElem? hk
    rw [List.mem_singleton] at h1
    rw [h1]; exact h
theorem gw_cidI {D : va_G} {cl : List vw_C} {tys : List (ClassId × FieldType)} {U : State} {c1 c2 : ClassId} (hK : va_K D cl tys U) (i j : Nat) (h1 : tys[i]? = some (c1, .int)) (h2 : tys[j]? = some (c2, .int)) : c1 = c2 := Option.some.inj ((show U.vm.findClass _ = some c1 from (hK.2 i _ h1).2).symm.trans (show U.vm.findClass _ = some c2 from (hK.2 j _ h2).2))
theorem gw_cidB {D : va_G} {cl : List vw_C} {tys : List (ClassId × FieldType)} {U : State} {c1 c2 : ClassId} (hK : va_K D cl tys U) (i j : Nat) (h1 : tys[i]? = some (c1, .byte)) (h2 : tys[j]? = some (c2, .byte)) : c1 = c2 := Option.some.inj ((show U.vm.findClass _ = some c1 from (hK.2 i _ h1).2).symm.trans (show U.vm.findClass _ = some c2 from (hK.2 j _ h2).2))
theorem gw_cidZ {D : va_G} {cl : List vw_C} {tys : List (ClassId × FieldType)} {U : State} {c1 c2 : ClassId} (hK : va_K D cl tys U) (i j : Nat) (h1 : tys[i]? = some (c1, .boolean)) (h2 : tys[j]? = some (c2, .boolean)) : c1 = c2 := Option.some.inj ((show U.vm.findClass _ = some c1 from (hK.2 i _ h1).2).symm.trans (show U.vm.findClass _ = some c2 from (hK.2 j _ h2).2))
set_option maxHeartbeats 4000000 in
set_option maxRecDepth 100000 in
theorem c_Limit_init (h0 : Nat) : Met l yX1_init wsX1_init ({ frames := 1, cells := 0, slots := 0, locals := 12 }) (va_Pc [.ref h0] (fun _ => True)) (va_Sv (fun _ => True)) 0 0 (fun _ => False) := by
  refine Met.ofW (cc := cX1_init) (maxL := 1) (ret := none) (by decide) rfl ?_
  intro p e s m args below meth c s₁ B hml hv
  obtain ⟨rfl, -⟩ := hv
  have hx := B.exec
  have hb := B.bytes
  have hr := B.returns
  have hts : ∀ w ∈ gG, w.before _ s = true := fun w h => atoms_spec (ws := wsX1_init) B.pre w (List.mem_cons_of_mem _ h)
  have hown : s.vm.findClass RX1 = some m.cls := findClass_of_methodNamed B.named
  have hlocks := B.notSynchronized
  have hin : meth.name = "<init>" := (name_of_methodNamed B.named B.method).1
  have hl := lv_entry ([.ref h0]) (n := 1) (Nat.le_of_ble_eq_true rfl)
  rw [lg_entry_eq]
  generalize (lg_sl ([.ref h0]) ++ List.replicate (1 - (lg_sl ([.ref h0])).length) Slot.unset).toArray = ls at hl ⊢
  have hl : lv_has ls 1 [(0, .ref h0)] := hl
  refine lv_aload_n hx hb dX1_init_0 rfl (lv_at hl 0 rfl) ?_
  refine W.objInit hx hb hown (hts _ mG_51) (hts _ mG_34) (hts _ mG_35) rfl (by rw [hml]; exact hl.1) rfl dX1_init_1 (Nat.le_of_ble_eq_true rfl) (Nat.le_of_ble_eq_true rfl) ?_
  refine W.eq (g2 := F0 m 4 ls []) rfl ?_
  exact W.vret hx hb hr (fun t ht hW => ⟨rfl, trivial, ht⟩) (fun q hq => by cases hq) dX1_init_4
set_option maxHeartbeats 4000000 in
set_option maxRecDepth 100000 in
theorem c_Event_init (D : va_G) (h0 sz : Nat) : Met l yX0_init wsX0_init ({ frames := 1, cells := 1, slots := 256, locals := 12 }) (va_Pc [.ref h0] (fun U => U.heap.size = sz ∧ va_P D vwCl [(h0, .inr (0, [.int 0, .null, .int 0, .int 0]))] U.heap ∧ va_K D vwCl [] U)) (va_Qv (fun _ : Nat × ClassId => True) (fun u t => va_P D vwCl [(h0, .inr (0, [.int 1, .ref u.1, .int 0, .int 0])), (u.1, .inl (u.2, 256, .inl (fun _ => 0)))] t.heap ∧ va_K D vwCl [(u.2, .byte)] t ∧ va_D (va_A [(h0, .inr (0, [.int 0, .null, .int 0, .int 0]))] sz) [(h0, .inr (0, [.int 1, .ref u.1, .int 0, .int 0])), (u.1, .inl (u.2, 256, .inl (fun _ => 0)))]) (va_A [(h0, .inr (0, [.int 0, .null, .int 0, .int 0]))] sz)) 1 256 (va_A [(h0, .inr (0, [.int 0, .null, .int 0, .int 0]))] sz) := by
  refine Met.ofW (cc := cX0_init) (maxL := 1) (ret := none) (by decide) rfl ?_
  intro p e s m args below meth c s₁ B hml hv
  obtain ⟨rfl, hsz, hP, hK⟩ := hv
  have hx := B.exec
  have hb := B.bytes
  have hr := B.returns
  have hts : ∀ w ∈ gG, w.before _ s = true := fun w h => atoms_spec (ws := wsX0_init) B.pre w (List.mem_cons_of_mem _ h)
  have hown : s.vm.findClass RX0 = some m.cls := findClass_of_methodNamed B.named
  have hlocks := B.notSynchronized
  have hin : meth.name = "<init>" := (name_of_methodNamed B.named B.method).1
  have hl := lv_entry ([.ref h0]) (n := 1) (Nat.le_of_ble_eq_true rfl)
  rw [lg_entry_eq]
  generalize (lg_sl ([.ref h0]) ++ List.replicate (1 - (lg_sl ([.ref h0])).length) Slot.unset).toArray = ls at hl ⊢
  have hl : lv_has ls 1 [(0, .ref h0)] := hl
  subst hsz
  have hD := gw_D1 (A := va_A [(h0, .inr (0, [.int 0, .null, .int 0, .int 0]))] s.heap.size) (a := h0) (e := .inr (0, [.int 0, .null, .int 0, .int 0])) (Or.inl ⟨0, _, rfl⟩)
  generalize hAe : va_A [(h0, .inr (0, [.int 0, .null, .int 0, .int 0]))] s.heap.size = A at hD ⊢
  have hA : ∀ q : Nat, s.heap.size ≤ q → A q := fun q h => by rw [← hAe]; exact Or.inr h
  have hS : va_S A s.heap s.heap [] := va_S.rf
  have hP : va_P D vwCl [(h0, .inr (0, [.int 0, .null, .int 0, .int 0]))] s.heap := hP
  refine lv_aload_n hx hb dX0_init_0 rfl (lv_at hl 0 rfl) ?_
  refine W.objInit hx hb hown (hts _ mG_65) (hts _ mG_34) (hts _ mG_35) rfl (by rw [hml]; exact hl.1) rfl dX0_init_1 (Nat.le_of_ble_eq_true rfl) (Nat.le_of_ble_eq_true rfl) ?_
  refine W.eq (g2 := F0 m 4 ls []) rfl ?_
  refine lv_aload_n hx hb dX0_init_4 rfl (lv_at hl 0 rfl) ?_
  refine lv_iconst (v := 1) hx hb dX0_init_5 (by decide) ?_
  refine va_put (D := D) (ci := 0) (v := .int 1) (ty := .boolean) (C := RX0) (T := TX0) (N := 4) hx hb hts inX0 tyX0 okX0 nmX0 hown hK hP hD hS 0 rfl rfl 0 (by decide) (hts _ mG_66) (fun _ h9 => h9) rfl (by decide +kernel) (gw_nz (by decide)) (gw_fz (by decide)) (Nat.le_of_ble_eq_true rfl) dX0_init_6 (fun H locs hP hD hS => ?_)
  replace hP : va_P D vwCl [(h0, .inr (0, [.int 1, .null, .int 0, .int 0]))] H := hP
  replace hD : va_D A [(h0, .inr (0, [.int 1, .null, .int 0, .int 0]))] := hD
  refine lv_aload_n hx hb dX0_init_9 rfl (lv_at hl 0 rfl) ?_
  refine lv_sipush (v := 256) hx hb dX0_init_10 (by decide) ?_
  refine va_newa (atype := .byte) (ty := .byte) (a0 := (256, .inl (fun _ => 0))) (N' := 256) hx hb (hts _ mG_61) rfl hK hP hD hS hA (fun _ => rfl) (by decide) (by decide) (by decide) (Nat.le_of_ble_eq_true rfl) (Nat.le_of_ble_eq_true rfl) dX0_init_13 (fun q1 c1 H hK hP hD hS => ?_)
  replace hP : va_P D vwCl [(h0, .inr (0, [.int 1, .null, .int 0, .int 0])), (q1, .inl (c1, 256, .inl (fun _ => 0)))] H := hP
  replace hD : va_D A [(h0, .inr (0, [.int 1, .null, .int 0, .int 0])), (q1, .inl (c1, 256, .inl (fun _ => 0)))] := hD
  have hK : va_K D vwCl [(c1, .byte)] s := hK
  refine W.widen (k := 1) (n := 256) (by omega) (by omega) ?_
  refine va_putF (D := D) (ci := 0) (v := .ref q1) (ty := .array .byte) (C := RX0) (T := TX0) (N := 4) hx hb hts inX0 tyX0 okX0 nmX0 hown hK hP hD hS 0 rfl rfl 1 (by decide) (hts _ mG_67) (fun _ h9 => h9) rfl hin rfl (by decide +kernel) rfl rfl (Nat.le_of_ble_eq_true rfl) dX0_init_15 (fun H locs hP hD hS => ?_)
  replace hP : va_P D vwCl [(h0, .inr (0, [.int 1, .ref q1, .int 0, .int 0])), (q1, .inl (c1, 256, .inl (fun _ => 0)))] H := hP
  replace hD : va_D A [(h0, .inr (0, [.int 1, .ref q1, .int 0, .int 0])), (q1, .inl (c1, 256, .inl (fun _ => 0)))] := hD
  exact W.vret hx hb hr (fun t ht hW => ⟨⟨(q1, c1), rfl, trivial, by rw [ht]; exact hP, va_K.moved hW.alike hK, hD⟩, hS.F ht⟩) hS.2.2 dX0_init_18
set_option maxHeartbeats 4000000 in
set_option maxRecDepth 100000 in
theorem c_Queue_init (D : va_G) (h0 sz : Nat) : Met l yX2_init wsX2_init ({ frames := 1, cells := 2, slots := 128, locals := 12 }) (va_Pc [.ref h0] (fun U => U.heap.size = sz ∧ va_P D vwCl [(h0, .inr (2, [.null, .null, .int 0, .int 0]))] U.heap ∧ va_K D vwCl [] U)) (va_Qv (fun _ : Nat × Nat × ClassId => True) (fun u t => va_P D vwCl [(h0, .inr (2, [.ref u.1, .ref u.2.1, .int 0, .int 0])), (u.1, .inl (u.2.2, 64, .inl (fun _ => 0))), (u.2.1, .inl (u.2.2, 64, .inl (fun _ => 0)))] t.heap ∧ va_K D vwCl [(u.2.2, .int)] t ∧ va_D (va_A [(h0, .inr (2, [.null, .null, .int 0, .int 0]))] sz) [(h0, .inr (2, [.ref u.1, .ref u.2.1, .int 0, .int 0])), (u.1, .inl (u.2.2, 64, .inl (fun _ => 0))), (u.2.1, .inl (u.2.2, 64, .inl (fun _ => 0)))]) (va_A [(h0, .inr (2, [.null, .null, .int 0, .int 0]))] sz)) 2 128 (va_A [(h0, .inr (2, [.null, .null, .int 0, .int 0]))] sz) := by
  refine Met.ofW (cc := cX2_init) (maxL := 1) (ret := none) (by decide) rfl ?_
  intro p e s m args below meth c s₁ B hml hv
  obtain ⟨rfl, hsz, hP, hK⟩ := hv
  have hx := B.exec
  have hb := B.bytes
  have hr := B.returns
  have hts : ∀ w ∈ gG, w.before _ s = true := fun w h => atoms_spec (ws := wsX2_init) B.pre w (List.mem_cons_of_mem _ h)
  have hown : s.vm.findClass RX2 = some m.cls := findClass_of_methodNamed B.named
  have hlocks := B.notSynchronized
  have hin : meth.name = "<init>" := (name_of_methodNamed B.named B.method).1
  have hl := lv_entry ([.ref h0]) (n := 1) (Nat.le_of_ble_eq_true rfl)
  rw [lg_entry_eq]
  generalize (lg_sl ([.ref h0]) ++ List.replicate (1 - (lg_sl ([.ref h0])).length) Slot.unset).toArray = ls at hl ⊢
  have hl : lv_has ls 1 [(0, .ref h0)] := hl
  subst hsz
  have hD := gw_D1 (A := va_A [(h0, .inr (2, [.null, .null, .int 0, .int 0]))] s.heap.size) (a := h0) (e := .inr (2, [.null, .null, .int 0, .int 0])) (Or.inl ⟨0, _, rfl⟩)
  generalize hAe : va_A [(h0, .inr (2, [.null, .null, .int 0, .int 0]))] s.heap.size = A at hD ⊢
  have hA : ∀ q : Nat, s.heap.size ≤ q → A q := fun q h => by rw [← hAe]; exact Or.inr h
  have hS : va_S A s.heap s.heap [] := va_S.rf
  have hP : va_P D vwCl [(h0, .inr (2, [.null, .null, .int 0, .int 0]))] s.heap := hP
  refine lv_aload_n hx hb dX2_init_0 rfl (lv_at hl 0 rfl) ?_
  refine W.objInit hx hb hown (hts _ mG_42) (hts _ mG_34) (hts _ mG_35) rfl (by rw [hml]; exact hl.1) rfl dX2_init_1 (Nat.le_of_ble_eq_true rfl) (Nat.le_of_ble_eq_true rfl) ?_
  refine W.eq (g2 := F0 m 4 ls []) rfl ?_
  refine lv_aload_n hx hb dX2_init_4 rfl (lv_at hl 0 rfl) ?_
  refine lv_bipush (v := 64) hx hb dX2_init_5 (by decide) ?_
  refine va_newa (atype := .int) (ty := .int) (a0 := (64, .inl (fun _ => 0))) (N' := 64) hx hb (hts _ mG_47) rfl hK hP hD hS hA (fun _ => rfl) (by decide) (by decide) (by decide) (Nat.le_of_ble_eq_true rfl) (Nat.le_of_ble_eq_true rfl) dX2_init_7 (fun q1 c1 H hK hP hD hS => ?_)
  replace hP : va_P D vwCl [(h0, .inr (2, [.null, .null, .int 0, .int 0])), (q1, .inl (c1, 64, .inl (fun _ => 0)))] H := hP
  replace hD : va_D A [(h0, .inr (2, [.null, .null, .int 0, .int 0])), (q1, .inl (c1, 64, .inl (fun _ => 0)))] := hD
  have hK : va_K D vwCl [(c1, .int)] s := hK
  refine W.widen (k := 1) (n := 64) (by omega) (by omega) ?_
  refine va_putF (D := D) (ci := 2) (v := .ref q1) (ty := .array .int) (C := RX2) (T := TX2) (N := 4) hx hb hts inX2 tyX2 okX2 nmX2 hown hK hP hD hS 0 rfl rfl 0 (by decide) (hts _ mG_43) (fun _ h9 => h9) rfl hin rfl (by decide +kernel) rfl rfl (Nat.le_of_ble_eq_true rfl) dX2_init_9 (fun H locs hP hD hS => ?_)
  replace hP : va_P D vwCl [(h0, .inr (2, [.ref q1, .null, .int 0, .int 0])), (q1, .inl (c1, 64, .inl (fun _ => 0)))] H := hP
  replace hD : va_D A [(h0, .inr (2, [.ref q1, .null, .int 0, .int 0])), (q1, .inl (c1, 64, .inl (fun _ => 0)))] := hD
  refine lv_aload_n hx hb dX2_init_12 rfl (lv_at hl 0 rfl) ?_
  refine lv_bipush (v := 64) hx hb dX2_init_13 (by decide) ?_
  refine va_newa (atype := .int) (ty := .int) (a0 := (64, .inl (fun _ => 0))) (N' := 64) hx hb (hts _ mG_47) rfl hK hP hD hS hA (fun _ => rfl) (by decide) (by decide) (by decide) (Nat.le_of_ble_eq_true rfl) (Nat.le_of_ble_eq_true rfl) dX2_init_15 (fun q2 c2 H hK hP hD hS => ?_)
  replace hP : va_P D vwCl [(h0, .inr (2, [.ref q1, .null, .int 0, .int 0])), (q1, .inl (c1, 64, .inl (fun _ => 0))), (q2, .inl (c2, 64, .inl (fun _ => 0)))] H := hP
  replace hD : va_D A [(h0, .inr (2, [.ref q1, .null, .int 0, .int 0])), (q1, .inl (c1, 64, .inl (fun _ => 0))), (q2, .inl (c2, 64, .inl (fun _ => 0)))] := hD
  have hK : va_K D vwCl [(c1, .int), (c2, .int)] s := hK
  refine W.widen (k := 2) (n := 128) (by omega) (by omega) ?_
  obtain rfl : c1 = c2 := gw_cidI hK 0 1 rfl rfl
  replace hP : va_P D vwCl [(h0, .inr (2, [.ref q1, .null, .int 0, .int 0])), (q1, .inl (c1, 64, .inl (fun _ => 0))), (q2, .inl (c1, 64, .inl (fun _ => 0)))] H := hP
  replace hD : va_D A [(h0, .inr (2, [.ref q1, .null, .int 0, .int 0])), (q1, .inl (c1, 64, .inl (fun _ => 0))), (q2, .inl (c1, 64, .inl (fun _ => 0)))] := hD
  have hK : va_K D vwCl [(c1, .int)] s := hK.sub [0] rfl
  refine va_putF (D := D) (ci := 2) (v := .ref q2) (ty := .array .int) (C := RX2) (T := TX2) (N := 4) hx hb hts inX2 tyX2 okX2 nmX2 hown hK hP hD hS 0 rfl rfl 1 (by decide) (hts _ mG_44) (fun _ h9 => h9) rfl hin rfl (by decide +kernel) rfl rfl (Nat.le_of_ble_eq_true rfl) dX2_init_17 (fun H locs hP hD hS => ?_)
  replace hP : va_P D vwCl [(h0, .inr (2, [.ref q1, .ref q2, .int 0, .int 0])), (q1, .inl (c1, 64, .inl (fun _ => 0))), (q2, .inl (c1, 64, .inl (fun _ => 0)))] H := hP
  replace hD : va_D A [(h0, .inr (2, [.ref q1, .ref q2, .int 0, .int 0])), (q1, .inl (c1, 64, .inl (fun _ => 0))), (q2, .inl (c1, 64, .inl (fun _ => 0)))] := hD
  exact W.vret hx hb hr (fun t ht hW => ⟨⟨(q1, q2, c1), rfl, trivial, by rw [ht]; exact hP, va_K.moved hW.alike hK, hD⟩, hS.F ht⟩) hS.2.2 dX2_init_20
set_option maxHeartbeats 4000000 in
set_option maxRecDepth 100000 in
theorem c_Model_init (D : va_G) (h0 sz : Nat) : Met l yX4_init wsX4_init ({ frames := 1, cells := 17, slots := 11008, locals := 12 }) (va_Pc [.ref h0] (fun U => U.heap.size = sz ∧ va_P D vwCl [(h0, .inr (4, [.int 0, .null, .null, .null, .null, .null, .null, .null, .null, .null, .null, .int 0, .int 0, .int 0, .null, .null, .int 0, .int 0, .null, .null, .null, .null, .int 0, .null]))] U.heap ∧ va_K D vwCl [] U)) (va_Qv (fun u : rf_X => u.1 = D ∧ u.2.1 0 = h0 ∧ gw_inj 18 u.2.1 ∧ ∀ k, 0 < k → k < 18 → sz ≤ u.2.1 k) (fun u t => va_P D vwCl (rf_ws u (fun _ _ => 0) (fun k => k)) t.heap ∧ va_K D vwCl (rf_ty u) t) (va_A [(h0, .inr (4, [.int 0, .null, .null, .null, .null, .null, .null, .null, .null, .null, .null, .int 0, .int 0, .int 0, .null, .null, .int 0, .int 0, .null, .null, .null, .null, .int 0, .null]))] sz)) 17 11008 (va_A [(h0, .inr (4, [.int 0, .null, .null, .null, .null, .null, .null, .null, .null, .null, .null, .int 0, .int 0, .int 0, .null, .null, .int 0, .int 0, .null, .null, .null, .null, .int 0, .null]))] sz) := by
  refine Met.ofW (cc := cX4_init) (maxL := 1) (ret := none) (by decide) rfl ?_
  intro p e s m args below meth c s₁ B hml hv
  obtain ⟨rfl, hsz, hP, hK⟩ := hv
  have hx := B.exec
  have hb := B.bytes
  have hr := B.returns
  have hts : ∀ w ∈ gG, w.before _ s = true := fun w h => atoms_spec (ws := wsX4_init) B.pre w (List.mem_cons_of_mem _ h)
  have hown : s.vm.findClass RX4 = some m.cls := findClass_of_methodNamed B.named
  have hlocks := B.notSynchronized
  have hin : meth.name = "<init>" := (name_of_methodNamed B.named B.method).1
  have hl := lv_entry ([.ref h0]) (n := 1) (Nat.le_of_ble_eq_true rfl)
  rw [lg_entry_eq]
  generalize (lg_sl ([.ref h0]) ++ List.replicate (1 - (lg_sl ([.ref h0])).length) Slot.unset).toArray = ls at hl ⊢
  have hl : lv_has ls 1 [(0, .ref h0)] := hl
  subst hsz
  have hD := gw_D1 (A := va_A [(h0, .inr (4, [.int 0, .null, .null, .null, .null, .null, .null, .null, .null, .null, .null, .int 0, .int 0, .int 0, .null, .null, .int 0, .int 0, .null, .null, .null, .null, .int 0, .null]))] s.heap.size) (a := h0) (e := .inr (4, [.int 0, .null, .null, .null, .null, .null, .null, .null, .null, .null, .null, .int 0, .int 0, .int 0, .null, .null, .int 0, .int 0, .null, .null, .null, .null, .int 0, .null])) (Or.inl ⟨0, _, rfl⟩)
  generalize hAe : va_A [(h0, .inr (4, [.int 0, .null, .null, .null, .null, .null, .null, .null, .null, .null, .null, .int 0, .int 0, .int 0, .null, .null, .int 0, .int 0, .null, .null, .null, .null, .int 0, .null]))] s.heap.size = A at hD ⊢
  have hA : ∀ q : Nat, s.heap.size ≤ q → A q := fun q h => by rw [← hAe]; exact Or.inr h
  have hS : va_S A s.heap s.heap [] := va_S.rf
  have hP : va_P D vwCl [(h0, .inr (4, [.int 0, .null, .null, .null, .null, .null, .null, .null, .null, .null, .null, .int 0, .int 0, .int 0, .null, .null, .int 0, .int 0, .null, .null, .null, .null, .int 0, .null]))] s.heap := hP
  refine lv_aload_n hx hb dX4_init_0 rfl (lv_at hl 0 rfl) ?_
  refine W.objInit hx hb hown (hts _ mG_214) (hts _ mG_34) (hts _ mG_35) rfl (by rw [hml]; exact hl.1) rfl dX4_init_1 (Nat.le_of_ble_eq_true rfl) (Nat.le_of_ble_eq_true rfl) ?_
  refine W.eq (g2 := F0 m 4 ls []) rfl ?_
  refine lv_aload_n hx hb dX4_init_4 rfl (lv_at hl 0 rfl) ?_
  refine lv_bipush (v := 32) hx hb dX4_init_5 (by decide) ?_
  refine va_newa (atype := .int) (ty := .int) (a0 := (32, .inl (fun _ => 0))) (N' := 32) hx hb (hts _ mG_47) rfl hK hP hD hS hA (fun _ => rfl) (by decide) (by decide) (by decide) (Nat.le_of_ble_eq_true rfl) (Nat.le_of_ble_eq_true rfl) dX4_init_7 (fun q1 c1 H hK hP hD hS => ?_)
  replace hP : va_P D vwCl [(h0, .inr (4, [.int 0, .null, .null, .null, .null, .null, .null, .null, .null, .null, .null, .int 0, .int 0, .int 0, .null, .null, .int 0, .int 0, .null, .null, .null, .null, .int 0, .null])), (q1, .inl (c1, 32, .inl (fun _ => 0)))] H := hP
  replace hD : va_D A [(h0, .inr (4, [.int 0, .null, .null, .null, .null, .null, .null, .null, .null, .null, .null, .int 0, .int 0, .int 0, .null, .null, .int 0, .int 0, .null, .null, .null, .null, .int 0, .null])), (q1, .inl (c1, 32, .inl (fun _ => 0)))] := hD
  have hK : va_K D vwCl [(c1, .int)] s := hK
  refine W.widen (k := 1) (n := 32) (by omega) (by omega) ?_
  refine va_putF (D := D) (ci := 4) (v := .ref q1) (ty := .array .int) (C := RX4) (T := TX4) (N := 24) hx hb hts inX4 tyX4 okX4 nmX4 hown hK hP hD hS 0 rfl rfl 1 (by decide) (hts _ mG_216) (fun _ h9 => h9) rfl hin rfl (by decide +kernel) rfl rfl (Nat.le_of_ble_eq_true rfl) dX4_init_9 (fun H locs hP hD hS => ?_)
  replace hP : va_P D vwCl [(h0, .inr (4, [.int 0, .ref q1, .null, .null, .null, .null, .null, .null, .null, .null, .null, .int 0, .int 0, .int 0, .null, .null, .int 0, .int 0, .null, .null, .null, .null, .int 0, .null])), (q1, .inl (c1, 32, .inl (fun _ => 0)))] H := hP
  replace hD : va_D A [(h0, .inr (4, [.int 0, .ref q1, .null, .null, .null, .null, .null, .null, .null, .null, .null, .int 0, .int 0, .int 0, .null, .null, .int 0, .int 0, .null, .null, .null, .null, .int 0, .null])), (q1, .inl (c1, 32, .inl (fun _ => 0)))] := hD
  refine lv_aload_n hx hb dX4_init_12 rfl (lv_at hl 0 rfl) ?_
  refine lv_sipush (v := 256) hx hb dX4_init_13 (by decide) ?_
  refine va_newa (atype := .boolean) (ty := .boolean) (a0 := (256, .inl (fun _ => 0))) (N' := 256) hx hb (hts _ mG_239) rfl hK hP hD hS hA (fun _ => rfl) (by decide) (by decide) (by decide) (Nat.le_of_ble_eq_true rfl) (Nat.le_of_ble_eq_true rfl) dX4_init_16 (fun q2 c2 H hK hP hD hS => ?_)
  replace hP : va_P D vwCl [(h0, .inr (4, [.int 0, .ref q1, .null, .null, .null, .null, .null, .null, .null, .null, .null, .int 0, .int 0, .int 0, .null, .null, .int 0, .int 0, .null, .null, .null, .null, .int 0, .null])), (q1, .inl (c1, 32, .inl (fun _ => 0))), (q2, .inl (c2, 256, .inl (fun _ => 0)))] H := hP
  replace hD : va_D A [(h0, .inr (4, [.int 0, .ref q1, .null, .null, .null, .null, .null, .null, .null, .null, .null, .int 0, .int 0, .int 0, .null, .null, .int 0, .int 0, .null, .null, .null, .null, .int 0, .null])), (q1, .inl (c1, 32, .inl (fun _ => 0))), (q2, .inl (c2, 256, .inl (fun _ => 0)))] := hD
  have hK : va_K D vwCl [(c1, .int), (c2, .boolean)] s := hK
  refine W.widen (k := 2) (n := 288) (by omega) (by omega) ?_
  refine va_putF (D := D) (ci := 4) (v := .ref q2) (ty := .array .boolean) (C := RX4) (T := TX4) (N := 24) hx hb hts inX4 tyX4 okX4 nmX4 hown hK hP hD hS 0 rfl rfl 2 (by decide) (hts _ mG_217) (fun _ h9 => h9) rfl hin rfl (by decide +kernel) rfl rfl (Nat.le_of_ble_eq_true rfl) dX4_init_18 (fun H locs hP hD hS => ?_)
  replace hP : va_P D vwCl [(h0, .inr (4, [.int 0, .ref q1, .ref q2, .null, .null, .null, .null, .null, .null, .null, .null, .int 0, .int 0, .int 0, .null, .null, .int 0, .int 0, .null, .null, .null, .null, .int 0, .null])), (q1, .inl (c1, 32, .inl (fun _ => 0))), (q2, .inl (c2, 256, .inl (fun _ => 0)))] H := hP
  replace hD : va_D A [(h0, .inr (4, [.int 0, .ref q1, .ref q2, .null, .null, .null, .null, .null, .null, .null, .null, .int 0, .int 0, .int 0, .null, .null, .int 0, .int 0, .null, .null, .null, .null, .int 0, .null])), (q1, .inl (c1, 32, .inl (fun _ => 0))), (q2, .inl (c2, 256, .inl (fun _ => 0)))] := hD
  refine lv_aload_n hx hb dX4_init_21 rfl (lv_at hl 0 rfl) ?_
  refine lv_sipush (v := 256) hx hb dX4_init_22 (by decide) ?_
  refine va_newa (atype := .boolean) (ty := .boolean) (a0 := (256, .inl (fun _ => 0))) (N' := 256) hx hb (hts _ mG_239) rfl hK hP hD hS hA (fun _ => rfl) (by decide) (by decide) (by decide) (Nat.le_of_ble_eq_true rfl) (Nat.le_of_ble_eq_true rfl) dX4_init_25 (fun q3 c3 H hK hP hD hS => ?_)
  replace hP : va_P D vwCl [(h0, .inr (4, [.int 0, .ref q1, .ref q2, .null, .null, .null, .null, .null, .null, .null, .null, .int 0, .int 0, .int 0, .null, .null, .int 0, .int 0, .null, .null, .null, .null, .int 0, .null])), (q1, .inl (c1, 32, .inl (fun _ => 0))), (q2, .inl (c2, 256, .inl (fun _ => 0))), (q3, .inl (c3, 256, .inl (fun _ => 0)))] H := hP
  replace hD : va_D A [(h0, .inr (4, [.int 0, .ref q1, .ref q2, .null, .null, .null, .null, .null, .null, .null, .null, .int 0, .int 0, .int 0, .null, .null, .int 0, .int 0, .null, .null, .null, .null, .int 0, .null])), (q1, .inl (c1, 32, .inl (fun _ => 0))), (q2, .inl (c2, 256, .inl (fun _ => 0))), (q3, .inl (c3, 256, .inl (fun _ => 0)))] := hD
  have hK : va_K D vwCl [(c1, .int), (c2, .boolean), (c3, .boolean)] s := hK
  refine W.widen (k := 3) (n := 544) (by omega) (by omega) ?_
  obtain rfl : c2 = c3 := gw_cidZ hK 1 2 rfl rfl
  replace hP : va_P D vwCl [(h0, .inr (4, [.int 0, .ref q1, .ref q2, .null, .null, .null, .null, .null, .null, .null, .null, .int 0, .int 0, .int 0, .null, .null, .int 0, .int 0, .null, .null, .null, .null, .int 0, .null])), (q1, .inl (c1, 32, .inl (fun _ => 0))), (q2, .inl (c2, 256, .inl (fun _ => 0))), (q3, .inl (c2, 256, .inl (fun _ => 0)))] H := hP
  replace hD : va_D A [(h0, .inr (4, [.int 0, .ref q1, .ref q2, .null, .null, .null, .null, .null, .null, .null, .null, .int 0, .int 0, .int 0, .null, .null, .int 0, .int 0, .null, .null, .null, .null, .int 0, .null])), (q1, .inl (c1, 32, .inl (fun _ => 0))), (q2, .inl (c2, 256, .inl (fun _ => 0))), (q3, .inl (c2, 256, .inl (fun _ => 0)))] := hD
  have hK : va_K D vwCl [(c1, .int), (c2, .boolean)] s := hK.sub [0, 1] rfl
  refine va_putF (D := D) (ci := 4) (v := .ref q3) (ty := .array .boolean) (C := RX4) (T := TX4) (N := 24) hx hb hts inX4 tyX4 okX4 nmX4 hown hK hP hD hS 0 rfl rfl 3 (by decide) (hts _ mG_218) (fun _ h9 => h9) rfl hin rfl (by decide +kernel) rfl rfl (Nat.le_of_ble_eq_true rfl) dX4_init_27 (fun H locs hP hD hS => ?_)
  replace hP : va_P D vwCl [(h0, .inr (4, [.int 0, .ref q1, .ref q2, .ref q3, .null, .null, .null, .null, .null, .null, .null, .int 0, .int 0, .int 0, .null, .null, .int 0, .int 0, .null, .null, .null, .null, .int 0, .null])), (q1, .inl (c1, 32, .inl (fun _ => 0))), (q2, .inl (c2, 256, .inl (fun _ => 0))), (q3, .inl (c2, 256, .inl (fun _ => 0)))] H := hP
  replace hD : va_D A [(h0, .inr (4, [.int 0, .ref q1, .ref q2, .ref q3, .null, .null, .null, .null, .null, .null, .null, .int 0, .int 0, .int 0, .null, .null, .int 0, .int 0, .null, .null, .null, .null, .int 0, .null])), (q1, .inl (c1, 32, .inl (fun _ => 0))), (q2, .inl (c2, 256, .inl (fun _ => 0))), (q3, .inl (c2, 256, .inl (fun _ => 0)))] := hD
  refine lv_aload_n hx hb dX4_init_30 rfl (lv_at hl 0 rfl) ?_
  refine lv_sipush (v := 256) hx hb dX4_init_31 (by decide) ?_
  refine va_newa (atype := .boolean) (ty := .boolean) (a0 := (256, .inl (fun _ => 0))) (N' := 256) hx hb (hts _ mG_239) rfl hK hP hD hS hA (fun _ => rfl) (by decide) (by decide) (by decide) (Nat.le_of_ble_eq_true rfl) (Nat.le_of_ble_eq_true rfl) dX4_init_34 (fun q4 c4 H hK hP hD hS => ?_)
  replace hP : va_P D vwCl [(h0, .inr (4, [.int 0, .ref q1, .ref q2, .ref q3, .null, .null, .null, .null, .null, .null, .null, .int 0, .int 0, .int 0, .null, .null, .int 0, .int 0, .null, .null, .null, .null, .int 0, .null])), (q1, .inl (c1, 32, .inl (fun _ => 0))), (q2, .inl (c2, 256, .inl (fun _ => 0))), (q3, .inl (c2, 256, .inl (fun _ => 0))), (q4, .inl (c4, 256, .inl (fun _ => 0)))] H := hP
  replace hD : va_D A [(h0, .inr (4, [.int 0, .ref q1, .ref q2, .ref q3, .null, .null, .null, .null, .null, .null, .null, .int 0, .int 0, .int 0, .null, .null, .int 0, .int 0, .null, .null, .null, .null, .int 0, .null])), (q1, .inl (c1, 32, .inl (fun _ => 0))), (q2, .inl (c2, 256, .inl (fun _ => 0))), (q3, .inl (c2, 256, .inl (fun _ => 0))), (q4, .inl (c4, 256, .inl (fun _ => 0)))] := hD
  have hK : va_K D vwCl [(c1, .int), (c2, .boolean), (c4, .boolean)] s := hK
  refine W.widen (k := 4) (n := 800) (by omega) (by omega) ?_
  obtain rfl : c2 = c4 := gw_cidZ hK 1 2 rfl rfl
  replace hP : va_P D vwCl [(h0, .inr (4, [.int 0, .ref q1, .ref q2, .ref q3, .null, .null, .null, .null, .null, .null, .null, .int 0, .int 0, .int 0, .null, .null, .int 0, .int 0, .null, .null, .null, .null, .int 0, .null])), (q1, .inl (c1, 32, .inl (fun _ => 0))), (q2, .inl (c2, 256, .inl (fun _ => 0))), (q3, .inl (c2, 256, .inl (fun _ => 0))), (q4, .inl (c2, 256, .inl (fun _ => 0)))] H := hP
  replace hD : va_D A [(h0, .inr (4, [.int 0, .ref q1, .ref q2, .ref q3, .null, .null, .null, .null, .null, .null, .null, .int 0, .int 0, .int 0, .null, .null, .int 0, .int 0, .null, .null, .null, .null, .int 0, .null])), (q1, .inl (c1, 32, .inl (fun _ => 0))), (q2, .inl (c2, 256, .inl (fun _ => 0))), (q3, .inl (c2, 256, .inl (fun _ => 0))), (q4, .inl (c2, 256, .inl (fun _ => 0)))] := hD
  have hK : va_K D vwCl [(c1, .int), (c2, .boolean)] s := hK.sub [0, 1] rfl
  refine va_putF (D := D) (ci := 4) (v := .ref q4) (ty := .array .boolean) (C := RX4) (T := TX4) (N := 24) hx hb hts inX4 tyX4 okX4 nmX4 hown hK hP hD hS 0 rfl rfl 4 (by decide) (hts _ mG_219) (fun _ h9 => h9) rfl hin rfl (by decide +kernel) rfl rfl (Nat.le_of_ble_eq_true rfl) dX4_init_36 (fun H locs hP hD hS => ?_)
  replace hP : va_P D vwCl [(h0, .inr (4, [.int 0, .ref q1, .ref q2, .ref q3, .ref q4, .null, .null, .null, .null, .null, .null, .int 0, .int 0, .int 0, .null, .null, .int 0, .int 0, .null, .null, .null, .null, .int 0, .null])), (q1, .inl (c1, 32, .inl (fun _ => 0))), (q2, .inl (c2, 256, .inl (fun _ => 0))), (q3, .inl (c2, 256, .inl (fun _ => 0))), (q4, .inl (c2, 256, .inl (fun _ => 0)))] H := hP
  replace hD : va_D A [(h0, .inr (4, [.int 0, .ref q1, .ref q2, .ref q3, .ref q4, .null, .null, .null, .null, .null, .null, .int 0, .int 0, .int 0, .null, .null, .int 0, .int 0, .null, .null, .null, .null, .int 0, .null])), (q1, .inl (c1, 32, .inl (fun _ => 0))), (q2, .inl (c2, 256, .inl (fun _ => 0))), (q3, .inl (c2, 256, .inl (fun _ => 0))), (q4, .inl (c2, 256, .inl (fun _ => 0)))] := hD
  refine lv_aload_n hx hb dX4_init_39 rfl (lv_at hl 0 rfl) ?_
  refine lv_sipush (v := 256) hx hb dX4_init_40 (by decide) ?_
  refine va_newa (atype := .int) (ty := .int) (a0 := (256, .inl (fun _ => 0))) (N' := 256) hx hb (hts _ mG_47) rfl hK hP hD hS hA (fun _ => rfl) (by decide) (by decide) (by decide) (Nat.le_of_ble_eq_true rfl) (Nat.le_of_ble_eq_true rfl) dX4_init_43 (fun q5 c5 H hK hP hD hS => ?_)
  replace hP : va_P D vwCl [(h0, .inr (4, [.int 0, .ref q1, .ref q2, .ref q3, .ref q4, .null, .null, .null, .null, .null, .null, .int 0, .int 0, .int 0, .null, .null, .int 0, .int 0, .null, .null, .null, .null, .int 0, .null])), (q1, .inl (c1, 32, .inl (fun _ => 0))), (q2, .inl (c2, 256, .inl (fun _ => 0))), (q3, .inl (c2, 256, .inl (fun _ => 0))), (q4, .inl (c2, 256, .inl (fun _ => 0))), (q5, .inl (c5, 256, .inl (fun _ => 0)))] H := hP
  replace hD : va_D A [(h0, .inr (4, [.int 0, .ref q1, .ref q2, .ref q3, .ref q4, .null, .null, .null, .null, .null, .null, .int 0, .int 0, .int 0, .null, .null, .int 0, .int 0, .null, .null, .null, .null, .int 0, .null])), (q1, .inl (c1, 32, .inl (fun _ => 0))), (q2, .inl (c2, 256, .inl (fun _ => 0))), (q3, .inl (c2, 256, .inl (fun _ => 0))), (q4, .inl (c2, 256, .inl (fun _ => 0))), (q5, .inl (c5, 256, .inl (fun _ => 0)))] := hD
  have hK : va_K D vwCl [(c1, .int), (c2, .boolean), (c5, .int)] s := hK
  refine W.widen (k := 5) (n := 1056) (by omega) (by omega) ?_
  obtain rfl : c1 = c5 := gw_cidI hK 0 2 rfl rfl
  replace hP : va_P D vwCl [(h0, .inr (4, [.int 0, .ref q1, .ref q2, .ref q3, .ref q4, .null, .null, .null, .null, .null, .null, .int 0, .int 0, .int 0, .null, .null, .int 0, .int 0, .null, .null, .null, .null, .int 0, .null])), (q1, .inl (c1, 32, .inl (fun _ => 0))), (q2, .inl (c2, 256, .inl (fun _ => 0))), (q3, .inl (c2, 256, .inl (fun _ => 0))), (q4, .inl (c2, 256, .inl (fun _ => 0))), (q5, .inl (c1, 256, .inl (fun _ => 0)))] H := hP
  replace hD : va_D A [(h0, .inr (4, [.int 0, .ref q1, .ref q2, .ref q3, .ref q4, .null, .null, .null, .null, .null, .null, .int 0, .int 0, .int 0, .null, .null, .int 0, .int 0, .null, .null, .null, .null, .int 0, .null])), (q1, .inl (c1, 32, .inl (fun _ => 0))), (q2, .inl (c2, 256, .inl (fun _ => 0))), (q3, .inl (c2, 256, .inl (fun _ => 0))), (q4, .inl (c2, 256, .inl (fun _ => 0))), (q5, .inl (c1, 256, .inl (fun _ => 0)))] := hD
  have hK : va_K D vwCl [(c1, .int), (c2, .boolean)] s := hK.sub [0, 1] rfl
  refine va_putF (D := D) (ci := 4) (v := .ref q5) (ty := .array .int) (C := RX4) (T := TX4) (N := 24) hx hb hts inX4 tyX4 okX4 nmX4 hown hK hP hD hS 0 rfl rfl 5 (by decide) (hts _ mG_220) (fun _ h9 => h9) rfl hin rfl (by decide +kernel) rfl rfl (Nat.le_of_ble_eq_true rfl) dX4_init_45 (fun H locs hP hD hS => ?_)
  replace hP : va_P D vwCl [(h0, .inr (4, [.int 0, .ref q1, .ref q2, .ref q3, .ref q4, .ref q5, .null, .null, .null, .null, .null, .int 0, .int 0, .int 0, .null, .null, .int 0, .int 0, .null, .null, .null, .null, .int 0, .null])), (q1, .inl (c1, 32, .inl (fun _ => 0))), (q2, .inl (c2, 256, .inl (fun _ => 0))), (q3, .inl (c2, 256, .inl (fun _ => 0))), (q4, .inl (c2, 256, .inl (fun _ => 0))), (q5, .inl (c1, 256, .inl (fun _ => 0)))] H := hP
  replace hD : va_D A [(h0, .inr (4, [.int 0, .ref q1, .ref q2, .ref q3, .ref q4, .ref q5, .null, .null, .null, .null, .null, .int 0, .int 0, .int 0, .null, .null, .int 0, .int 0, .null, .null, .null, .null, .int 0, .null])), (q1, .inl (c1, 32, .inl (fun _ => 0))), (q2, .inl (c2, 256, .inl (fun _ => 0))), (q3, .inl (c2, 256, .inl (fun _ => 0))), (q4, .inl (c2, 256, .inl (fun _ => 0))), (q5, .inl (c1, 256, .inl (fun _ => 0)))] := hD
  refine lv_aload_n hx hb dX4_init_48 rfl (lv_at hl 0 rfl) ?_
  refine lv_sipush (v := 256) hx hb dX4_init_49 (by decide) ?_
  refine va_newa (atype := .int) (ty := .int) (a0 := (256, .inl (fun _ => 0))) (N' := 256) hx hb (hts _ mG_47) rfl hK hP hD hS hA (fun _ => rfl) (by decide) (by decide) (by decide) (Nat.le_of_ble_eq_true rfl) (Nat.le_of_ble_eq_true rfl) dX4_init_52 (fun q6 c6 H hK hP hD hS => ?_)
  replace hP : va_P D vwCl [(h0, .inr (4, [.int 0, .ref q1, .ref q2, .ref q3, .ref q4, .ref q5, .null, .null, .null, .null, .null, .int 0, .int 0, .int 0, .null, .null, .int 0, .int 0, .null, .null, .null, .null, .int 0, .null])), (q1, .inl (c1, 32, .inl (fun _ => 0))), (q2, .inl (c2, 256, .inl (fun _ => 0))), (q3, .inl (c2, 256, .inl (fun _ => 0))), (q4, .inl (c2, 256, .inl (fun _ => 0))), (q5, .inl (c1, 256, .inl (fun _ => 0))), (q6, .inl (c6, 256, .inl (fun _ => 0)))] H := hP
  replace hD : va_D A [(h0, .inr (4, [.int 0, .ref q1, .ref q2, .ref q3, .ref q4, .ref q5, .null, .null, .null, .null, .null, .int 0, .int 0, .int 0, .null, .null, .int 0, .int 0, .null, .null, .null, .null, .int 0, .null])), (q1, .inl (c1, 32, .inl (fun _ => 0))), (q2, .inl (c2, 256, .inl (fun _ => 0))), (q3, .inl (c2, 256, .inl (fun _ => 0))), (q4, .inl (c2, 256, .inl (fun _ => 0))), (q5, .inl (c1, 256, .inl (fun _ => 0))), (q6, .inl (c6, 256, .inl (fun _ => 0)))] := hD
  have hK : va_K D vwCl [(c1, .int), (c2, .boolean), (c6, .int)] s := hK
  refine W.widen (k := 6) (n := 1312) (by omega) (by omega) ?_
  obtain rfl : c1 = c6 := gw_cidI hK 0 2 rfl rfl
  replace hP : va_P D vwCl [(h0, .inr (4, [.int 0, .ref q1, .ref q2, .ref q3, .ref q4, .ref q5, .null, .null, .null, .null, .null, .int 0, .int 0, .int 0, .null, .null, .int 0, .int 0, .null, .null, .null, .null, .int 0, .null])), (q1, .inl (c1, 32, .inl (fun _ => 0))), (q2, .inl (c2, 256, .inl (fun _ => 0))), (q3, .inl (c2, 256, .inl (fun _ => 0))), (q4, .inl (c2, 256, .inl (fun _ => 0))), (q5, .inl (c1, 256, .inl (fun _ => 0))), (q6, .inl (c1, 256, .inl (fun _ => 0)))] H := hP
  replace hD : va_D A [(h0, .inr (4, [.int 0, .ref q1, .ref q2, .ref q3, .ref q4, .ref q5, .null, .null, .null, .null, .null, .int 0, .int 0, .int 0, .null, .null, .int 0, .int 0, .null, .null, .null, .null, .int 0, .null])), (q1, .inl (c1, 32, .inl (fun _ => 0))), (q2, .inl (c2, 256, .inl (fun _ => 0))), (q3, .inl (c2, 256, .inl (fun _ => 0))), (q4, .inl (c2, 256, .inl (fun _ => 0))), (q5, .inl (c1, 256, .inl (fun _ => 0))), (q6, .inl (c1, 256, .inl (fun _ => 0)))] := hD
  have hK : va_K D vwCl [(c1, .int), (c2, .boolean)] s := hK.sub [0, 1] rfl
  refine va_putF (D := D) (ci := 4) (v := .ref q6) (ty := .array .int) (C := RX4) (T := TX4) (N := 24) hx hb hts inX4 tyX4 okX4 nmX4 hown hK hP hD hS 0 rfl rfl 6 (by decide) (hts _ mG_221) (fun _ h9 => h9) rfl hin rfl (by decide +kernel) rfl rfl (Nat.le_of_ble_eq_true rfl) dX4_init_54 (fun H locs hP hD hS => ?_)
  replace hP : va_P D vwCl [(h0, .inr (4, [.int 0, .ref q1, .ref q2, .ref q3, .ref q4, .ref q5, .ref q6, .null, .null, .null, .null, .int 0, .int 0, .int 0, .null, .null, .int 0, .int 0, .null, .null, .null, .null, .int 0, .null])), (q1, .inl (c1, 32, .inl (fun _ => 0))), (q2, .inl (c2, 256, .inl (fun _ => 0))), (q3, .inl (c2, 256, .inl (fun _ => 0))), (q4, .inl (c2, 256, .inl (fun _ => 0))), (q5, .inl (c1, 256, .inl (fun _ => 0))), (q6, .inl (c1, 256, .inl (fun _ => 0)))] H := hP
  replace hD : va_D A [(h0, .inr (4, [.int 0, .ref q1, .ref q2, .ref q3, .ref q4, .ref q5, .ref q6, .null, .null, .null, .null, .int 0, .int 0, .int 0, .null, .null, .int 0, .int 0, .null, .null, .null, .null, .int 0, .null])), (q1, .inl (c1, 32, .inl (fun _ => 0))), (q2, .inl (c2, 256, .inl (fun _ => 0))), (q3, .inl (c2, 256, .inl (fun _ => 0))), (q4, .inl (c2, 256, .inl (fun _ => 0))), (q5, .inl (c1, 256, .inl (fun _ => 0))), (q6, .inl (c1, 256, .inl (fun _ => 0)))] := hD
  refine lv_aload_n hx hb dX4_init_57 rfl (lv_at hl 0 rfl) ?_
  refine lv_sipush (v := 256) hx hb dX4_init_58 (by decide) ?_
  refine va_newa (atype := .int) (ty := .int) (a0 := (256, .inl (fun _ => 0))) (N' := 256) hx hb (hts _ mG_47) rfl hK hP hD hS hA (fun _ => rfl) (by decide) (by decide) (by decide) (Nat.le_of_ble_eq_true rfl) (Nat.le_of_ble_eq_true rfl) dX4_init_61 (fun q7 c7 H hK hP hD hS => ?_)
  replace hP : va_P D vwCl [(h0, .inr (4, [.int 0, .ref q1, .ref q2, .ref q3, .ref q4, .ref q5, .ref q6, .null, .null, .null, .null, .int 0, .int 0, .int 0, .null, .null, .int 0, .int 0, .null, .null, .null, .null, .int 0, .null])), (q1, .inl (c1, 32, .inl (fun _ => 0))), (q2, .inl (c2, 256, .inl (fun _ => 0))), (q3, .inl (c2, 256, .inl (fun _ => 0))), (q4, .inl (c2, 256, .inl (fun _ => 0))), (q5, .inl (c1, 256, .inl (fun _ => 0))), (q6, .inl (c1, 256, .inl (fun _ => 0))), (q7, .inl (c7, 256, .inl (fun _ => 0)))] H := hP
  replace hD : va_D A [(h0, .inr (4, [.int 0, .ref q1, .ref q2, .ref q3, .ref q4, .ref q5, .ref q6, .null, .null, .null, .null, .int 0, .int 0, .int 0, .null, .null, .int 0, .int 0, .null, .null, .null, .null, .int 0, .null])), (q1, .inl (c1, 32, .inl (fun _ => 0))), (q2, .inl (c2, 256, .inl (fun _ => 0))), (q3, .inl (c2, 256, .inl (fun _ => 0))), (q4, .inl (c2, 256, .inl (fun _ => 0))), (q5, .inl (c1, 256, .inl (fun _ => 0))), (q6, .inl (c1, 256, .inl (fun _ => 0))), (q7, .inl (c7, 256, .inl (fun _ => 0)))] := hD
  have hK : va_K D vwCl [(c1, .int), (c2, .boolean), (c7, .int)] s := hK
  refine W.widen (k := 7) (n := 1568) (by omega) (by omega) ?_
  obtain rfl : c1 = c7 := gw_cidI hK 0 2 rfl rfl
  replace hP : va_P D vwCl [(h0, .inr (4, [.int 0, .ref q1, .ref q2, .ref q3, .ref q4, .ref q5, .ref q6, .null, .null, .null, .null, .int 0, .int 0, .int 0, .null, .null, .int 0, .int 0, .null, .null, .null, .null, .int 0, .null])), (q1, .inl (c1, 32, .inl (fun _ => 0))), (q2, .inl (c2, 256, .inl (fun _ => 0))), (q3, .inl (c2, 256, .inl (fun _ => 0))), (q4, .inl (c2, 256, .inl (fun _ => 0))), (q5, .inl (c1, 256, .inl (fun _ => 0))), (q6, .inl (c1, 256, .inl (fun _ => 0))), (q7, .inl (c1, 256, .inl (fun _ => 0)))] H := hP
  replace hD : va_D A [(h0, .inr (4, [.int 0, .ref q1, .ref q2, .ref q3, .ref q4, .ref q5, .ref q6, .null, .null, .null, .null, .int 0, .int 0, .int 0, .null, .null, .int 0, .int 0, .null, .null, .null, .null, .int 0, .null])), (q1, .inl (c1, 32, .inl (fun _ => 0))), (q2, .inl (c2, 256, .inl (fun _ => 0))), (q3, .inl (c2, 256, .inl (fun _ => 0))), (q4, .inl (c2, 256, .inl (fun _ => 0))), (q5, .inl (c1, 256, .inl (fun _ => 0))), (q6, .inl (c1, 256, .inl (fun _ => 0))), (q7, .inl (c1, 256, .inl (fun _ => 0)))] := hD
  have hK : va_K D vwCl [(c1, .int), (c2, .boolean)] s := hK.sub [0, 1] rfl
  refine va_putF (D := D) (ci := 4) (v := .ref q7) (ty := .array .int) (C := RX4) (T := TX4) (N := 24) hx hb hts inX4 tyX4 okX4 nmX4 hown hK hP hD hS 0 rfl rfl 7 (by decide) (hts _ mG_222) (fun _ h9 => h9) rfl hin rfl (by decide +kernel) rfl rfl (Nat.le_of_ble_eq_true rfl) dX4_init_63 (fun H locs hP hD hS => ?_)
  replace hP : va_P D vwCl [(h0, .inr (4, [.int 0, .ref q1, .ref q2, .ref q3, .ref q4, .ref q5, .ref q6, .ref q7, .null, .null, .null, .int 0, .int 0, .int 0, .null, .null, .int 0, .int 0, .null, .null, .null, .null, .int 0, .null])), (q1, .inl (c1, 32, .inl (fun _ => 0))), (q2, .inl (c2, 256, .inl (fun _ => 0))), (q3, .inl (c2, 256, .inl (fun _ => 0))), (q4, .inl (c2, 256, .inl (fun _ => 0))), (q5, .inl (c1, 256, .inl (fun _ => 0))), (q6, .inl (c1, 256, .inl (fun _ => 0))), (q7, .inl (c1, 256, .inl (fun _ => 0)))] H := hP
  replace hD : va_D A [(h0, .inr (4, [.int 0, .ref q1, .ref q2, .ref q3, .ref q4, .ref q5, .ref q6, .ref q7, .null, .null, .null, .int 0, .int 0, .int 0, .null, .null, .int 0, .int 0, .null, .null, .null, .null, .int 0, .null])), (q1, .inl (c1, 32, .inl (fun _ => 0))), (q2, .inl (c2, 256, .inl (fun _ => 0))), (q3, .inl (c2, 256, .inl (fun _ => 0))), (q4, .inl (c2, 256, .inl (fun _ => 0))), (q5, .inl (c1, 256, .inl (fun _ => 0))), (q6, .inl (c1, 256, .inl (fun _ => 0))), (q7, .inl (c1, 256, .inl (fun _ => 0)))] := hD
  refine lv_aload_n hx hb dX4_init_66 rfl (lv_at hl 0 rfl) ?_
  refine lv_sipush (v := 256) hx hb dX4_init_67 (by decide) ?_
  refine va_newa (atype := .int) (ty := .int) (a0 := (256, .inl (fun _ => 0))) (N' := 256) hx hb (hts _ mG_47) rfl hK hP hD hS hA (fun _ => rfl) (by decide) (by decide) (by decide) (Nat.le_of_ble_eq_true rfl) (Nat.le_of_ble_eq_true rfl) dX4_init_70 (fun q8 c8 H hK hP hD hS => ?_)
  replace hP : va_P D vwCl [(h0, .inr (4, [.int 0, .ref q1, .ref q2, .ref q3, .ref q4, .ref q5, .ref q6, .ref q7, .null, .null, .null, .int 0, .int 0, .int 0, .null, .null, .int 0, .int 0, .null, .null, .null, .null, .int 0, .null])), (q1, .inl (c1, 32, .inl (fun _ => 0))), (q2, .inl (c2, 256, .inl (fun _ => 0))), (q3, .inl (c2, 256, .inl (fun _ => 0))), (q4, .inl (c2, 256, .inl (fun _ => 0))), (q5, .inl (c1, 256, .inl (fun _ => 0))), (q6, .inl (c1, 256, .inl (fun _ => 0))), (q7, .inl (c1, 256, .inl (fun _ => 0))), (q8, .inl (c8, 256, .inl (fun _ => 0)))] H := hP
  replace hD : va_D A [(h0, .inr (4, [.int 0, .ref q1, .ref q2, .ref q3, .ref q4, .ref q5, .ref q6, .ref q7, .null, .null, .null, .int 0, .int 0, .int 0, .null, .null, .int 0, .int 0, .null, .null, .null, .null, .int 0, .null])), (q1, .inl (c1, 32, .inl (fun _ => 0))), (q2, .inl (c2, 256, .inl (fun _ => 0))), (q3, .inl (c2, 256, .inl (fun _ => 0))), (q4, .inl (c2, 256, .inl (fun _ => 0))), (q5, .inl (c1, 256, .inl (fun _ => 0))), (q6, .inl (c1, 256, .inl (fun _ => 0))), (q7, .inl (c1, 256, .inl (fun _ => 0))), (q8, .inl (c8, 256, .inl (fun _ => 0)))] := hD
  have hK : va_K D vwCl [(c1, .int), (c2, .boolean), (c8, .int)] s := hK
  refine W.widen (k := 8) (n := 1824) (by omega) (by omega) ?_
  obtain rfl : c1 = c8 := gw_cidI hK 0 2 rfl rfl
  replace hP : va_P D vwCl [(h0, .inr (4, [.int 0, .ref q1, .ref q2, .ref q3, .ref q4, .ref q5, .ref q6, .ref q7, .null, .null, .null, .int 0, .int 0, .int 0, .null, .null, .int 0, .int 0, .null, .null, .null, .null, .int 0, .null])), (q1, .inl (c1, 32, .inl (fun _ => 0))), (q2, .inl (c2, 256, .inl (fun _ => 0))), (q3, .inl (c2, 256, .inl (fun _ => 0))), (q4, .inl (c2, 256, .inl (fun _ => 0))), (q5, .inl (c1, 256, .inl (fun _ => 0))), (q6, .inl (c1, 256, .inl (fun _ => 0))), (q7, .inl (c1, 256, .inl (fun _ => 0))), (q8, .inl (c1, 256, .inl (fun _ => 0)))] H := hP
  replace hD : va_D A [(h0, .inr (4, [.int 0, .ref q1, .ref q2, .ref q3, .ref q4, .ref q5, .ref q6, .ref q7, .null, .null, .null, .int 0, .int 0, .int 0, .null, .null, .int 0, .int 0, .null, .null, .null, .null, .int 0, .null])), (q1, .inl (c1, 32, .inl (fun _ => 0))), (q2, .inl (c2, 256, .inl (fun _ => 0))), (q3, .inl (c2, 256, .inl (fun _ => 0))), (q4, .inl (c2, 256, .inl (fun _ => 0))), (q5, .inl (c1, 256, .inl (fun _ => 0))), (q6, .inl (c1, 256, .inl (fun _ => 0))), (q7, .inl (c1, 256, .inl (fun _ => 0))), (q8, .inl (c1, 256, .inl (fun _ => 0)))] := hD
  have hK : va_K D vwCl [(c1, .int), (c2, .boolean)] s := hK.sub [0, 1] rfl
  refine va_putF (D := D) (ci := 4) (v := .ref q8) (ty := .array .int) (C := RX4) (T := TX4) (N := 24) hx hb hts inX4 tyX4 okX4 nmX4 hown hK hP hD hS 0 rfl rfl 8 (by decide) (hts _ mG_223) (fun _ h9 => h9) rfl hin rfl (by decide +kernel) rfl rfl (Nat.le_of_ble_eq_true rfl) dX4_init_72 (fun H locs hP hD hS => ?_)
  replace hP : va_P D vwCl [(h0, .inr (4, [.int 0, .ref q1, .ref q2, .ref q3, .ref q4, .ref q5, .ref q6, .ref q7, .ref q8, .null, .null, .int 0, .int 0, .int 0, .null, .null, .int 0, .int 0, .null, .null, .null, .null, .int 0, .null])), (q1, .inl (c1, 32, .inl (fun _ => 0))), (q2, .inl (c2, 256, .inl (fun _ => 0))), (q3, .inl (c2, 256, .inl (fun _ => 0))), (q4, .inl (c2, 256, .inl (fun _ => 0))), (q5, .inl (c1, 256, .inl (fun _ => 0))), (q6, .inl (c1, 256, .inl (fun _ => 0))), (q7, .inl (c1, 256, .inl (fun _ => 0))), (q8, .inl (c1, 256, .inl (fun _ => 0)))] H := hP
  replace hD : va_D A [(h0, .inr (4, [.int 0, .ref q1, .ref q2, .ref q3, .ref q4, .ref q5, .ref q6, .ref q7, .ref q8, .null, .null, .int 0, .int 0, .int 0, .null, .null, .int 0, .int 0, .null, .null, .null, .null, .int 0, .null])), (q1, .inl (c1, 32, .inl (fun _ => 0))), (q2, .inl (c2, 256, .inl (fun _ => 0))), (q3, .inl (c2, 256, .inl (fun _ => 0))), (q4, .inl (c2, 256, .inl (fun _ => 0))), (q5, .inl (c1, 256, .inl (fun _ => 0))), (q6, .inl (c1, 256, .inl (fun _ => 0))), (q7, .inl (c1, 256, .inl (fun _ => 0))), (q8, .inl (c1, 256, .inl (fun _ => 0)))] := hD
  refine lv_aload_n hx hb dX4_init_75 rfl (lv_at hl 0 rfl) ?_
  refine lv_sipush (v := 256) hx hb dX4_init_76 (by decide) ?_
  refine va_newa (atype := .int) (ty := .int) (a0 := (256, .inl (fun _ => 0))) (N' := 256) hx hb (hts _ mG_47) rfl hK hP hD hS hA (fun _ => rfl) (by decide) (by decide) (by decide) (Nat.le_of_ble_eq_true rfl) (Nat.le_of_ble_eq_true rfl) dX4_init_79 (fun q9 c9 H hK hP hD hS => ?_)
  replace hP : va_P D vwCl [(h0, .inr (4, [.int 0, .ref q1, .ref q2, .ref q3, .ref q4, .ref q5, .ref q6, .ref q7, .ref q8, .null, .null, .int 0, .int 0, .int 0, .null, .null, .int 0, .int 0, .null, .null, .null, .null, .int 0, .null])), (q1, .inl (c1, 32, .inl (fun _ => 0))), (q2, .inl (c2, 256, .inl (fun _ => 0))), (q3, .inl (c2, 256, .inl (fun _ => 0))), (q4, .inl (c2, 256, .inl (fun _ => 0))), (q5, .inl (c1, 256, .inl (fun _ => 0))), (q6, .inl (c1, 256, .inl (fun _ => 0))), (q7, .inl (c1, 256, .inl (fun _ => 0))), (q8, .inl (c1, 256, .inl (fun _ => 0))), (q9, .inl (c9, 256, .inl (fun _ => 0)))] H := hP
  replace hD : va_D A [(h0, .inr (4, [.int 0, .ref q1, .ref q2, .ref q3, .ref q4, .ref q5, .ref q6, .ref q7, .ref q8, .null, .null, .int 0, .int 0, .int 0, .null, .null, .int 0, .int 0, .null, .null, .null, .null, .int 0, .null])), (q1, .inl (c1, 32, .inl (fun _ => 0))), (q2, .inl (c2, 256, .inl (fun _ => 0))), (q3, .inl (c2, 256, .inl (fun _ => 0))), (q4, .inl (c2, 256, .inl (fun _ => 0))), (q5, .inl (c1, 256, .inl (fun _ => 0))), (q6, .inl (c1, 256, .inl (fun _ => 0))), (q7, .inl (c1, 256, .inl (fun _ => 0))), (q8, .inl (c1, 256, .inl (fun _ => 0))), (q9, .inl (c9, 256, .inl (fun _ => 0)))] := hD
  have hK : va_K D vwCl [(c1, .int), (c2, .boolean), (c9, .int)] s := hK
  refine W.widen (k := 9) (n := 2080) (by omega) (by omega) ?_
  obtain rfl : c1 = c9 := gw_cidI hK 0 2 rfl rfl
  replace hP : va_P D vwCl [(h0, .inr (4, [.int 0, .ref q1, .ref q2, .ref q3, .ref q4, .ref q5, .ref q6, .ref q7, .ref q8, .null, .null, .int 0, .int 0, .int 0, .null, .null, .int 0, .int 0, .null, .null, .null, .null, .int 0, .null])), (q1, .inl (c1, 32, .inl (fun _ => 0))), (q2, .inl (c2, 256, .inl (fun _ => 0))), (q3, .inl (c2, 256, .inl (fun _ => 0))), (q4, .inl (c2, 256, .inl (fun _ => 0))), (q5, .inl (c1, 256, .inl (fun _ => 0))), (q6, .inl (c1, 256, .inl (fun _ => 0))), (q7, .inl (c1, 256, .inl (fun _ => 0))), (q8, .inl (c1, 256, .inl (fun _ => 0))), (q9, .inl (c1, 256, .inl (fun _ => 0)))] H := hP
  replace hD : va_D A [(h0, .inr (4, [.int 0, .ref q1, .ref q2, .ref q3, .ref q4, .ref q5, .ref q6, .ref q7, .ref q8, .null, .null, .int 0, .int 0, .int 0, .null, .null, .int 0, .int 0, .null, .null, .null, .null, .int 0, .null])), (q1, .inl (c1, 32, .inl (fun _ => 0))), (q2, .inl (c2, 256, .inl (fun _ => 0))), (q3, .inl (c2, 256, .inl (fun _ => 0))), (q4, .inl (c2, 256, .inl (fun _ => 0))), (q5, .inl (c1, 256, .inl (fun _ => 0))), (q6, .inl (c1, 256, .inl (fun _ => 0))), (q7, .inl (c1, 256, .inl (fun _ => 0))), (q8, .inl (c1, 256, .inl (fun _ => 0))), (q9, .inl (c1, 256, .inl (fun _ => 0)))] := hD
  have hK : va_K D vwCl [(c1, .int), (c2, .boolean)] s := hK.sub [0, 1] rfl
  refine va_putF (D := D) (ci := 4) (v := .ref q9) (ty := .array .int) (C := RX4) (T := TX4) (N := 24) hx hb hts inX4 tyX4 okX4 nmX4 hown hK hP hD hS 0 rfl rfl 9 (by decide) (hts _ mG_224) (fun _ h9 => h9) rfl hin rfl (by decide +kernel) rfl rfl (Nat.le_of_ble_eq_true rfl) dX4_init_81 (fun H locs hP hD hS => ?_)
  replace hP : va_P D vwCl [(h0, .inr (4, [.int 0, .ref q1, .ref q2, .ref q3, .ref q4, .ref q5, .ref q6, .ref q7, .ref q8, .ref q9, .null, .int 0, .int 0, .int 0, .null, .null, .int 0, .int 0, .null, .null, .null, .null, .int 0, .null])), (q1, .inl (c1, 32, .inl (fun _ => 0))), (q2, .inl (c2, 256, .inl (fun _ => 0))), (q3, .inl (c2, 256, .inl (fun _ => 0))), (q4, .inl (c2, 256, .inl (fun _ => 0))), (q5, .inl (c1, 256, .inl (fun _ => 0))), (q6, .inl (c1, 256, .inl (fun _ => 0))), (q7, .inl (c1, 256, .inl (fun _ => 0))), (q8, .inl (c1, 256, .inl (fun _ => 0))), (q9, .inl (c1, 256, .inl (fun _ => 0)))] H := hP
  replace hD : va_D A [(h0, .inr (4, [.int 0, .ref q1, .ref q2, .ref q3, .ref q4, .ref q5, .ref q6, .ref q7, .ref q8, .ref q9, .null, .int 0, .int 0, .int 0, .null, .null, .int 0, .int 0, .null, .null, .null, .null, .int 0, .null])), (q1, .inl (c1, 32, .inl (fun _ => 0))), (q2, .inl (c2, 256, .inl (fun _ => 0))), (q3, .inl (c2, 256, .inl (fun _ => 0))), (q4, .inl (c2, 256, .inl (fun _ => 0))), (q5, .inl (c1, 256, .inl (fun _ => 0))), (q6, .inl (c1, 256, .inl (fun _ => 0))), (q7, .inl (c1, 256, .inl (fun _ => 0))), (q8, .inl (c1, 256, .inl (fun _ => 0))), (q9, .inl (c1, 256, .inl (fun _ => 0)))] := hD
  refine lv_aload_n hx hb dX4_init_84 rfl (lv_at hl 0 rfl) ?_
  refine lv_sipush (v := 256) hx hb dX4_init_85 (by decide) ?_
  refine va_newa (atype := .int) (ty := .int) (a0 := (256, .inl (fun _ => 0))) (N' := 256) hx hb (hts _ mG_47) rfl hK hP hD hS hA (fun _ => rfl) (by decide) (by decide) (by decide) (Nat.le_of_ble_eq_true rfl) (Nat.le_of_ble_eq_true rfl) dX4_init_88 (fun q10 c10 H hK hP hD hS => ?_)
  replace hP : va_P D vwCl [(h0, .inr (4, [.int 0, .ref q1, .ref q2, .ref q3, .ref q4, .ref q5, .ref q6, .ref q7, .ref q8, .ref q9, .null, .int 0, .int 0, .int 0, .null, .null, .int 0, .int 0, .null, .null, .null, .null, .int 0, .null])), (q1, .inl (c1, 32, .inl (fun _ => 0))), (q2, .inl (c2, 256, .inl (fun _ => 0))), (q3, .inl (c2, 256, .inl (fun _ => 0))), (q4, .inl (c2, 256, .inl (fun _ => 0))), (q5, .inl (c1, 256, .inl (fun _ => 0))), (q6, .inl (c1, 256, .inl (fun _ => 0))), (q7, .inl (c1, 256, .inl (fun _ => 0))), (q8, .inl (c1, 256, .inl (fun _ => 0))), (q9, .inl (c1, 256, .inl (fun _ => 0))), (q10, .inl (c10, 256, .inl (fun _ => 0)))] H := hP
  replace hD : va_D A [(h0, .inr (4, [.int 0, .ref q1, .ref q2, .ref q3, .ref q4, .ref q5, .ref q6, .ref q7, .ref q8, .ref q9, .null, .int 0, .int 0, .int 0, .null, .null, .int 0, .int 0, .null, .null, .null, .null, .int 0, .null])), (q1, .inl (c1, 32, .inl (fun _ => 0))), (q2, .inl (c2, 256, .inl (fun _ => 0))), (q3, .inl (c2, 256, .inl (fun _ => 0))), (q4, .inl (c2, 256, .inl (fun _ => 0))), (q5, .inl (c1, 256, .inl (fun _ => 0))), (q6, .inl (c1, 256, .inl (fun _ => 0))), (q7, .inl (c1, 256, .inl (fun _ => 0))), (q8, .inl (c1, 256, .inl (fun _ => 0))), (q9, .inl (c1, 256, .inl (fun _ => 0))), (q10, .inl (c10, 256, .inl (fun _ => 0)))] := hD
  have hK : va_K D vwCl [(c1, .int), (c2, .boolean), (c10, .int)] s := hK
  refine W.widen (k := 10) (n := 2336) (by omega) (by omega) ?_
  obtain rfl : c1 = c10 := gw_cidI hK 0 2 rfl rfl
  replace hP : va_P D vwCl [(h0, .inr (4, [.int 0, .ref q1, .ref q2, .ref q3, .ref q4, .ref q5, .ref q6, .ref q7, .ref q8, .ref q9, .null, .int 0, .int 0, .int 0, .null, .null, .int 0, .int 0, .null, .null, .null, .null, .int 0, .null])), (q1, .inl (c1, 32, .inl (fun _ => 0))), (q2, .inl (c2, 256, .inl (fun _ => 0))), (q3, .inl (c2, 256, .inl (fun _ => 0))), (q4, .inl (c2, 256, .inl (fun _ => 0))), (q5, .inl (c1, 256, .inl (fun _ => 0))), (q6, .inl (c1, 256, .inl (fun _ => 0))), (q7, .inl (c1, 256, .inl (fun _ => 0))), (q8, .inl (c1, 256, .inl (fun _ => 0))), (q9, .inl (c1, 256, .inl (fun _ => 0))), (q10, .inl (c1, 256, .inl (fun _ => 0)))] H := hP
  replace hD : va_D A [(h0, .inr (4, [.int 0, .ref q1, .ref q2, .ref q3, .ref q4, .ref q5, .ref q6, .ref q7, .ref q8, .ref q9, .null, .int 0, .int 0, .int 0, .null, .null, .int 0, .int 0, .null, .null, .null, .null, .int 0, .null])), (q1, .inl (c1, 32, .inl (fun _ => 0))), (q2, .inl (c2, 256, .inl (fun _ => 0))), (q3, .inl (c2, 256, .inl (fun _ => 0))), (q4, .inl (c2, 256, .inl (fun _ => 0))), (q5, .inl (c1, 256, .inl (fun _ => 0))), (q6, .inl (c1, 256, .inl (fun _ => 0))), (q7, .inl (c1, 256, .inl (fun _ => 0))), (q8, .inl (c1, 256, .inl (fun _ => 0))), (q9, .inl (c1, 256, .inl (fun _ => 0))), (q10, .inl (c1, 256, .inl (fun _ => 0)))] := hD
  have hK : va_K D vwCl [(c1, .int), (c2, .boolean)] s := hK.sub [0, 1] rfl
  refine va_putF (D := D) (ci := 4) (v := .ref q10) (ty := .array .int) (C := RX4) (T := TX4) (N := 24) hx hb hts inX4 tyX4 okX4 nmX4 hown hK hP hD hS 0 rfl rfl 10 (by decide) (hts _ mG_225) (fun _ h9 => h9) rfl hin rfl (by decide +kernel) rfl rfl (Nat.le_of_ble_eq_true rfl) dX4_init_90 (fun H locs hP hD hS => ?_)
  replace hP : va_P D vwCl [(h0, .inr (4, [.int 0, .ref q1, .ref q2, .ref q3, .ref q4, .ref q5, .ref q6, .ref q7, .ref q8, .ref q9, .ref q10, .int 0, .int 0, .int 0, .null, .null, .int 0, .int 0, .null, .null, .null, .null, .int 0, .null])), (q1, .inl (c1, 32, .inl (fun _ => 0))), (q2, .inl (c2, 256, .inl (fun _ => 0))), (q3, .inl (c2, 256, .inl (fun _ => 0))), (q4, .inl (c2, 256, .inl (fun _ => 0))), (q5, .inl (c1, 256, .inl (fun _ => 0))), (q6, .inl (c1, 256, .inl (fun _ => 0))), (q7, .inl (c1, 256, .inl (fun _ => 0))), (q8, .inl (c1, 256, .inl (fun _ => 0))), (q9, .inl (c1, 256, .inl (fun _ => 0))), (q10, .inl (c1, 256, .inl (fun _ => 0)))] H := hP
  replace hD : va_D A [(h0, .inr (4, [.int 0, .ref q1, .ref q2, .ref q3, .ref q4, .ref q5, .ref q6, .ref q7, .ref q8, .ref q9, .ref q10, .int 0, .int 0, .int 0, .null, .null, .int 0, .int 0, .null, .null, .null, .null, .int 0, .null])), (q1, .inl (c1, 32, .inl (fun _ => 0))), (q2, .inl (c2, 256, .inl (fun _ => 0))), (q3, .inl (c2, 256, .inl (fun _ => 0))), (q4, .inl (c2, 256, .inl (fun _ => 0))), (q5, .inl (c1, 256, .inl (fun _ => 0))), (q6, .inl (c1, 256, .inl (fun _ => 0))), (q7, .inl (c1, 256, .inl (fun _ => 0))), (q8, .inl (c1, 256, .inl (fun _ => 0))), (q9, .inl (c1, 256, .inl (fun _ => 0))), (q10, .inl (c1, 256, .inl (fun _ => 0)))] := hD
  refine lv_aload_n hx hb dX4_init_93 rfl (lv_at hl 0 rfl) ?_
  refine lv_bipush (v := 64) hx hb dX4_init_94 (by decide) ?_
  refine va_newa (atype := .int) (ty := .int) (a0 := (64, .inl (fun _ => 0))) (N' := 64) hx hb (hts _ mG_47) rfl hK hP hD hS hA (fun _ => rfl) (by decide) (by decide) (by decide) (Nat.le_of_ble_eq_true rfl) (Nat.le_of_ble_eq_true rfl) dX4_init_96 (fun q11 c11 H hK hP hD hS => ?_)
  replace hP : va_P D vwCl [(h0, .inr (4, [.int 0, .ref q1, .ref q2, .ref q3, .ref q4, .ref q5, .ref q6, .ref q7, .ref q8, .ref q9, .ref q10, .int 0, .int 0, .int 0, .null, .null, .int 0, .int 0, .null, .null, .null, .null, .int 0, .null])), (q1, .inl (c1, 32, .inl (fun _ => 0))), (q2, .inl (c2, 256, .inl (fun _ => 0))), (q3, .inl (c2, 256, .inl (fun _ => 0))), (q4, .inl (c2, 256, .inl (fun _ => 0))), (q5, .inl (c1, 256, .inl (fun _ => 0))), (q6, .inl (c1, 256, .inl (fun _ => 0))), (q7, .inl (c1, 256, .inl (fun _ => 0))), (q8, .inl (c1, 256, .inl (fun _ => 0))), (q9, .inl (c1, 256, .inl (fun _ => 0))), (q10, .inl (c1, 256, .inl (fun _ => 0))), (q11, .inl (c11, 64, .inl (fun _ => 0)))] H := hP
  replace hD : va_D A [(h0, .inr (4, [.int 0, .ref q1, .ref q2, .ref q3, .ref q4, .ref q5, .ref q6, .ref q7, .ref q8, .ref q9, .ref q10, .int 0, .int 0, .int 0, .null, .null, .int 0, .int 0, .null, .null, .null, .null, .int 0, .null])), (q1, .inl (c1, 32, .inl (fun _ => 0))), (q2, .inl (c2, 256, .inl (fun _ => 0))), (q3, .inl (c2, 256, .inl (fun _ => 0))), (q4, .inl (c2, 256, .inl (fun _ => 0))), (q5, .inl (c1, 256, .inl (fun _ => 0))), (q6, .inl (c1, 256, .inl (fun _ => 0))), (q7, .inl (c1, 256, .inl (fun _ => 0))), (q8, .inl (c1, 256, .inl (fun _ => 0))), (q9, .inl (c1, 256, .inl (fun _ => 0))), (q10, .inl (c1, 256, .inl (fun _ => 0))), (q11, .inl (c11, 64, .inl (fun _ => 0)))] := hD
  have hK : va_K D vwCl [(c1, .int), (c2, .boolean), (c11, .int)] s := hK
  refine W.widen (k := 11) (n := 2400) (by omega) (by omega) ?_
  obtain rfl : c1 = c11 := gw_cidI hK 0 2 rfl rfl
  replace hP : va_P D vwCl [(h0, .inr (4, [.int 0, .ref q1, .ref q2, .ref q3, .ref q4, .ref q5, .ref q6, .ref q7, .ref q8, .ref q9, .ref q10, .int 0, .int 0, .int 0, .null, .null, .int 0, .int 0, .null, .null, .null, .null, .int 0, .null])), (q1, .inl (c1, 32, .inl (fun _ => 0))), (q2, .inl (c2, 256, .inl (fun _ => 0))), (q3, .inl (c2, 256, .inl (fun _ => 0))), (q4, .inl (c2, 256, .inl (fun _ => 0))), (q5, .inl (c1, 256, .inl (fun _ => 0))), (q6, .inl (c1, 256, .inl (fun _ => 0))), (q7, .inl (c1, 256, .inl (fun _ => 0))), (q8, .inl (c1, 256, .inl (fun _ => 0))), (q9, .inl (c1, 256, .inl (fun _ => 0))), (q10, .inl (c1, 256, .inl (fun _ => 0))), (q11, .inl (c1, 64, .inl (fun _ => 0)))] H := hP
  replace hD : va_D A [(h0, .inr (4, [.int 0, .ref q1, .ref q2, .ref q3, .ref q4, .ref q5, .ref q6, .ref q7, .ref q8, .ref q9, .ref q10, .int 0, .int 0, .int 0, .null, .null, .int 0, .int 0, .null, .null, .null, .null, .int 0, .null])), (q1, .inl (c1, 32, .inl (fun _ => 0))), (q2, .inl (c2, 256, .inl (fun _ => 0))), (q3, .inl (c2, 256, .inl (fun _ => 0))), (q4, .inl (c2, 256, .inl (fun _ => 0))), (q5, .inl (c1, 256, .inl (fun _ => 0))), (q6, .inl (c1, 256, .inl (fun _ => 0))), (q7, .inl (c1, 256, .inl (fun _ => 0))), (q8, .inl (c1, 256, .inl (fun _ => 0))), (q9, .inl (c1, 256, .inl (fun _ => 0))), (q10, .inl (c1, 256, .inl (fun _ => 0))), (q11, .inl (c1, 64, .inl (fun _ => 0)))] := hD
  have hK : va_K D vwCl [(c1, .int), (c2, .boolean)] s := hK.sub [0, 1] rfl
  refine va_putF (D := D) (ci := 4) (v := .ref q11) (ty := .array .int) (C := RX4) (T := TX4) (N := 24) hx hb hts inX4 tyX4 okX4 nmX4 hown hK hP hD hS 0 rfl rfl 14 (by decide) (hts _ mG_229) (fun _ h9 => h9) rfl hin rfl (by decide +kernel) rfl rfl (Nat.le_of_ble_eq_true rfl) dX4_init_98 (fun H locs hP hD hS => ?_)
  replace hP : va_P D vwCl [(h0, .inr (4, [.int 0, .ref q1, .ref q2, .ref q3, .ref q4, .ref q5, .ref q6, .ref q7, .ref q8, .ref q9, .ref q10, .int 0, .int 0, .int 0, .ref q11, .null, .int 0, .int 0, .null, .null, .null, .null, .int 0, .null])), (q1, .inl (c1, 32, .inl (fun _ => 0))), (q2, .inl (c2, 256, .inl (fun _ => 0))), (q3, .inl (c2, 256, .inl (fun _ => 0))), (q4, .inl (c2, 256, .inl (fun _ => 0))), (q5, .inl (c1, 256, .inl (fun _ => 0))), (q6, .inl (c1, 256, .inl (fun _ => 0))), (q7, .inl (c1, 256, .inl (fun _ => 0))), (q8, .inl (c1, 256, .inl (fun _ => 0))), (q9, .inl (c1, 256, .inl (fun _ => 0))), (q10, .inl (c1, 256, .inl (fun _ => 0))), (q11, .inl (c1, 64, .inl (fun _ => 0)))] H := hP
  replace hD : va_D A [(h0, .inr (4, [.int 0, .ref q1, .ref q2, .ref q3, .ref q4, .ref q5, .ref q6, .ref q7, .ref q8, .ref q9, .ref q10, .int 0, .int 0, .int 0, .ref q11, .null, .int 0, .int 0, .null, .null, .null, .null, .int 0, .null])), (q1, .inl (c1, 32, .inl (fun _ => 0))), (q2, .inl (c2, 256, .inl (fun _ => 0))), (q3, .inl (c2, 256, .inl (fun _ => 0))), (q4, .inl (c2, 256, .inl (fun _ => 0))), (q5, .inl (c1, 256, .inl (fun _ => 0))), (q6, .inl (c1, 256, .inl (fun _ => 0))), (q7, .inl (c1, 256, .inl (fun _ => 0))), (q8, .inl (c1, 256, .inl (fun _ => 0))), (q9, .inl (c1, 256, .inl (fun _ => 0))), (q10, .inl (c1, 256, .inl (fun _ => 0))), (q11, .inl (c1, 64, .inl (fun _ => 0)))] := hD
  refine lv_aload_n hx hb dX4_init_101 rfl (lv_at hl 0 rfl) ?_
  refine lv_bipush (v := 64) hx hb dX4_init_102 (by decide) ?_
  refine va_newa (atype := .int) (ty := .int) (a0 := (64, .inl (fun _ => 0))) (N' := 64) hx hb (hts _ mG_47) rfl hK hP hD hS hA (fun _ => rfl) (by decide) (by decide) (by decide) (Nat.le_of_ble_eq_true rfl) (Nat.le_of_ble_eq_true rfl) dX4_init_104 (fun q12 c12 H hK hP hD hS => ?_)
  replace hP : va_P D vwCl [(h0, .inr (4, [.int 0, .ref q1, .ref q2, .ref q3, .ref q4, .ref q5, .ref q6, .ref q7, .ref q8, .ref q9, .ref q10, .int 0, .int 0, .int 0, .ref q11, .null, .int 0, .int 0, .null, .null, .null, .null, .int 0, .null])), (q1, .inl (c1, 32, .inl (fun _ => 0))), (q2, .inl (c2, 256, .inl (fun _ => 0))), (q3, .inl (c2, 256, .inl (fun _ => 0))), (q4, .inl (c2, 256, .inl (fun _ => 0))), (q5, .inl (c1, 256, .inl (fun _ => 0))), (q6, .inl (c1, 256, .inl (fun _ => 0))), (q7, .inl (c1, 256, .inl (fun _ => 0))), (q8, .inl (c1, 256, .inl (fun _ => 0))), (q9, .inl (c1, 256, .inl (fun _ => 0))), (q10, .inl (c1, 256, .inl (fun _ => 0))), (q11, .inl (c1, 64, .inl (fun _ => 0))), (q12, .inl (c12, 64, .inl (fun _ => 0)))] H := hP
  replace hD : va_D A [(h0, .inr (4, [.int 0, .ref q1, .ref q2, .ref q3, .ref q4, .ref q5, .ref q6, .ref q7, .ref q8, .ref q9, .ref q10, .int 0, .int 0, .int 0, .ref q11, .null, .int 0, .int 0, .null, .null, .null, .null, .int 0, .null])), (q1, .inl (c1, 32, .inl (fun _ => 0))), (q2, .inl (c2, 256, .inl (fun _ => 0))), (q3, .inl (c2, 256, .inl (fun _ => 0))), (q4, .inl (c2, 256, .inl (fun _ => 0))), (q5, .inl (c1, 256, .inl (fun _ => 0))), (q6, .inl (c1, 256, .inl (fun _ => 0))), (q7, .inl (c1, 256, .inl (fun _ => 0))), (q8, .inl (c1, 256, .inl (fun _ => 0))), (q9, .inl (c1, 256, .inl (fun _ => 0))), (q10, .inl (c1, 256, .inl (fun _ => 0))), (q11, .inl (c1, 64, .inl (fun _ => 0))), (q12, .inl (c12, 64, .inl (fun _ => 0)))] := hD
  have hK : va_K D vwCl [(c1, .int), (c2, .boolean), (c12, .int)] s := hK
  refine W.widen (k := 12) (n := 2464) (by omega) (by omega) ?_
  obtain rfl : c1 = c12 := gw_cidI hK 0 2 rfl rfl
  replace hP : va_P D vwCl [(h0, .inr (4, [.int 0, .ref q1, .ref q2, .ref q3, .ref q4, .ref q5, .ref q6, .ref q7, .ref q8, .ref q9, .ref q10, .int 0, .int 0, .int 0, .ref q11, .null, .int 0, .int 0, .null, .null, .null, .null, .int 0, .null])), (q1, .inl (c1, 32, .inl (fun _ => 0))), (q2, .inl (c2, 256, .inl (fun _ => 0))), (q3, .inl (c2, 256, .inl (fun _ => 0))), (q4, .inl (c2, 256, .inl (fun _ => 0))), (q5, .inl (c1, 256, .inl (fun _ => 0))), (q6, .inl (c1, 256, .inl (fun _ => 0))), (q7, .inl (c1, 256, .inl (fun _ => 0))), (q8, .inl (c1, 256, .inl (fun _ => 0))), (q9, .inl (c1, 256, .inl (fun _ => 0))), (q10, .inl (c1, 256, .inl (fun _ => 0))), (q11, .inl (c1, 64, .inl (fun _ => 0))), (q12, .inl (c1, 64, .inl (fun _ => 0)))] H := hP
  replace hD : va_D A [(h0, .inr (4, [.int 0, .ref q1, .ref q2, .ref q3, .ref q4, .ref q5, .ref q6, .ref q7, .ref q8, .ref q9, .ref q10, .int 0, .int 0, .int 0, .ref q11, .null, .int 0, .int 0, .null, .null, .null, .null, .int 0, .null])), (q1, .inl (c1, 32, .inl (fun _ => 0))), (q2, .inl (c2, 256, .inl (fun _ => 0))), (q3, .inl (c2, 256, .inl (fun _ => 0))), (q4, .inl (c2, 256, .inl (fun _ => 0))), (q5, .inl (c1, 256, .inl (fun _ => 0))), (q6, .inl (c1, 256, .inl (fun _ => 0))), (q7, .inl (c1, 256, .inl (fun _ => 0))), (q8, .inl (c1, 256, .inl (fun _ => 0))), (q9, .inl (c1, 256, .inl (fun _ => 0))), (q10, .inl (c1, 256, .inl (fun _ => 0))), (q11, .inl (c1, 64, .inl (fun _ => 0))), (q12, .inl (c1, 64, .inl (fun _ => 0)))] := hD
  have hK : va_K D vwCl [(c1, .int), (c2, .boolean)] s := hK.sub [0, 1] rfl
  refine va_putF (D := D) (ci := 4) (v := .ref q12) (ty := .array .int) (C := RX4) (T := TX4) (N := 24) hx hb hts inX4 tyX4 okX4 nmX4 hown hK hP hD hS 0 rfl rfl 15 (by decide) (hts _ mG_230) (fun _ h9 => h9) rfl hin rfl (by decide +kernel) rfl rfl (Nat.le_of_ble_eq_true rfl) dX4_init_106 (fun H locs hP hD hS => ?_)
  replace hP : va_P D vwCl [(h0, .inr (4, [.int 0, .ref q1, .ref q2, .ref q3, .ref q4, .ref q5, .ref q6, .ref q7, .ref q8, .ref q9, .ref q10, .int 0, .int 0, .int 0, .ref q11, .ref q12, .int 0, .int 0, .null, .null, .null, .null, .int 0, .null])), (q1, .inl (c1, 32, .inl (fun _ => 0))), (q2, .inl (c2, 256, .inl (fun _ => 0))), (q3, .inl (c2, 256, .inl (fun _ => 0))), (q4, .inl (c2, 256, .inl (fun _ => 0))), (q5, .inl (c1, 256, .inl (fun _ => 0))), (q6, .inl (c1, 256, .inl (fun _ => 0))), (q7, .inl (c1, 256, .inl (fun _ => 0))), (q8, .inl (c1, 256, .inl (fun _ => 0))), (q9, .inl (c1, 256, .inl (fun _ => 0))), (q10, .inl (c1, 256, .inl (fun _ => 0))), (q11, .inl (c1, 64, .inl (fun _ => 0))), (q12, .inl (c1, 64, .inl (fun _ => 0)))] H := hP
  replace hD : va_D A [(h0, .inr (4, [.int 0, .ref q1, .ref q2, .ref q3, .ref q4, .ref q5, .ref q6, .ref q7, .ref q8, .ref q9, .ref q10, .int 0, .int 0, .int 0, .ref q11, .ref q12, .int 0, .int 0, .null, .null, .null, .null, .int 0, .null])), (q1, .inl (c1, 32, .inl (fun _ => 0))), (q2, .inl (c2, 256, .inl (fun _ => 0))), (q3, .inl (c2, 256, .inl (fun _ => 0))), (q4, .inl (c2, 256, .inl (fun _ => 0))), (q5, .inl (c1, 256, .inl (fun _ => 0))), (q6, .inl (c1, 256, .inl (fun _ => 0))), (q7, .inl (c1, 256, .inl (fun _ => 0))), (q8, .inl (c1, 256, .inl (fun _ => 0))), (q9, .inl (c1, 256, .inl (fun _ => 0))), (q10, .inl (c1, 256, .inl (fun _ => 0))), (q11, .inl (c1, 64, .inl (fun _ => 0))), (q12, .inl (c1, 64, .inl (fun _ => 0)))] := hD
  refine lv_aload_n hx hb dX4_init_109 rfl (lv_at hl 0 rfl) ?_
  refine lv_bipush (v := 32) hx hb dX4_init_110 (by decide) ?_
  refine va_newa (atype := .boolean) (ty := .boolean) (a0 := (32, .inl (fun _ => 0))) (N' := 32) hx hb (hts _ mG_239) rfl hK hP hD hS hA (fun _ => rfl) (by decide) (by decide) (by decide) (Nat.le_of_ble_eq_true rfl) (Nat.le_of_ble_eq_true rfl) dX4_init_112 (fun q13 c13 H hK hP hD hS => ?_)
  replace hP : va_P D vwCl [(h0, .inr (4, [.int 0, .ref q1, .ref q2, .ref q3, .ref q4, .ref q5, .ref q6, .ref q7, .ref q8, .ref q9, .ref q10, .int 0, .int 0, .int 0, .ref q11, .ref q12, .int 0, .int 0, .null, .null, .null, .null, .int 0, .null])), (q1, .inl (c1, 32, .inl (fun _ => 0))), (q2, .inl (c2, 256, .inl (fun _ => 0))), (q3, .inl (c2, 256, .inl (fun _ => 0))), (q4, .inl (c2, 256, .inl (fun _ => 0))), (q5, .inl (c1, 256, .inl (fun _ => 0))), (q6, .inl (c1, 256, .inl (fun _ => 0))), (q7, .inl (c1, 256, .inl (fun _ => 0))), (q8, .inl (c1, 256, .inl (fun _ => 0))), (q9, .inl (c1, 256, .inl (fun _ => 0))), (q10, .inl (c1, 256, .inl (fun _ => 0))), (q11, .inl (c1, 64, .inl (fun _ => 0))), (q12, .inl (c1, 64, .inl (fun _ => 0))), (q13, .inl (c13, 32, .inl (fun _ => 0)))] H := hP
  replace hD : va_D A [(h0, .inr (4, [.int 0, .ref q1, .ref q2, .ref q3, .ref q4, .ref q5, .ref q6, .ref q7, .ref q8, .ref q9, .ref q10, .int 0, .int 0, .int 0, .ref q11, .ref q12, .int 0, .int 0, .null, .null, .null, .null, .int 0, .null])), (q1, .inl (c1, 32, .inl (fun _ => 0))), (q2, .inl (c2, 256, .inl (fun _ => 0))), (q3, .inl (c2, 256, .inl (fun _ => 0))), (q4, .inl (c2, 256, .inl (fun _ => 0))), (q5, .inl (c1, 256, .inl (fun _ => 0))), (q6, .inl (c1, 256, .inl (fun _ => 0))), (q7, .inl (c1, 256, .inl (fun _ => 0))), (q8, .inl (c1, 256, .inl (fun _ => 0))), (q9, .inl (c1, 256, .inl (fun _ => 0))), (q10, .inl (c1, 256, .inl (fun _ => 0))), (q11, .inl (c1, 64, .inl (fun _ => 0))), (q12, .inl (c1, 64, .inl (fun _ => 0))), (q13, .inl (c13, 32, .inl (fun _ => 0)))] := hD
  have hK : va_K D vwCl [(c1, .int), (c2, .boolean), (c13, .boolean)] s := hK
  refine W.widen (k := 13) (n := 2496) (by omega) (by omega) ?_
  obtain rfl : c2 = c13 := gw_cidZ hK 1 2 rfl rfl
  replace hP : va_P D vwCl [(h0, .inr (4, [.int 0, .ref q1, .ref q2, .ref q3, .ref q4, .ref q5, .ref q6, .ref q7, .ref q8, .ref q9, .ref q10, .int 0, .int 0, .int 0, .ref q11, .ref q12, .int 0, .int 0, .null, .null, .null, .null, .int 0, .null])), (q1, .inl (c1, 32, .inl (fun _ => 0))), (q2, .inl (c2, 256, .inl (fun _ => 0))), (q3, .inl (c2, 256, .inl (fun _ => 0))), (q4, .inl (c2, 256, .inl (fun _ => 0))), (q5, .inl (c1, 256, .inl (fun _ => 0))), (q6, .inl (c1, 256, .inl (fun _ => 0))), (q7, .inl (c1, 256, .inl (fun _ => 0))), (q8, .inl (c1, 256, .inl (fun _ => 0))), (q9, .inl (c1, 256, .inl (fun _ => 0))), (q10, .inl (c1, 256, .inl (fun _ => 0))), (q11, .inl (c1, 64, .inl (fun _ => 0))), (q12, .inl (c1, 64, .inl (fun _ => 0))), (q13, .inl (c2, 32, .inl (fun _ => 0)))] H := hP
  replace hD : va_D A [(h0, .inr (4, [.int 0, .ref q1, .ref q2, .ref q3, .ref q4, .ref q5, .ref q6, .ref q7, .ref q8, .ref q9, .ref q10, .int 0, .int 0, .int 0, .ref q11, .ref q12, .int 0, .int 0, .null, .null, .null, .null, .int 0, .null])), (q1, .inl (c1, 32, .inl (fun _ => 0))), (q2, .inl (c2, 256, .inl (fun _ => 0))), (q3, .inl (c2, 256, .inl (fun _ => 0))), (q4, .inl (c2, 256, .inl (fun _ => 0))), (q5, .inl (c1, 256, .inl (fun _ => 0))), (q6, .inl (c1, 256, .inl (fun _ => 0))), (q7, .inl (c1, 256, .inl (fun _ => 0))), (q8, .inl (c1, 256, .inl (fun _ => 0))), (q9, .inl (c1, 256, .inl (fun _ => 0))), (q10, .inl (c1, 256, .inl (fun _ => 0))), (q11, .inl (c1, 64, .inl (fun _ => 0))), (q12, .inl (c1, 64, .inl (fun _ => 0))), (q13, .inl (c2, 32, .inl (fun _ => 0)))] := hD
  have hK : va_K D vwCl [(c1, .int), (c2, .boolean)] s := hK.sub [0, 1] rfl
  refine va_putF (D := D) (ci := 4) (v := .ref q13) (ty := .array .boolean) (C := RX4) (T := TX4) (N := 24) hx hb hts inX4 tyX4 okX4 nmX4 hown hK hP hD hS 0 rfl rfl 18 (by decide) (hts _ mG_233) (fun _ h9 => h9) rfl hin rfl (by decide +kernel) rfl rfl (Nat.le_of_ble_eq_true rfl) dX4_init_114 (fun H locs hP hD hS => ?_)
  replace hP : va_P D vwCl [(h0, .inr (4, [.int 0, .ref q1, .ref q2, .ref q3, .ref q4, .ref q5, .ref q6, .ref q7, .ref q8, .ref q9, .ref q10, .int 0, .int 0, .int 0, .ref q11, .ref q12, .int 0, .int 0, .ref q13, .null, .null, .null, .int 0, .null])), (q1, .inl (c1, 32, .inl (fun _ => 0))), (q2, .inl (c2, 256, .inl (fun _ => 0))), (q3, .inl (c2, 256, .inl (fun _ => 0))), (q4, .inl (c2, 256, .inl (fun _ => 0))), (q5, .inl (c1, 256, .inl (fun _ => 0))), (q6, .inl (c1, 256, .inl (fun _ => 0))), (q7, .inl (c1, 256, .inl (fun _ => 0))), (q8, .inl (c1, 256, .inl (fun _ => 0))), (q9, .inl (c1, 256, .inl (fun _ => 0))), (q10, .inl (c1, 256, .inl (fun _ => 0))), (q11, .inl (c1, 64, .inl (fun _ => 0))), (q12, .inl (c1, 64, .inl (fun _ => 0))), (q13, .inl (c2, 32, .inl (fun _ => 0)))] H := hP
  replace hD : va_D A [(h0, .inr (4, [.int 0, .ref q1, .ref q2, .ref q3, .ref q4, .ref q5, .ref q6, .ref q7, .ref q8, .ref q9, .ref q10, .int 0, .int 0, .int 0, .ref q11, .ref q12, .int 0, .int 0, .ref q13, .null, .null, .null, .int 0, .null])), (q1, .inl (c1, 32, .inl (fun _ => 0))), (q2, .inl (c2, 256, .inl (fun _ => 0))), (q3, .inl (c2, 256, .inl (fun _ => 0))), (q4, .inl (c2, 256, .inl (fun _ => 0))), (q5, .inl (c1, 256, .inl (fun _ => 0))), (q6, .inl (c1, 256, .inl (fun _ => 0))), (q7, .inl (c1, 256, .inl (fun _ => 0))), (q8, .inl (c1, 256, .inl (fun _ => 0))), (q9, .inl (c1, 256, .inl (fun _ => 0))), (q10, .inl (c1, 256, .inl (fun _ => 0))), (q11, .inl (c1, 64, .inl (fun _ => 0))), (q12, .inl (c1, 64, .inl (fun _ => 0))), (q13, .inl (c2, 32, .inl (fun _ => 0)))] := hD
  refine lv_aload_n hx hb dX4_init_117 rfl (lv_at hl 0 rfl) ?_
  refine lv_bipush (v := 32) hx hb dX4_init_118 (by decide) ?_
  refine va_newa (atype := .int) (ty := .int) (a0 := (32, .inl (fun _ => 0))) (N' := 32) hx hb (hts _ mG_47) rfl hK hP hD hS hA (fun _ => rfl) (by decide) (by decide) (by decide) (Nat.le_of_ble_eq_true rfl) (Nat.le_of_ble_eq_true rfl) dX4_init_120 (fun q14 c14 H hK hP hD hS => ?_)
  replace hP : va_P D vwCl [(h0, .inr (4, [.int 0, .ref q1, .ref q2, .ref q3, .ref q4, .ref q5, .ref q6, .ref q7, .ref q8, .ref q9, .ref q10, .int 0, .int 0, .int 0, .ref q11, .ref q12, .int 0, .int 0, .ref q13, .null, .null, .null, .int 0, .null])), (q1, .inl (c1, 32, .inl (fun _ => 0))), (q2, .inl (c2, 256, .inl (fun _ => 0))), (q3, .inl (c2, 256, .inl (fun _ => 0))), (q4, .inl (c2, 256, .inl (fun _ => 0))), (q5, .inl (c1, 256, .inl (fun _ => 0))), (q6, .inl (c1, 256, .inl (fun _ => 0))), (q7, .inl (c1, 256, .inl (fun _ => 0))), (q8, .inl (c1, 256, .inl (fun _ => 0))), (q9, .inl (c1, 256, .inl (fun _ => 0))), (q10, .inl (c1, 256, .inl (fun _ => 0))), (q11, .inl (c1, 64, .inl (fun _ => 0))), (q12, .inl (c1, 64, .inl (fun _ => 0))), (q13, .inl (c2, 32, .inl (fun _ => 0))), (q14, .inl (c14, 32, .inl (fun _ => 0)))] H := hP
  replace hD : va_D A [(h0, .inr (4, [.int 0, .ref q1, .ref q2, .ref q3, .ref q4, .ref q5, .ref q6, .ref q7, .ref q8, .ref q9, .ref q10, .int 0, .int 0, .int 0, .ref q11, .ref q12, .int 0, .int 0, .ref q13, .null, .null, .null, .int 0, .null])), (q1, .inl (c1, 32, .inl (fun _ => 0))), (q2, .inl (c2, 256, .inl (fun _ => 0))), (q3, .inl (c2, 256, .inl (fun _ => 0))), (q4, .inl (c2, 256, .inl (fun _ => 0))), (q5, .inl (c1, 256, .inl (fun _ => 0))), (q6, .inl (c1, 256, .inl (fun _ => 0))), (q7, .inl (c1, 256, .inl (fun _ => 0))), (q8, .inl (c1, 256, .inl (fun _ => 0))), (q9, .inl (c1, 256, .inl (fun _ => 0))), (q10, .inl (c1, 256, .inl (fun _ => 0))), (q11, .inl (c1, 64, .inl (fun _ => 0))), (q12, .inl (c1, 64, .inl (fun _ => 0))), (q13, .inl (c2, 32, .inl (fun _ => 0))), (q14, .inl (c14, 32, .inl (fun _ => 0)))] := hD
  have hK : va_K D vwCl [(c1, .int), (c2, .boolean), (c14, .int)] s := hK
  refine W.widen (k := 14) (n := 2528) (by omega) (by omega) ?_
  obtain rfl : c1 = c14 := gw_cidI hK 0 2 rfl rfl
  replace hP : va_P D vwCl [(h0, .inr (4, [.int 0, .ref q1, .ref q2, .ref q3, .ref q4, .ref q5, .ref q6, .ref q7, .ref q8, .ref q9, .ref q10, .int 0, .int 0, .int 0, .ref q11, .ref q12, .int 0, .int 0, .ref q13, .null, .null, .null, .int 0, .null])), (q1, .inl (c1, 32, .inl (fun _ => 0))), (q2, .inl (c2, 256, .inl (fun _ => 0))), (q3, .inl (c2, 256, .inl (fun _ => 0))), (q4, .inl (c2, 256, .inl (fun _ => 0))), (q5, .inl (c1, 256, .inl (fun _ => 0))), (q6, .inl (c1, 256, .inl (fun _ => 0))), (q7, .inl (c1, 256, .inl (fun _ => 0))), (q8, .inl (c1, 256, .inl (fun _ => 0))), (q9, .inl (c1, 256, .inl (fun _ => 0))), (q10, .inl (c1, 256, .inl (fun _ => 0))), (q11, .inl (c1, 64, .inl (fun _ => 0))), (q12, .inl (c1, 64, .inl (fun _ => 0))), (q13, .inl (c2, 32, .inl (fun _ => 0))), (q14, .inl (c1, 32, .inl (fun _ => 0)))] H := hP
  replace hD : va_D A [(h0, .inr (4, [.int 0, .ref q1, .ref q2, .ref q3, .ref q4, .ref q5, .ref q6, .ref q7, .ref q8, .ref q9, .ref q10, .int 0, .int 0, .int 0, .ref q11, .ref q12, .int 0, .int 0, .ref q13, .null, .null, .null, .int 0, .null])), (q1, .inl (c1, 32, .inl (fun _ => 0))), (q2, .inl (c2, 256, .inl (fun _ => 0))), (q3, .inl (c2, 256, .inl (fun _ => 0))), (q4, .inl (c2, 256, .inl (fun _ => 0))), (q5, .inl (c1, 256, .inl (fun _ => 0))), (q6, .inl (c1, 256, .inl (fun _ => 0))), (q7, .inl (c1, 256, .inl (fun _ => 0))), (q8, .inl (c1, 256, .inl (fun _ => 0))), (q9, .inl (c1, 256, .inl (fun _ => 0))), (q10, .inl (c1, 256, .inl (fun _ => 0))), (q11, .inl (c1, 64, .inl (fun _ => 0))), (q12, .inl (c1, 64, .inl (fun _ => 0))), (q13, .inl (c2, 32, .inl (fun _ => 0))), (q14, .inl (c1, 32, .inl (fun _ => 0)))] := hD
  have hK : va_K D vwCl [(c1, .int), (c2, .boolean)] s := hK.sub [0, 1] rfl
  refine va_putF (D := D) (ci := 4) (v := .ref q14) (ty := .array .int) (C := RX4) (T := TX4) (N := 24) hx hb hts inX4 tyX4 okX4 nmX4 hown hK hP hD hS 0 rfl rfl 19 (by decide) (hts _ mG_234) (fun _ h9 => h9) rfl hin rfl (by decide +kernel) rfl rfl (Nat.le_of_ble_eq_true rfl) dX4_init_122 (fun H locs hP hD hS => ?_)
  replace hP : va_P D vwCl [(h0, .inr (4, [.int 0, .ref q1, .ref q2, .ref q3, .ref q4, .ref q5, .ref q6, .ref q7, .ref q8, .ref q9, .ref q10, .int 0, .int 0, .int 0, .ref q11, .ref q12, .int 0, .int 0, .ref q13, .ref q14, .null, .null, .int 0, .null])), (q1, .inl (c1, 32, .inl (fun _ => 0))), (q2, .inl (c2, 256, .inl (fun _ => 0))), (q3, .inl (c2, 256, .inl (fun _ => 0))), (q4, .inl (c2, 256, .inl (fun _ => 0))), (q5, .inl (c1, 256, .inl (fun _ => 0))), (q6, .inl (c1, 256, .inl (fun _ => 0))), (q7, .inl (c1, 256, .inl (fun _ => 0))), (q8, .inl (c1, 256, .inl (fun _ => 0))), (q9, .inl (c1, 256, .inl (fun _ => 0))), (q10, .inl (c1, 256, .inl (fun _ => 0))), (q11, .inl (c1, 64, .inl (fun _ => 0))), (q12, .inl (c1, 64, .inl (fun _ => 0))), (q13, .inl (c2, 32, .inl (fun _ => 0))), (q14, .inl (c1, 32, .inl (fun _ => 0)))] H := hP
  replace hD : va_D A [(h0, .inr (4, [.int 0, .ref q1, .ref q2, .ref q3, .ref q4, .ref q5, .ref q6, .ref q7, .ref q8, .ref q9, .ref q10, .int 0, .int 0, .int 0, .ref q11, .ref q12, .int 0, .int 0, .ref q13, .ref q14, .null, .null, .int 0, .null])), (q1, .inl (c1, 32, .inl (fun _ => 0))), (q2, .inl (c2, 256, .inl (fun _ => 0))), (q3, .inl (c2, 256, .inl (fun _ => 0))), (q4, .inl (c2, 256, .inl (fun _ => 0))), (q5, .inl (c1, 256, .inl (fun _ => 0))), (q6, .inl (c1, 256, .inl (fun _ => 0))), (q7, .inl (c1, 256, .inl (fun _ => 0))), (q8, .inl (c1, 256, .inl (fun _ => 0))), (q9, .inl (c1, 256, .inl (fun _ => 0))), (q10, .inl (c1, 256, .inl (fun _ => 0))), (q11, .inl (c1, 64, .inl (fun _ => 0))), (q12, .inl (c1, 64, .inl (fun _ => 0))), (q13, .inl (c2, 32, .inl (fun _ => 0))), (q14, .inl (c1, 32, .inl (fun _ => 0)))] := hD
  refine lv_aload_n hx hb dX4_init_125 rfl (lv_at hl 0 rfl) ?_
  refine lv_bipush (v := 32) hx hb dX4_init_126 (by decide) ?_
  refine va_newa (atype := .boolean) (ty := .boolean) (a0 := (32, .inl (fun _ => 0))) (N' := 32) hx hb (hts _ mG_239) rfl hK hP hD hS hA (fun _ => rfl) (by decide) (by decide) (by decide) (Nat.le_of_ble_eq_true rfl) (Nat.le_of_ble_eq_true rfl) dX4_init_128 (fun q15 c15 H hK hP hD hS => ?_)
  replace hP : va_P D vwCl [(h0, .inr (4, [.int 0, .ref q1, .ref q2, .ref q3, .ref q4, .ref q5, .ref q6, .ref q7, .ref q8, .ref q9, .ref q10, .int 0, .int 0, .int 0, .ref q11, .ref q12, .int 0, .int 0, .ref q13, .ref q14, .null, .null, .int 0, .null])), (q1, .inl (c1, 32, .inl (fun _ => 0))), (q2, .inl (c2, 256, .inl (fun _ => 0))), (q3, .inl (c2, 256, .inl (fun _ => 0))), (q4, .inl (c2, 256, .inl (fun _ => 0))), (q5, .inl (c1, 256, .inl (fun _ => 0))), (q6, .inl (c1, 256, .inl (fun _ => 0))), (q7, .inl (c1, 256, .inl (fun _ => 0))), (q8, .inl (c1, 256, .inl (fun _ => 0))), (q9, .inl (c1, 256, .inl (fun _ => 0))), (q10, .inl (c1, 256, .inl (fun _ => 0))), (q11, .inl (c1, 64, .inl (fun _ => 0))), (q12, .inl (c1, 64, .inl (fun _ => 0))), (q13, .inl (c2, 32, .inl (fun _ => 0))), (q14, .inl (c1, 32, .inl (fun _ => 0))), (q15, .inl (c15, 32, .inl (fun _ => 0)))] H := hP
  replace hD : va_D A [(h0, .inr (4, [.int 0, .ref q1, .ref q2, .ref q3, .ref q4, .ref q5, .ref q6, .ref q7, .ref q8, .ref q9, .ref q10, .int 0, .int 0, .int 0, .ref q11, .ref q12, .int 0, .int 0, .ref q13, .ref q14, .null, .null, .int 0, .null])), (q1, .inl (c1, 32, .inl (fun _ => 0))), (q2, .inl (c2, 256, .inl (fun _ => 0))), (q3, .inl (c2, 256, .inl (fun _ => 0))), (q4, .inl (c2, 256, .inl (fun _ => 0))), (q5, .inl (c1, 256, .inl (fun _ => 0))), (q6, .inl (c1, 256, .inl (fun _ => 0))), (q7, .inl (c1, 256, .inl (fun _ => 0))), (q8, .inl (c1, 256, .inl (fun _ => 0))), (q9, .inl (c1, 256, .inl (fun _ => 0))), (q10, .inl (c1, 256, .inl (fun _ => 0))), (q11, .inl (c1, 64, .inl (fun _ => 0))), (q12, .inl (c1, 64, .inl (fun _ => 0))), (q13, .inl (c2, 32, .inl (fun _ => 0))), (q14, .inl (c1, 32, .inl (fun _ => 0))), (q15, .inl (c15, 32, .inl (fun _ => 0)))] := hD
  have hK : va_K D vwCl [(c1, .int), (c2, .boolean), (c15, .boolean)] s := hK
  refine W.widen (k := 15) (n := 2560) (by omega) (by omega) ?_
  obtain rfl : c2 = c15 := gw_cidZ hK 1 2 rfl rfl
  replace hP : va_P D vwCl [(h0, .inr (4, [.int 0, .ref q1, .ref q2, .ref q3, .ref q4, .ref q5, .ref q6, .ref q7, .ref q8, .ref q9, .ref q10, .int 0, .int 0, .int 0, .ref q11, .ref q12, .int 0, .int 0, .ref q13, .ref q14, .null, .null, .int 0, .null])), (q1, .inl (c1, 32, .inl (fun _ => 0))), (q2, .inl (c2, 256, .inl (fun _ => 0))), (q3, .inl (c2, 256, .inl (fun _ => 0))), (q4, .inl (c2, 256, .inl (fun _ => 0))), (q5, .inl (c1, 256, .inl (fun _ => 0))), (q6, .inl (c1, 256, .inl (fun _ => 0))), (q7, .inl (c1, 256, .inl (fun _ => 0))), (q8, .inl (c1, 256, .inl (fun _ => 0))), (q9, .inl (c1, 256, .inl (fun _ => 0))), (q10, .inl (c1, 256, .inl (fun _ => 0))), (q11, .inl (c1, 64, .inl (fun _ => 0))), (q12, .inl (c1, 64, .inl (fun _ => 0))), (q13, .inl (c2, 32, .inl (fun _ => 0))), (q14, .inl (c1, 32, .inl (fun _ => 0))), (q15, .inl (c2, 32, .inl (fun _ => 0)))] H := hP
  replace hD : va_D A [(h0, .inr (4, [.int 0, .ref q1, .ref q2, .ref q3, .ref q4, .ref q5, .ref q6, .ref q7, .ref q8, .ref q9, .ref q10, .int 0, .int 0, .int 0, .ref q11, .ref q12, .int 0, .int 0, .ref q13, .ref q14, .null, .null, .int 0, .null])), (q1, .inl (c1, 32, .inl (fun _ => 0))), (q2, .inl (c2, 256, .inl (fun _ => 0))), (q3, .inl (c2, 256, .inl (fun _ => 0))), (q4, .inl (c2, 256, .inl (fun _ => 0))), (q5, .inl (c1, 256, .inl (fun _ => 0))), (q6, .inl (c1, 256, .inl (fun _ => 0))), (q7, .inl (c1, 256, .inl (fun _ => 0))), (q8, .inl (c1, 256, .inl (fun _ => 0))), (q9, .inl (c1, 256, .inl (fun _ => 0))), (q10, .inl (c1, 256, .inl (fun _ => 0))), (q11, .inl (c1, 64, .inl (fun _ => 0))), (q12, .inl (c1, 64, .inl (fun _ => 0))), (q13, .inl (c2, 32, .inl (fun _ => 0))), (q14, .inl (c1, 32, .inl (fun _ => 0))), (q15, .inl (c2, 32, .inl (fun _ => 0)))] := hD
  have hK : va_K D vwCl [(c1, .int), (c2, .boolean)] s := hK.sub [0, 1] rfl
  refine va_putF (D := D) (ci := 4) (v := .ref q15) (ty := .array .boolean) (C := RX4) (T := TX4) (N := 24) hx hb hts inX4 tyX4 okX4 nmX4 hown hK hP hD hS 0 rfl rfl 20 (by decide) (hts _ mG_235) (fun _ h9 => h9) rfl hin rfl (by decide +kernel) rfl rfl (Nat.le_of_ble_eq_true rfl) dX4_init_130 (fun H locs hP hD hS => ?_)
  replace hP : va_P D vwCl [(h0, .inr (4, [.int 0, .ref q1, .ref q2, .ref q3, .ref q4, .ref q5, .ref q6, .ref q7, .ref q8, .ref q9, .ref q10, .int 0, .int 0, .int 0, .ref q11, .ref q12, .int 0, .int 0, .ref q13, .ref q14, .ref q15, .null, .int 0, .null])), (q1, .inl (c1, 32, .inl (fun _ => 0))), (q2, .inl (c2, 256, .inl (fun _ => 0))), (q3, .inl (c2, 256, .inl (fun _ => 0))), (q4, .inl (c2, 256, .inl (fun _ => 0))), (q5, .inl (c1, 256, .inl (fun _ => 0))), (q6, .inl (c1, 256, .inl (fun _ => 0))), (q7, .inl (c1, 256, .inl (fun _ => 0))), (q8, .inl (c1, 256, .inl (fun _ => 0))), (q9, .inl (c1, 256, .inl (fun _ => 0))), (q10, .inl (c1, 256, .inl (fun _ => 0))), (q11, .inl (c1, 64, .inl (fun _ => 0))), (q12, .inl (c1, 64, .inl (fun _ => 0))), (q13, .inl (c2, 32, .inl (fun _ => 0))), (q14, .inl (c1, 32, .inl (fun _ => 0))), (q15, .inl (c2, 32, .inl (fun _ => 0)))] H := hP
  replace hD : va_D A [(h0, .inr (4, [.int 0, .ref q1, .ref q2, .ref q3, .ref q4, .ref q5, .ref q6, .ref q7, .ref q8, .ref q9, .ref q10, .int 0, .int 0, .int 0, .ref q11, .ref q12, .int 0, .int 0, .ref q13, .ref q14, .ref q15, .null, .int 0, .null])), (q1, .inl (c1, 32, .inl (fun _ => 0))), (q2, .inl (c2, 256, .inl (fun _ => 0))), (q3, .inl (c2, 256, .inl (fun _ => 0))), (q4, .inl (c2, 256, .inl (fun _ => 0))), (q5, .inl (c1, 256, .inl (fun _ => 0))), (q6, .inl (c1, 256, .inl (fun _ => 0))), (q7, .inl (c1, 256, .inl (fun _ => 0))), (q8, .inl (c1, 256, .inl (fun _ => 0))), (q9, .inl (c1, 256, .inl (fun _ => 0))), (q10, .inl (c1, 256, .inl (fun _ => 0))), (q11, .inl (c1, 64, .inl (fun _ => 0))), (q12, .inl (c1, 64, .inl (fun _ => 0))), (q13, .inl (c2, 32, .inl (fun _ => 0))), (q14, .inl (c1, 32, .inl (fun _ => 0))), (q15, .inl (c2, 32, .inl (fun _ => 0)))] := hD
  refine lv_aload_n hx hb dX4_init_133 rfl (lv_at hl 0 rfl) ?_
  refine lv_sipush (v := 8192) hx hb dX4_init_134 (by decide) ?_
  refine va_newa (atype := .byte) (ty := .byte) (a0 := (8192, .inl (fun _ => 0))) (N' := 8192) hx hb (hts _ mG_61) rfl hK hP hD hS hA (fun _ => rfl) (by decide) (by decide) (by decide) (Nat.le_of_ble_eq_true rfl) (Nat.le_of_ble_eq_true rfl) dX4_init_137 (fun q16 c16 H hK hP hD hS => ?_)
  replace hP : va_P D vwCl [(h0, .inr (4, [.int 0, .ref q1, .ref q2, .ref q3, .ref q4, .ref q5, .ref q6, .ref q7, .ref q8, .ref q9, .ref q10, .int 0, .int 0, .int 0, .ref q11, .ref q12, .int 0, .int 0, .ref q13, .ref q14, .ref q15, .null, .int 0, .null])), (q1, .inl (c1, 32, .inl (fun _ => 0))), (q2, .inl (c2, 256, .inl (fun _ => 0))), (q3, .inl (c2, 256, .inl (fun _ => 0))), (q4, .inl (c2, 256, .inl (fun _ => 0))), (q5, .inl (c1, 256, .inl (fun _ => 0))), (q6, .inl (c1, 256, .inl (fun _ => 0))), (q7, .inl (c1, 256, .inl (fun _ => 0))), (q8, .inl (c1, 256, .inl (fun _ => 0))), (q9, .inl (c1, 256, .inl (fun _ => 0))), (q10, .inl (c1, 256, .inl (fun _ => 0))), (q11, .inl (c1, 64, .inl (fun _ => 0))), (q12, .inl (c1, 64, .inl (fun _ => 0))), (q13, .inl (c2, 32, .inl (fun _ => 0))), (q14, .inl (c1, 32, .inl (fun _ => 0))), (q15, .inl (c2, 32, .inl (fun _ => 0))), (q16, .inl (c16, 8192, .inl (fun _ => 0)))] H := hP
  replace hD : va_D A [(h0, .inr (4, [.int 0, .ref q1, .ref q2, .ref q3, .ref q4, .ref q5, .ref q6, .ref q7, .ref q8, .ref q9, .ref q10, .int 0, .int 0, .int 0, .ref q11, .ref q12, .int 0, .int 0, .ref q13, .ref q14, .ref q15, .null, .int 0, .null])), (q1, .inl (c1, 32, .inl (fun _ => 0))), (q2, .inl (c2, 256, .inl (fun _ => 0))), (q3, .inl (c2, 256, .inl (fun _ => 0))), (q4, .inl (c2, 256, .inl (fun _ => 0))), (q5, .inl (c1, 256, .inl (fun _ => 0))), (q6, .inl (c1, 256, .inl (fun _ => 0))), (q7, .inl (c1, 256, .inl (fun _ => 0))), (q8, .inl (c1, 256, .inl (fun _ => 0))), (q9, .inl (c1, 256, .inl (fun _ => 0))), (q10, .inl (c1, 256, .inl (fun _ => 0))), (q11, .inl (c1, 64, .inl (fun _ => 0))), (q12, .inl (c1, 64, .inl (fun _ => 0))), (q13, .inl (c2, 32, .inl (fun _ => 0))), (q14, .inl (c1, 32, .inl (fun _ => 0))), (q15, .inl (c2, 32, .inl (fun _ => 0))), (q16, .inl (c16, 8192, .inl (fun _ => 0)))] := hD
  have hK : va_K D vwCl [(c1, .int), (c2, .boolean), (c16, .byte)] s := hK
  refine W.widen (k := 16) (n := 10752) (by omega) (by omega) ?_
  refine va_putF (D := D) (ci := 4) (v := .ref q16) (ty := .array .byte) (C := RX4) (T := TX4) (N := 24) hx hb hts inX4 tyX4 okX4 nmX4 hown hK hP hD hS 0 rfl rfl 21 (by decide) (hts _ mG_236) (fun _ h9 => h9) rfl hin rfl (by decide +kernel) rfl rfl (Nat.le_of_ble_eq_true rfl) dX4_init_139 (fun H locs hP hD hS => ?_)
  replace hP : va_P D vwCl [(h0, .inr (4, [.int 0, .ref q1, .ref q2, .ref q3, .ref q4, .ref q5, .ref q6, .ref q7, .ref q8, .ref q9, .ref q10, .int 0, .int 0, .int 0, .ref q11, .ref q12, .int 0, .int 0, .ref q13, .ref q14, .ref q15, .ref q16, .int 0, .null])), (q1, .inl (c1, 32, .inl (fun _ => 0))), (q2, .inl (c2, 256, .inl (fun _ => 0))), (q3, .inl (c2, 256, .inl (fun _ => 0))), (q4, .inl (c2, 256, .inl (fun _ => 0))), (q5, .inl (c1, 256, .inl (fun _ => 0))), (q6, .inl (c1, 256, .inl (fun _ => 0))), (q7, .inl (c1, 256, .inl (fun _ => 0))), (q8, .inl (c1, 256, .inl (fun _ => 0))), (q9, .inl (c1, 256, .inl (fun _ => 0))), (q10, .inl (c1, 256, .inl (fun _ => 0))), (q11, .inl (c1, 64, .inl (fun _ => 0))), (q12, .inl (c1, 64, .inl (fun _ => 0))), (q13, .inl (c2, 32, .inl (fun _ => 0))), (q14, .inl (c1, 32, .inl (fun _ => 0))), (q15, .inl (c2, 32, .inl (fun _ => 0))), (q16, .inl (c16, 8192, .inl (fun _ => 0)))] H := hP
  replace hD : va_D A [(h0, .inr (4, [.int 0, .ref q1, .ref q2, .ref q3, .ref q4, .ref q5, .ref q6, .ref q7, .ref q8, .ref q9, .ref q10, .int 0, .int 0, .int 0, .ref q11, .ref q12, .int 0, .int 0, .ref q13, .ref q14, .ref q15, .ref q16, .int 0, .null])), (q1, .inl (c1, 32, .inl (fun _ => 0))), (q2, .inl (c2, 256, .inl (fun _ => 0))), (q3, .inl (c2, 256, .inl (fun _ => 0))), (q4, .inl (c2, 256, .inl (fun _ => 0))), (q5, .inl (c1, 256, .inl (fun _ => 0))), (q6, .inl (c1, 256, .inl (fun _ => 0))), (q7, .inl (c1, 256, .inl (fun _ => 0))), (q8, .inl (c1, 256, .inl (fun _ => 0))), (q9, .inl (c1, 256, .inl (fun _ => 0))), (q10, .inl (c1, 256, .inl (fun _ => 0))), (q11, .inl (c1, 64, .inl (fun _ => 0))), (q12, .inl (c1, 64, .inl (fun _ => 0))), (q13, .inl (c2, 32, .inl (fun _ => 0))), (q14, .inl (c1, 32, .inl (fun _ => 0))), (q15, .inl (c2, 32, .inl (fun _ => 0))), (q16, .inl (c16, 8192, .inl (fun _ => 0)))] := hD
  refine lv_aload_n hx hb dX4_init_142 rfl (lv_at hl 0 rfl) ?_
  refine lv_sipush (v := 256) hx hb dX4_init_143 (by decide) ?_
  refine va_newa (atype := .byte) (ty := .byte) (a0 := (256, .inl (fun _ => 0))) (N' := 256) hx hb (hts _ mG_61) rfl hK hP hD hS hA (fun _ => rfl) (by decide) (by decide) (by decide) (Nat.le_of_ble_eq_true rfl) (Nat.le_of_ble_eq_true rfl) dX4_init_146 (fun q17 c17 H hK hP hD hS => ?_)
  replace hP : va_P D vwCl [(h0, .inr (4, [.int 0, .ref q1, .ref q2, .ref q3, .ref q4, .ref q5, .ref q6, .ref q7, .ref q8, .ref q9, .ref q10, .int 0, .int 0, .int 0, .ref q11, .ref q12, .int 0, .int 0, .ref q13, .ref q14, .ref q15, .ref q16, .int 0, .null])), (q1, .inl (c1, 32, .inl (fun _ => 0))), (q2, .inl (c2, 256, .inl (fun _ => 0))), (q3, .inl (c2, 256, .inl (fun _ => 0))), (q4, .inl (c2, 256, .inl (fun _ => 0))), (q5, .inl (c1, 256, .inl (fun _ => 0))), (q6, .inl (c1, 256, .inl (fun _ => 0))), (q7, .inl (c1, 256, .inl (fun _ => 0))), (q8, .inl (c1, 256, .inl (fun _ => 0))), (q9, .inl (c1, 256, .inl (fun _ => 0))), (q10, .inl (c1, 256, .inl (fun _ => 0))), (q11, .inl (c1, 64, .inl (fun _ => 0))), (q12, .inl (c1, 64, .inl (fun _ => 0))), (q13, .inl (c2, 32, .inl (fun _ => 0))), (q14, .inl (c1, 32, .inl (fun _ => 0))), (q15, .inl (c2, 32, .inl (fun _ => 0))), (q16, .inl (c16, 8192, .inl (fun _ => 0))), (q17, .inl (c17, 256, .inl (fun _ => 0)))] H := hP
  replace hD : va_D A [(h0, .inr (4, [.int 0, .ref q1, .ref q2, .ref q3, .ref q4, .ref q5, .ref q6, .ref q7, .ref q8, .ref q9, .ref q10, .int 0, .int 0, .int 0, .ref q11, .ref q12, .int 0, .int 0, .ref q13, .ref q14, .ref q15, .ref q16, .int 0, .null])), (q1, .inl (c1, 32, .inl (fun _ => 0))), (q2, .inl (c2, 256, .inl (fun _ => 0))), (q3, .inl (c2, 256, .inl (fun _ => 0))), (q4, .inl (c2, 256, .inl (fun _ => 0))), (q5, .inl (c1, 256, .inl (fun _ => 0))), (q6, .inl (c1, 256, .inl (fun _ => 0))), (q7, .inl (c1, 256, .inl (fun _ => 0))), (q8, .inl (c1, 256, .inl (fun _ => 0))), (q9, .inl (c1, 256, .inl (fun _ => 0))), (q10, .inl (c1, 256, .inl (fun _ => 0))), (q11, .inl (c1, 64, .inl (fun _ => 0))), (q12, .inl (c1, 64, .inl (fun _ => 0))), (q13, .inl (c2, 32, .inl (fun _ => 0))), (q14, .inl (c1, 32, .inl (fun _ => 0))), (q15, .inl (c2, 32, .inl (fun _ => 0))), (q16, .inl (c16, 8192, .inl (fun _ => 0))), (q17, .inl (c17, 256, .inl (fun _ => 0)))] := hD
  have hK : va_K D vwCl [(c1, .int), (c2, .boolean), (c16, .byte), (c17, .byte)] s := hK
  refine W.widen (k := 17) (n := 11008) (by omega) (by omega) ?_
  obtain rfl : c16 = c17 := gw_cidB hK 2 3 rfl rfl
  replace hP : va_P D vwCl [(h0, .inr (4, [.int 0, .ref q1, .ref q2, .ref q3, .ref q4, .ref q5, .ref q6, .ref q7, .ref q8, .ref q9, .ref q10, .int 0, .int 0, .int 0, .ref q11, .ref q12, .int 0, .int 0, .ref q13, .ref q14, .ref q15, .ref q16, .int 0, .null])), (q1, .inl (c1, 32, .inl (fun _ => 0))), (q2, .inl (c2, 256, .inl (fun _ => 0))), (q3, .inl (c2, 256, .inl (fun _ => 0))), (q4, .inl (c2, 256, .inl (fun _ => 0))), (q5, .inl (c1, 256, .inl (fun _ => 0))), (q6, .inl (c1, 256, .inl (fun _ => 0))), (q7, .inl (c1, 256, .inl (fun _ => 0))), (q8, .inl (c1, 256, .inl (fun _ => 0))), (q9, .inl (c1, 256, .inl (fun _ => 0))), (q10, .inl (c1, 256, .inl (fun _ => 0))), (q11, .inl (c1, 64, .inl (fun _ => 0))), (q12, .inl (c1, 64, .inl (fun _ => 0))), (q13, .inl (c2, 32, .inl (fun _ => 0))), (q14, .inl (c1, 32, .inl (fun _ => 0))), (q15, .inl (c2, 32, .inl (fun _ => 0))), (q16, .inl (c16, 8192, .inl (fun _ => 0))), (q17, .inl (c16, 256, .inl (fun _ => 0)))] H := hP
  replace hD : va_D A [(h0, .inr (4, [.int 0, .ref q1, .ref q2, .ref q3, .ref q4, .ref q5, .ref q6, .ref q7, .ref q8, .ref q9, .ref q10, .int 0, .int 0, .int 0, .ref q11, .ref q12, .int 0, .int 0, .ref q13, .ref q14, .ref q15, .ref q16, .int 0, .null])), (q1, .inl (c1, 32, .inl (fun _ => 0))), (q2, .inl (c2, 256, .inl (fun _ => 0))), (q3, .inl (c2, 256, .inl (fun _ => 0))), (q4, .inl (c2, 256, .inl (fun _ => 0))), (q5, .inl (c1, 256, .inl (fun _ => 0))), (q6, .inl (c1, 256, .inl (fun _ => 0))), (q7, .inl (c1, 256, .inl (fun _ => 0))), (q8, .inl (c1, 256, .inl (fun _ => 0))), (q9, .inl (c1, 256, .inl (fun _ => 0))), (q10, .inl (c1, 256, .inl (fun _ => 0))), (q11, .inl (c1, 64, .inl (fun _ => 0))), (q12, .inl (c1, 64, .inl (fun _ => 0))), (q13, .inl (c2, 32, .inl (fun _ => 0))), (q14, .inl (c1, 32, .inl (fun _ => 0))), (q15, .inl (c2, 32, .inl (fun _ => 0))), (q16, .inl (c16, 8192, .inl (fun _ => 0))), (q17, .inl (c16, 256, .inl (fun _ => 0)))] := hD
  have hK : va_K D vwCl [(c1, .int), (c2, .boolean), (c16, .byte)] s := hK.sub [0, 1, 2] rfl
  refine va_putF (D := D) (ci := 4) (v := .ref q17) (ty := .array .byte) (C := RX4) (T := TX4) (N := 24) hx hb hts inX4 tyX4 okX4 nmX4 hown hK hP hD hS 0 rfl rfl 23 (by decide) (hts _ mG_238) (fun _ h9 => h9) rfl hin rfl (by decide +kernel) rfl rfl (Nat.le_of_ble_eq_true rfl) dX4_init_148 (fun H locs hP hD hS => ?_)
  replace hP : va_P D vwCl [(h0, .inr (4, [.int 0, .ref q1, .ref q2, .ref q3, .ref q4, .ref q5, .ref q6, .ref q7, .ref q8, .ref q9, .ref q10, .int 0, .int 0, .int 0, .ref q11, .ref q12, .int 0, .int 0, .ref q13, .ref q14, .ref q15, .ref q16, .int 0, .ref q17])), (q1, .inl (c1, 32, .inl (fun _ => 0))), (q2, .inl (c2, 256, .inl (fun _ => 0))), (q3, .inl (c2, 256, .inl (fun _ => 0))), (q4, .inl (c2, 256, .inl (fun _ => 0))), (q5, .inl (c1, 256, .inl (fun _ => 0))), (q6, .inl (c1, 256, .inl (fun _ => 0))), (q7, .inl (c1, 256, .inl (fun _ => 0))), (q8, .inl (c1, 256, .inl (fun _ => 0))), (q9, .inl (c1, 256, .inl (fun _ => 0))), (q10, .inl (c1, 256, .inl (fun _ => 0))), (q11, .inl (c1, 64, .inl (fun _ => 0))), (q12, .inl (c1, 64, .inl (fun _ => 0))), (q13, .inl (c2, 32, .inl (fun _ => 0))), (q14, .inl (c1, 32, .inl (fun _ => 0))), (q15, .inl (c2, 32, .inl (fun _ => 0))), (q16, .inl (c16, 8192, .inl (fun _ => 0))), (q17, .inl (c16, 256, .inl (fun _ => 0)))] H := hP
  replace hD : va_D A [(h0, .inr (4, [.int 0, .ref q1, .ref q2, .ref q3, .ref q4, .ref q5, .ref q6, .ref q7, .ref q8, .ref q9, .ref q10, .int 0, .int 0, .int 0, .ref q11, .ref q12, .int 0, .int 0, .ref q13, .ref q14, .ref q15, .ref q16, .int 0, .ref q17])), (q1, .inl (c1, 32, .inl (fun _ => 0))), (q2, .inl (c2, 256, .inl (fun _ => 0))), (q3, .inl (c2, 256, .inl (fun _ => 0))), (q4, .inl (c2, 256, .inl (fun _ => 0))), (q5, .inl (c1, 256, .inl (fun _ => 0))), (q6, .inl (c1, 256, .inl (fun _ => 0))), (q7, .inl (c1, 256, .inl (fun _ => 0))), (q8, .inl (c1, 256, .inl (fun _ => 0))), (q9, .inl (c1, 256, .inl (fun _ => 0))), (q10, .inl (c1, 256, .inl (fun _ => 0))), (q11, .inl (c1, 64, .inl (fun _ => 0))), (q12, .inl (c1, 64, .inl (fun _ => 0))), (q13, .inl (c2, 32, .inl (fun _ => 0))), (q14, .inl (c1, 32, .inl (fun _ => 0))), (q15, .inl (c2, 32, .inl (fun _ => 0))), (q16, .inl (c16, 8192, .inl (fun _ => 0))), (q17, .inl (c16, 256, .inl (fun _ => 0)))] := hD
  obtain ⟨u, hu⟩ : ∃ u : rf_X, u = (D, (fun k => [h0, q1, q2, q3, q4, q5, q6, q7, q8, q9, q10, q11, q12, q13, q14, q15, q16, q17].getD k 0), c1, c2, c16) := ⟨_, rfl⟩
  have hP8 : va_P D vwCl (gw_W 18 u.2.1 (rf_c u (fun _ _ => 0) (fun k => k))) H := by rw [hu]; exact hP
  have hD8 : va_D A (gw_W 18 u.2.1 (rf_c u (fun _ _ => 0) (fun k => k))) := by rw [hu]; exact hD
  have hK8 : va_K D vwCl (rf_ty u) s := by rw [hu]; exact hK.sub [0, 1, 2] rfl
  have hj := gw_inj_of hD8
  have h00 : u.2.1 0 = h0 := by rw [hu]; rfl
  have hfr : ∀ k, 0 < k → k < 18 → s.heap.size ≤ u.2.1 k := fun k k0 k1 => by
    have h1 := gw_A_of hD8 k k1
    rw [← hAe] at h1
    rcases h1 with ⟨x, z, hz⟩ | h1
    · have h2 := List.mem_of_getElem? hz
      rw [List.mem_singleton] at h2
      have h3 : u.2.1 k = u.2.1 0 := (congrArg Prod.fst h2).trans h00.symm
      have := hj k 0 k1 (by omega) h3; omega
    · exact h1
  exact W.vret hx hb hr (fun t ht hW => ⟨⟨u, rfl, ⟨by rw [hu], h00, hj, hfr⟩, by rw [ht]; exact hP8, va_K.moved hW.alike hK8⟩, hS.F ht⟩) hS.2.2 dX4_init_151
end
section
/-! PART 21: the class's own constructor -/
variable {l : Launch}
def wl_d0 : Nat → Nat → Int32 := fun k j => if 24 ≤ k ∧ k < 56 ∧ j = 0 then 1 else 0
/-- the cells in the order in which they are made: 0 the list, 1 parameters, 2 limits, 3 events, 4 the queue, 5, 6 its arrays, 7 text, then 16 Limits, then 32 times an Event and its bytes -/
def in_c (α : Nat → Nat) (cI cB cL cE : ClassId) (F G : Nat → Option Nat) (k : Nat) : va_E :=
  if k = 0 then .inr (3, [.ref (α 1), .ref (α 2), .int 0, .int 0, .int 0, .ref (α 3), .ref (α 4), .int 0, .int 0, .ref (α 7), .int 0])
  else if k = 1 then .inl (cI, 32, .inl (fun _ => 0))
  else if k = 2 then .inl (cL, 16, .inr (.inr (.inr (.inr F))))
  else if k = 3 then .inl (cE, 32, .inr (.inr (.inr (.inr G))))
  else if k = 4 then .inr (2, [.ref (α 5), .ref (α 6), .int 0, .int 0])
  else if k = 5 then .inl (cI, 64, .inl (fun _ => 0))
  else if k = 6 then .inl (cI, 64, .inl (fun _ => 0))
  else if k = 7 then .inl (cB, 256, .inl (fun _ => 0))
  else if k < 24 then .inr (1, [.int 0, .int 0, .int 0, .int 0, .int 0, .int 0, .int 0, .int 0, .int 0])
  else if k % 2 = 0 then .inr (0, [.int 1, .ref (α (k + 1)), .int 0, .int 0])
  else .inl (cB, 256, .inl (fun _ => 0))
section INC
variable {α : Nat → Nat} {cI cB cL cE : ClassId} {F G : Nat → Option Nat}
theorem in_c0 : in_c α cI cB cL cE F G 0 = .inr (3, [.ref (α 1), .ref (α 2), .int 0, .int 0, .int 0, .ref (α 3), .ref (α 4), .int 0, .int 0, .ref (α 7), .int 0]) := rfl
theorem in_c2 : in_c α cI cB cL cE F G 2 = .inl (cL, 16, .inr (.inr (.inr (.inr F)))) := rfl
theorem in_c3 : in_c α cI cB cL cE F G 3 = .inl (cE, 32, .inr (.inr (.inr (.inr G)))) := rfl
theorem in_cL {k : Nat} (h1 : 8 ≤ k) (h2 : k < 24) : in_c α cI cB cL cE F G k = .inr (1, [.int 0, .int 0, .int 0, .int 0, .int 0, .int 0, .int 0, .int 0, .int 0]) := by
  unfold in_c
  rw [if_neg (by omega), if_neg (by omega), if_neg (by omega), if_neg (by omega), if_neg (by omega), if_neg (by omega), if_neg (by omega), if_neg (by omega), if_pos h2]
theorem in_cE {k : Nat} (h1 : 24 ≤ k) (h2 : k % 2 = 0) : in_c α cI cB cL cE F G k = .inr (0, [.int 1, .ref (α (k + 1)), .int 0, .int 0]) := by
  unfold in_c
  rw [if_neg (by omega), if_neg (by omega), if_neg (by omega), if_neg (by omega), if_neg (by omega), if_neg (by omega), if_neg (by omega), if_neg (by omega), if_neg (by omega), if_pos h2]
theorem in_cB {k : Nat} (h1 : 24 ≤ k) (h2 : ¬ k % 2 = 0) : in_c α cI cB cL cE F G k = .inl (cB, 256, .inl (fun _ => 0)) := by
  unfold in_c
  rw [if_neg (by omega), if_neg (by omega), if_neg (by omega), if_neg (by omega), if_neg (by omega), if_neg (by omega), if_neg (by omega), if_neg (by omega), if_neg (by omega), if_neg h2]
/-- other addresses beyond n: the cells below stay -/
theorem in_c_al {α' : Nat → Nat} {n : Nat} (hn : 8 ≤ n) (hn2 : 24 ≤ n → n % 2 = 0) (ha : ∀ k, k < n → α' k = α k) {k : Nat} (hk : k < n) : in_c α' cI cB cL cE F G k = in_c α cI cB cL cE F G k := by
  by_cases h8 : k < 8
  · unfold in_c
    rw [ha 1 (by omega), ha 2 (by omega), ha 3 (by omega), ha 4 (by omega), ha 5 (by omega), ha 6 (by omega), ha 7 (by omega)]
    rcases (show k = 0 ∨ k = 1 ∨ k = 2 ∨ k = 3 ∨ k = 4 ∨ k = 5 ∨ k = 6 ∨ k = 7 by omega) with rfl | rfl | rfl | rfl | rfl | rfl | rfl | rfl <;> rfl
  · by_cases h24 : k < 24
    · rw [in_cL (by omega) h24, in_cL (by omega) h24]
    · by_cases h2 : k % 2 = 0
      · have := hn2 (by omega)
        rw [in_cE (by omega) h2, in_cE (by omega) h2, ha (k + 1) (by omega)]
      · rw [in_cB (by omega) h2, in_cB (by omega) h2]
theorem in_c_F {F' : Nat → Option Nat} : ∀ k, k ≠ 2 → in_c α cI cB cL cE F' G k = in_c α cI cB cL cE F G k := by
  intro k h
  unfold in_c
  rw [if_neg h, if_neg h]
theorem in_c_G {G' : Nat → Option Nat} : ∀ k, k ≠ 3 → in_c α cI cB cL cE F G' k = in_c α cI cB cL cE F G k := by
  intro k h
  unfold in_c
  rw [if_neg h, if_neg h]
end INC
theorem gw_last {D : va_G} {cl : List vw_C} {ws : va_W} {x : Nat × va_E} {H : Heap} (hP : va_P D cl (ws ++ [x]) H) : va_P D cl [x] H := fun k z hk => by
  have h1 := List.mem_of_getElem? hk
  rw [List.mem_singleton] at h1
  rw [h1]
  exact hP ws.length x (by simp)
theorem gw_lastA {A : Nat → Prop} {ws : va_W} {x : Nat × va_E} {H0 H : Heap} {locs : List Loc} (hD : va_D A (ws ++ [x])) (hS : va_S A H0 H locs) (hA : ∀ q, H0.size ≤ q → A q) : ∀ q, va_A [x] H.size q → A q := by
  intro q h
  rcases h with ⟨k, e, h⟩ | h
  · have h1 := List.mem_of_getElem? h
    rw [List.mem_singleton] at h1
    have h2 := hD.2 ws.length x (by simp)
    rw [← h1] at h2
    exact h2
  · exact hA q (Nat.le_trans hS.1 h)
/-- behind a call whose world was the last cell -/
theorem gw_join1 {A : Nat → Prop} {D : va_G} {cl : List vw_C} {ws w1 : va_W} {x : Nat × va_E} {H H1 : Heap} (hP : va_P D cl (ws ++ [x]) H) (hD : va_D A (ws ++ [x])) (hk : ∀ q : Nat, q < H.size → ¬ va_A [x] H.size q → H1[q]? = H[q]?) (hF : ∀ q, va_A [x] H.size q → A q) (hP1 : va_P D cl w1 H1) (hD1 : va_D (va_A [x] H.size) w1) : va_P D cl (ws ++ w1) H1 ∧ va_D A (ws ++ w1) := by
  have old : ∀ (k : Nat) (q : Nat × va_E), ws[k]? = some q → (ws ++ [x])[k]? = some q := fun k q h => by
    rw [List.getElem?_append_left (List.getElem?_eq_some_iff.mp h).1]; exact h
  have apart : ∀ (k : Nat) (q : Nat × va_E), ws[k]? = some q → q.1 < H.size ∧ ¬ va_A [x] H.size q.1 := by
    intro k q h
    have hl := (hP k q (old k q h)).lt
    refine ⟨hl, fun z => ?_⟩
    rcases z with ⟨k2, e, z⟩ | z
    · have h1 := List.mem_of_getElem? z
      rw [List.mem_singleton] at h1
      have h2 := hD.1 k ws.length q x (old k q h) (by simp) (show q.1 = x.1 by rw [← h1])
      have := (List.getElem?_eq_some_iff.mp h).1
      omega
    · omega
  refine ⟨va_P.app (fun k q h => ?_) hP1, va_D.app ⟨fun i j p q hi hj e => hD.1 i j p q (old i p hi) (old j q hj) e, fun k q h => hD.2 k q (old k q h)⟩ (hD1.weaken (fun k q _ h => hF q.1 h)) (fun i j p q hi hj e => ?_)⟩
  · obtain ⟨g1, g2⟩ := apart k q h
    exact (hP k q (old k q h)).kept (hk q.1 g1 g2)
  · exact (apart i p hi).2 (by rw [e]; exact hD1.2 j q hj)
theorem gw_push2 {n : Nat} {α : Nat → Nat} {cf : Nat → va_E} {q q2 : Nat} {e e2 : va_E} : gw_W n α cf ++ [(q, e), (q2, e2)] = gw_W (n + 1 + 1) (va_up (va_up α n q) (n + 1) q2) (va_up (va_up cf n e) (n + 1) e2) := by
  rw [← gw_push, ← gw_push, List.append_assoc]
  rfl
theorem gw_refs {cA : ClassId} {N : Nat} {f g : Nat → Option Nat} (h : ∀ j, j < N → f j = g j) : vp_cell cA (N, .inr (.inr (.inr (.inr f)))) = vp_cell cA (N, .inr (.inr (.inr (.inr g)))) := by
  rw [vp_cell_q, vp_cell_q]
  unfold arrV
  congr 1
  apply Array.ext
  · simp
  · intro i h1 h2
    simp only [Array.getElem_ofFn]
    rw [h i (by simpa using h1)]
/-- from the order of making to the class's own keys -/
def in_s (k : Nat) : Nat := if k = 5 then 7 else if k = 6 then 5 else if k = 7 then 6 else if k < 24 then k else if k < 56 then 24 + 2 * (k - 24) else 25 + 2 * (k - 56)
theorem in_s_lt {k : Nat} (h : k < 88) : in_s k < 88 := by
  unfold in_s
  (repeat' split) <;> omega
theorem in_s_inj {i j : Nat} (hi : i < 88) (hj : j < 88) (h : in_s i = in_s j) : i = j := by
  unfold in_s at h
  (repeat' split at h) <;> omega
theorem in_s_pos {k : Nat} (h : 0 < k) (h2 : k < 88) : 0 < in_s k := by
  unfold in_s
  (repeat' split) <;> omega
theorem in_fin {D : va_G} {α : Nat → Nat} {cI cB cL cE : ClassId} {F G : Nat → Option Nat} {H : Heap} (hP : va_P D vwCl (gw_W 88 α (in_c α cI cB cL cE F G)) H) (hF : ∀ j, j < 16 → F j = some (α (8 + j))) (hG : ∀ j, j < 32 → G j = some (α (24 + 2 * j))) : va_P D vwCl (wl_ws (D, (fun k => α (in_s k)), cI, cB, cL, cE) wl_d0 (fun k => k)) H := by
  intro k q hk
  obtain ⟨h1, rfl⟩ := gw_of hk
  have hz := hP _ _ (gw_get? (in_s_lt h1))
  by_cases h8 : k < 8
  · rcases (show k = 0 ∨ k = 1 ∨ k = 2 ∨ k = 3 ∨ k = 4 ∨ k = 5 ∨ k = 6 ∨ k = 7 by omega) with rfl | rfl | rfl | rfl | rfl | rfl | rfl | rfl
    · exact hz
    · exact hz
    · have h3 : H[α 2]? = some (vp_cell cL (16, .inr (.inr (.inr (.inr F))))) := hz
      show H[α 2]? = some (vp_cell cL (16, .inr (.inr (.inr (.inr (fun i => some (α (in_s (8 + i)))))))))
      rw [h3, gw_refs (g := fun i => some (α (in_s (8 + i)))) (fun j hj => by rw [hF j hj]; unfold in_s; rw [if_neg (by omega), if_neg (by omega), if_neg (by omega), if_pos (by omega)])]
    · have h3 : H[α 3]? = some (vp_cell cE (32, .inr (.inr (.inr (.inr G))))) := hz
      show H[α 3]? = some (vp_cell cE (32, .inr (.inr (.inr (.inr (fun i => some (α (in_s (24 + i)))))))))
      rw [h3, gw_refs (g := fun i => some (α (in_s (24 + i)))) (fun j hj => by rw [hG j hj]; unfold in_s; rw [if_neg (by omega), if_neg (by omega), if_neg (by omega), if_neg (by omega), if_pos (by omega), show 24 + j - 24 = j by omega])]
    · exact hz
    · exact hz
    · exact hz
    · exact hz
  · by_cases h24 : k < 24
    · have e1 : in_s k = k := by unfold in_s; rw [if_neg (by omega), if_neg (by omega), if_neg (by omega), if_pos h24]
      obtain ⟨i, rfl⟩ : ∃ i, k = 8 + i := ⟨k - 8, by omega⟩
      rw [e1] at hz
      rw [in_cL (by omega) h24] at hz
      show va_at D vwCl (α (in_s (8 + i)), wl_c _ wl_d0 (fun k => k) (8 + i)) H
      rw [e1, wl_cL (by omega)]
      have z0 : ∀ j, wl_d0 (8 + i) j = 0 := fun j => by unfold wl_d0; rw [if_neg (by omega)]
      rw [z0, z0, z0, z0, z0, z0, z0, z0, z0]
      exact hz
    · by_cases h56 : k < 56
      · obtain ⟨i, rfl⟩ : ∃ i, k = 24 + i := ⟨k - 24, by omega⟩
        have e1 : in_s (24 + i) = 24 + 2 * i := by unfold in_s; rw [if_neg (by omega), if_neg (by omega), if_neg (by omega), if_neg (by omega), if_pos (by omega), show 24 + i - 24 = i by omega]
        have e2 : in_s (56 + i) = 24 + 2 * i + 1 := by unfold in_s; rw [if_neg (by omega), if_neg (by omega), if_neg (by omega), if_neg (by omega), if_neg (by omega), show 56 + i - 56 = i by omega]; omega
        rw [e1] at hz
        rw [in_cE (by omega) (by omega)] at hz
        show va_at D vwCl (α (in_s (24 + i)), wl_c _ wl_d0 (fun k => k) (24 + i)) H
        rw [e1, wl_cE (by omega)]
        have z0 : wl_d0 (24 + i) 0 = 1 := by unfold wl_d0; rw [if_pos (by omega)]
        have z2 : wl_d0 (24 + i) 2 = 0 := by unfold wl_d0; rw [if_neg (by omega)]
        have z3 : wl_d0 (24 + i) 3 = 0 := by unfold wl_d0; rw [if_neg (by omega)]
        rw [z0, z2, z3]
        show va_at D vwCl (α (24 + 2 * i), .inr (0, [.int 1, .ref (α (in_s (56 + i))), .int 0, .int 0])) H
        rw [e2]
        exact hz
      · obtain ⟨i, rfl⟩ : ∃ i, k = 56 + i := ⟨k - 56, by omega⟩
        have e2 : in_s (56 + i) = 25 + 2 * i := by unfold in_s; rw [if_neg (by omega), if_neg (by omega), if_neg (by omega), if_neg (by omega), if_neg (by omega), show 56 + i - 56 = i by omega]
        rw [e2] at hz
        rw [in_cB (by omega) (by omega)] at hz
        show va_at D vwCl (α (in_s (56 + i)), wl_c _ wl_d0 (fun k => k) (56 + i)) H
        rw [e2, wl_cB (by omega)]
        have z0 : wl_d0 (56 + i) = fun _ => 0 := funext (fun j => by unfold wl_d0; rw [if_neg (by omega)])
        rw [z0]
        exact hz
set_option maxHeartbeats 4000000 in
set_option maxRecDepth 100000 in
theorem c_List_init (D : va_G) (h0 sz : Nat) : Met l yX3_init wsX3_init ({ frames := 2, cells := 87, slots := 8932, locals := 32 }) (va_Pc [.ref h0] (fun U => U.heap.size = sz ∧ va_P D vwCl [(h0, .inr (3, [.null, .null, .int 0, .int 0, .int 0, .null, .null, .int 0, .int 0, .null, .int 0]))] U.heap ∧ va_K D vwCl [] U ∧ wl_N U ∧ va_AO "WatchList$Limit" U ∧ va_AO "WatchList$Event" U)) (va_Qv (fun u : wl_X => u.1 = D ∧ u.2.1 0 = h0 ∧ gw_inj 88 u.2.1 ∧ ∀ k, 0 < k → k < 88 → sz ≤ u.2.1 k) (fun u t => va_P D vwCl (wl_ws u wl_d0 (fun k => k)) t.heap ∧ va_K D vwCl (wl_ty u) t) (va_A [(h0, .inr (3, [.null, .null, .int 0, .int 0, .int 0, .null, .null, .int 0, .int 0, .null, .int 0]))] sz)) 87 8932 (va_A [(h0, .inr (3, [.null, .null, .int 0, .int 0, .int 0, .null, .null, .int 0, .int 0, .null, .int 0]))] sz) := by
  refine Met.ofW (cc := cX3_init) (maxL := 2) (ret := none) (by decide) rfl ?_
  intro p e s m args below meth c s₁ B hml hv
  obtain ⟨rfl, hsz, hP, hK, hN, hO1, hO2⟩ := hv
  have hx := B.exec
  have hb := B.bytes
  have hr := B.returns
  have hts : ∀ w ∈ gG, w.before _ s = true := fun w h => atoms_spec (ws := wsX3_init) B.pre w (List.mem_cons_of_mem _ h)
  have hown : s.vm.findClass RX3 = some m.cls := findClass_of_methodNamed B.named
  have hlocks := B.notSynchronized
  have hin : meth.name = "<init>" := (name_of_methodNamed B.named B.method).1
  have hl := lv_entry ([.ref h0]) (n := 2) (Nat.le_of_ble_eq_true rfl)
  rw [lg_entry_eq]
  generalize (lg_sl ([.ref h0]) ++ List.replicate (2 - (lg_sl ([.ref h0])).length) Slot.unset).toArray = ls at hl ⊢
  have hl : lv_has ls 2 [(0, .ref h0)] := hl
  subst hsz
  have hD := gw_D1 (A := va_A [(h0, .inr (3, [.null, .null, .int 0, .int 0, .int 0, .null, .null, .int 0, .int 0, .null, .int 0]))] s.heap.size) (a := h0) (e := .inr (3, [.null, .null, .int 0, .int 0, .int 0, .null, .null, .int 0, .int 0, .null, .int 0])) (Or.inl ⟨0, _, rfl⟩)
  generalize hAe : va_A [(h0, .inr (3, [.null, .null, .int 0, .int 0, .int 0, .null, .null, .int 0, .int 0, .null, .int 0]))] s.heap.size = A at hD ⊢
  have hA : ∀ q : Nat, s.heap.size ≤ q → A q := fun q h => by rw [← hAe]; exact Or.inr h
  have hS : va_S A s.heap s.heap [] := va_S.rf
  have hP : va_P D vwCl [(h0, .inr (3, [.null, .null, .int 0, .int 0, .int 0, .null, .null, .int 0, .int 0, .null, .int 0]))] s.heap := hP
  refine lv_aload_n hx hb dX3_init_0 rfl (lv_at hl 0 rfl) ?_
  refine W.objInit hx hb hown (hts _ mG_33) (hts _ mG_34) (hts _ mG_35) rfl (by rw [hml]; exact hl.1) rfl dX3_init_1 (Nat.le_of_ble_eq_true rfl) (Nat.le_of_ble_eq_true rfl) ?_
  refine W.eq (g2 := F0 m 4 ls []) rfl ?_
  refine lv_aload_n hx hb dX3_init_4 rfl (lv_at hl 0 rfl) ?_
  refine lv_bipush (v := 32) hx hb dX3_init_5 (by decide) ?_
  refine va_newa (atype := .int) (ty := .int) (a0 := (32, .inl (fun _ => 0))) (N' := 32) hx hb (hts _ mG_47) rfl hK hP hD hS hA (fun _ => rfl) (by decide) (by decide) (by decide) (Nat.le_of_ble_eq_true rfl) (Nat.le_of_ble_eq_true rfl) dX3_init_7 (fun q1 c1 H hK hP hD hS => ?_)
  replace hP : va_P D vwCl [(h0, .inr (3, [.null, .null, .int 0, .int 0, .int 0, .null, .null, .int 0, .int 0, .null, .int 0])), (q1, .inl (c1, 32, .inl (fun _ => 0)))] H := hP
  replace hD : va_D A [(h0, .inr (3, [.null, .null, .int 0, .int 0, .int 0, .null, .null, .int 0, .int 0, .null, .int 0])), (q1, .inl (c1, 32, .inl (fun _ => 0)))] := hD
  have hK : va_K D vwCl [(c1, .int)] s := hK
  refine W.widen (k := 1) (n := 32) (by omega) (by omega) ?_
  refine va_putF (D := D) (ci := 3) (v := .ref q1) (ty := .array .int) (C := RX3) (T := TX3) (N := 11) hx hb hts inX3 tyX3 okX3 nmX3 hown hK hP hD hS 0 rfl rfl 0 (by decide) (hts _ mG_70) (fun _ h9 => h9) rfl hin rfl (by decide +kernel) rfl rfl (Nat.le_of_ble_eq_true rfl) dX3_init_9 (fun H locs hP hD hS => ?_)
  replace hP : va_P D vwCl [(h0, .inr (3, [.ref q1, .null, .int 0, .int 0, .int 0, .null, .null, .int 0, .int 0, .null, .int 0])), (q1, .inl (c1, 32, .inl (fun _ => 0)))] H := hP
  replace hD : va_D A [(h0, .inr (3, [.ref q1, .null, .int 0, .int 0, .int 0, .null, .null, .int 0, .int 0, .null, .int 0])), (q1, .inl (c1, 32, .inl (fun _ => 0)))] := hD
  refine lv_aload_n hx hb dX3_init_12 rfl (lv_at hl 0 rfl) ?_
  refine lv_bipush (v := 16) hx hb dX3_init_13 (by decide) ?_
  refine va_newq (C := "WatchList$Limit") (N' := 16) hx hb hown (hts _ mG_36) hO1 hK hP hD hS hA (by decide) (by decide) (by decide) (Nat.le_of_ble_eq_true rfl) (Nat.le_of_ble_eq_true rfl) dX3_init_15 (fun q2 c2 H hK hP hD hS => ?_)
  replace hP : va_P D vwCl [(h0, .inr (3, [.ref q1, .null, .int 0, .int 0, .int 0, .null, .null, .int 0, .int 0, .null, .int 0])), (q1, .inl (c1, 32, .inl (fun _ => 0))), (q2, .inl (c2, 16, .inr (.inr (.inr (.inr (fun _ => none))))))] H := hP
  replace hD : va_D A [(h0, .inr (3, [.ref q1, .null, .int 0, .int 0, .int 0, .null, .null, .int 0, .int 0, .null, .int 0])), (q1, .inl (c1, 32, .inl (fun _ => 0))), (q2, .inl (c2, 16, .inr (.inr (.inr (.inr (fun _ => none))))))] := hD
  have hK : va_K D vwCl [(c1, .int), (c2, .object "WatchList$Limit")] s := hK
  refine W.widen (k := 2) (n := 48) (by omega) (by omega) ?_
  refine va_putF (D := D) (ci := 3) (v := .ref q2) (ty := .array (.object "WatchList$Limit")) (C := RX3) (T := TX3) (N := 11) hx hb hts inX3 tyX3 okX3 nmX3 hown hK hP hD hS 0 rfl rfl 1 (by decide) (hts _ mG_71) (fun _ h9 => h9) rfl hin rfl (by decide +kernel) rfl rfl (Nat.le_of_ble_eq_true rfl) dX3_init_18 (fun H locs hP hD hS => ?_)
  replace hP : va_P D vwCl [(h0, .inr (3, [.ref q1, .ref q2, .int 0, .int 0, .int 0, .null, .null, .int 0, .int 0, .null, .int 0])), (q1, .inl (c1, 32, .inl (fun _ => 0))), (q2, .inl (c2, 16, .inr (.inr (.inr (.inr (fun _ => none))))))] H := hP
  replace hD : va_D A [(h0, .inr (3, [.ref q1, .ref q2, .int 0, .int 0, .int 0, .null, .null, .int 0, .int 0, .null, .int 0])), (q1, .inl (c1, 32, .inl (fun _ => 0))), (q2, .inl (c2, 16, .inr (.inr (.inr (.inr (fun _ => none))))))] := hD
  refine lv_aload_n hx hb dX3_init_21 rfl (lv_at hl 0 rfl) ?_
  refine lv_bipush (v := 32) hx hb dX3_init_22 (by decide) ?_
  refine va_newq (C := "WatchList$Event") (N' := 32) hx hb hown (hts _ mG_37) hO2 hK hP hD hS hA (by decide) (by decide) (by decide) (Nat.le_of_ble_eq_true rfl) (Nat.le_of_ble_eq_true rfl) dX3_init_24 (fun q3 c3 H hK hP hD hS => ?_)
  replace hP : va_P D vwCl [(h0, .inr (3, [.ref q1, .ref q2, .int 0, .int 0, .int 0, .null, .null, .int 0, .int 0, .null, .int 0])), (q1, .inl (c1, 32, .inl (fun _ => 0))), (q2, .inl (c2, 16, .inr (.inr (.inr (.inr (fun _ => none)))))), (q3, .inl (c3, 32, .inr (.inr (.inr (.inr (fun _ => none))))))] H := hP
  replace hD : va_D A [(h0, .inr (3, [.ref q1, .ref q2, .int 0, .int 0, .int 0, .null, .null, .int 0, .int 0, .null, .int 0])), (q1, .inl (c1, 32, .inl (fun _ => 0))), (q2, .inl (c2, 16, .inr (.inr (.inr (.inr (fun _ => none)))))), (q3, .inl (c3, 32, .inr (.inr (.inr (.inr (fun _ => none))))))] := hD
  have hK : va_K D vwCl [(c1, .int), (c2, .object "WatchList$Limit"), (c3, .object "WatchList$Event")] s := hK
  refine W.widen (k := 3) (n := 80) (by omega) (by omega) ?_
  refine va_putF (D := D) (ci := 3) (v := .ref q3) (ty := .array (.object "WatchList$Event")) (C := RX3) (T := TX3) (N := 11) hx hb hts inX3 tyX3 okX3 nmX3 hown hK hP hD hS 0 rfl rfl 5 (by decide) (hts _ mG_75) (fun _ h9 => h9) rfl hin rfl (by decide +kernel) rfl rfl (Nat.le_of_ble_eq_true rfl) dX3_init_27 (fun H locs hP hD hS => ?_)
  replace hP : va_P D vwCl [(h0, .inr (3, [.ref q1, .ref q2, .int 0, .int 0, .int 0, .ref q3, .null, .int 0, .int 0, .null, .int 0])), (q1, .inl (c1, 32, .inl (fun _ => 0))), (q2, .inl (c2, 16, .inr (.inr (.inr (.inr (fun _ => none)))))), (q3, .inl (c3, 32, .inr (.inr (.inr (.inr (fun _ => none))))))] H := hP
  replace hD : va_D A [(h0, .inr (3, [.ref q1, .ref q2, .int 0, .int 0, .int 0, .ref q3, .null, .int 0, .int 0, .null, .int 0])), (q1, .inl (c1, 32, .inl (fun _ => 0))), (q2, .inl (c2, 16, .inr (.inr (.inr (.inr (fun _ => none)))))), (q3, .inl (c3, 32, .inr (.inr (.inr (.inr (fun _ => none))))))] := hD
  refine lv_aload_n hx hb dX3_init_30 rfl (lv_at hl 0 rfl) ?_
  refine va_new (D := D) (ci := 2) (fs := [.null, .null, .int 0, .int 0]) (C := RX2) (T := TX2) (N := 4) hx hb hts inX2 tyX2 okX2 hown (hts _ mG_38) (hts _ mG_39) (hts _ mG_23) hK hP hD hS hA rfl (fun j hj => by rcases (show j = 0 ∨ j = 1 ∨ j = 2 ∨ j = 3 by omega) with rfl | rfl | rfl | rfl <;> rfl) (Nat.le_of_ble_eq_true rfl) (Nat.le_of_ble_eq_true rfl) dX3_init_31 (fun q4 H hP hD hS => ?_)
  replace hP : va_P D vwCl [(h0, .inr (3, [.ref q1, .ref q2, .int 0, .int 0, .int 0, .ref q3, .null, .int 0, .int 0, .null, .int 0])), (q1, .inl (c1, 32, .inl (fun _ => 0))), (q2, .inl (c2, 16, .inr (.inr (.inr (.inr (fun _ => none)))))), (q3, .inl (c3, 32, .inr (.inr (.inr (.inr (fun _ => none)))))), (q4, .inr (2, [.null, .null, .int 0, .int 0]))] H := hP
  replace hD : va_D A [(h0, .inr (3, [.ref q1, .ref q2, .int 0, .int 0, .int 0, .ref q3, .null, .int 0, .int 0, .null, .int 0])), (q1, .inl (c1, 32, .inl (fun _ => 0))), (q2, .inl (c2, 16, .inr (.inr (.inr (.inr (fun _ => none)))))), (q3, .inl (c3, 32, .inr (.inr (.inr (.inr (fun _ => none)))))), (q4, .inr (2, [.null, .null, .int 0, .int 0]))] := hD
  refine W.widen (k := 4) (n := 84) (by omega) (by omega) ?_
  refine lv_dup hx hb dX3_init_34 rfl ?_
  have hPc := hP.sub (ws' := [(q4, .inr (2, [.null, .null, .int 0, .int 0]))]) [4] rfl
  have hKc := hK.sub (tys' := []) [] rfl
  have hFc := va_free (wc := [(q4, .inr (2, [.null, .null, .int 0, .int 0]))]) hD hS hA [4] rfl
  refine va_callv (va_runIN (As := []) (rest := [.ref q4, .ref h0]) ⟨hx, hb, hml, hown, hts⟩ (c_Queue_init D q4 H.size) ⟨va_cnB 0 hts giX2_init rfl rfl rfl (hN _ (List.mem_of_getElem? (i := 0) rfl)) (hts _ mG_23) pdX2_init ⟨Nat.le_of_ble_eq_true rfl, Nat.le_of_ble_eq_true rfl⟩, rfl, hts _ mG_40⟩ ⟨fun a U g mk q => by obtain ⟨q0, q1, qP, qK⟩ := q; exact ⟨q0, q1, qP, va_K.moved (u := U) (U := U.calling g mk a) (Vm.Alike.refl U.vm) qK⟩, fun U hU hW => ⟨rfl, by rw [hU], by rw [hU]; exact hPc, va_K.moved hW.alike hKc⟩⟩ rfl rfl hl.1 rfl (lv_room (Nat.le_of_ble_eq_true rfl)) dX3_init_35 ⟨Nat.le_of_ble_eq_true rfl, Nat.le_of_ble_eq_true rfl⟩) hS (fun q _ h => hFc q h) hFc (fun u t H1 locs ht hvm hw hB hz1 hk1 hS => ?_)
  obtain ⟨q5, q6, cq⟩ := u
  obtain ⟨hP1, hK1, hD1⟩ := hB
  rw [ht] at hP1
  have hK1 := va_K.moved hvm.symm hK1
  dsimp only at hP1 hK1 hD1
  obtain ⟨hP, hD⟩ := va_join (wr := [(h0, .inr (3, [.ref q1, .ref q2, .int 0, .int 0, .int 0, .ref q3, .null, .int 0, .int 0, .null, .int 0])), (q1, .inl (c1, 32, .inl (fun _ => 0))), (q2, .inl (c2, 16, .inr (.inr (.inr (.inr (fun _ => none)))))), (q3, .inl (c3, 32, .inr (.inr (.inr (.inr (fun _ => none))))))]) (w1 := [(q4, .inr (2, [.ref q5, .ref q6, .int 0, .int 0])), (q5, .inl (cq, 64, .inl (fun _ => 0))), (q6, .inl (cq, 64, .inl (fun _ => 0)))]) hP hD [4] [0, 1, 2, 3] rfl rfl (by decide) (by decide) hk1 hFc hP1 hD1
  have hK := (hK.sub (tys' := [(c1, .int), (c2, .object "WatchList$Limit"), (c3, .object "WatchList$Event")]) [0, 1, 2] rfl).app hK1
  generalize H1 = H at hP hS ⊢
  replace hP : va_P D vwCl [(h0, .inr (3, [.ref q1, .ref q2, .int 0, .int 0, .int 0, .ref q3, .null, .int 0, .int 0, .null, .int 0])), (q1, .inl (c1, 32, .inl (fun _ => 0))), (q2, .inl (c2, 16, .inr (.inr (.inr (.inr (fun _ => none)))))), (q3, .inl (c3, 32, .inr (.inr (.inr (.inr (fun _ => none)))))), (q4, .inr (2, [.ref q5, .ref q6, .int 0, .int 0])), (q5, .inl (cq, 64, .inl (fun _ => 0))), (q6, .inl (cq, 64, .inl (fun _ => 0)))] H := hP
  replace hD : va_D A [(h0, .inr (3, [.ref q1, .ref q2, .int 0, .int 0, .int 0, .ref q3, .null, .int 0, .int 0, .null, .int 0])), (q1, .inl (c1, 32, .inl (fun _ => 0))), (q2, .inl (c2, 16, .inr (.inr (.inr (.inr (fun _ => none)))))), (q3, .inl (c3, 32, .inr (.inr (.inr (.inr (fun _ => none)))))), (q4, .inr (2, [.ref q5, .ref q6, .int 0, .int 0])), (q5, .inl (cq, 64, .inl (fun _ => 0))), (q6, .inl (cq, 64, .inl (fun _ => 0)))] := hD
  have hK : va_K D vwCl [(c1, .int), (c2, .object "WatchList$Limit"), (c3, .object "WatchList$Event"), (cq, .int)] s := hK
  obtain rfl : c1 = cq := gw_cidI hK 0 3 rfl rfl
  replace hP : va_P D vwCl [(h0, .inr (3, [.ref q1, .ref q2, .int 0, .int 0, .int 0, .ref q3, .null, .int 0, .int 0, .null, .int 0])), (q1, .inl (c1, 32, .inl (fun _ => 0))), (q2, .inl (c2, 16, .inr (.inr (.inr (.inr (fun _ => none)))))), (q3, .inl (c3, 32, .inr (.inr (.inr (.inr (fun _ => none)))))), (q4, .inr (2, [.ref q5, .ref q6, .int 0, .int 0])), (q5, .inl (c1, 64, .inl (fun _ => 0))), (q6, .inl (c1, 64, .inl (fun _ => 0)))] H := hP
  replace hD : va_D A [(h0, .inr (3, [.ref q1, .ref q2, .int 0, .int 0, .int 0, .ref q3, .null, .int 0, .int 0, .null, .int 0])), (q1, .inl (c1, 32, .inl (fun _ => 0))), (q2, .inl (c2, 16, .inr (.inr (.inr (.inr (fun _ => none)))))), (q3, .inl (c3, 32, .inr (.inr (.inr (.inr (fun _ => none)))))), (q4, .inr (2, [.ref q5, .ref q6, .int 0, .int 0])), (q5, .inl (c1, 64, .inl (fun _ => 0))), (q6, .inl (c1, 64, .inl (fun _ => 0)))] := hD
  have hK : va_K D vwCl [(c1, .int), (c2, .object "WatchList$Limit"), (c3, .object "WatchList$Event")] s := hK.sub [0, 1, 2] rfl
  refine W.widen (k := 6) (n := 212) (by omega) (by omega) ?_
  refine va_putF (D := D) (ci := 3) (v := .ref q4) (ty := .object "WatchList$Queue") (C := RX3) (T := TX3) (N := 11) hx hb hts inX3 tyX3 okX3 nmX3 hown hK hP hD hS 0 rfl rfl 6 (by decide) (hts _ mG_76) (fun _ h9 => h9) rfl hin rfl (by decide +kernel) rfl rfl (Nat.le_of_ble_eq_true rfl) dX3_init_38 (fun H locs hP hD hS => ?_)
  replace hP : va_P D vwCl [(h0, .inr (3, [.ref q1, .ref q2, .int 0, .int 0, .int 0, .ref q3, .ref q4, .int 0, .int 0, .null, .int 0])), (q1, .inl (c1, 32, .inl (fun _ => 0))), (q2, .inl (c2, 16, .inr (.inr (.inr (.inr (fun _ => none)))))), (q3, .inl (c3, 32, .inr (.inr (.inr (.inr (fun _ => none)))))), (q4, .inr (2, [.ref q5, .ref q6, .int 0, .int 0])), (q5, .inl (c1, 64, .inl (fun _ => 0))), (q6, .inl (c1, 64, .inl (fun _ => 0)))] H := hP
  replace hD : va_D A [(h0, .inr (3, [.ref q1, .ref q2, .int 0, .int 0, .int 0, .ref q3, .ref q4, .int 0, .int 0, .null, .int 0])), (q1, .inl (c1, 32, .inl (fun _ => 0))), (q2, .inl (c2, 16, .inr (.inr (.inr (.inr (fun _ => none)))))), (q3, .inl (c3, 32, .inr (.inr (.inr (.inr (fun _ => none)))))), (q4, .inr (2, [.ref q5, .ref q6, .int 0, .int 0])), (q5, .inl (c1, 64, .inl (fun _ => 0))), (q6, .inl (c1, 64, .inl (fun _ => 0)))] := hD
  refine lv_aload_n hx hb dX3_init_41 rfl (lv_at hl 0 rfl) ?_
  refine lv_sipush (v := 256) hx hb dX3_init_42 (by decide) ?_
  refine va_newa (atype := .byte) (ty := .byte) (a0 := (256, .inl (fun _ => 0))) (N' := 256) hx hb (hts _ mG_61) rfl hK hP hD hS hA (fun _ => rfl) (by decide) (by decide) (by decide) (Nat.le_of_ble_eq_true rfl) (Nat.le_of_ble_eq_true rfl) dX3_init_45 (fun q7 c7 H hK hP hD hS => ?_)
  replace hP : va_P D vwCl [(h0, .inr (3, [.ref q1, .ref q2, .int 0, .int 0, .int 0, .ref q3, .ref q4, .int 0, .int 0, .null, .int 0])), (q1, .inl (c1, 32, .inl (fun _ => 0))), (q2, .inl (c2, 16, .inr (.inr (.inr (.inr (fun _ => none)))))), (q3, .inl (c3, 32, .inr (.inr (.inr (.inr (fun _ => none)))))), (q4, .inr (2, [.ref q5, .ref q6, .int 0, .int 0])), (q5, .inl (c1, 64, .inl (fun _ => 0))), (q6, .inl (c1, 64, .inl (fun _ => 0))), (q7, .inl (c7, 256, .inl (fun _ => 0)))] H := hP
  replace hD : va_D A [(h0, .inr (3, [.ref q1, .ref q2, .int 0, .int 0, .int 0, .ref q3, .ref q4, .int 0, .int 0, .null, .int 0])), (q1, .inl (c1, 32, .inl (fun _ => 0))), (q2, .inl (c2, 16, .inr (.inr (.inr (.inr (fun _ => none)))))), (q3, .inl (c3, 32, .inr (.inr (.inr (.inr (fun _ => none)))))), (q4, .inr (2, [.ref q5, .ref q6, .int 0, .int 0])), (q5, .inl (c1, 64, .inl (fun _ => 0))), (q6, .inl (c1, 64, .inl (fun _ => 0))), (q7, .inl (c7, 256, .inl (fun _ => 0)))] := hD
  have hK : va_K D vwCl [(c1, .int), (c2, .object "WatchList$Limit"), (c3, .object "WatchList$Event"), (c7, .byte)] s := hK
  refine W.widen (k := 7) (n := 468) (by omega) (by omega) ?_
  refine va_putF (D := D) (ci := 3) (v := .ref q7) (ty := .array .byte) (C := RX3) (T := TX3) (N := 11) hx hb hts inX3 tyX3 okX3 nmX3 hown hK hP hD hS 0 rfl rfl 9 (by decide) (hts _ mG_79) (fun _ h9 => h9) rfl hin rfl (by decide +kernel) rfl rfl (Nat.le_of_ble_eq_true rfl) dX3_init_47 (fun H locs hP hD hS => ?_)
  replace hP : va_P D vwCl [(h0, .inr (3, [.ref q1, .ref q2, .int 0, .int 0, .int 0, .ref q3, .ref q4, .int 0, .int 0, .ref q7, .int 0])), (q1, .inl (c1, 32, .inl (fun _ => 0))), (q2, .inl (c2, 16, .inr (.inr (.inr (.inr (fun _ => none)))))), (q3, .inl (c3, 32, .inr (.inr (.inr (.inr (fun _ => none)))))), (q4, .inr (2, [.ref q5, .ref q6, .int 0, .int 0])), (q5, .inl (c1, 64, .inl (fun _ => 0))), (q6, .inl (c1, 64, .inl (fun _ => 0))), (q7, .inl (c7, 256, .inl (fun _ => 0)))] H := hP
  replace hD : va_D A [(h0, .inr (3, [.ref q1, .ref q2, .int 0, .int 0, .int 0, .ref q3, .ref q4, .int 0, .int 0, .ref q7, .int 0])), (q1, .inl (c1, 32, .inl (fun _ => 0))), (q2, .inl (c2, 16, .inr (.inr (.inr (.inr (fun _ => none)))))), (q3, .inl (c3, 32, .inr (.inr (.inr (.inr (fun _ => none)))))), (q4, .inr (2, [.ref q5, .ref q6, .int 0, .int 0])), (q5, .inl (c1, 64, .inl (fun _ => 0))), (q6, .inl (c1, 64, .inl (fun _ => 0))), (q7, .inl (c7, 256, .inl (fun _ => 0)))] := hD
  refine lv_iconst (v := 0) hx hb dX3_init_50 (by decide) ?_
  refine lv_istore_n (lv' := [(1, .int 0), (0, .ref h0)]) hx hb dX3_init_51 rfl hl (by decide) rfl (fun ls hl => ?_)
  obtain ⟨α, hα⟩ : ∃ α : Nat → Nat, α = fun k => [h0, q1, q2, q3, q4, q5, q6, q7].getD k 0 := ⟨_, rfl⟩
  obtain ⟨i, hi⟩ : ∃ i : Nat, i = 0 := ⟨0, rfl⟩
  obtain ⟨F, hFe⟩ : ∃ F : Nat → Option Nat, F = fun _ => none := ⟨_, rfl⟩
  have hα0 : α 0 = h0 := by rw [hα]; rfl
  replace hP : va_P D vwCl (gw_W (8 + i) α (in_c α c1 c7 c2 c3 F (fun _ => none))) H := by rw [hi, hα, hFe]; exact hP
  replace hD : va_D A (gw_W (8 + i) α (in_c α c1 c7 c2 c3 F (fun _ => none))) := by rw [hi, hα, hFe]; exact hD
  have hF : ∀ j, j < i → F j = some (α (8 + j)) := fun j hj => absurd hj (by omega)
  have hi1 : i ≤ 16 := by omega
  replace hl : lv_has ls 2 [(1, .int (nI i)), (0, .ref (α 0))] := by rw [hi, nI_0, hα0]; exact hl
  refine W.widen (k := 7 + i) (n := 468 + 9 * i) (by omega) (by omega) ?_
  obtain ⟨g, hg⟩ : ∃ g : Nat, 16 < i + g := ⟨17, by omega⟩
  clear hi hα hFe
  induction g generalizing i α F ls H locs with
  | zero => exact absurd hg (by omega)
  | succ g ih =>
    refine lv_iload_n hx hb dX3_init_52 rfl (lv_at hl 0 rfl) ?_
    refine lv_bipush (v := 16) hx hb dX3_init_53 (by decide) ?_
    refine lv_icmp_ge (tgt := 77) hx hb dX3_init_55 (by decide) (fun c_1 => ?_) (fun c_1 => ?_)
    · have hi16 : i = 16 := by have := (nI_leI (a := 16) (by omega) (by omega)).mp c_1; omega
      subst hi16
      clear ih hg hi1 c_1
      refine lv_iconst (v := 0) hx hb dX3_init_77 (by decide) ?_
      refine lv_istore_n (lv' := [(1, .int 0), (0, .ref (α 0))]) hx hb dX3_init_78 rfl hl (by decide) rfl (fun ls9 hl9 => ?_)
      clear hl
      obtain ⟨k, hk⟩ : ∃ k : Nat, k = 0 := ⟨0, rfl⟩
      obtain ⟨G, hGe⟩ : ∃ G : Nat → Option Nat, G = fun _ => none := ⟨_, rfl⟩
      replace hP : va_P D vwCl (gw_W (24 + 2 * k) α (in_c α c1 c7 c2 c3 F G)) H := by rw [hk, hGe]; exact hP
      replace hD : va_D A (gw_W (24 + 2 * k) α (in_c α c1 c7 c2 c3 F G)) := by rw [hk, hGe]; exact hD
      have hG : ∀ j, j < k → G j = some (α (24 + 2 * j)) := fun j hj => absurd hj (by omega)
      have hk1 : k ≤ 32 := by omega
      have hl : lv_has ls9 2 [(1, .int (nI k)), (0, .ref (α 0))] := by rw [hk, nI_0]; exact hl9
      clear hl9
      refine W.widen (k := 23 + 2 * k) (n := 612 + 260 * k) (by omega) (by omega) ?_
      obtain ⟨g, hg⟩ : ∃ g : Nat, 32 < k + g := ⟨33, by omega⟩
      clear hk hGe
      induction g generalizing k α G ls9 H locs with
      | zero => exact absurd hg (by omega)
      | succ g ih =>
        refine lv_iload_n hx hb dX3_init_79 rfl (lv_at hl 0 rfl) ?_
        refine lv_bipush (v := 32) hx hb dX3_init_80 (by decide) ?_
        refine lv_icmp_ge (tgt := 104) hx hb dX3_init_82 (by decide) (fun c_1 => ?_) (fun c_1 => ?_)
        · have hk32 : k = 32 := by have := (nI_leI (a := 32) (by omega) (by omega)).mp c_1; omega
          subst hk32
          have hP8 := in_fin hP hF hG
          have hj0 := gw_inj_of hD
          have hj : gw_inj 88 (fun k => α (in_s k)) := fun x y hx hy e => in_s_inj hx hy (hj0 _ _ (in_s_lt hx) (in_s_lt hy) e)
          have hK8 : va_K D vwCl (wl_ty (D, (fun k => α (in_s k)), c1, c7, c2, c3)) s := hK.sub [0, 3, 1, 2] rfl
          have hfr : ∀ k, 0 < k → k < 88 → s.heap.size ≤ α (in_s k) := fun k k0 k1 => by
            have h1 := gw_A_of hD (in_s k) (in_s_lt k1)
            rw [← hAe] at h1
            rcases h1 with ⟨x, z, hz⟩ | h1
            · have h2 := List.mem_of_getElem? hz
              rw [List.mem_singleton] at h2
              have h3 : α (in_s k) = α 0 := (congrArg Prod.fst h2).trans hα0.symm
              have h4 := hj0 _ 0 (in_s_lt k1) (by omega) h3
              have := in_s_pos k0 k1
              omega
            · exact h1
          refine W.widen (k := 87) (n := 8932) (by omega) (by omega) ?_
          exact W.vret hx hb hr (fun t ht hW => ⟨⟨(D, (fun k => α (in_s k)), c1, c7, c2, c3), rfl, ⟨rfl, hα0, hj, hfr⟩, by rw [ht]; exact hP8, va_K.moved hW.alike hK8⟩, hS.F ht⟩) hS.2.2 dX3_init_104
        · have hlt : k < 32 := Nat.lt_of_not_le (fun z => c_1 (nI_le z (by omega)))
          refine lv_aload_n hx hb dX3_init_85 rfl (lv_at hl 1 rfl) ?_
          refine gw_get hx hb hts inX3 hown hK hP 0 (by omega) in_c0 rfl 5 (by decide) (hts _ mG_75) (fun _ h9 => h9) (v := .ref (α 3)) rfl dX3_init_86 ?_
          refine lv_iload_n hx hb dX3_init_89 rfl (lv_at hl 0 rfl) ?_
          refine va_new (D := D) (ci := 0) (fs := [.int 0, .null, .int 0, .int 0]) (C := RX0) (T := TX0) (N := 4) hx hb hts inX0 tyX0 okX0 hown (hts _ mG_37) (hts _ mG_62) (hts _ mG_25) hK hP hD hS hA rfl (fun j hj => by rcases (show j = 0 ∨ j = 1 ∨ j = 2 ∨ j = 3 by omega) with rfl | rfl | rfl | rfl <;> rfl) (show 23 + 2 * k + 1 ≤ 87 by omega) (show 612 + 260 * k + 4 ≤ 8932 by omega) dX3_init_90 (fun qe H hP hD hS => ?_)
          refine lv_dup hx hb dX3_init_93 rfl ?_
          have hPc := gw_last hP
          have hKc := hK.sub (tys' := []) [] rfl
          have hFc := gw_lastA hD hS hA
          refine va_callv (va_runIN (As := []) (rest := [.ref qe, .int (nI k), .ref (α 3)]) ⟨hx, hb, hml, hown, hts⟩ (c_Event_init D qe H.size) ⟨va_cnB 0 hts giX0_init rfl rfl rfl (hN _ (List.mem_of_getElem? (i := 8) rfl)) (hts _ mG_25) pdX0_init ⟨Nat.le_of_ble_eq_true rfl, Nat.le_of_ble_eq_true rfl⟩, rfl, hts _ mG_63⟩ ⟨fun a U g mk q => by obtain ⟨q0, q1, qP, qK⟩ := q; exact ⟨q0, q1, qP, va_K.moved (u := U) (U := U.calling g mk a) (Vm.Alike.refl U.vm) qK⟩, fun U hU hW => ⟨rfl, by rw [hU], by rw [hU]; exact hPc, va_K.moved hW.alike hKc⟩⟩ rfl rfl hl.1 rfl (lv_room (Nat.le_of_ble_eq_true rfl)) dX3_init_94 ⟨show 23 + 2 * k + 1 + 1 ≤ 87 by omega, show 612 + 260 * k + 4 + 256 ≤ 8932 by omega⟩) hS (fun q _ h => hFc q h) hFc (fun u t H1 locs ht hvm hw hB hz1 hk1 hS => ?_)
          obtain ⟨qb, cb⟩ := u
          obtain ⟨hP1, hK1, hD1⟩ := hB
          rw [ht] at hP1
          have hK1 := va_K.moved hvm.symm hK1
          dsimp only at hP1 hK1 hD1
          obtain rfl : c7 = cb := gw_cidB (hK.app hK1) 3 4 rfl rfl
          obtain ⟨hP9, hD9⟩ := gw_join1 hP hD hk1 hFc hP1 hD1
          rw [gw_push2] at hP9 hD9
          have ea : ∀ x, x < 24 + 2 * k → va_up (va_up α (24 + 2 * k) qe) (24 + 2 * k + 1) qb x = α x := fun x hx => by rw [va_up_ne _ _ (by omega), va_up_ne _ _ (by omega)]
          have eq1 : va_up (va_up α (24 + 2 * k) qe) (24 + 2 * k + 1) qb (24 + 2 * k) = qe := by rw [va_up_ne _ _ (by omega), va_up_self]
          have eq2 : va_up (va_up α (24 + 2 * k) qe) (24 + 2 * k + 1) qb (24 + 2 * k + 1) = qb := va_up_self _ _ _
          generalize hα' : va_up (va_up α (24 + 2 * k) qe) (24 + 2 * k + 1) qb = α' at hP9 hD9 ea eq1 eq2
          have ec : gw_W (24 + 2 * k + 1 + 1) α' (va_up (va_up (in_c α c1 c7 c2 c3 F G) (24 + 2 * k) (.inr (0, [.int 1, .ref qb, .int 0, .int 0]))) (24 + 2 * k + 1) (.inl (c7, 256, .inl (fun _ => 0)))) = gw_W (24 + 2 * k + 1 + 1) α' (in_c α' c1 c7 c2 c3 F G) := gw_congr (fun x hx => by
            by_cases h1 : x = 24 + 2 * k + 1
            · rw [h1, va_up_self, in_cB (by omega) (by omega)]
            · rw [va_up_ne _ _ h1]
              by_cases h2 : x = 24 + 2 * k
              · rw [h2, va_up_self, in_cE (by omega) (by omega), eq2]
              · rw [va_up_ne _ _ h2, in_c_al (n := 24 + 2 * k) (by omega) (fun _ => by omega) ea (by omega)])
          rw [ec] at hP9 hD9
          refine W.eq (g2 := F0 m 97 ls9 (.ref (α' (24 + 2 * k)) :: .int (nI k) :: .ref (α' 3) :: [])) (by rw [eq1, ea 3 (by omega)]) ?_
          refine va_astq hx hb hK hP9 hD9 hS 3 2 (24 + 2 * k) 0 (by rw [gw_get? (by omega), in_c3]) rfl (by rw [gw_get? (by omega), in_cE (by omega) (by omega)]) rfl (i := nI k) (vp_in_nI hlt (by omega)) dX3_init_97 (fun H locs hP hD hS => ?_)
          rw [nI_clamp (show k < 2 ^ 31 by omega), gw_set (cf' := in_c α' c1 c7 c2 c3 F (va_up G k (some (α' (24 + 2 * k))))) in_c3 in_c_G] at hP hD
          refine lv_iinc (v := nI (k + 1)) (lv' := [(1, .int (nI (k + 1))), (0, .ref (α 0))]) hx hb dX3_init_98 hl (k := 0) rfl (nI_1 k) (by decide) rfl (fun ls hl => ?_)
          refine lv_goto (tgt := 79) hx hb dX3_init_101 (by decide) ?_
          refine W.widen (k := 23 + 2 * (k + 1)) (n := 612 + 260 * (k + 1)) (by omega) (by omega) ?_
          exact ih (k := k + 1) (α := α') (G := va_up G k (some (α' (24 + 2 * k)))) (ls9 := ls) (H := H) (locs := locs) (hα0 := by rw [ea 0 (by omega)]; exact hα0) (hF := fun j hj => by rw [hF j hj, ea (8 + j) (by omega)]) (hS := hS) (hP := hP) (hD := hD) (hG := fun j hj => by
            by_cases h1 : j = k
            · rw [h1, va_up_self]
            · rw [va_up_ne _ _ h1, hG j (by omega), ea _ (by omega)]) (hk1 := by omega) (hl := by rw [ea 0 (by omega)]; exact hl) (hg := by omega)
    · have hlt : i < 16 := Nat.lt_of_not_le (fun z => c_1 (nI_le z (by omega)))
      refine lv_aload_n hx hb dX3_init_58 rfl (lv_at hl 1 rfl) ?_
      refine gw_get hx hb hts inX3 hown hK hP 0 (by omega) in_c0 rfl 1 (by decide) (hts _ mG_71) (fun _ h9 => h9) (v := .ref (α 2)) rfl dX3_init_59 ?_
      refine lv_iload_n hx hb dX3_init_62 rfl (lv_at hl 0 rfl) ?_
      refine va_new (D := D) (ci := 1) (fs := [.int 0, .int 0, .int 0, .int 0, .int 0, .int 0, .int 0, .int 0, .int 0]) (C := RX1) (T := TX1) (N := 9) hx hb hts inX1 tyX1 okX1 hown (hts _ mG_36) (hts _ mG_48) (hts _ mG_24) hK hP hD hS hA rfl (fun j hj => by rcases (show j = 0 ∨ j = 1 ∨ j = 2 ∨ j = 3 ∨ j = 4 ∨ j = 5 ∨ j = 6 ∨ j = 7 ∨ j = 8 by omega) with rfl | rfl | rfl | rfl | rfl | rfl | rfl | rfl | rfl <;> rfl) (show 7 + i + 1 ≤ 87 by omega) (show 468 + 9 * i + 9 ≤ 8932 by omega) dX3_init_63 (fun qe H hP hD hS => ?_)
      rw [gw_push] at hP hD
      have ea : ∀ x, x < 8 + i → va_up α (8 + i) qe x = α x := fun x hx => va_up_ne _ _ (by omega)
      have eq1 : va_up α (8 + i) qe (8 + i) = qe := va_up_self _ _ _
      generalize hα' : va_up α (8 + i) qe = α' at hP hD ea eq1
      have ec : gw_W (8 + i + 1) α' (va_up (in_c α c1 c7 c2 c3 F (fun _ => none)) (8 + i) (.inr (1, [.int 0, .int 0, .int 0, .int 0, .int 0, .int 0, .int 0, .int 0, .int 0]))) = gw_W (8 + i + 1) α' (in_c α' c1 c7 c2 c3 F (fun _ => none)) := gw_congr (fun x hx => by
        by_cases h2 : x = 8 + i
        · rw [h2, va_up_self, in_cL (by omega) (by omega)]
        · rw [va_up_ne _ _ h2, in_c_al (n := 8 + i) (by omega) (fun _ => by omega) ea (by omega)])
      rw [ec] at hP hD
      refine lv_dup hx hb dX3_init_66 rfl ?_
      refine gw_csv (va_runIN (As := []) (rest := [.ref qe, .int (nI i), .ref (α 2)]) ⟨hx, hb, hml, hown, hts⟩ (c_Limit_init qe) ⟨va_cnB 0 hts giX1_init rfl rfl rfl (hN _ (List.mem_of_getElem? (i := 2) rfl)) (hts _ mG_24) pdX1_init ⟨Nat.le_of_ble_eq_true rfl, Nat.le_of_ble_eq_true rfl⟩, rfl, hts _ mG_49⟩ ⟨fun a U g mk q => q, fun U hU hW => ⟨rfl, trivial⟩⟩ rfl rfl hl.1 rfl (lv_room (Nat.le_of_ble_eq_true rfl)) dX3_init_67 ⟨show 7 + i + 1 ≤ 87 by omega, show 468 + 9 * i + 9 ≤ 8932 by omega⟩) ?_
      refine W.eq (g2 := F0 m 70 ls (.ref (α' (8 + i)) :: .int (nI i) :: .ref (α' 2) :: [])) (by rw [eq1, ea 2 (by omega)]) ?_
      refine va_astq hx hb hK hP hD hS 2 1 (8 + i) 1 (by rw [gw_get? (by omega), in_c2]) rfl (by rw [gw_get? (by omega), in_cL (by omega) (by omega)]) rfl (i := nI i) (vp_in_nI hlt (by omega)) dX3_init_70 (fun H locs hP hD hS => ?_)
      rw [nI_clamp (show i < 2 ^ 31 by omega), gw_set (cf' := in_c α' c1 c7 c2 c3 (va_up F i (some (α' (8 + i)))) (fun _ => none)) in_c2 in_c_F] at hP hD
      refine lv_iinc (v := nI (i + 1)) (lv' := [(1, .int (nI (i + 1))), (0, .ref (α 0))]) hx hb dX3_init_71 hl (k := 0) rfl (nI_1 i) (by decide) rfl (fun ls hl => ?_)
      refine lv_goto (tgt := 52) hx hb dX3_init_74 (by decide) ?_
      refine W.widen (k := 7 + (i + 1)) (n := 468 + 9 * (i + 1)) (by omega) (by omega) ?_
      exact ih (i := i + 1) (α := α') (F := va_up F i (some (α' (8 + i)))) (ls := ls) (H := H) (locs := locs) (hα0 := by rw [ea 0 (by omega)]; exact hα0) (hS := hS) (hP := hP) (hD := hD) (hF := fun j hj => by
        by_cases h1 : j = i
        · rw [h1, va_up_self]
        · rw [va_up_ne _ _ h1, hF j (by omega), ea _ (by omega)]) (hi1 := by omega) (hl := by rw [ea 0 (by omega)]; exact hl) (hg := by omega)
end
