section
-- ===== PART A: goes FIRST, ahead of the names: the tables' words, and 'selects' of the private methods out of them =====
/-- a private method of a class that the tables say can be made, by its rows of tables_1 -/
def lw_okq (q : MethodName × Nat) : Prop := (q.1.cls ≠ "java/lang/invoke/MethodHandle" ∧ q.1.cls ≠ "java/lang/invoke/VarHandle") ∧ Cond.instantiable q.1.cls q.2 ∈ tables_1 ∧ Cond.privateMethod q.1 ∈ tables_1 ∧ Cond.instanceMethod q.1 ∈ tables_1
theorem lw_p0 : lw_okq (⟨"LibraryDesk", "isRefused", "(II)Z"⟩, 13) := ⟨⟨by decide +kernel, by decide +kernel⟩, List.mem_of_getElem? (i := 13) (by decide +kernel), List.mem_of_getElem? (i := 183) (by decide +kernel), List.mem_of_getElem? (i := 184) (by decide +kernel)⟩
theorem lw_p1 : lw_okq (⟨"LibraryDesk", "tryActs", "(LLibraryDesk$Plan;IJ)V"⟩, 13) := ⟨⟨by decide +kernel, by decide +kernel⟩, List.mem_of_getElem? (i := 13) (by decide +kernel), List.mem_of_getElem? (i := 189) (by decide +kernel), List.mem_of_getElem? (i := 190) (by decide +kernel)⟩
theorem lw_p2 : lw_okq (⟨"LibraryDesk", "doAct", "(LLibraryDesk$Plan;IIJ)I"⟩, 13) := ⟨⟨by decide +kernel, by decide +kernel⟩, List.mem_of_getElem? (i := 13) (by decide +kernel), List.mem_of_getElem? (i := 204) (by decide +kernel), List.mem_of_getElem? (i := 205) (by decide +kernel)⟩
theorem lw_p3 : lw_okq (⟨"LibraryDesk", "noteFailure", "(II)V"⟩, 13) := ⟨⟨by decide +kernel, by decide +kernel⟩, List.mem_of_getElem? (i := 13) (by decide +kernel), List.mem_of_getElem? (i := 227) (by decide +kernel), List.mem_of_getElem? (i := 228) (by decide +kernel)⟩
theorem lw_p4 : lw_okq (⟨"LibraryDesk", "keepTrial", "()V"⟩, 13) := ⟨⟨by decide +kernel, by decide +kernel⟩, List.mem_of_getElem? (i := 13) (by decide +kernel), List.mem_of_getElem? (i := 236) (by decide +kernel), List.mem_of_getElem? (i := 237) (by decide +kernel)⟩
theorem lw_p5 : lw_okq (⟨"java/lang/Throwable", "fillInStackTrace", "(I)Ljava/lang/Throwable;"⟩, 6) := ⟨⟨by decide +kernel, by decide +kernel⟩, List.mem_of_getElem? (i := 306) (by decide +kernel), List.mem_of_getElem? (i := 304) (by decide +kernel), List.mem_of_getElem? (i := 305) (by decide +kernel)⟩
theorem lw_p6 : lw_okq (⟨"LibraryDeskModel", "makes", "(I)I"⟩, 21) := ⟨⟨by decide +kernel, by decide +kernel⟩, List.mem_of_getElem? (i := 339) (by decide +kernel), List.mem_of_getElem? (i := 440) (by decide +kernel), List.mem_of_getElem? (i := 441) (by decide +kernel)⟩
theorem lw_p7 : lw_okq (⟨"LibraryDeskModel", "drops", "(II)Z"⟩, 21) := ⟨⟨by decide +kernel, by decide +kernel⟩, List.mem_of_getElem? (i := 339) (by decide +kernel), List.mem_of_getElem? (i := 448) (by decide +kernel), List.mem_of_getElem? (i := 449) (by decide +kernel)⟩
theorem lw_p8 : lw_okq (⟨"LibraryDeskModel", "isHere", "(II)Z"⟩, 21) := ⟨⟨by decide +kernel, by decide +kernel⟩, List.mem_of_getElem? (i := 339) (by decide +kernel), List.mem_of_getElem? (i := 452) (by decide +kernel), List.mem_of_getElem? (i := 453) (by decide +kernel)⟩
theorem lw_p9 : lw_okq (⟨"LibraryDeskModel", "may", "(II)Z"⟩, 21) := ⟨⟨by decide +kernel, by decide +kernel⟩, List.mem_of_getElem? (i := 339) (by decide +kernel), List.mem_of_getElem? (i := 460) (by decide +kernel), List.mem_of_getElem? (i := 461) (by decide +kernel)⟩
theorem lw_p10 : lw_okq (⟨"LibraryDeskModel", "done", "(IIJ)Z"⟩, 21) := ⟨⟨by decide +kernel, by decide +kernel⟩, List.mem_of_getElem? (i := 339) (by decide +kernel), List.mem_of_getElem? (i := 465) (by decide +kernel), List.mem_of_getElem? (i := 466) (by decide +kernel)⟩
theorem lw_p11 : lw_okq (⟨"LibraryDeskModel", "keep", "()V"⟩, 21) := ⟨⟨by decide +kernel, by decide +kernel⟩, List.mem_of_getElem? (i := 339) (by decide +kernel), List.mem_of_getElem? (i := 469) (by decide +kernel), List.mem_of_getElem? (i := 470) (by decide +kernel)⟩
theorem lw_p12 : lw_okq (⟨"LibraryDeskModel", "does", "(IIIJ)I"⟩, 21) := ⟨⟨by decide +kernel, by decide +kernel⟩, List.mem_of_getElem? (i := 339) (by decide +kernel), List.mem_of_getElem? (i := 473) (by decide +kernel), List.mem_of_getElem? (i := 474) (by decide +kernel)⟩
theorem lw_p13 : lw_okq (⟨"LibraryDeskModel", "greatest", "(I)I"⟩, 21) := ⟨⟨by decide +kernel, by decide +kernel⟩, List.mem_of_getElem? (i := 339) (by decide +kernel), List.mem_of_getElem? (i := 477) (by decide +kernel), List.mem_of_getElem? (i := 478) (by decide +kernel)⟩
theorem lw_p14 : lw_okq (⟨"LibraryDeskModel", "take", "(I)V"⟩, 21) := ⟨⟨by decide +kernel, by decide +kernel⟩, List.mem_of_getElem? (i := 339) (by decide +kernel), List.mem_of_getElem? (i := 481) (by decide +kernel), List.mem_of_getElem? (i := 482) (by decide +kernel)⟩
theorem lw_p15 : lw_okq (⟨"LibraryDeskModel", "many", "(I)I"⟩, 21) := ⟨⟨by decide +kernel, by decide +kernel⟩, List.mem_of_getElem? (i := 339) (by decide +kernel), List.mem_of_getElem? (i := 486) (by decide +kernel), List.mem_of_getElem? (i := 487) (by decide +kernel)⟩
def lw_privs_1 : List (MethodName × Nat) := [(⟨"LibraryDesk", "isRefused", "(II)Z"⟩, 13), (⟨"LibraryDesk", "tryActs", "(LLibraryDesk$Plan;IJ)V"⟩, 13), (⟨"LibraryDesk", "doAct", "(LLibraryDesk$Plan;IIJ)I"⟩, 13), (⟨"LibraryDesk", "noteFailure", "(II)V"⟩, 13), (⟨"LibraryDesk", "keepTrial", "()V"⟩, 13), (⟨"java/lang/Throwable", "fillInStackTrace", "(I)Ljava/lang/Throwable;"⟩, 6), (⟨"LibraryDeskModel", "makes", "(I)I"⟩, 21), (⟨"LibraryDeskModel", "drops", "(II)Z"⟩, 21), (⟨"LibraryDeskModel", "isHere", "(II)Z"⟩, 21), (⟨"LibraryDeskModel", "may", "(II)Z"⟩, 21), (⟨"LibraryDeskModel", "done", "(IIJ)Z"⟩, 21), (⟨"LibraryDeskModel", "keep", "()V"⟩, 21), (⟨"LibraryDeskModel", "does", "(IIIJ)I"⟩, 21), (⟨"LibraryDeskModel", "greatest", "(I)I"⟩, 21), (⟨"LibraryDeskModel", "take", "(I)V"⟩, 21), (⟨"LibraryDeskModel", "many", "(I)I"⟩, 21)]
theorem lw_r1 : ∀ q ∈ lw_privs_1, lw_okq q := List.forall_mem_cons.mpr ⟨lw_p0, List.forall_mem_cons.mpr ⟨lw_p1, List.forall_mem_cons.mpr ⟨lw_p2, List.forall_mem_cons.mpr ⟨lw_p3, List.forall_mem_cons.mpr ⟨lw_p4, List.forall_mem_cons.mpr ⟨lw_p5, List.forall_mem_cons.mpr ⟨lw_p6, List.forall_mem_cons.mpr ⟨lw_p7, List.forall_mem_cons.mpr ⟨lw_p8, List.forall_mem_cons.mpr ⟨lw_p9, List.forall_mem_cons.mpr ⟨lw_p10, List.forall_mem_cons.mpr ⟨lw_p11, List.forall_mem_cons.mpr ⟨lw_p12, List.forall_mem_cons.mpr ⟨lw_p13, List.forall_mem_cons.mpr ⟨lw_p14, List.forall_mem_cons.mpr ⟨lw_p15, fun _ h => absurd h List.not_mem_nil⟩⟩⟩⟩⟩⟩⟩⟩⟩⟩⟩⟩⟩⟩⟩⟩
theorem lw_p16 : lw_okq (⟨"LibraryDeskModel", "restore", "()V"⟩, 21) := ⟨⟨by decide +kernel, by decide +kernel⟩, List.mem_of_getElem? (i := 339) (by decide +kernel), List.mem_of_getElem? (i := 490) (by decide +kernel), List.mem_of_getElem? (i := 491) (by decide +kernel)⟩
def lw_privs_2 : List (MethodName × Nat) := [(⟨"LibraryDeskModel", "restore", "()V"⟩, 21)]
theorem lw_r2 : ∀ q ∈ lw_privs_2, lw_okq q := List.forall_mem_cons.mpr ⟨lw_p16, fun _ h => absurd h List.not_mem_nil⟩
def lw_privs : List (MethodName × Nat) := lw_privs_1 ++ (lw_privs_2)
def lw_tbl : List Cond := k2_sels lw_privs ++ tables_1
theorem lw_privs_ok : ∀ q ∈ lw_privs, lw_okq q := by
  show ∀ q ∈ lw_privs_1 ++ (lw_privs_2), lw_okq q
  exact List.forall_mem_append.mpr ⟨lw_r1, lw_r2⟩
-- ===== end of PART A; then your names; then what follows =====
end
section
/-! ===== BEGIN words of one list among another's, by their places ===== -/
theorem goodIn_r {big : List Cond} (ws : List Cond) (ps : List Nat) (hp : ws = ps.filterMap (fun i => big[i]?)) (h : ws.all goodWord = true) : GoodIn big ws := by
  intro w hw
  have h1 := List.all_eq_true.mp h w hw
  rw [hp] at hw
  obtain ⟨i, -, hi⟩ := List.mem_filterMap.mp hw
  have hm : w ∈ big := by first | exact List.mem_of_getElem? hi | exact List.getElem?_mem hi
  exact ⟨hm, good_of_word h1⟩
theorem goodIn_app {big a b : List Cond} (ha : GoodIn big a) (hb : GoodIn big b) : GoodIn big (a ++ b) := fun w h => (List.mem_append.mp h).elim (ha w) (hb w)
theorem goodIn_ca {big a b : List Cond} {c : Cond} (ha : GoodIn big (c :: a)) (hb : GoodIn big b) : GoodIn big (c :: (a ++ b)) := fun w h => (List.mem_cons.mp h).elim (fun e => ha w (List.mem_cons.mpr (Or.inl e))) (fun h => (List.mem_append.mp h).elim (fun h => ha w (List.mem_cons.mpr (Or.inr h))) (hb w))
theorem goodIn_sub {big ws : List Cond} (hm : ∀ w ∈ ws, w ∈ big) (h : ws.all goodWord = true) : GoodIn big ws := fun w hw => ⟨hm w hw, good_of_word (List.all_eq_true.mp h w hw)⟩
/-! ===== END ===== -/

/-! ===== BEGIN printed: names, fields, word lists, decode rows ===== -/
def RX0 : String := "LibraryDesk$Holdings"
def TX0 : u_T := fun k => match k with
  | 0 => ("LibraryDesk$Holdings", "made", "[I", true)
  | 1 => ("LibraryDesk$Holdings", "hereBits", "[J", true)
  | 2 => ("LibraryDesk$Holdings", "tallies", "[J", true)
  | 3 => ("LibraryDesk$Holdings", "values", "[J", true)
  | _ => ("LibraryDesk$Holdings", "valueCount", "I", false)
def tyX0 : Nat → FieldType := fun k => match k with
  | 0 => .array .int
  | 1 => .array .long
  | 2 => .array .long
  | 3 => .array .long
  | _ => .int
abbrev wsX00 : List Cond := u_ws RX0 TX0 5
theorem nmX0 : ∀ a, a < 5 → ∀ b, b < 5 → a ≠ b → (TX0 a).2.1 ≠ (TX0 b).2.1 := by decide +kernel
theorem tyX0_ok : ∀ k, k < 5 → parseFieldDescriptor (TX0 k).2.2.1 = some (tyX0 k) := by decide +kernel
abbrev cX0_init : ByteArray := prog_2_method_1_code
def yX0_init : MethodName := ⟨RX0, "<init>", "()V"⟩
abbrev cX0_copyFrom : ByteArray := prog_2_method_2_code
def yX0_copyFrom : MethodName := ⟨RX0, "copyFrom", "(LLibraryDesk$Holdings;)V"⟩
abbrev cX0_addValue : ByteArray := prog_2_method_3_code
def yX0_addValue : MethodName := ⟨RX0, "addValue", "(J)Z"⟩
abbrev cX0_moveFirstValueTo : ByteArray := prog_2_method_4_code
def yX0_moveFirstValueTo : MethodName := ⟨RX0, "moveFirstValueTo", "(I)Z"⟩
abbrev cX0_makeNumber : ByteArray := prog_2_method_5_code
def yX0_makeNumber : MethodName := ⟨RX0, "makeNumber", "(I)Z"⟩
abbrev cX0_isHere : ByteArray := prog_2_method_6_code
def yX0_isHere : MethodName := ⟨RX0, "isHere", "(II)Z"⟩
abbrev cX0_dropNumber : ByteArray := prog_2_method_7_code
def yX0_dropNumber : MethodName := ⟨RX0, "dropNumber", "(II)Z"⟩
abbrev cX0_countHere : ByteArray := prog_2_method_8_code
def yX0_countHere : MethodName := ⟨RX0, "countHere", "(I)I"⟩
abbrev cX0_greatestHere : ByteArray := prog_2_method_9_code
def yX0_greatestHere : MethodName := ⟨RX0, "greatestHere", "(I)I"⟩
def RX1 : String := "LibraryDesk$Plan"
def TX1 : u_T := fun k => match k with
  | 0 => ("LibraryDesk$Plan", "wanted", "I", false)
  | 1 => ("LibraryDesk$Plan", "actCount", "I", false)
  | 2 => ("LibraryDesk$Plan", "sorts", "[I", true)
  | 3 => ("LibraryDesk$Plan", "kinds", "[I", true)
  | 4 => ("LibraryDesk$Plan", "toldAct", "I", false)
  | _ => ("LibraryDesk$Plan", "toldWith", "I", false)
def tyX1 : Nat → FieldType := fun k => match k with
  | 0 => .int
  | 1 => .int
  | 2 => .array .int
  | 3 => .array .int
  | 4 => .int
  | _ => .int
abbrev wsX10 : List Cond := u_ws RX1 TX1 6
theorem nmX1 : ∀ a, a < 6 → ∀ b, b < 6 → a ≠ b → (TX1 a).2.1 ≠ (TX1 b).2.1 := by decide +kernel
theorem tyX1_ok : ∀ k, k < 6 → parseFieldDescriptor (TX1 k).2.2.1 = some (tyX1 k) := by decide +kernel
abbrev cX1_init : ByteArray := prog_3_method_1_code
def yX1_init : MethodName := ⟨RX1, "<init>", "()V"⟩
abbrev cX1_addAct : ByteArray := prog_3_method_2_code
def yX1_addAct : MethodName := ⟨RX1, "addAct", "(II)Z"⟩
abbrev cX1_tellToFail : ByteArray := prog_3_method_3_code
def yX1_tellToFail : MethodName := ⟨RX1, "tellToFail", "(II)V"⟩
abbrev cX1_isToldToFailAt : ByteArray := prog_3_method_4_code
def yX1_isToldToFailAt : MethodName := ⟨RX1, "isToldToFailAt", "(I)Z"⟩
abbrev cX1_forgetTold : ByteArray := prog_3_method_5_code
def yX1_forgetTold : MethodName := ⟨RX1, "forgetTold", "()V"⟩
def RX2 : String := "LibraryDesk"
def TX2 : u_T := fun k => match k with
  | 0 => ("LibraryDesk", "plans", "[LLibraryDesk$Plan;", true)
  | 1 => ("LibraryDesk", "now", "LLibraryDesk$Holdings;", false)
  | 2 => ("LibraryDesk", "trial", "LLibraryDesk$Holdings;", false)
  | 3 => ("LibraryDesk", "trialAnswer", "J", false)
  | 4 => ("LibraryDesk", "trialFailedWith", "I", false)
  | 5 => ("LibraryDesk", "trialFailedAt", "I", false)
  | 6 => ("LibraryDesk", "answeredCalls", "I", false)
  | 7 => ("LibraryDesk", "refusedCalls", "I", false)
  | 8 => ("LibraryDesk", "failedCalls", "I", false)
  | 9 => ("LibraryDesk", "lastFailedWith", "I", false)
  | 10 => ("LibraryDesk", "lastFailedAct", "I", false)
  | 11 => ("LibraryDesk", "lastFailedCall", "I", false)
  | _ => ("LibraryDesk", "lastFailedNumber", "I", false)
def tyX2 : Nat → FieldType := fun k => match k with
  | 0 => .array (.object "LibraryDesk$Plan")
  | 1 => .object "LibraryDesk$Holdings"
  | 2 => .object "LibraryDesk$Holdings"
  | 3 => .long
  | 4 => .int
  | 5 => .int
  | 6 => .int
  | 7 => .int
  | 8 => .int
  | 9 => .int
  | 10 => .int
  | 11 => .int
  | _ => .int
abbrev wsX20 : List Cond := u_ws RX2 TX2 13
theorem nmX2 : ∀ a, a < 13 → ∀ b, b < 13 → a ≠ b → (TX2 a).2.1 ≠ (TX2 b).2.1 := by decide +kernel
theorem tyX2_ok : ∀ k, k < 13 → parseFieldDescriptor (TX2 k).2.2.1 = some (tyX2 k) := by decide +kernel
abbrev cX2_init : ByteArray := prog_1_method_1_code
def yX2_init : MethodName := ⟨RX2, "<init>", "()V"⟩
abbrev cX2_collect : ByteArray := prog_1_method_2_code
def yX2_collect : MethodName := ⟨RX2, "collect", "(J)I"⟩
abbrev cX2_wants : ByteArray := prog_1_method_3_code
def yX2_wants : MethodName := ⟨RX2, "wants", "(II)I"⟩
abbrev cX2_act : ByteArray := prog_1_method_4_code
def yX2_act : MethodName := ⟨RX2, "act", "(III)I"⟩
abbrev cX2_fails : ByteArray := prog_1_method_5_code
def yX2_fails : MethodName := ⟨RX2, "fails", "(III)I"⟩
abbrev cX2_make : ByteArray := prog_1_method_6_code
def yX2_make : MethodName := ⟨RX2, "make", "(I)I"⟩
abbrev cX2_drop : ByteArray := prog_1_method_7_code
def yX2_drop : MethodName := ⟨RX2, "drop", "(II)Z"⟩
abbrev cX2_call : ByteArray := prog_1_method_8_code
def yX2_call : MethodName := ⟨RX2, "call", "(IIJ)J"⟩
abbrev cX2_again : ByteArray := prog_1_method_9_code
def yX2_again : MethodName := ⟨RX2, "again", "(IIJ)J"⟩
abbrev cX2_told : ByteArray := prog_1_method_10_code
def yX2_told : MethodName := ⟨RX2, "told", "(I)I"⟩
abbrev cX2_numbers : ByteArray := prog_1_method_11_code
def yX2_numbers : MethodName := ⟨RX2, "numbers", "(I)I"⟩
abbrev cX2_here : ByteArray := prog_1_method_12_code
def yX2_here : MethodName := ⟨RX2, "here", "(II)Z"⟩
abbrev cX2_tally : ByteArray := prog_1_method_13_code
def yX2_tally : MethodName := ⟨RX2, "tally", "(I)J"⟩
abbrev cX2_row : ByteArray := prog_1_method_14_code
def yX2_row : MethodName := ⟨RX2, "row", "(I)J"⟩
abbrev cX2_isKind : ByteArray := prog_1_method_15_code
def yX2_isKind : MethodName := ⟨RX2, "isKind", "(I)Z"⟩
abbrev cX2_isCall : ByteArray := prog_1_method_16_code
def yX2_isCall : MethodName := ⟨RX2, "isCall", "(I)Z"⟩
abbrev cX2_isSort : ByteArray := prog_1_method_17_code
def yX2_isSort : MethodName := ⟨RX2, "isSort", "(I)Z"⟩
abbrev cX2_isRefused : ByteArray := prog_1_method_18_code
def yX2_isRefused : MethodName := ⟨RX2, "isRefused", "(II)Z"⟩
abbrev cX2_tryActs : ByteArray := prog_1_method_19_code
def yX2_tryActs : MethodName := ⟨RX2, "tryActs", "(LLibraryDesk$Plan;IJ)V"⟩
abbrev cX2_doAct : ByteArray := prog_1_method_20_code
def yX2_doAct : MethodName := ⟨RX2, "doAct", "(LLibraryDesk$Plan;IIJ)I"⟩
abbrev cX2_keepTrial : ByteArray := prog_1_method_21_code
def yX2_keepTrial : MethodName := ⟨RX2, "keepTrial", "()V"⟩
abbrev cX2_noteFailure : ByteArray := prog_1_method_22_code
def yX2_noteFailure : MethodName := ⟨RX2, "noteFailure", "(II)V"⟩
def RX3 : String := "LibraryDeskModel"
def TX3 : u_T := fun k => match k with
  | 0 => ("LibraryDeskModel", "thrown", "I", false)
  | 1 => ("LibraryDeskModel", "here", "[Z", true)
  | 2 => ("LibraryDeskModel", "made", "[I", true)
  | 3 => ("LibraryDeskModel", "tallies", "[J", true)
  | 4 => ("LibraryDeskModel", "row", "[J", true)
  | 5 => ("LibraryDeskModel", "size", "I", false)
  | 6 => ("LibraryDeskModel", "oldHere", "[Z", true)
  | 7 => ("LibraryDeskModel", "oldMade", "[I", true)
  | 8 => ("LibraryDeskModel", "oldTallies", "[J", true)
  | 9 => ("LibraryDeskModel", "oldRow", "[J", true)
  | 10 => ("LibraryDeskModel", "oldSize", "I", false)
  | 11 => ("LibraryDeskModel", "wanted", "[I", true)
  | 12 => ("LibraryDeskModel", "sorts", "[I", true)
  | 13 => ("LibraryDeskModel", "kinds", "[I", true)
  | 14 => ("LibraryDeskModel", "acts", "[I", true)
  | 15 => ("LibraryDeskModel", "failsAt", "[I", true)
  | 16 => ("LibraryDeskModel", "failsWith", "[I", true)
  | 17 => ("LibraryDeskModel", "told", "[I", true)
  | 18 => ("LibraryDeskModel", "answer", "J", false)
  | 19 => ("LibraryDeskModel", "why", "I", false)
  | _ => ("LibraryDeskModel", "place", "I", false)
def tyX3 : Nat → FieldType := fun k => match k with
  | 0 => .int
  | 1 => .array .boolean
  | 2 => .array .int
  | 3 => .array .long
  | 4 => .array .long
  | 5 => .int
  | 6 => .array .boolean
  | 7 => .array .int
  | 8 => .array .long
  | 9 => .array .long
  | 10 => .int
  | 11 => .array .int
  | 12 => .array .int
  | 13 => .array .int
  | 14 => .array .int
  | 15 => .array .int
  | 16 => .array .int
  | 17 => .array .int
  | 18 => .long
  | 19 => .int
  | _ => .int
abbrev wsX30 : List Cond := u_ws RX3 TX3 21
theorem nmX3 : ∀ a, a < 21 → ∀ b, b < 21 → a ≠ b → (TX3 a).2.1 ≠ (TX3 b).2.1 := by decide +kernel
theorem tyX3_ok : ∀ k, k < 21 → parseFieldDescriptor (TX3 k).2.2.1 = some (tyX3 k) := by decide +kernel
abbrev cX3_init : ByteArray := prog_5_method_1_code
def yX3_init : MethodName := ⟨RX3, "<init>", "()V"⟩
abbrev cX3_thrown : ByteArray := prog_5_method_2_code
def yX3_thrown : MethodName := ⟨RX3, "thrown", "()I"⟩
abbrev cX3_isCall : ByteArray := prog_5_method_3_code
def yX3_isCall : MethodName := ⟨RX3, "isCall", "(I)Z"⟩
abbrev cX3_isKind : ByteArray := prog_5_method_4_code
def yX3_isKind : MethodName := ⟨RX3, "isKind", "(I)Z"⟩
abbrev cX3_collect : ByteArray := prog_5_method_5_code
def yX3_collect : MethodName := ⟨RX3, "collect", "(J)I"⟩
abbrev cX3_wants : ByteArray := prog_5_method_6_code
def yX3_wants : MethodName := ⟨RX3, "wants", "(II)I"⟩
abbrev cX3_act : ByteArray := prog_5_method_7_code
def yX3_act : MethodName := ⟨RX3, "act", "(III)I"⟩
abbrev cX3_fails : ByteArray := prog_5_method_8_code
def yX3_fails : MethodName := ⟨RX3, "fails", "(III)I"⟩
abbrev cX3_isHere : ByteArray := prog_5_method_9_code
def yX3_isHere : MethodName := ⟨RX3, "isHere", "(II)Z"⟩
abbrev cX3_makes : ByteArray := prog_5_method_10_code
def yX3_makes : MethodName := ⟨RX3, "makes", "(I)I"⟩
abbrev cX3_greatest : ByteArray := prog_5_method_11_code
def yX3_greatest : MethodName := ⟨RX3, "greatest", "(I)I"⟩
abbrev cX3_many : ByteArray := prog_5_method_12_code
def yX3_many : MethodName := ⟨RX3, "many", "(I)I"⟩
abbrev cX3_make : ByteArray := prog_5_method_13_code
def yX3_make : MethodName := ⟨RX3, "make", "(I)I"⟩
abbrev cX3_drops : ByteArray := prog_5_method_14_code
def yX3_drops : MethodName := ⟨RX3, "drops", "(II)Z"⟩
abbrev cX3_drop : ByteArray := prog_5_method_15_code
def yX3_drop : MethodName := ⟨RX3, "drop", "(II)Z"⟩
abbrev cX3_keep : ByteArray := prog_5_method_16_code
def yX3_keep : MethodName := ⟨RX3, "keep", "()V"⟩
abbrev cX3_restore : ByteArray := prog_5_method_17_code
def yX3_restore : MethodName := ⟨RX3, "restore", "()V"⟩
abbrev cX3_take : ByteArray := prog_5_method_18_code
def yX3_take : MethodName := ⟨RX3, "take", "(I)V"⟩
abbrev cX3_does : ByteArray := prog_5_method_19_code
def yX3_does : MethodName := ⟨RX3, "does", "(IIIJ)I"⟩
abbrev cX3_done : ByteArray := prog_5_method_20_code
def yX3_done : MethodName := ⟨RX3, "done", "(IIJ)Z"⟩
abbrev cX3_may : ByteArray := prog_5_method_21_code
def yX3_may : MethodName := ⟨RX3, "may", "(II)Z"⟩
abbrev cX3_call : ByteArray := prog_5_method_22_code
def yX3_call : MethodName := ⟨RX3, "call", "(IIJ)J"⟩
abbrev cX3_again : ByteArray := prog_5_method_23_code
def yX3_again : MethodName := ⟨RX3, "again", "(IIJ)J"⟩
abbrev cX3_told : ByteArray := prog_5_method_24_code
def yX3_told : MethodName := ⟨RX3, "told", "(I)I"⟩
abbrev cX3_numbers : ByteArray := prog_5_method_25_code
def yX3_numbers : MethodName := ⟨RX3, "numbers", "(I)I"⟩
abbrev cX3_here : ByteArray := prog_5_method_26_code
def yX3_here : MethodName := ⟨RX3, "here", "(II)Z"⟩
abbrev cX3_tally : ByteArray := prog_5_method_27_code
def yX3_tally : MethodName := ⟨RX3, "tally", "(I)J"⟩
abbrev cX3_row : ByteArray := prog_5_method_28_code
def yX3_row : MethodName := ⟨RX3, "row", "(I)J"⟩
def RJx00060 : String := "java/lang/ArrayIndexOutOfBoundsException"
def TJx00060 : u_T := fun k => match k with
  | 0 => ("java/lang/Throwable", "cause", "Ljava/lang/Throwable;", false)
  | 1 => ("java/lang/Throwable", "stackTrace", "[Ljava/lang/StackTraceElement;", false)
  | 2 => ("java/lang/Throwable", "suppressedExceptions", "Ljava/util/List;", false)
  | 3 => ("java/lang/Throwable", "detailMessage", "Ljava/lang/String;", false)
  | 4 => ("java/lang/Throwable", "backtrace", "Ljava/lang/Object;", false)
  | _ => ("java/lang/Throwable", "depth", "I", false)
def tyJx00060 : Nat → FieldType := fun k => match k with
  | 0 => .object "java/lang/Throwable"
  | 1 => .array (.object "java/lang/StackTraceElement")
  | 2 => .object "java/util/List"
  | 3 => .object "java/lang/String"
  | 4 => .object "java/lang/Object"
  | _ => .int
abbrev wsJx000600 : List Cond := u_ws RJx00060 TJx00060 6
theorem nmJx00060 : ∀ a, a < 6 → ∀ b, b < 6 → a ≠ b → (TJx00060 a).2.1 ≠ (TJx00060 b).2.1 := by decide +kernel
theorem tyJx00060_ok : ∀ k, k < 6 → parseFieldDescriptor (TJx00060 k).2.2.1 = some (tyJx00060 k) := by decide +kernel
abbrev cJx00060_init_a7421 : ByteArray := prog_6_method_2_code
def yJx00060_init_a7421 : MethodName := ⟨RJx00060, "<init>", "(Ljava/lang/String;)V"⟩
def RJ13 : String := "java/lang/Long"
def TJ13 : u_T := fun k => match k with
  | _ => ("", "", "", false)
def tyJ13 : Nat → FieldType := fun k => match k with
  | _ => .int
abbrev wsJ130 : List Cond := u_ws RJ13 TJ13 0
theorem nmJ13 : ∀ a, a < 0 → ∀ b, b < 0 → a ≠ b → (TJ13 a).2.1 ≠ (TJ13 b).2.1 := by decide +kernel
theorem tyJ13_ok : ∀ k, k < 0 → parseFieldDescriptor (TJ13 k).2.2.1 = some (tyJ13 k) := by decide +kernel
abbrev cJ13_bitCount_95d88 : ByteArray := prog_9_method_50_code
def yJ13_bitCount_95d88 : MethodName := ⟨RJ13, "bitCount", "(J)I"⟩
def RJ0 : String := "java/lang/String"
def TJ0 : u_T := fun k => match k with
  | _ => ("", "", "", false)
def tyJ0 : Nat → FieldType := fun k => match k with
  | _ => .int
abbrev wsJ00 : List Cond := u_ws RJ0 TJ0 0
theorem nmJ0 : ∀ a, a < 0 → ∀ b, b < 0 → a ≠ b → (TJ0 a).2.1 ≠ (TJ0 b).2.1 := by decide +kernel
theorem tyJ0_ok : ∀ k, k < 0 → parseFieldDescriptor (TJ0 k).2.2.1 = some (tyJ0 k) := by decide +kernel
def RJ10 : String := "java/lang/System"
def TJ10 : u_T := fun k => match k with
  | _ => ("", "", "", false)
def tyJ10 : Nat → FieldType := fun k => match k with
  | _ => .int
abbrev wsJ100 : List Cond := u_ws RJ10 TJ10 0
theorem nmJ10 : ∀ a, a < 0 → ∀ b, b < 0 → a ≠ b → (TJ10 a).2.1 ≠ (TJ10 b).2.1 := by decide +kernel
theorem tyJ10_ok : ∀ k, k < 0 → parseFieldDescriptor (TJ10 k).2.2.1 = some (tyJ10 k) := by decide +kernel
def RL : String := "LibraryDeskLaw"
abbrev cL_row : ByteArray := method_3_code
def yL_row : MethodName := ⟨RL, "row", "(LLibraryDesk;I[J)I"⟩
abbrev cL_law : ByteArray := code
def yL_law : MethodName := ⟨RL, "law", "([I)Z"⟩
def wsX0_init : List Cond := .code yX0_init cX0_init 1 none :: ([.methodLink RX0 3 objectInit, .instanceMethod objectInit, .code objectInit ⟨#[0xb1]⟩ 1 none, .arrayClass .int, .fieldLink RX0 9 "LibraryDesk$Holdings" "made" "[I", .arrayClass .long, .fieldLink RX0 15 "LibraryDesk$Holdings" "hereBits" "[J", .fieldLink RX0 19 "LibraryDesk$Holdings" "tallies" "[J", .fieldLink RX0 22 "LibraryDesk$Holdings" "values" "[J"] ++ wsX00)
def wsX0_copyFrom : List Cond := .code yX0_copyFrom cX0_copyFrom 2 none :: ([.fieldLink RX0 9 "LibraryDesk$Holdings" "made" "[I", .methodLink RX0 25 arraycopyName, .native arraycopyName, .static arraycopyName, .initialized "java/lang/System", .fieldLink RX0 15 "LibraryDesk$Holdings" "hereBits" "[J", .fieldLink RX0 19 "LibraryDesk$Holdings" "tallies" "[J", .fieldLink RX0 22 "LibraryDesk$Holdings" "values" "[J", .fieldLink RX0 31 "LibraryDesk$Holdings" "valueCount" "I"] ++ wsX00)
def wsX0_addValue : List Cond := .code yX0_addValue cX0_addValue 3 (some .boolean) :: ([.fieldLink RX0 31 "LibraryDesk$Holdings" "valueCount" "I", .fieldLink RX0 22 "LibraryDesk$Holdings" "values" "[J"] ++ wsX00)
def wsX0_moveFirstValueTo : List Cond := .code yX0_moveFirstValueTo cX0_moveFirstValueTo 3 (some .boolean) :: ([.fieldLink RX0 31 "LibraryDesk$Holdings" "valueCount" "I", .fieldLink RX0 19 "LibraryDesk$Holdings" "tallies" "[J", .fieldLink RX0 22 "LibraryDesk$Holdings" "values" "[J"] ++ wsX00)
def wsX0_makeNumber : List Cond := .code yX0_makeNumber cX0_makeNumber 2 (some .boolean) :: ([.fieldLink RX0 9 "LibraryDesk$Holdings" "made" "[I", .fieldLink RX0 15 "LibraryDesk$Holdings" "hereBits" "[J"] ++ wsX00)
def wsX2_isKind : List Cond := .code yX2_isKind cX2_isKind 1 (some .boolean) :: ([])
def wsX0_isHere : List Cond := .code yX0_isHere cX0_isHere 3 (some .boolean) :: ([.fieldLink RX0 15 "LibraryDesk$Holdings" "hereBits" "[J", .static yX2_isKind, .initialized RX2, .code yX2_isKind cX2_isKind 1 (some .boolean)] ++ wsX00)
def wsX0_dropNumber : List Cond := .code yX0_dropNumber cX0_dropNumber 3 (some .boolean) :: ([.fieldLink RX0 15 "LibraryDesk$Holdings" "hereBits" "[J", .constantLong RX0 43 (-1), .methodLink RX0 39 yX0_isHere, .instanceMethod yX0_isHere, .selects RX0 yX0_isHere yX0_isHere, .initialized RX0, .code yX0_isHere cX0_isHere 3 (some .boolean), .static yX2_isKind, .initialized RX2, .code yX2_isKind cX2_isKind 1 (some .boolean)] ++ wsX00)
def wsJ13_bitCount_95d88 : List Cond := .code yJ13_bitCount_95d88 cJ13_bitCount_95d88 2 (some .int) :: ([.constantLong RJ13 314 (6148914691236517205), .constantLong RJ13 316 (3689348814741910323), .constantLong RJ13 318 (1085102592571150095)])
def wsX0_countHere : List Cond := .code yX0_countHere cX0_countHere 2 (some .int) :: ([.fieldLink RX0 15 "LibraryDesk$Holdings" "hereBits" "[J", .methodLink RX0 45 yJ13_bitCount_95d88, .static yJ13_bitCount_95d88, .initialized RJ13, .code yJ13_bitCount_95d88 cJ13_bitCount_95d88 2 (some .int), .constantLong RJ13 314 (6148914691236517205), .constantLong RJ13 316 (3689348814741910323), .constantLong RJ13 318 (1085102592571150095)] ++ wsX00)
def wsX0_greatestHere : List Cond := .code yX0_greatestHere cX0_greatestHere 3 (some .int) :: ([.fieldLink RX0 9 "LibraryDesk$Holdings" "made" "[I", .methodLink RX0 39 yX0_isHere, .instanceMethod yX0_isHere, .selects RX0 yX0_isHere yX0_isHere, .initialized RX0, .code yX0_isHere cX0_isHere 3 (some .boolean), .fieldLink RX0 15 "LibraryDesk$Holdings" "hereBits" "[J", .static yX2_isKind, .initialized RX2, .code yX2_isKind cX2_isKind 1 (some .boolean)] ++ wsX00)
def wsX1_init : List Cond := .code yX1_init cX1_init 1 none :: ([.methodLink RX1 3 objectInit, .instanceMethod objectInit, .code objectInit ⟨#[0xb1]⟩ 1 none, .fieldLink RX1 9 "LibraryDesk$Plan" "wanted" "I", .arrayClass .int, .fieldLink RX1 15 "LibraryDesk$Plan" "sorts" "[I", .fieldLink RX1 19 "LibraryDesk$Plan" "kinds" "[I", .fieldLink RX1 22 "LibraryDesk$Plan" "toldAct" "I"] ++ wsX10)
def wsX1_addAct : List Cond := .code yX1_addAct cX1_addAct 3 (some .boolean) :: ([.fieldLink RX1 25 "LibraryDesk$Plan" "actCount" "I", .fieldLink RX1 15 "LibraryDesk$Plan" "sorts" "[I", .fieldLink RX1 19 "LibraryDesk$Plan" "kinds" "[I"] ++ wsX10)
def wsX1_tellToFail : List Cond := .code yX1_tellToFail cX1_tellToFail 3 none :: ([.fieldLink RX1 22 "LibraryDesk$Plan" "toldAct" "I", .fieldLink RX1 28 "LibraryDesk$Plan" "toldWith" "I"] ++ wsX10)
def wsX1_isToldToFailAt : List Cond := .code yX1_isToldToFailAt cX1_isToldToFailAt 2 (some .boolean) :: ([.fieldLink RX1 22 "LibraryDesk$Plan" "toldAct" "I"] ++ wsX10)
def wsX1_forgetTold : List Cond := .code yX1_forgetTold cX1_forgetTold 1 none :: ([.fieldLink RX1 22 "LibraryDesk$Plan" "toldAct" "I"] ++ wsX10)
def wsX2_init_r1 : List Cond := [Cond.methodLink RX2 1 objectInit, Cond.instanceMethod objectInit, Cond.code objectInit ⟨#[0xb1]⟩ 1 none, Cond.classLink RX2 9 RX1, Cond.fieldLink RX2 11 "LibraryDesk" "plans" "[LLibraryDesk$Plan;", Cond.instantiable RX1 6, Cond.initialized RX1, Cond.classLink RX2 16 RX0, Cond.instantiable RX0 5, Cond.initialized RX0, Cond.fieldLink RX2 19 "LibraryDesk" "now" "LLibraryDesk$Holdings;", Cond.fieldLink RX2 23 "LibraryDesk" "trial" "LLibraryDesk$Holdings;", Cond.methodLink RX2 15 yX1_init, Cond.instanceMethod yX1_init, Cond.code yX1_init cX1_init 1 none, Cond.methodLink RX1 3 objectInit, Cond.fieldLink RX1 9 "LibraryDesk$Plan" "wanted" "I", Cond.arrayClass .int, Cond.fieldLink RX1 15 "LibraryDesk$Plan" "sorts" "[I", Cond.fieldLink RX1 19 "LibraryDesk$Plan" "kinds" "[I", Cond.fieldLink RX1 22 "LibraryDesk$Plan" "toldAct" "I", Cond.methodLink RX2 18 yX0_init, Cond.instanceMethod yX0_init, Cond.code yX0_init cX0_init 1 none]
def wsX2_init_r2 : List Cond := [Cond.methodLink RX0 3 objectInit, Cond.fieldLink RX0 9 "LibraryDesk$Holdings" "made" "[I", Cond.arrayClass .long, Cond.fieldLink RX0 15 "LibraryDesk$Holdings" "hereBits" "[J", Cond.fieldLink RX0 19 "LibraryDesk$Holdings" "tallies" "[J", Cond.fieldLink RX0 22 "LibraryDesk$Holdings" "values" "[J"]
def wsX2_init : List Cond := .code yX2_init cX2_init 2 none :: ((wsX2_init_r1 ++ wsX2_init_r2) ++ wsX20 ++ wsX10 ++ wsX00)
def wsX2_collect : List Cond := .code yX2_collect cX2_collect 3 (some .int) :: ([.fieldLink RX2 19 "LibraryDesk" "now" "LLibraryDesk$Holdings;", .fieldLink RX2 30 "LibraryDesk$Holdings" "valueCount" "I", .methodLink RX2 26 yX0_addValue, .instanceMethod yX0_addValue, .selects RX0 yX0_addValue yX0_addValue, .initialized RX0, .code yX0_addValue cX0_addValue 3 (some .boolean), .fieldLink RX0 31 "LibraryDesk$Holdings" "valueCount" "I", .fieldLink RX0 22 "LibraryDesk$Holdings" "values" "[J"] ++ wsX20 ++ wsX00)
def wsX2_isCall : List Cond := .code yX2_isCall cX2_isCall 1 (some .boolean) :: ([])
def wsX2_wants : List Cond := .code yX2_wants cX2_wants 4 (some .int) :: ([.fieldLink RX2 11 "LibraryDesk" "plans" "[LLibraryDesk$Plan;", .fieldLink RX2 41 "LibraryDesk$Plan" "wanted" "I", .methodLink RX2 34 yX2_isCall, .static yX2_isCall, .initialized RX2, .code yX2_isCall cX2_isCall 1 (some .boolean), .methodLink RX2 38 yX2_isKind, .static yX2_isKind, .code yX2_isKind cX2_isKind 1 (some .boolean)] ++ wsX20 ++ wsX10)
def wsX2_isSort : List Cond := .code yX2_isSort cX2_isSort 1 (some .boolean) :: ([])
def wsX2_act : List Cond := .code yX2_act cX2_act 4 (some .int) :: ([.fieldLink RX2 11 "LibraryDesk" "plans" "[LLibraryDesk$Plan;", .fieldLink RX2 51 "LibraryDesk$Plan" "actCount" "I", .methodLink RX2 34 yX2_isCall, .static yX2_isCall, .initialized RX2, .code yX2_isCall cX2_isCall 1 (some .boolean), .methodLink RX2 44 yX2_isSort, .static yX2_isSort, .code yX2_isSort cX2_isSort 1 (some .boolean), .methodLink RX2 38 yX2_isKind, .static yX2_isKind, .code yX2_isKind cX2_isKind 1 (some .boolean), .methodLink RX2 47 yX1_addAct, .instanceMethod yX1_addAct, .selects RX1 yX1_addAct yX1_addAct, .initialized RX1, .code yX1_addAct cX1_addAct 3 (some .boolean), .fieldLink RX1 25 "LibraryDesk$Plan" "actCount" "I", .fieldLink RX1 15 "LibraryDesk$Plan" "sorts" "[I", .fieldLink RX1 19 "LibraryDesk$Plan" "kinds" "[I"] ++ wsX20 ++ wsX10)
def wsX2_fails : List Cond := .code yX2_fails cX2_fails 4 (some .int) :: ([.fieldLink RX2 11 "LibraryDesk" "plans" "[LLibraryDesk$Plan;", .methodLink RX2 34 yX2_isCall, .static yX2_isCall, .initialized RX2, .code yX2_isCall cX2_isCall 1 (some .boolean), .methodLink RX2 54 yX1_tellToFail, .instanceMethod yX1_tellToFail, .selects RX1 yX1_tellToFail yX1_tellToFail, .initialized RX1, .code yX1_tellToFail cX1_tellToFail 3 none, .fieldLink RX1 22 "LibraryDesk$Plan" "toldAct" "I", .fieldLink RX1 28 "LibraryDesk$Plan" "toldWith" "I"] ++ wsX20 ++ wsX10)
def wsX2_make : List Cond := .code yX2_make cX2_make 2 (some .int) :: ([.fieldLink RX2 19 "LibraryDesk" "now" "LLibraryDesk$Holdings;", .fieldLink RX2 61 "LibraryDesk$Holdings" "made" "[I", .methodLink RX2 38 yX2_isKind, .static yX2_isKind, .initialized RX2, .code yX2_isKind cX2_isKind 1 (some .boolean), .methodLink RX2 58 yX0_makeNumber, .instanceMethod yX0_makeNumber, .selects RX0 yX0_makeNumber yX0_makeNumber, .initialized RX0, .code yX0_makeNumber cX0_makeNumber 2 (some .boolean), .fieldLink RX0 9 "LibraryDesk$Holdings" "made" "[I", .fieldLink RX0 15 "LibraryDesk$Holdings" "hereBits" "[J"] ++ wsX20 ++ wsX00)
def wsX2_drop : List Cond := .code yX2_drop cX2_drop 3 (some .boolean) :: ([.fieldLink RX2 19 "LibraryDesk" "now" "LLibraryDesk$Holdings;", .methodLink RX2 65 yX0_dropNumber, .instanceMethod yX0_dropNumber, .selects RX0 yX0_dropNumber yX0_dropNumber, .initialized RX0, .code yX0_dropNumber cX0_dropNumber 3 (some .boolean), .fieldLink RX0 15 "LibraryDesk$Holdings" "hereBits" "[J", .constantLong RX0 43 (-1), .methodLink RX0 39 yX0_isHere, .instanceMethod yX0_isHere, .selects RX0 yX0_isHere yX0_isHere, .code yX0_isHere cX0_isHere 3 (some .boolean), .static yX2_isKind, .initialized RX2, .code yX2_isKind cX2_isKind 1 (some .boolean)] ++ wsX20 ++ wsX00)
def wsX2_isRefused : List Cond := .code yX2_isRefused cX2_isRefused 4 (some .boolean) :: ([.fieldLink RX2 11 "LibraryDesk" "plans" "[LLibraryDesk$Plan;", .fieldLink RX2 41 "LibraryDesk$Plan" "wanted" "I", .fieldLink RX2 19 "LibraryDesk" "now" "LLibraryDesk$Holdings;", .methodLink RX2 34 yX2_isCall, .static yX2_isCall, .initialized RX2, .code yX2_isCall cX2_isCall 1 (some .boolean), .methodLink RX2 117 yX0_isHere, .instanceMethod yX0_isHere, .selects RX0 yX0_isHere yX0_isHere, .initialized RX0, .code yX0_isHere cX0_isHere 3 (some .boolean), .fieldLink RX0 15 "LibraryDesk$Holdings" "hereBits" "[J", .static yX2_isKind, .code yX2_isKind cX2_isKind 1 (some .boolean)] ++ wsX20 ++ wsX10 ++ wsX00)
def wsX2_doAct_r1 : List Cond := [Cond.fieldLink RX2 151 "LibraryDesk$Plan" "kinds" "[I", Cond.fieldLink RX2 154 "LibraryDesk$Plan" "sorts" "[I", Cond.fieldLink RX2 23 "LibraryDesk" "trial" "LLibraryDesk$Holdings;", Cond.fieldLink RX2 120 "LibraryDesk$Holdings" "tallies" "[J", Cond.constantLong RX2 163 (31), Cond.fieldLink RX2 94 "LibraryDesk" "trialAnswer" "J", Cond.fieldLink RX2 41 "LibraryDesk$Plan" "wanted" "I", Cond.methodLink RX2 58 yX0_makeNumber, Cond.instanceMethod yX0_makeNumber, Cond.selects RX0 yX0_makeNumber yX0_makeNumber, Cond.initialized RX0, Cond.code yX0_makeNumber cX0_makeNumber 2 (some .boolean), Cond.fieldLink RX0 9 "LibraryDesk$Holdings" "made" "[I", Cond.fieldLink RX0 15 "LibraryDesk$Holdings" "hereBits" "[J", Cond.methodLink RX2 157 yX0_greatestHere, Cond.instanceMethod yX0_greatestHere, Cond.selects RX0 yX0_greatestHere yX0_greatestHere, Cond.code yX0_greatestHere cX0_greatestHere 3 (some .int), Cond.methodLink RX0 39 yX0_isHere, Cond.instanceMethod yX0_isHere, Cond.selects RX0 yX0_isHere yX0_isHere, Cond.code yX0_isHere cX0_isHere 3 (some .boolean), Cond.static yX2_isKind, Cond.initialized RX2]
def wsX2_doAct_r2 : List Cond := [Cond.code yX2_isKind cX2_isKind 1 (some .boolean), Cond.methodLink RX2 65 yX0_dropNumber, Cond.instanceMethod yX0_dropNumber, Cond.selects RX0 yX0_dropNumber yX0_dropNumber, Cond.code yX0_dropNumber cX0_dropNumber 3 (some .boolean), Cond.constantLong RX0 43 (-1), Cond.methodLink RX2 160 yX0_moveFirstValueTo, Cond.instanceMethod yX0_moveFirstValueTo, Cond.selects RX0 yX0_moveFirstValueTo yX0_moveFirstValueTo, Cond.code yX0_moveFirstValueTo cX0_moveFirstValueTo 3 (some .boolean), Cond.fieldLink RX0 31 "LibraryDesk$Holdings" "valueCount" "I", Cond.fieldLink RX0 19 "LibraryDesk$Holdings" "tallies" "[J", Cond.fieldLink RX0 22 "LibraryDesk$Holdings" "values" "[J", Cond.methodLink RX2 113 yX0_countHere, Cond.instanceMethod yX0_countHere, Cond.selects RX0 yX0_countHere yX0_countHere, Cond.code yX0_countHere cX0_countHere 2 (some .int), Cond.methodLink RX0 45 yJ13_bitCount_95d88, Cond.static yJ13_bitCount_95d88, Cond.initialized RJ13, Cond.code yJ13_bitCount_95d88 cJ13_bitCount_95d88 2 (some .int), Cond.constantLong RJ13 314 (6148914691236517205), Cond.constantLong RJ13 316 (3689348814741910323), Cond.constantLong RJ13 318 (1085102592571150095)]
def wsX2_doAct : List Cond := .code yX2_doAct cX2_doAct 7 (some .int) :: ((wsX2_doAct_r1 ++ wsX2_doAct_r2) ++ wsX10 ++ wsX20 ++ wsX00)
def wsX2_tryActs_r1 : List Cond := [Cond.fieldLink RX2 23 "LibraryDesk" "trial" "LLibraryDesk$Holdings;", Cond.fieldLink RX2 19 "LibraryDesk" "now" "LLibraryDesk$Holdings;", Cond.fieldLink RX2 94 "LibraryDesk" "trialAnswer" "J", Cond.fieldLink RX2 80 "LibraryDesk" "trialFailedWith" "I", Cond.fieldLink RX2 51 "LibraryDesk$Plan" "actCount" "I", Cond.fieldLink RX2 138 "LibraryDesk" "trialFailedAt" "I", Cond.fieldLink RX2 144 "LibraryDesk$Plan" "toldWith" "I", Cond.methodLink RX2 134 yX0_copyFrom, Cond.instanceMethod yX0_copyFrom, Cond.selects RX0 yX0_copyFrom yX0_copyFrom, Cond.initialized RX0, Cond.code yX0_copyFrom cX0_copyFrom 2 none, Cond.fieldLink RX0 9 "LibraryDesk$Holdings" "made" "[I", Cond.methodLink RX0 25 arraycopyName, Cond.native arraycopyName, Cond.static arraycopyName, Cond.initialized "java/lang/System", Cond.fieldLink RX0 15 "LibraryDesk$Holdings" "hereBits" "[J", Cond.fieldLink RX0 19 "LibraryDesk$Holdings" "tallies" "[J", Cond.fieldLink RX0 22 "LibraryDesk$Holdings" "values" "[J", Cond.fieldLink RX0 31 "LibraryDesk$Holdings" "valueCount" "I", Cond.methodLink RX2 141 yX1_isToldToFailAt, Cond.instanceMethod yX1_isToldToFailAt, Cond.selects RX1 yX1_isToldToFailAt yX1_isToldToFailAt]
def wsX2_tryActs_r2 : List Cond := [Cond.initialized RX1, Cond.code yX1_isToldToFailAt cX1_isToldToFailAt 2 (some .boolean), Cond.fieldLink RX1 22 "LibraryDesk$Plan" "toldAct" "I", Cond.methodLink RX2 147 yX2_doAct, Cond.instanceMethod yX2_doAct, Cond.selects RX2 yX2_doAct yX2_doAct, Cond.initialized RX2, Cond.code yX2_doAct cX2_doAct 7 (some .int), Cond.fieldLink RX2 151 "LibraryDesk$Plan" "kinds" "[I", Cond.fieldLink RX2 154 "LibraryDesk$Plan" "sorts" "[I", Cond.fieldLink RX2 120 "LibraryDesk$Holdings" "tallies" "[J", Cond.constantLong RX2 163 (31), Cond.fieldLink RX2 41 "LibraryDesk$Plan" "wanted" "I", Cond.methodLink RX2 58 yX0_makeNumber, Cond.instanceMethod yX0_makeNumber, Cond.selects RX0 yX0_makeNumber yX0_makeNumber, Cond.code yX0_makeNumber cX0_makeNumber 2 (some .boolean), Cond.methodLink RX2 157 yX0_greatestHere, Cond.instanceMethod yX0_greatestHere, Cond.selects RX0 yX0_greatestHere yX0_greatestHere, Cond.code yX0_greatestHere cX0_greatestHere 3 (some .int), Cond.methodLink RX0 39 yX0_isHere, Cond.instanceMethod yX0_isHere, Cond.selects RX0 yX0_isHere yX0_isHere]
def wsX2_tryActs_r3 : List Cond := [Cond.code yX0_isHere cX0_isHere 3 (some .boolean), Cond.static yX2_isKind, Cond.code yX2_isKind cX2_isKind 1 (some .boolean), Cond.methodLink RX2 65 yX0_dropNumber, Cond.instanceMethod yX0_dropNumber, Cond.selects RX0 yX0_dropNumber yX0_dropNumber, Cond.code yX0_dropNumber cX0_dropNumber 3 (some .boolean), Cond.constantLong RX0 43 (-1), Cond.methodLink RX2 160 yX0_moveFirstValueTo, Cond.instanceMethod yX0_moveFirstValueTo, Cond.selects RX0 yX0_moveFirstValueTo yX0_moveFirstValueTo, Cond.code yX0_moveFirstValueTo cX0_moveFirstValueTo 3 (some .boolean), Cond.methodLink RX2 113 yX0_countHere, Cond.instanceMethod yX0_countHere, Cond.selects RX0 yX0_countHere yX0_countHere, Cond.code yX0_countHere cX0_countHere 2 (some .int), Cond.methodLink RX0 45 yJ13_bitCount_95d88, Cond.static yJ13_bitCount_95d88, Cond.initialized RJ13, Cond.code yJ13_bitCount_95d88 cJ13_bitCount_95d88 2 (some .int), Cond.constantLong RJ13 314 (6148914691236517205), Cond.constantLong RJ13 316 (3689348814741910323), Cond.constantLong RJ13 318 (1085102592571150095)]
def wsX2_tryActs : List Cond := .code yX2_tryActs cX2_tryActs 6 none :: ((wsX2_tryActs_r1 ++ (wsX2_tryActs_r2 ++ wsX2_tryActs_r3)) ++ wsX20 ++ wsX10 ++ wsX00)
def wsX2_noteFailure : List Cond := .code yX2_noteFailure cX2_noteFailure 3 none :: ([.fieldLink RX2 11 "LibraryDesk" "plans" "[LLibraryDesk$Plan;", .fieldLink RX2 138 "LibraryDesk" "trialFailedAt" "I", .fieldLink RX2 98 "LibraryDesk" "failedCalls" "I", .fieldLink RX2 80 "LibraryDesk" "trialFailedWith" "I", .fieldLink RX2 101 "LibraryDesk" "lastFailedWith" "I", .fieldLink RX2 104 "LibraryDesk" "lastFailedAct" "I", .fieldLink RX2 107 "LibraryDesk" "lastFailedCall" "I", .fieldLink RX2 110 "LibraryDesk" "lastFailedNumber" "I", .methodLink RX2 141 yX1_isToldToFailAt, .instanceMethod yX1_isToldToFailAt, .selects RX1 yX1_isToldToFailAt yX1_isToldToFailAt, .initialized RX1, .code yX1_isToldToFailAt cX1_isToldToFailAt 2 (some .boolean), .fieldLink RX1 22 "LibraryDesk$Plan" "toldAct" "I", .methodLink RX2 165 yX1_forgetTold, .instanceMethod yX1_forgetTold, .selects RX1 yX1_forgetTold yX1_forgetTold, .code yX1_forgetTold cX1_forgetTold 1 none] ++ wsX20 ++ wsX10)
def wsX2_keepTrial : List Cond := .code yX2_keepTrial cX2_keepTrial 2 none :: ([.fieldLink RX2 19 "LibraryDesk" "now" "LLibraryDesk$Holdings;", .fieldLink RX2 23 "LibraryDesk" "trial" "LLibraryDesk$Holdings;"] ++ wsX20)
def wsX2_call_r1 : List Cond := [Cond.fieldLink RX2 71 "LibraryDesk" "refusedCalls" "I", Cond.constantLong RX2 74 (-9223372036854775807), Cond.fieldLink RX2 11 "LibraryDesk" "plans" "[LLibraryDesk$Plan;", Cond.fieldLink RX2 80 "LibraryDesk" "trialFailedWith" "I", Cond.constantLong RX2 86 (-9223372036854775806), Cond.fieldLink RX2 91 "LibraryDesk" "answeredCalls" "I", Cond.fieldLink RX2 94 "LibraryDesk" "trialAnswer" "J", Cond.methodLink RX2 68 yX2_isRefused, Cond.instanceMethod yX2_isRefused, Cond.selects RX2 yX2_isRefused yX2_isRefused, Cond.initialized RX2, Cond.code yX2_isRefused cX2_isRefused 4 (some .boolean), Cond.fieldLink RX2 41 "LibraryDesk$Plan" "wanted" "I", Cond.fieldLink RX2 19 "LibraryDesk" "now" "LLibraryDesk$Holdings;", Cond.methodLink RX2 34 yX2_isCall, Cond.static yX2_isCall, Cond.code yX2_isCall cX2_isCall 1 (some .boolean), Cond.methodLink RX2 117 yX0_isHere, Cond.instanceMethod yX0_isHere, Cond.selects RX0 yX0_isHere yX0_isHere, Cond.initialized RX0, Cond.code yX0_isHere cX0_isHere 3 (some .boolean), Cond.fieldLink RX0 15 "LibraryDesk$Holdings" "hereBits" "[J", Cond.static yX2_isKind]
def wsX2_call_r2 : List Cond := [Cond.code yX2_isKind cX2_isKind 1 (some .boolean), Cond.methodLink RX2 76 yX2_tryActs, Cond.instanceMethod yX2_tryActs, Cond.selects RX2 yX2_tryActs yX2_tryActs, Cond.code yX2_tryActs cX2_tryActs 6 none, Cond.fieldLink RX2 23 "LibraryDesk" "trial" "LLibraryDesk$Holdings;", Cond.fieldLink RX2 51 "LibraryDesk$Plan" "actCount" "I", Cond.fieldLink RX2 138 "LibraryDesk" "trialFailedAt" "I", Cond.fieldLink RX2 144 "LibraryDesk$Plan" "toldWith" "I", Cond.methodLink RX2 134 yX0_copyFrom, Cond.instanceMethod yX0_copyFrom, Cond.selects RX0 yX0_copyFrom yX0_copyFrom, Cond.code yX0_copyFrom cX0_copyFrom 2 none, Cond.fieldLink RX0 9 "LibraryDesk$Holdings" "made" "[I", Cond.methodLink RX0 25 arraycopyName, Cond.native arraycopyName, Cond.static arraycopyName, Cond.initialized "java/lang/System", Cond.fieldLink RX0 19 "LibraryDesk$Holdings" "tallies" "[J", Cond.fieldLink RX0 22 "LibraryDesk$Holdings" "values" "[J", Cond.fieldLink RX0 31 "LibraryDesk$Holdings" "valueCount" "I", Cond.methodLink RX2 141 yX1_isToldToFailAt, Cond.instanceMethod yX1_isToldToFailAt, Cond.selects RX1 yX1_isToldToFailAt yX1_isToldToFailAt]
def wsX2_call_r3 : List Cond := [Cond.initialized RX1, Cond.code yX1_isToldToFailAt cX1_isToldToFailAt 2 (some .boolean), Cond.fieldLink RX1 22 "LibraryDesk$Plan" "toldAct" "I", Cond.methodLink RX2 147 yX2_doAct, Cond.instanceMethod yX2_doAct, Cond.selects RX2 yX2_doAct yX2_doAct, Cond.code yX2_doAct cX2_doAct 7 (some .int), Cond.fieldLink RX2 151 "LibraryDesk$Plan" "kinds" "[I", Cond.fieldLink RX2 154 "LibraryDesk$Plan" "sorts" "[I", Cond.fieldLink RX2 120 "LibraryDesk$Holdings" "tallies" "[J", Cond.constantLong RX2 163 (31), Cond.methodLink RX2 58 yX0_makeNumber, Cond.instanceMethod yX0_makeNumber, Cond.selects RX0 yX0_makeNumber yX0_makeNumber, Cond.code yX0_makeNumber cX0_makeNumber 2 (some .boolean), Cond.methodLink RX2 157 yX0_greatestHere, Cond.instanceMethod yX0_greatestHere, Cond.selects RX0 yX0_greatestHere yX0_greatestHere, Cond.code yX0_greatestHere cX0_greatestHere 3 (some .int), Cond.methodLink RX0 39 yX0_isHere, Cond.methodLink RX2 65 yX0_dropNumber, Cond.instanceMethod yX0_dropNumber, Cond.selects RX0 yX0_dropNumber yX0_dropNumber, Cond.code yX0_dropNumber cX0_dropNumber 3 (some .boolean)]
def wsX2_call_r4 : List Cond := [Cond.constantLong RX0 43 (-1), Cond.methodLink RX2 160 yX0_moveFirstValueTo, Cond.instanceMethod yX0_moveFirstValueTo, Cond.selects RX0 yX0_moveFirstValueTo yX0_moveFirstValueTo, Cond.code yX0_moveFirstValueTo cX0_moveFirstValueTo 3 (some .boolean), Cond.methodLink RX2 113 yX0_countHere, Cond.instanceMethod yX0_countHere, Cond.selects RX0 yX0_countHere yX0_countHere, Cond.code yX0_countHere cX0_countHere 2 (some .int), Cond.methodLink RX0 45 yJ13_bitCount_95d88, Cond.static yJ13_bitCount_95d88, Cond.initialized RJ13, Cond.code yJ13_bitCount_95d88 cJ13_bitCount_95d88 2 (some .int), Cond.constantLong RJ13 314 (6148914691236517205), Cond.constantLong RJ13 316 (3689348814741910323), Cond.constantLong RJ13 318 (1085102592571150095), Cond.methodLink RX2 83 yX2_noteFailure, Cond.instanceMethod yX2_noteFailure, Cond.selects RX2 yX2_noteFailure yX2_noteFailure, Cond.code yX2_noteFailure cX2_noteFailure 3 none, Cond.fieldLink RX2 98 "LibraryDesk" "failedCalls" "I", Cond.fieldLink RX2 101 "LibraryDesk" "lastFailedWith" "I", Cond.fieldLink RX2 104 "LibraryDesk" "lastFailedAct" "I", Cond.fieldLink RX2 107 "LibraryDesk" "lastFailedCall" "I"]
def wsX2_call_r5 : List Cond := [Cond.fieldLink RX2 110 "LibraryDesk" "lastFailedNumber" "I", Cond.methodLink RX2 165 yX1_forgetTold, Cond.instanceMethod yX1_forgetTold, Cond.selects RX1 yX1_forgetTold yX1_forgetTold, Cond.code yX1_forgetTold cX1_forgetTold 1 none, Cond.methodLink RX2 88 yX2_keepTrial, Cond.instanceMethod yX2_keepTrial, Cond.selects RX2 yX2_keepTrial yX2_keepTrial, Cond.code yX2_keepTrial cX2_keepTrial 2 none]
def wsX2_call : List Cond := .code yX2_call cX2_call 5 (some .long) :: ((wsX2_call_r1 ++ (wsX2_call_r2 ++ (wsX2_call_r3 ++ (wsX2_call_r4 ++ wsX2_call_r5)))) ++ wsX20 ++ wsX10 ++ wsX00)
def wsX2_again_r1 : List Cond := [Cond.constantLong RX2 74 (-9223372036854775807), Cond.fieldLink RX2 11 "LibraryDesk" "plans" "[LLibraryDesk$Plan;", Cond.fieldLink RX2 80 "LibraryDesk" "trialFailedWith" "I", Cond.constantLong RX2 86 (-9223372036854775806), Cond.fieldLink RX2 94 "LibraryDesk" "trialAnswer" "J", Cond.methodLink RX2 68 yX2_isRefused, Cond.instanceMethod yX2_isRefused, Cond.selects RX2 yX2_isRefused yX2_isRefused, Cond.initialized RX2, Cond.code yX2_isRefused cX2_isRefused 4 (some .boolean), Cond.fieldLink RX2 41 "LibraryDesk$Plan" "wanted" "I", Cond.fieldLink RX2 19 "LibraryDesk" "now" "LLibraryDesk$Holdings;", Cond.methodLink RX2 34 yX2_isCall, Cond.static yX2_isCall, Cond.code yX2_isCall cX2_isCall 1 (some .boolean), Cond.methodLink RX2 117 yX0_isHere, Cond.instanceMethod yX0_isHere, Cond.selects RX0 yX0_isHere yX0_isHere, Cond.initialized RX0, Cond.code yX0_isHere cX0_isHere 3 (some .boolean), Cond.fieldLink RX0 15 "LibraryDesk$Holdings" "hereBits" "[J", Cond.static yX2_isKind, Cond.code yX2_isKind cX2_isKind 1 (some .boolean), Cond.methodLink RX2 76 yX2_tryActs]
def wsX2_again_r2 : List Cond := [Cond.instanceMethod yX2_tryActs, Cond.selects RX2 yX2_tryActs yX2_tryActs, Cond.code yX2_tryActs cX2_tryActs 6 none, Cond.fieldLink RX2 23 "LibraryDesk" "trial" "LLibraryDesk$Holdings;", Cond.fieldLink RX2 51 "LibraryDesk$Plan" "actCount" "I", Cond.fieldLink RX2 138 "LibraryDesk" "trialFailedAt" "I", Cond.fieldLink RX2 144 "LibraryDesk$Plan" "toldWith" "I", Cond.methodLink RX2 134 yX0_copyFrom, Cond.instanceMethod yX0_copyFrom, Cond.selects RX0 yX0_copyFrom yX0_copyFrom, Cond.code yX0_copyFrom cX0_copyFrom 2 none, Cond.fieldLink RX0 9 "LibraryDesk$Holdings" "made" "[I", Cond.methodLink RX0 25 arraycopyName, Cond.native arraycopyName, Cond.static arraycopyName, Cond.initialized "java/lang/System", Cond.fieldLink RX0 19 "LibraryDesk$Holdings" "tallies" "[J", Cond.fieldLink RX0 22 "LibraryDesk$Holdings" "values" "[J", Cond.fieldLink RX0 31 "LibraryDesk$Holdings" "valueCount" "I", Cond.methodLink RX2 141 yX1_isToldToFailAt, Cond.instanceMethod yX1_isToldToFailAt, Cond.selects RX1 yX1_isToldToFailAt yX1_isToldToFailAt, Cond.initialized RX1, Cond.code yX1_isToldToFailAt cX1_isToldToFailAt 2 (some .boolean)]
def wsX2_again_r3 : List Cond := [Cond.fieldLink RX1 22 "LibraryDesk$Plan" "toldAct" "I", Cond.methodLink RX2 147 yX2_doAct, Cond.instanceMethod yX2_doAct, Cond.selects RX2 yX2_doAct yX2_doAct, Cond.code yX2_doAct cX2_doAct 7 (some .int), Cond.fieldLink RX2 151 "LibraryDesk$Plan" "kinds" "[I", Cond.fieldLink RX2 154 "LibraryDesk$Plan" "sorts" "[I", Cond.fieldLink RX2 120 "LibraryDesk$Holdings" "tallies" "[J", Cond.constantLong RX2 163 (31), Cond.methodLink RX2 58 yX0_makeNumber, Cond.instanceMethod yX0_makeNumber, Cond.selects RX0 yX0_makeNumber yX0_makeNumber, Cond.code yX0_makeNumber cX0_makeNumber 2 (some .boolean), Cond.methodLink RX2 157 yX0_greatestHere, Cond.instanceMethod yX0_greatestHere, Cond.selects RX0 yX0_greatestHere yX0_greatestHere, Cond.code yX0_greatestHere cX0_greatestHere 3 (some .int), Cond.methodLink RX0 39 yX0_isHere, Cond.methodLink RX2 65 yX0_dropNumber, Cond.instanceMethod yX0_dropNumber, Cond.selects RX0 yX0_dropNumber yX0_dropNumber, Cond.code yX0_dropNumber cX0_dropNumber 3 (some .boolean), Cond.constantLong RX0 43 (-1), Cond.methodLink RX2 160 yX0_moveFirstValueTo]
def wsX2_again_r4 : List Cond := [Cond.instanceMethod yX0_moveFirstValueTo, Cond.selects RX0 yX0_moveFirstValueTo yX0_moveFirstValueTo, Cond.code yX0_moveFirstValueTo cX0_moveFirstValueTo 3 (some .boolean), Cond.methodLink RX2 113 yX0_countHere, Cond.instanceMethod yX0_countHere, Cond.selects RX0 yX0_countHere yX0_countHere, Cond.code yX0_countHere cX0_countHere 2 (some .int), Cond.methodLink RX0 45 yJ13_bitCount_95d88, Cond.static yJ13_bitCount_95d88, Cond.initialized RJ13, Cond.code yJ13_bitCount_95d88 cJ13_bitCount_95d88 2 (some .int), Cond.constantLong RJ13 314 (6148914691236517205), Cond.constantLong RJ13 316 (3689348814741910323), Cond.constantLong RJ13 318 (1085102592571150095)]
def wsX2_again : List Cond := .code yX2_again cX2_again 5 (some .long) :: ((wsX2_again_r1 ++ (wsX2_again_r2 ++ (wsX2_again_r3 ++ wsX2_again_r4))) ++ wsX20 ++ wsX10 ++ wsX00)
def wsX2_told : List Cond := .code yX2_told cX2_told 2 (some .int) :: ([.fieldLink RX2 91 "LibraryDesk" "answeredCalls" "I", .fieldLink RX2 71 "LibraryDesk" "refusedCalls" "I", .fieldLink RX2 98 "LibraryDesk" "failedCalls" "I", .fieldLink RX2 101 "LibraryDesk" "lastFailedWith" "I", .fieldLink RX2 104 "LibraryDesk" "lastFailedAct" "I", .fieldLink RX2 107 "LibraryDesk" "lastFailedCall" "I", .fieldLink RX2 110 "LibraryDesk" "lastFailedNumber" "I"] ++ wsX20)
def wsX2_numbers : List Cond := .code yX2_numbers cX2_numbers 2 (some .int) :: ([.fieldLink RX2 19 "LibraryDesk" "now" "LLibraryDesk$Holdings;", .methodLink RX2 38 yX2_isKind, .static yX2_isKind, .initialized RX2, .code yX2_isKind cX2_isKind 1 (some .boolean), .methodLink RX2 113 yX0_countHere, .instanceMethod yX0_countHere, .selects RX0 yX0_countHere yX0_countHere, .initialized RX0, .code yX0_countHere cX0_countHere 2 (some .int), .fieldLink RX0 15 "LibraryDesk$Holdings" "hereBits" "[J", .methodLink RX0 45 yJ13_bitCount_95d88, .static yJ13_bitCount_95d88, .initialized RJ13, .code yJ13_bitCount_95d88 cJ13_bitCount_95d88 2 (some .int), .constantLong RJ13 314 (6148914691236517205), .constantLong RJ13 316 (3689348814741910323), .constantLong RJ13 318 (1085102592571150095)] ++ wsX20 ++ wsX00)
def wsX2_here : List Cond := .code yX2_here cX2_here 3 (some .boolean) :: ([.fieldLink RX2 19 "LibraryDesk" "now" "LLibraryDesk$Holdings;", .methodLink RX2 117 yX0_isHere, .instanceMethod yX0_isHere, .selects RX0 yX0_isHere yX0_isHere, .initialized RX0, .code yX0_isHere cX0_isHere 3 (some .boolean), .fieldLink RX0 15 "LibraryDesk$Holdings" "hereBits" "[J", .static yX2_isKind, .initialized RX2, .code yX2_isKind cX2_isKind 1 (some .boolean)] ++ wsX20 ++ wsX00)
def wsX2_tally : List Cond := .code yX2_tally cX2_tally 2 (some .long) :: ([.fieldLink RX2 19 "LibraryDesk" "now" "LLibraryDesk$Holdings;", .fieldLink RX2 120 "LibraryDesk$Holdings" "tallies" "[J", .methodLink RX2 38 yX2_isKind, .static yX2_isKind, .initialized RX2, .code yX2_isKind cX2_isKind 1 (some .boolean)] ++ wsX20 ++ wsX00)
def wsX2_row : List Cond := .code yX2_row cX2_row 2 (some .long) :: ([.fieldLink RX2 19 "LibraryDesk" "now" "LLibraryDesk$Holdings;", .fieldLink RX2 30 "LibraryDesk$Holdings" "valueCount" "I", .classLink RX2 124 RJx00060, .instantiable RJx00060 6, .initialized RJx00060, .fieldLink RX2 131 "LibraryDesk$Holdings" "values" "[J"] ++ wsX20 ++ wsX00 ++ wsJx000600)
def wsX3_init : List Cond := .code yX3_init cX3_init 2 none :: ([.methodLink RX3 1 objectInit, .instanceMethod objectInit, .code objectInit ⟨#[0xb1]⟩ 1 none, .arrayClass .boolean, .fieldLink RX3 7 "LibraryDeskModel" "here" "[Z", .arrayClass .int, .fieldLink RX3 13 "LibraryDeskModel" "made" "[I", .arrayClass .long, .fieldLink RX3 17 "LibraryDeskModel" "tallies" "[J", .fieldLink RX3 21 "LibraryDeskModel" "row" "[J", .fieldLink RX3 24 "LibraryDeskModel" "oldHere" "[Z", .fieldLink RX3 27 "LibraryDeskModel" "oldMade" "[I", .fieldLink RX3 30 "LibraryDeskModel" "oldTallies" "[J", .fieldLink RX3 33 "LibraryDeskModel" "oldRow" "[J", .fieldLink RX3 36 "LibraryDeskModel" "wanted" "[I", .fieldLink RX3 39 "LibraryDeskModel" "sorts" "[I", .fieldLink RX3 42 "LibraryDeskModel" "kinds" "[I", .fieldLink RX3 45 "LibraryDeskModel" "acts" "[I", .fieldLink RX3 48 "LibraryDeskModel" "failsAt" "[I", .fieldLink RX3 51 "LibraryDeskModel" "failsWith" "[I", .fieldLink RX3 54 "LibraryDeskModel" "told" "[I"] ++ wsX30)
def wsX3_thrown : List Cond := .code yX3_thrown cX3_thrown 1 (some .int) :: ([.fieldLink RX3 57 "LibraryDeskModel" "thrown" "I"] ++ wsX30)
def wsX3_isCall : List Cond := .code yX3_isCall cX3_isCall 1 (some .boolean) :: ([])
def wsX3_isKind : List Cond := .code yX3_isKind cX3_isKind 1 (some .boolean) :: ([])
def wsX3_collect : List Cond := .code yX3_collect cX3_collect 3 (some .int) :: ([.fieldLink RX3 57 "LibraryDeskModel" "thrown" "I", .fieldLink RX3 61 "LibraryDeskModel" "size" "I", .fieldLink RX3 21 "LibraryDeskModel" "row" "[J"] ++ wsX30)
def wsX3_wants : List Cond := .code yX3_wants cX3_wants 4 (some .int) :: ([.fieldLink RX3 57 "LibraryDeskModel" "thrown" "I", .fieldLink RX3 36 "LibraryDeskModel" "wanted" "[I", .methodLink RX3 64 yX3_isCall, .static yX3_isCall, .initialized RX3, .code yX3_isCall cX3_isCall 1 (some .boolean), .methodLink RX3 68 yX3_isKind, .static yX3_isKind, .code yX3_isKind cX3_isKind 1 (some .boolean)] ++ wsX30)
def wsX3_act : List Cond := .code yX3_act cX3_act 5 (some .int) :: ([.fieldLink RX3 57 "LibraryDeskModel" "thrown" "I", .fieldLink RX3 45 "LibraryDeskModel" "acts" "[I", .fieldLink RX3 39 "LibraryDeskModel" "sorts" "[I", .fieldLink RX3 42 "LibraryDeskModel" "kinds" "[I", .methodLink RX3 64 yX3_isCall, .static yX3_isCall, .initialized RX3, .code yX3_isCall cX3_isCall 1 (some .boolean), .methodLink RX3 68 yX3_isKind, .static yX3_isKind, .code yX3_isKind cX3_isKind 1 (some .boolean)] ++ wsX30)
def wsX3_fails : List Cond := .code yX3_fails cX3_fails 4 (some .int) :: ([.fieldLink RX3 57 "LibraryDeskModel" "thrown" "I", .fieldLink RX3 48 "LibraryDeskModel" "failsAt" "[I", .fieldLink RX3 51 "LibraryDeskModel" "failsWith" "[I", .methodLink RX3 64 yX3_isCall, .static yX3_isCall, .initialized RX3, .code yX3_isCall cX3_isCall 1 (some .boolean)] ++ wsX30)
def wsX3_isHere : List Cond := .code yX3_isHere cX3_isHere 3 (some .boolean) :: ([.fieldLink RX3 7 "LibraryDeskModel" "here" "[Z", .methodLink RX3 68 yX3_isKind, .static yX3_isKind, .initialized RX3, .code yX3_isKind cX3_isKind 1 (some .boolean)] ++ wsX30)
def wsX3_makes : List Cond := .code yX3_makes cX3_makes 2 (some .int) :: ([.fieldLink RX3 13 "LibraryDeskModel" "made" "[I", .fieldLink RX3 7 "LibraryDeskModel" "here" "[Z"] ++ wsX30)
def wsX3_greatest : List Cond := .code yX3_greatest cX3_greatest 3 (some .int) :: ([.fieldLink RX3 7 "LibraryDeskModel" "here" "[Z"] ++ wsX30)
def wsX3_many : List Cond := .code yX3_many cX3_many 4 (some .int) :: ([.fieldLink RX3 7 "LibraryDeskModel" "here" "[Z"] ++ wsX30)
def wsX3_make : List Cond := .code yX3_make cX3_make 2 (some .int) :: ([.fieldLink RX3 57 "LibraryDeskModel" "thrown" "I", .methodLink RX3 68 yX3_isKind, .static yX3_isKind, .initialized RX3, .code yX3_isKind cX3_isKind 1 (some .boolean), .methodLink RX3 71 yX3_makes, .instanceMethod yX3_makes, .selects RX3 yX3_makes yX3_makes, .code yX3_makes cX3_makes 2 (some .int), .fieldLink RX3 13 "LibraryDeskModel" "made" "[I", .fieldLink RX3 7 "LibraryDeskModel" "here" "[Z"] ++ wsX30)
def wsX3_drops : List Cond := .code yX3_drops cX3_drops 3 (some .boolean) :: ([.fieldLink RX3 7 "LibraryDeskModel" "here" "[Z", .methodLink RX3 75 yX3_isHere, .instanceMethod yX3_isHere, .selects RX3 yX3_isHere yX3_isHere, .initialized RX3, .code yX3_isHere cX3_isHere 3 (some .boolean), .methodLink RX3 68 yX3_isKind, .static yX3_isKind, .code yX3_isKind cX3_isKind 1 (some .boolean)] ++ wsX30)
def wsX3_drop : List Cond := .code yX3_drop cX3_drop 3 (some .boolean) :: ([.fieldLink RX3 57 "LibraryDeskModel" "thrown" "I", .methodLink RX3 79 yX3_drops, .instanceMethod yX3_drops, .selects RX3 yX3_drops yX3_drops, .initialized RX3, .code yX3_drops cX3_drops 3 (some .boolean), .fieldLink RX3 7 "LibraryDeskModel" "here" "[Z", .methodLink RX3 75 yX3_isHere, .instanceMethod yX3_isHere, .selects RX3 yX3_isHere yX3_isHere, .code yX3_isHere cX3_isHere 3 (some .boolean), .methodLink RX3 68 yX3_isKind, .static yX3_isKind, .code yX3_isKind cX3_isKind 1 (some .boolean)] ++ wsX30)
def wsX3_keep : List Cond := .code yX3_keep cX3_keep 2 none :: ([.fieldLink RX3 24 "LibraryDeskModel" "oldHere" "[Z", .fieldLink RX3 7 "LibraryDeskModel" "here" "[Z", .fieldLink RX3 27 "LibraryDeskModel" "oldMade" "[I", .fieldLink RX3 13 "LibraryDeskModel" "made" "[I", .fieldLink RX3 30 "LibraryDeskModel" "oldTallies" "[J", .fieldLink RX3 17 "LibraryDeskModel" "tallies" "[J", .fieldLink RX3 33 "LibraryDeskModel" "oldRow" "[J", .fieldLink RX3 21 "LibraryDeskModel" "row" "[J", .fieldLink RX3 61 "LibraryDeskModel" "size" "I", .fieldLink RX3 82 "LibraryDeskModel" "oldSize" "I"] ++ wsX30)
def wsX3_restore : List Cond := .code yX3_restore cX3_restore 2 none :: ([.fieldLink RX3 7 "LibraryDeskModel" "here" "[Z", .fieldLink RX3 24 "LibraryDeskModel" "oldHere" "[Z", .fieldLink RX3 13 "LibraryDeskModel" "made" "[I", .fieldLink RX3 27 "LibraryDeskModel" "oldMade" "[I", .fieldLink RX3 17 "LibraryDeskModel" "tallies" "[J", .fieldLink RX3 30 "LibraryDeskModel" "oldTallies" "[J", .fieldLink RX3 21 "LibraryDeskModel" "row" "[J", .fieldLink RX3 33 "LibraryDeskModel" "oldRow" "[J", .fieldLink RX3 82 "LibraryDeskModel" "oldSize" "I", .fieldLink RX3 61 "LibraryDeskModel" "size" "I"] ++ wsX30)
def wsX3_take : List Cond := .code yX3_take cX3_take 3 none :: ([.fieldLink RX3 17 "LibraryDeskModel" "tallies" "[J", .fieldLink RX3 21 "LibraryDeskModel" "row" "[J", .fieldLink RX3 61 "LibraryDeskModel" "size" "I"] ++ wsX30)
def wsX3_does_r1 : List Cond := [Cond.fieldLink RX3 42 "LibraryDeskModel" "kinds" "[I", Cond.fieldLink RX3 39 "LibraryDeskModel" "sorts" "[I", Cond.fieldLink RX3 17 "LibraryDeskModel" "tallies" "[J", Cond.fieldLink RX3 61 "LibraryDeskModel" "size" "I", Cond.constantLong RX3 92 (31), Cond.fieldLink RX3 94 "LibraryDeskModel" "answer" "J", Cond.fieldLink RX3 36 "LibraryDeskModel" "wanted" "[I", Cond.methodLink RX3 71 yX3_makes, Cond.instanceMethod yX3_makes, Cond.selects RX3 yX3_makes yX3_makes, Cond.initialized RX3, Cond.code yX3_makes cX3_makes 2 (some .int), Cond.fieldLink RX3 13 "LibraryDeskModel" "made" "[I", Cond.fieldLink RX3 7 "LibraryDeskModel" "here" "[Z", Cond.methodLink RX3 85 yX3_greatest, Cond.instanceMethod yX3_greatest, Cond.selects RX3 yX3_greatest yX3_greatest, Cond.code yX3_greatest cX3_greatest 3 (some .int), Cond.methodLink RX3 79 yX3_drops, Cond.instanceMethod yX3_drops, Cond.selects RX3 yX3_drops yX3_drops, Cond.code yX3_drops cX3_drops 3 (some .boolean), Cond.methodLink RX3 75 yX3_isHere, Cond.instanceMethod yX3_isHere]
def wsX3_does_r2 : List Cond := [Cond.selects RX3 yX3_isHere yX3_isHere, Cond.code yX3_isHere cX3_isHere 3 (some .boolean), Cond.methodLink RX3 68 yX3_isKind, Cond.static yX3_isKind, Cond.code yX3_isKind cX3_isKind 1 (some .boolean), Cond.methodLink RX3 88 yX3_take, Cond.instanceMethod yX3_take, Cond.selects RX3 yX3_take yX3_take, Cond.code yX3_take cX3_take 3 none, Cond.fieldLink RX3 21 "LibraryDeskModel" "row" "[J", Cond.methodLink RX3 98 yX3_many, Cond.instanceMethod yX3_many, Cond.selects RX3 yX3_many yX3_many, Cond.code yX3_many cX3_many 4 (some .int)]
def wsX3_does : List Cond := .code yX3_does cX3_does 7 (some .int) :: ((wsX3_does_r1 ++ wsX3_does_r2) ++ wsX30)
def wsX3_done_r1 : List Cond := [Cond.fieldLink RX3 94 "LibraryDeskModel" "answer" "J", Cond.fieldLink RX3 104 "LibraryDeskModel" "why" "I", Cond.fieldLink RX3 45 "LibraryDeskModel" "acts" "[I", Cond.fieldLink RX3 107 "LibraryDeskModel" "place" "I", Cond.fieldLink RX3 48 "LibraryDeskModel" "failsAt" "[I", Cond.fieldLink RX3 51 "LibraryDeskModel" "failsWith" "[I", Cond.methodLink RX3 101 yX3_keep, Cond.instanceMethod yX3_keep, Cond.selects RX3 yX3_keep yX3_keep, Cond.initialized RX3, Cond.code yX3_keep cX3_keep 2 none, Cond.fieldLink RX3 24 "LibraryDeskModel" "oldHere" "[Z", Cond.fieldLink RX3 7 "LibraryDeskModel" "here" "[Z", Cond.fieldLink RX3 27 "LibraryDeskModel" "oldMade" "[I", Cond.fieldLink RX3 13 "LibraryDeskModel" "made" "[I", Cond.fieldLink RX3 30 "LibraryDeskModel" "oldTallies" "[J", Cond.fieldLink RX3 17 "LibraryDeskModel" "tallies" "[J", Cond.fieldLink RX3 33 "LibraryDeskModel" "oldRow" "[J", Cond.fieldLink RX3 21 "LibraryDeskModel" "row" "[J", Cond.fieldLink RX3 61 "LibraryDeskModel" "size" "I", Cond.fieldLink RX3 82 "LibraryDeskModel" "oldSize" "I", Cond.methodLink RX3 110 yX3_does, Cond.instanceMethod yX3_does, Cond.selects RX3 yX3_does yX3_does]
def wsX3_done_r2 : List Cond := [Cond.code yX3_does cX3_does 7 (some .int), Cond.fieldLink RX3 42 "LibraryDeskModel" "kinds" "[I", Cond.fieldLink RX3 39 "LibraryDeskModel" "sorts" "[I", Cond.constantLong RX3 92 (31), Cond.fieldLink RX3 36 "LibraryDeskModel" "wanted" "[I", Cond.methodLink RX3 71 yX3_makes, Cond.instanceMethod yX3_makes, Cond.selects RX3 yX3_makes yX3_makes, Cond.code yX3_makes cX3_makes 2 (some .int), Cond.methodLink RX3 85 yX3_greatest, Cond.instanceMethod yX3_greatest, Cond.selects RX3 yX3_greatest yX3_greatest, Cond.code yX3_greatest cX3_greatest 3 (some .int), Cond.methodLink RX3 79 yX3_drops, Cond.instanceMethod yX3_drops, Cond.selects RX3 yX3_drops yX3_drops, Cond.code yX3_drops cX3_drops 3 (some .boolean), Cond.methodLink RX3 75 yX3_isHere, Cond.instanceMethod yX3_isHere, Cond.selects RX3 yX3_isHere yX3_isHere, Cond.code yX3_isHere cX3_isHere 3 (some .boolean), Cond.methodLink RX3 68 yX3_isKind, Cond.static yX3_isKind, Cond.code yX3_isKind cX3_isKind 1 (some .boolean)]
def wsX3_done_r3 : List Cond := [Cond.methodLink RX3 88 yX3_take, Cond.instanceMethod yX3_take, Cond.selects RX3 yX3_take yX3_take, Cond.code yX3_take cX3_take 3 none, Cond.methodLink RX3 98 yX3_many, Cond.instanceMethod yX3_many, Cond.selects RX3 yX3_many yX3_many, Cond.code yX3_many cX3_many 4 (some .int), Cond.methodLink RX3 114 yX3_restore, Cond.instanceMethod yX3_restore, Cond.selects RX3 yX3_restore yX3_restore, Cond.code yX3_restore cX3_restore 2 none]
def wsX3_done : List Cond := .code yX3_done cX3_done 6 (some .boolean) :: ((wsX3_done_r1 ++ (wsX3_done_r2 ++ wsX3_done_r3)) ++ wsX30)
def wsX3_may : List Cond := .code yX3_may cX3_may 3 (some .boolean) :: ([.fieldLink RX3 36 "LibraryDeskModel" "wanted" "[I", .methodLink RX3 64 yX3_isCall, .static yX3_isCall, .initialized RX3, .code yX3_isCall cX3_isCall 1 (some .boolean), .methodLink RX3 75 yX3_isHere, .instanceMethod yX3_isHere, .selects RX3 yX3_isHere yX3_isHere, .code yX3_isHere cX3_isHere 3 (some .boolean), .fieldLink RX3 7 "LibraryDeskModel" "here" "[Z", .methodLink RX3 68 yX3_isKind, .static yX3_isKind, .code yX3_isKind cX3_isKind 1 (some .boolean)] ++ wsX30)
def wsX3_call_r1 : List Cond := [Cond.fieldLink RX3 57 "LibraryDeskModel" "thrown" "I", Cond.fieldLink RX3 54 "LibraryDeskModel" "told" "[I", Cond.constantLong RX3 120 (-9223372036854775807), Cond.fieldLink RX3 94 "LibraryDeskModel" "answer" "J", Cond.fieldLink RX3 104 "LibraryDeskModel" "why" "I", Cond.fieldLink RX3 107 "LibraryDeskModel" "place" "I", Cond.fieldLink RX3 48 "LibraryDeskModel" "failsAt" "[I", Cond.constantLong RX3 126 (-9223372036854775806), Cond.methodLink RX3 117 yX3_may, Cond.instanceMethod yX3_may, Cond.selects RX3 yX3_may yX3_may, Cond.initialized RX3, Cond.code yX3_may cX3_may 3 (some .boolean), Cond.fieldLink RX3 36 "LibraryDeskModel" "wanted" "[I", Cond.methodLink RX3 64 yX3_isCall, Cond.static yX3_isCall, Cond.code yX3_isCall cX3_isCall 1 (some .boolean), Cond.methodLink RX3 75 yX3_isHere, Cond.instanceMethod yX3_isHere, Cond.selects RX3 yX3_isHere yX3_isHere, Cond.code yX3_isHere cX3_isHere 3 (some .boolean), Cond.fieldLink RX3 7 "LibraryDeskModel" "here" "[Z", Cond.methodLink RX3 68 yX3_isKind, Cond.static yX3_isKind]
def wsX3_call_r2 : List Cond := [Cond.code yX3_isKind cX3_isKind 1 (some .boolean), Cond.methodLink RX3 122 yX3_done, Cond.instanceMethod yX3_done, Cond.selects RX3 yX3_done yX3_done, Cond.code yX3_done cX3_done 6 (some .boolean), Cond.fieldLink RX3 45 "LibraryDeskModel" "acts" "[I", Cond.fieldLink RX3 51 "LibraryDeskModel" "failsWith" "[I", Cond.methodLink RX3 101 yX3_keep, Cond.instanceMethod yX3_keep, Cond.selects RX3 yX3_keep yX3_keep, Cond.code yX3_keep cX3_keep 2 none, Cond.fieldLink RX3 24 "LibraryDeskModel" "oldHere" "[Z", Cond.fieldLink RX3 27 "LibraryDeskModel" "oldMade" "[I", Cond.fieldLink RX3 13 "LibraryDeskModel" "made" "[I", Cond.fieldLink RX3 30 "LibraryDeskModel" "oldTallies" "[J", Cond.fieldLink RX3 17 "LibraryDeskModel" "tallies" "[J", Cond.fieldLink RX3 33 "LibraryDeskModel" "oldRow" "[J", Cond.fieldLink RX3 21 "LibraryDeskModel" "row" "[J", Cond.fieldLink RX3 61 "LibraryDeskModel" "size" "I", Cond.fieldLink RX3 82 "LibraryDeskModel" "oldSize" "I", Cond.methodLink RX3 110 yX3_does, Cond.instanceMethod yX3_does, Cond.selects RX3 yX3_does yX3_does, Cond.code yX3_does cX3_does 7 (some .int)]
def wsX3_call_r3 : List Cond := [Cond.fieldLink RX3 42 "LibraryDeskModel" "kinds" "[I", Cond.fieldLink RX3 39 "LibraryDeskModel" "sorts" "[I", Cond.constantLong RX3 92 (31), Cond.methodLink RX3 71 yX3_makes, Cond.instanceMethod yX3_makes, Cond.selects RX3 yX3_makes yX3_makes, Cond.code yX3_makes cX3_makes 2 (some .int), Cond.methodLink RX3 85 yX3_greatest, Cond.instanceMethod yX3_greatest, Cond.selects RX3 yX3_greatest yX3_greatest, Cond.code yX3_greatest cX3_greatest 3 (some .int), Cond.methodLink RX3 79 yX3_drops, Cond.instanceMethod yX3_drops, Cond.selects RX3 yX3_drops yX3_drops, Cond.code yX3_drops cX3_drops 3 (some .boolean), Cond.methodLink RX3 88 yX3_take, Cond.instanceMethod yX3_take, Cond.selects RX3 yX3_take yX3_take, Cond.code yX3_take cX3_take 3 none, Cond.methodLink RX3 98 yX3_many, Cond.instanceMethod yX3_many, Cond.selects RX3 yX3_many yX3_many, Cond.code yX3_many cX3_many 4 (some .int), Cond.methodLink RX3 114 yX3_restore]
def wsX3_call_r4 : List Cond := [Cond.instanceMethod yX3_restore, Cond.selects RX3 yX3_restore yX3_restore, Cond.code yX3_restore cX3_restore 2 none]
def wsX3_call : List Cond := .code yX3_call cX3_call 5 (some .long) :: ((wsX3_call_r1 ++ (wsX3_call_r2 ++ (wsX3_call_r3 ++ wsX3_call_r4))) ++ wsX30)
def wsX3_again_r1 : List Cond := [Cond.fieldLink RX3 57 "LibraryDeskModel" "thrown" "I", Cond.constantLong RX3 120 (-9223372036854775807), Cond.fieldLink RX3 94 "LibraryDeskModel" "answer" "J", Cond.constantLong RX3 126 (-9223372036854775806), Cond.methodLink RX3 117 yX3_may, Cond.instanceMethod yX3_may, Cond.selects RX3 yX3_may yX3_may, Cond.initialized RX3, Cond.code yX3_may cX3_may 3 (some .boolean), Cond.fieldLink RX3 36 "LibraryDeskModel" "wanted" "[I", Cond.methodLink RX3 64 yX3_isCall, Cond.static yX3_isCall, Cond.code yX3_isCall cX3_isCall 1 (some .boolean), Cond.methodLink RX3 75 yX3_isHere, Cond.instanceMethod yX3_isHere, Cond.selects RX3 yX3_isHere yX3_isHere, Cond.code yX3_isHere cX3_isHere 3 (some .boolean), Cond.fieldLink RX3 7 "LibraryDeskModel" "here" "[Z", Cond.methodLink RX3 68 yX3_isKind, Cond.static yX3_isKind, Cond.code yX3_isKind cX3_isKind 1 (some .boolean), Cond.methodLink RX3 122 yX3_done, Cond.instanceMethod yX3_done, Cond.selects RX3 yX3_done yX3_done]
def wsX3_again_r2 : List Cond := [Cond.code yX3_done cX3_done 6 (some .boolean), Cond.fieldLink RX3 104 "LibraryDeskModel" "why" "I", Cond.fieldLink RX3 45 "LibraryDeskModel" "acts" "[I", Cond.fieldLink RX3 107 "LibraryDeskModel" "place" "I", Cond.fieldLink RX3 48 "LibraryDeskModel" "failsAt" "[I", Cond.fieldLink RX3 51 "LibraryDeskModel" "failsWith" "[I", Cond.methodLink RX3 101 yX3_keep, Cond.instanceMethod yX3_keep, Cond.selects RX3 yX3_keep yX3_keep, Cond.code yX3_keep cX3_keep 2 none, Cond.fieldLink RX3 24 "LibraryDeskModel" "oldHere" "[Z", Cond.fieldLink RX3 27 "LibraryDeskModel" "oldMade" "[I", Cond.fieldLink RX3 13 "LibraryDeskModel" "made" "[I", Cond.fieldLink RX3 30 "LibraryDeskModel" "oldTallies" "[J", Cond.fieldLink RX3 17 "LibraryDeskModel" "tallies" "[J", Cond.fieldLink RX3 33 "LibraryDeskModel" "oldRow" "[J", Cond.fieldLink RX3 21 "LibraryDeskModel" "row" "[J", Cond.fieldLink RX3 61 "LibraryDeskModel" "size" "I", Cond.fieldLink RX3 82 "LibraryDeskModel" "oldSize" "I", Cond.methodLink RX3 110 yX3_does, Cond.instanceMethod yX3_does, Cond.selects RX3 yX3_does yX3_does, Cond.code yX3_does cX3_does 7 (some .int), Cond.fieldLink RX3 42 "LibraryDeskModel" "kinds" "[I"]
def wsX3_again_r3 : List Cond := [Cond.fieldLink RX3 39 "LibraryDeskModel" "sorts" "[I", Cond.constantLong RX3 92 (31), Cond.methodLink RX3 71 yX3_makes, Cond.instanceMethod yX3_makes, Cond.selects RX3 yX3_makes yX3_makes, Cond.code yX3_makes cX3_makes 2 (some .int), Cond.methodLink RX3 85 yX3_greatest, Cond.instanceMethod yX3_greatest, Cond.selects RX3 yX3_greatest yX3_greatest, Cond.code yX3_greatest cX3_greatest 3 (some .int), Cond.methodLink RX3 79 yX3_drops, Cond.instanceMethod yX3_drops, Cond.selects RX3 yX3_drops yX3_drops, Cond.code yX3_drops cX3_drops 3 (some .boolean), Cond.methodLink RX3 88 yX3_take, Cond.instanceMethod yX3_take, Cond.selects RX3 yX3_take yX3_take, Cond.code yX3_take cX3_take 3 none, Cond.methodLink RX3 98 yX3_many, Cond.instanceMethod yX3_many, Cond.selects RX3 yX3_many yX3_many, Cond.code yX3_many cX3_many 4 (some .int), Cond.methodLink RX3 114 yX3_restore, Cond.instanceMethod yX3_restore]
def wsX3_again_r4 : List Cond := [Cond.selects RX3 yX3_restore yX3_restore, Cond.code yX3_restore cX3_restore 2 none]
def wsX3_again : List Cond := .code yX3_again cX3_again 6 (some .long) :: ((wsX3_again_r1 ++ (wsX3_again_r2 ++ (wsX3_again_r3 ++ wsX3_again_r4))) ++ wsX30)
def wsX3_told : List Cond := .code yX3_told cX3_told 2 (some .int) :: ([.fieldLink RX3 57 "LibraryDeskModel" "thrown" "I", .fieldLink RX3 54 "LibraryDeskModel" "told" "[I"] ++ wsX30)
def wsX3_numbers : List Cond := .code yX3_numbers cX3_numbers 2 (some .int) :: ([.fieldLink RX3 57 "LibraryDeskModel" "thrown" "I", .methodLink RX3 68 yX3_isKind, .static yX3_isKind, .initialized RX3, .code yX3_isKind cX3_isKind 1 (some .boolean), .methodLink RX3 98 yX3_many, .instanceMethod yX3_many, .selects RX3 yX3_many yX3_many, .code yX3_many cX3_many 4 (some .int), .fieldLink RX3 7 "LibraryDeskModel" "here" "[Z"] ++ wsX30)
def wsX3_here : List Cond := .code yX3_here cX3_here 3 (some .boolean) :: ([.fieldLink RX3 57 "LibraryDeskModel" "thrown" "I", .methodLink RX3 75 yX3_isHere, .instanceMethod yX3_isHere, .selects RX3 yX3_isHere yX3_isHere, .initialized RX3, .code yX3_isHere cX3_isHere 3 (some .boolean), .fieldLink RX3 7 "LibraryDeskModel" "here" "[Z", .methodLink RX3 68 yX3_isKind, .static yX3_isKind, .code yX3_isKind cX3_isKind 1 (some .boolean)] ++ wsX30)
def wsX3_tally : List Cond := .code yX3_tally cX3_tally 2 (some .long) :: ([.fieldLink RX3 57 "LibraryDeskModel" "thrown" "I", .fieldLink RX3 17 "LibraryDeskModel" "tallies" "[J", .methodLink RX3 68 yX3_isKind, .static yX3_isKind, .initialized RX3, .code yX3_isKind cX3_isKind 1 (some .boolean)] ++ wsX30)
def wsX3_row : List Cond := .code yX3_row cX3_row 2 (some .long) :: ([.fieldLink RX3 57 "LibraryDeskModel" "thrown" "I", .fieldLink RX3 61 "LibraryDeskModel" "size" "I", .fieldLink RX3 21 "LibraryDeskModel" "row" "[J"] ++ wsX30)
def wsJx00060_init_a7421 : List Cond := .code yJx00060_init_a7421 cJx00060_init_a7421 2 none :: ([])
def wsL_row : List Cond := .codeWith yL_row cL_row 4 (some .int) [(0, 8, 11, 13)] :: ([.methodLink RL 7 yX2_row, .instanceMethod yX2_row, .selects RX2 yX2_row yX2_row, .initialized RX2, .code yX2_row cX2_row 2 (some .long), .fieldLink RX2 19 "LibraryDesk" "now" "LLibraryDesk$Holdings;", .fieldLink RX2 30 "LibraryDesk$Holdings" "valueCount" "I", .classLink RX2 124 RJx00060, .instantiable RJx00060 6, .initialized RJx00060, .fieldLink RX2 131 "LibraryDesk$Holdings" "values" "[J"] ++ wsX20 ++ wsX00 ++ wsJx000600)
def wsL_law_r1 : List Cond := [Cond.classLink RL 8 RX2, Cond.instantiable RX2 13, Cond.initialized RX2, Cond.classLink RL 16 RX3, Cond.instantiable RX3 21, Cond.initialized RX3, Cond.arrayClass .long, Cond.constantLong RL 19 (4294967295), Cond.methodLink RL 15 yX2_init, Cond.instanceMethod yX2_init, Cond.code yX2_init cX2_init 2 none, Cond.methodLink RX2 1 objectInit, Cond.instanceMethod objectInit, Cond.code objectInit ⟨#[0xb1]⟩ 1 none, Cond.classLink RX2 9 RX1, Cond.fieldLink RX2 11 "LibraryDesk" "plans" "[LLibraryDesk$Plan;", Cond.instantiable RX1 6, Cond.initialized RX1, Cond.classLink RX2 16 RX0, Cond.instantiable RX0 5, Cond.initialized RX0, Cond.fieldLink RX2 19 "LibraryDesk" "now" "LLibraryDesk$Holdings;", Cond.fieldLink RX2 23 "LibraryDesk" "trial" "LLibraryDesk$Holdings;", Cond.methodLink RX2 15 yX1_init]
def wsL_law_r2 : List Cond := [Cond.instanceMethod yX1_init, Cond.code yX1_init cX1_init 1 none, Cond.methodLink RX1 3 objectInit, Cond.fieldLink RX1 9 "LibraryDesk$Plan" "wanted" "I", Cond.arrayClass .int, Cond.fieldLink RX1 15 "LibraryDesk$Plan" "sorts" "[I", Cond.fieldLink RX1 19 "LibraryDesk$Plan" "kinds" "[I", Cond.fieldLink RX1 22 "LibraryDesk$Plan" "toldAct" "I", Cond.methodLink RX2 18 yX0_init, Cond.instanceMethod yX0_init, Cond.code yX0_init cX0_init 1 none, Cond.methodLink RX0 3 objectInit, Cond.fieldLink RX0 9 "LibraryDesk$Holdings" "made" "[I", Cond.fieldLink RX0 15 "LibraryDesk$Holdings" "hereBits" "[J", Cond.fieldLink RX0 19 "LibraryDesk$Holdings" "tallies" "[J", Cond.fieldLink RX0 22 "LibraryDesk$Holdings" "values" "[J", Cond.methodLink RL 18 yX3_init, Cond.instanceMethod yX3_init, Cond.code yX3_init cX3_init 2 none, Cond.methodLink RX3 1 objectInit, Cond.arrayClass .boolean, Cond.fieldLink RX3 7 "LibraryDeskModel" "here" "[Z", Cond.fieldLink RX3 13 "LibraryDeskModel" "made" "[I", Cond.fieldLink RX3 17 "LibraryDeskModel" "tallies" "[J"]
def wsL_law_r3 : List Cond := [Cond.fieldLink RX3 21 "LibraryDeskModel" "row" "[J", Cond.fieldLink RX3 24 "LibraryDeskModel" "oldHere" "[Z", Cond.fieldLink RX3 27 "LibraryDeskModel" "oldMade" "[I", Cond.fieldLink RX3 30 "LibraryDeskModel" "oldTallies" "[J", Cond.fieldLink RX3 33 "LibraryDeskModel" "oldRow" "[J", Cond.fieldLink RX3 36 "LibraryDeskModel" "wanted" "[I", Cond.fieldLink RX3 39 "LibraryDeskModel" "sorts" "[I", Cond.fieldLink RX3 42 "LibraryDeskModel" "kinds" "[I", Cond.fieldLink RX3 45 "LibraryDeskModel" "acts" "[I", Cond.fieldLink RX3 48 "LibraryDeskModel" "failsAt" "[I", Cond.fieldLink RX3 51 "LibraryDeskModel" "failsWith" "[I", Cond.fieldLink RX3 54 "LibraryDeskModel" "told" "[I", Cond.methodLink RL 21 yX2_collect, Cond.instanceMethod yX2_collect, Cond.selects RX2 yX2_collect yX2_collect, Cond.code yX2_collect cX2_collect 3 (some .int), Cond.fieldLink RX2 30 "LibraryDesk$Holdings" "valueCount" "I", Cond.methodLink RX2 26 yX0_addValue, Cond.instanceMethod yX0_addValue, Cond.selects RX0 yX0_addValue yX0_addValue, Cond.code yX0_addValue cX0_addValue 3 (some .boolean), Cond.fieldLink RX0 31 "LibraryDesk$Holdings" "valueCount" "I", Cond.methodLink RL 25 yX3_collect, Cond.instanceMethod yX3_collect]
def wsL_law_r4 : List Cond := [Cond.selects RX3 yX3_collect yX3_collect, Cond.code yX3_collect cX3_collect 3 (some .int), Cond.fieldLink RX3 57 "LibraryDeskModel" "thrown" "I", Cond.fieldLink RX3 61 "LibraryDeskModel" "size" "I", Cond.methodLink RL 26 yX2_wants, Cond.instanceMethod yX2_wants, Cond.selects RX2 yX2_wants yX2_wants, Cond.code yX2_wants cX2_wants 4 (some .int), Cond.fieldLink RX2 41 "LibraryDesk$Plan" "wanted" "I", Cond.methodLink RX2 34 yX2_isCall, Cond.static yX2_isCall, Cond.code yX2_isCall cX2_isCall 1 (some .boolean), Cond.methodLink RX2 38 yX2_isKind, Cond.static yX2_isKind, Cond.code yX2_isKind cX2_isKind 1 (some .boolean), Cond.methodLink RL 30 yX3_wants, Cond.instanceMethod yX3_wants, Cond.selects RX3 yX3_wants yX3_wants, Cond.code yX3_wants cX3_wants 4 (some .int), Cond.methodLink RX3 64 yX3_isCall, Cond.static yX3_isCall, Cond.code yX3_isCall cX3_isCall 1 (some .boolean), Cond.methodLink RX3 68 yX3_isKind, Cond.static yX3_isKind]
def wsL_law_r5 : List Cond := [Cond.code yX3_isKind cX3_isKind 1 (some .boolean), Cond.methodLink RL 31 yX2_act, Cond.instanceMethod yX2_act, Cond.selects RX2 yX2_act yX2_act, Cond.code yX2_act cX2_act 4 (some .int), Cond.fieldLink RX2 51 "LibraryDesk$Plan" "actCount" "I", Cond.methodLink RX2 44 yX2_isSort, Cond.static yX2_isSort, Cond.code yX2_isSort cX2_isSort 1 (some .boolean), Cond.methodLink RX2 47 yX1_addAct, Cond.instanceMethod yX1_addAct, Cond.selects RX1 yX1_addAct yX1_addAct, Cond.code yX1_addAct cX1_addAct 3 (some .boolean), Cond.fieldLink RX1 25 "LibraryDesk$Plan" "actCount" "I", Cond.methodLink RL 35 yX3_act, Cond.instanceMethod yX3_act, Cond.selects RX3 yX3_act yX3_act, Cond.code yX3_act cX3_act 5 (some .int), Cond.methodLink RL 36 yX2_fails, Cond.instanceMethod yX2_fails, Cond.selects RX2 yX2_fails yX2_fails, Cond.code yX2_fails cX2_fails 4 (some .int), Cond.methodLink RX2 54 yX1_tellToFail, Cond.instanceMethod yX1_tellToFail]
def wsL_law_r6 : List Cond := [Cond.selects RX1 yX1_tellToFail yX1_tellToFail, Cond.code yX1_tellToFail cX1_tellToFail 3 none, Cond.fieldLink RX1 28 "LibraryDesk$Plan" "toldWith" "I", Cond.methodLink RL 39 yX3_fails, Cond.instanceMethod yX3_fails, Cond.selects RX3 yX3_fails yX3_fails, Cond.code yX3_fails cX3_fails 4 (some .int), Cond.methodLink RL 40 yX2_make, Cond.instanceMethod yX2_make, Cond.selects RX2 yX2_make yX2_make, Cond.code yX2_make cX2_make 2 (some .int), Cond.fieldLink RX2 61 "LibraryDesk$Holdings" "made" "[I", Cond.methodLink RX2 58 yX0_makeNumber, Cond.instanceMethod yX0_makeNumber, Cond.selects RX0 yX0_makeNumber yX0_makeNumber, Cond.code yX0_makeNumber cX0_makeNumber 2 (some .boolean), Cond.methodLink RL 44 yX3_make, Cond.instanceMethod yX3_make, Cond.selects RX3 yX3_make yX3_make, Cond.code yX3_make cX3_make 2 (some .int), Cond.methodLink RX3 71 yX3_makes, Cond.instanceMethod yX3_makes, Cond.selects RX3 yX3_makes yX3_makes, Cond.code yX3_makes cX3_makes 2 (some .int)]
def wsL_law_r7 : List Cond := [Cond.methodLink RL 45 yX2_drop, Cond.instanceMethod yX2_drop, Cond.selects RX2 yX2_drop yX2_drop, Cond.code yX2_drop cX2_drop 3 (some .boolean), Cond.methodLink RX2 65 yX0_dropNumber, Cond.instanceMethod yX0_dropNumber, Cond.selects RX0 yX0_dropNumber yX0_dropNumber, Cond.code yX0_dropNumber cX0_dropNumber 3 (some .boolean), Cond.constantLong RX0 43 (-1), Cond.methodLink RX0 39 yX0_isHere, Cond.instanceMethod yX0_isHere, Cond.selects RX0 yX0_isHere yX0_isHere, Cond.code yX0_isHere cX0_isHere 3 (some .boolean), Cond.methodLink RL 49 yX3_drop, Cond.instanceMethod yX3_drop, Cond.selects RX3 yX3_drop yX3_drop, Cond.code yX3_drop cX3_drop 3 (some .boolean), Cond.methodLink RX3 79 yX3_drops, Cond.instanceMethod yX3_drops, Cond.selects RX3 yX3_drops yX3_drops, Cond.code yX3_drops cX3_drops 3 (some .boolean), Cond.methodLink RX3 75 yX3_isHere, Cond.instanceMethod yX3_isHere, Cond.selects RX3 yX3_isHere yX3_isHere]
def wsL_law_r8 : List Cond := [Cond.code yX3_isHere cX3_isHere 3 (some .boolean), Cond.methodLink RL 50 yX2_call, Cond.instanceMethod yX2_call, Cond.selects RX2 yX2_call yX2_call, Cond.code yX2_call cX2_call 5 (some .long), Cond.fieldLink RX2 71 "LibraryDesk" "refusedCalls" "I", Cond.constantLong RX2 74 (-9223372036854775807), Cond.fieldLink RX2 80 "LibraryDesk" "trialFailedWith" "I", Cond.constantLong RX2 86 (-9223372036854775806), Cond.fieldLink RX2 91 "LibraryDesk" "answeredCalls" "I", Cond.fieldLink RX2 94 "LibraryDesk" "trialAnswer" "J", Cond.methodLink RX2 68 yX2_isRefused, Cond.instanceMethod yX2_isRefused, Cond.selects RX2 yX2_isRefused yX2_isRefused, Cond.code yX2_isRefused cX2_isRefused 4 (some .boolean), Cond.methodLink RX2 117 yX0_isHere, Cond.methodLink RX2 76 yX2_tryActs, Cond.instanceMethod yX2_tryActs, Cond.selects RX2 yX2_tryActs yX2_tryActs, Cond.code yX2_tryActs cX2_tryActs 6 none, Cond.fieldLink RX2 138 "LibraryDesk" "trialFailedAt" "I", Cond.fieldLink RX2 144 "LibraryDesk$Plan" "toldWith" "I", Cond.methodLink RX2 134 yX0_copyFrom, Cond.instanceMethod yX0_copyFrom]
def wsL_law_r9 : List Cond := [Cond.selects RX0 yX0_copyFrom yX0_copyFrom, Cond.code yX0_copyFrom cX0_copyFrom 2 none, Cond.methodLink RX0 25 arraycopyName, Cond.native arraycopyName, Cond.static arraycopyName, Cond.initialized "java/lang/System", Cond.methodLink RX2 141 yX1_isToldToFailAt, Cond.instanceMethod yX1_isToldToFailAt, Cond.selects RX1 yX1_isToldToFailAt yX1_isToldToFailAt, Cond.code yX1_isToldToFailAt cX1_isToldToFailAt 2 (some .boolean), Cond.methodLink RX2 147 yX2_doAct, Cond.instanceMethod yX2_doAct, Cond.selects RX2 yX2_doAct yX2_doAct, Cond.code yX2_doAct cX2_doAct 7 (some .int), Cond.fieldLink RX2 151 "LibraryDesk$Plan" "kinds" "[I", Cond.fieldLink RX2 154 "LibraryDesk$Plan" "sorts" "[I", Cond.fieldLink RX2 120 "LibraryDesk$Holdings" "tallies" "[J", Cond.constantLong RX2 163 (31), Cond.methodLink RX2 157 yX0_greatestHere, Cond.instanceMethod yX0_greatestHere, Cond.selects RX0 yX0_greatestHere yX0_greatestHere, Cond.code yX0_greatestHere cX0_greatestHere 3 (some .int), Cond.methodLink RX2 160 yX0_moveFirstValueTo, Cond.instanceMethod yX0_moveFirstValueTo]
def wsL_law_r10 : List Cond := [Cond.selects RX0 yX0_moveFirstValueTo yX0_moveFirstValueTo, Cond.code yX0_moveFirstValueTo cX0_moveFirstValueTo 3 (some .boolean), Cond.methodLink RX2 113 yX0_countHere, Cond.instanceMethod yX0_countHere, Cond.selects RX0 yX0_countHere yX0_countHere, Cond.code yX0_countHere cX0_countHere 2 (some .int), Cond.methodLink RX0 45 yJ13_bitCount_95d88, Cond.static yJ13_bitCount_95d88, Cond.initialized RJ13, Cond.code yJ13_bitCount_95d88 cJ13_bitCount_95d88 2 (some .int), Cond.constantLong RJ13 314 (6148914691236517205), Cond.constantLong RJ13 316 (3689348814741910323), Cond.constantLong RJ13 318 (1085102592571150095), Cond.methodLink RX2 83 yX2_noteFailure, Cond.instanceMethod yX2_noteFailure, Cond.selects RX2 yX2_noteFailure yX2_noteFailure, Cond.code yX2_noteFailure cX2_noteFailure 3 none, Cond.fieldLink RX2 98 "LibraryDesk" "failedCalls" "I", Cond.fieldLink RX2 101 "LibraryDesk" "lastFailedWith" "I", Cond.fieldLink RX2 104 "LibraryDesk" "lastFailedAct" "I", Cond.fieldLink RX2 107 "LibraryDesk" "lastFailedCall" "I", Cond.fieldLink RX2 110 "LibraryDesk" "lastFailedNumber" "I", Cond.methodLink RX2 165 yX1_forgetTold, Cond.instanceMethod yX1_forgetTold]
def wsL_law_r11 : List Cond := [Cond.selects RX1 yX1_forgetTold yX1_forgetTold, Cond.code yX1_forgetTold cX1_forgetTold 1 none, Cond.methodLink RX2 88 yX2_keepTrial, Cond.instanceMethod yX2_keepTrial, Cond.selects RX2 yX2_keepTrial yX2_keepTrial, Cond.code yX2_keepTrial cX2_keepTrial 2 none, Cond.methodLink RL 54 yX3_call, Cond.instanceMethod yX3_call, Cond.selects RX3 yX3_call yX3_call, Cond.code yX3_call cX3_call 5 (some .long), Cond.constantLong RX3 120 (-9223372036854775807), Cond.fieldLink RX3 94 "LibraryDeskModel" "answer" "J", Cond.fieldLink RX3 104 "LibraryDeskModel" "why" "I", Cond.fieldLink RX3 107 "LibraryDeskModel" "place" "I", Cond.constantLong RX3 126 (-9223372036854775806), Cond.methodLink RX3 117 yX3_may, Cond.instanceMethod yX3_may, Cond.selects RX3 yX3_may yX3_may, Cond.code yX3_may cX3_may 3 (some .boolean), Cond.methodLink RX3 122 yX3_done, Cond.instanceMethod yX3_done, Cond.selects RX3 yX3_done yX3_done, Cond.code yX3_done cX3_done 6 (some .boolean), Cond.methodLink RX3 101 yX3_keep]
def wsL_law_r12 : List Cond := [Cond.instanceMethod yX3_keep, Cond.selects RX3 yX3_keep yX3_keep, Cond.code yX3_keep cX3_keep 2 none, Cond.fieldLink RX3 82 "LibraryDeskModel" "oldSize" "I", Cond.methodLink RX3 110 yX3_does, Cond.instanceMethod yX3_does, Cond.selects RX3 yX3_does yX3_does, Cond.code yX3_does cX3_does 7 (some .int), Cond.constantLong RX3 92 (31), Cond.methodLink RX3 85 yX3_greatest, Cond.instanceMethod yX3_greatest, Cond.selects RX3 yX3_greatest yX3_greatest, Cond.code yX3_greatest cX3_greatest 3 (some .int), Cond.methodLink RX3 88 yX3_take, Cond.instanceMethod yX3_take, Cond.selects RX3 yX3_take yX3_take, Cond.code yX3_take cX3_take 3 none, Cond.methodLink RX3 98 yX3_many, Cond.instanceMethod yX3_many, Cond.selects RX3 yX3_many yX3_many, Cond.code yX3_many cX3_many 4 (some .int), Cond.methodLink RX3 114 yX3_restore, Cond.instanceMethod yX3_restore, Cond.selects RX3 yX3_restore yX3_restore]
def wsL_law_r13 : List Cond := [Cond.code yX3_restore cX3_restore 2 none, Cond.methodLink RL 55 yX2_again, Cond.instanceMethod yX2_again, Cond.selects RX2 yX2_again yX2_again, Cond.code yX2_again cX2_again 5 (some .long), Cond.methodLink RL 58 yX3_again, Cond.instanceMethod yX3_again, Cond.selects RX3 yX3_again yX3_again, Cond.code yX3_again cX3_again 6 (some .long), Cond.methodLink RL 59 yX2_told, Cond.instanceMethod yX2_told, Cond.selects RX2 yX2_told yX2_told, Cond.code yX2_told cX2_told 2 (some .int), Cond.methodLink RL 62 yX3_told, Cond.instanceMethod yX3_told, Cond.selects RX3 yX3_told yX3_told, Cond.code yX3_told cX3_told 2 (some .int), Cond.methodLink RL 63 yX2_numbers, Cond.instanceMethod yX2_numbers, Cond.selects RX2 yX2_numbers yX2_numbers, Cond.code yX2_numbers cX2_numbers 2 (some .int), Cond.methodLink RL 66 yX3_numbers, Cond.instanceMethod yX3_numbers, Cond.selects RX3 yX3_numbers yX3_numbers]
def wsL_law_r14 : List Cond := [Cond.code yX3_numbers cX3_numbers 2 (some .int), Cond.methodLink RL 67 yX2_here, Cond.instanceMethod yX2_here, Cond.selects RX2 yX2_here yX2_here, Cond.code yX2_here cX2_here 3 (some .boolean), Cond.methodLink RL 70 yX3_here, Cond.instanceMethod yX3_here, Cond.selects RX3 yX3_here yX3_here, Cond.code yX3_here cX3_here 3 (some .boolean), Cond.methodLink RL 71 yX2_tally, Cond.instanceMethod yX2_tally, Cond.selects RX2 yX2_tally yX2_tally, Cond.code yX2_tally cX2_tally 2 (some .long), Cond.methodLink RL 74 yX3_tally, Cond.instanceMethod yX3_tally, Cond.selects RX3 yX3_tally yX3_tally, Cond.code yX3_tally cX3_tally 2 (some .long), Cond.methodLink RL 75 yL_row, Cond.static yL_row, Cond.initialized RL, Cond.codeWith yL_row cL_row 4 (some .int) [(0, 8, 11, 13)], Cond.methodLink RL 7 yX2_row, Cond.instanceMethod yX2_row, Cond.selects RX2 yX2_row yX2_row]
def wsL_law_r15 : List Cond := [Cond.code yX2_row cX2_row 2 (some .long), Cond.classLink RX2 124 RJx00060, Cond.instantiable RJx00060 6, Cond.initialized RJx00060, Cond.fieldLink RX2 131 "LibraryDesk$Holdings" "values" "[J", Cond.methodLink RL 80 yX3_row, Cond.instanceMethod yX3_row, Cond.selects RX3 yX3_row yX3_row, Cond.code yX3_row cX3_row 2 (some .long), Cond.methodLink RL 81 yX3_thrown, Cond.instanceMethod yX3_thrown, Cond.selects RX3 yX3_thrown yX3_thrown, Cond.code yX3_thrown cX3_thrown 1 (some .int)]
def wsL_law : List Cond := (wsL_law_r1 ++ (wsL_law_r2 ++ (wsL_law_r3 ++ (wsL_law_r4 ++ (wsL_law_r5 ++ (wsL_law_r6 ++ (wsL_law_r7 ++ (wsL_law_r8 ++ (wsL_law_r9 ++ (wsL_law_r10 ++ (wsL_law_r11 ++ (wsL_law_r12 ++ (wsL_law_r13 ++ (wsL_law_r14 ++ wsL_law_r15)))))))))))))) ++ wsX20 ++ wsX30 ++ wsX10 ++ wsX00 ++ wsJx000600 ++ ([] : List Cond)
set_option maxRecDepth 20000 in
theorem wsL_law_in : ∀ w ∈ wsL_law, w ∈ lw_tbl := fun w h => (goodIn_p wsL_law [33, 36, 42, 73, 359, 139, 143, 433, 147, 150, 153, 437, 440, 443, 157, 160, 164, 447, 168, 172, 451, 176, 180, 455, 459, 184, 188, 192, 463, 467, 471, 198, 202, 208, 212, 219, 223, 227, 231, 236, 239, 246, 250, 255, 475, 479, 484, 488, 492, 496, 500, 505, 509, 259, 514, 263, 518, 267, 522, 271, 526, 275, 530, 283, 534, 429] (by decide +kernel) (by decide +kernel) w h).1
theorem inlX0 : ∀ w ∈ wsX00, w ∈ wsL_law := fun _ h => List.mem_append_left _ (List.mem_append_left _ (List.mem_append_right _ h))
theorem inX0 : ∀ w ∈ wsX00, w ∈ lw_tbl := fun w h => wsL_law_in w (inlX0 w h)
theorem inlX1 : ∀ w ∈ wsX10, w ∈ wsL_law := fun _ h => List.mem_append_left _ (List.mem_append_left _ (List.mem_append_left _ (List.mem_append_right _ h)))
theorem inX1 : ∀ w ∈ wsX10, w ∈ lw_tbl := fun w h => wsL_law_in w (inlX1 w h)
theorem inlX2 : ∀ w ∈ wsX20, w ∈ wsL_law := fun _ h => List.mem_append_left _ (List.mem_append_left _ (List.mem_append_left _ (List.mem_append_left _ (List.mem_append_left _ (List.mem_append_right _ h)))))
theorem inX2 : ∀ w ∈ wsX20, w ∈ lw_tbl := fun w h => wsL_law_in w (inlX2 w h)
theorem inlX3 : ∀ w ∈ wsX30, w ∈ wsL_law := fun _ h => List.mem_append_left _ (List.mem_append_left _ (List.mem_append_left _ (List.mem_append_left _ (List.mem_append_right _ h))))
theorem inX3 : ∀ w ∈ wsX30, w ∈ lw_tbl := fun w h => wsL_law_in w (inlX3 w h)
theorem inlJx00060 : ∀ w ∈ wsJx000600, w ∈ wsL_law := fun _ h => List.mem_append_left _ (List.mem_append_right _ h)
theorem inJx00060 : ∀ w ∈ wsJx000600, w ∈ lw_tbl := fun w h => wsL_law_in w (inlJx00060 w h)
theorem inJ13 : ∀ w ∈ wsJ130, w ∈ lw_tbl := by decide +kernel
theorem inJ0 : ∀ w ∈ wsJ00, w ∈ lw_tbl := by decide +kernel
theorem inJ10 : ∀ w ∈ wsJ100, w ∈ lw_tbl := by decide +kernel
theorem dX0_init_0 : decode cX0_init 0 = .ok (.aload_n 0, 1) := by decide +kernel
theorem dX0_init_1 : decode cX0_init 1 = .ok (.invokespecial 3, 3) := by decide +kernel
theorem dX0_init_4 : decode cX0_init 4 = .ok (.aload_n 0, 1) := by decide +kernel
theorem dX0_init_5 : decode cX0_init 5 = .ok (.bipush 8, 2) := by decide +kernel
theorem dX0_init_7 : decode cX0_init 7 = .ok (.newarray .int, 2) := by decide +kernel
theorem dX0_init_9 : decode cX0_init 9 = .ok (.putfield 9, 3) := by decide +kernel
theorem dX0_init_12 : decode cX0_init 12 = .ok (.aload_n 0, 1) := by decide +kernel
theorem dX0_init_13 : decode cX0_init 13 = .ok (.bipush 8, 2) := by decide +kernel
theorem dX0_init_15 : decode cX0_init 15 = .ok (.newarray .long, 2) := by decide +kernel
theorem dX0_init_17 : decode cX0_init 17 = .ok (.putfield 15, 3) := by decide +kernel
theorem dX0_init_20 : decode cX0_init 20 = .ok (.aload_n 0, 1) := by decide +kernel
theorem dX0_init_21 : decode cX0_init 21 = .ok (.bipush 8, 2) := by decide +kernel
theorem dX0_init_23 : decode cX0_init 23 = .ok (.newarray .long, 2) := by decide +kernel
theorem dX0_init_25 : decode cX0_init 25 = .ok (.putfield 19, 3) := by decide +kernel
theorem dX0_init_28 : decode cX0_init 28 = .ok (.aload_n 0, 1) := by decide +kernel
theorem dX0_init_29 : decode cX0_init 29 = .ok (.bipush 20, 2) := by decide +kernel
theorem dX0_init_31 : decode cX0_init 31 = .ok (.newarray .long, 2) := by decide +kernel
theorem dX0_init_33 : decode cX0_init 33 = .ok (.putfield 22, 3) := by decide +kernel
theorem dX0_init_36 : decode cX0_init 36 = .ok (.return_, 1) := by decide +kernel
theorem dX0_copyFrom_0 : decode cX0_copyFrom 0 = .ok (.aload_n 1, 1) := by decide +kernel
theorem dX0_copyFrom_1 : decode cX0_copyFrom 1 = .ok (.getfield 9, 3) := by decide +kernel
theorem dX0_copyFrom_4 : decode cX0_copyFrom 4 = .ok (.iconst 0, 1) := by decide +kernel
theorem dX0_copyFrom_5 : decode cX0_copyFrom 5 = .ok (.aload_n 0, 1) := by decide +kernel
theorem dX0_copyFrom_6 : decode cX0_copyFrom 6 = .ok (.getfield 9, 3) := by decide +kernel
theorem dX0_copyFrom_9 : decode cX0_copyFrom 9 = .ok (.iconst 0, 1) := by decide +kernel
theorem dX0_copyFrom_10 : decode cX0_copyFrom 10 = .ok (.bipush 8, 2) := by decide +kernel
theorem dX0_copyFrom_12 : decode cX0_copyFrom 12 = .ok (.invokestatic 25, 3) := by decide +kernel
theorem dX0_copyFrom_15 : decode cX0_copyFrom 15 = .ok (.aload_n 1, 1) := by decide +kernel
theorem dX0_copyFrom_16 : decode cX0_copyFrom 16 = .ok (.getfield 15, 3) := by decide +kernel
theorem dX0_copyFrom_19 : decode cX0_copyFrom 19 = .ok (.iconst 0, 1) := by decide +kernel
theorem dX0_copyFrom_20 : decode cX0_copyFrom 20 = .ok (.aload_n 0, 1) := by decide +kernel
theorem dX0_copyFrom_21 : decode cX0_copyFrom 21 = .ok (.getfield 15, 3) := by decide +kernel
theorem dX0_copyFrom_24 : decode cX0_copyFrom 24 = .ok (.iconst 0, 1) := by decide +kernel
theorem dX0_copyFrom_25 : decode cX0_copyFrom 25 = .ok (.bipush 8, 2) := by decide +kernel
theorem dX0_copyFrom_27 : decode cX0_copyFrom 27 = .ok (.invokestatic 25, 3) := by decide +kernel
theorem dX0_copyFrom_30 : decode cX0_copyFrom 30 = .ok (.aload_n 1, 1) := by decide +kernel
theorem dX0_copyFrom_31 : decode cX0_copyFrom 31 = .ok (.getfield 19, 3) := by decide +kernel
theorem dX0_copyFrom_34 : decode cX0_copyFrom 34 = .ok (.iconst 0, 1) := by decide +kernel
theorem dX0_copyFrom_35 : decode cX0_copyFrom 35 = .ok (.aload_n 0, 1) := by decide +kernel
theorem dX0_copyFrom_36 : decode cX0_copyFrom 36 = .ok (.getfield 19, 3) := by decide +kernel
theorem dX0_copyFrom_39 : decode cX0_copyFrom 39 = .ok (.iconst 0, 1) := by decide +kernel
theorem dX0_copyFrom_40 : decode cX0_copyFrom 40 = .ok (.bipush 8, 2) := by decide +kernel
theorem dX0_copyFrom_42 : decode cX0_copyFrom 42 = .ok (.invokestatic 25, 3) := by decide +kernel
theorem dX0_copyFrom_45 : decode cX0_copyFrom 45 = .ok (.aload_n 1, 1) := by decide +kernel
theorem dX0_copyFrom_46 : decode cX0_copyFrom 46 = .ok (.getfield 22, 3) := by decide +kernel
theorem dX0_copyFrom_49 : decode cX0_copyFrom 49 = .ok (.iconst 0, 1) := by decide +kernel
theorem dX0_copyFrom_50 : decode cX0_copyFrom 50 = .ok (.aload_n 0, 1) := by decide +kernel
theorem dX0_copyFrom_51 : decode cX0_copyFrom 51 = .ok (.getfield 22, 3) := by decide +kernel
theorem dX0_copyFrom_54 : decode cX0_copyFrom 54 = .ok (.iconst 0, 1) := by decide +kernel
theorem dX0_copyFrom_55 : decode cX0_copyFrom 55 = .ok (.bipush 20, 2) := by decide +kernel
theorem dX0_copyFrom_57 : decode cX0_copyFrom 57 = .ok (.invokestatic 25, 3) := by decide +kernel
theorem dX0_copyFrom_60 : decode cX0_copyFrom 60 = .ok (.aload_n 0, 1) := by decide +kernel
theorem dX0_copyFrom_61 : decode cX0_copyFrom 61 = .ok (.aload_n 1, 1) := by decide +kernel
theorem dX0_copyFrom_62 : decode cX0_copyFrom 62 = .ok (.getfield 31, 3) := by decide +kernel
theorem dX0_copyFrom_65 : decode cX0_copyFrom 65 = .ok (.putfield 31, 3) := by decide +kernel
theorem dX0_copyFrom_68 : decode cX0_copyFrom 68 = .ok (.return_, 1) := by decide +kernel
theorem dX0_addValue_0 : decode cX0_addValue 0 = .ok (.aload_n 0, 1) := by decide +kernel
theorem dX0_addValue_1 : decode cX0_addValue 1 = .ok (.getfield 31, 3) := by decide +kernel
theorem dX0_addValue_4 : decode cX0_addValue 4 = .ok (.bipush 20, 2) := by decide +kernel
theorem dX0_addValue_6 : decode cX0_addValue 6 = .ok (.if_icmp .lt 5, 3) := by decide +kernel
theorem dX0_addValue_9 : decode cX0_addValue 9 = .ok (.iconst 0, 1) := by decide +kernel
theorem dX0_addValue_10 : decode cX0_addValue 10 = .ok (.ireturn, 1) := by decide +kernel
theorem dX0_addValue_11 : decode cX0_addValue 11 = .ok (.aload_n 0, 1) := by decide +kernel
theorem dX0_addValue_12 : decode cX0_addValue 12 = .ok (.getfield 22, 3) := by decide +kernel
theorem dX0_addValue_15 : decode cX0_addValue 15 = .ok (.aload_n 0, 1) := by decide +kernel
theorem dX0_addValue_16 : decode cX0_addValue 16 = .ok (.getfield 31, 3) := by decide +kernel
theorem dX0_addValue_19 : decode cX0_addValue 19 = .ok (.lload_n 1, 1) := by decide +kernel
theorem dX0_addValue_20 : decode cX0_addValue 20 = .ok (.lastore, 1) := by decide +kernel
theorem dX0_addValue_21 : decode cX0_addValue 21 = .ok (.aload_n 0, 1) := by decide +kernel
theorem dX0_addValue_22 : decode cX0_addValue 22 = .ok (.dup, 1) := by decide +kernel
theorem dX0_addValue_23 : decode cX0_addValue 23 = .ok (.getfield 31, 3) := by decide +kernel
theorem dX0_addValue_26 : decode cX0_addValue 26 = .ok (.iconst 1, 1) := by decide +kernel
theorem dX0_addValue_27 : decode cX0_addValue 27 = .ok (.iadd, 1) := by decide +kernel
theorem dX0_addValue_28 : decode cX0_addValue 28 = .ok (.putfield 31, 3) := by decide +kernel
theorem dX0_addValue_31 : decode cX0_addValue 31 = .ok (.iconst 1, 1) := by decide +kernel
theorem dX0_addValue_32 : decode cX0_addValue 32 = .ok (.ireturn, 1) := by decide +kernel
theorem dX0_moveFirstValueTo_0 : decode cX0_moveFirstValueTo 0 = .ok (.aload_n 0, 1) := by decide +kernel
theorem dX0_moveFirstValueTo_1 : decode cX0_moveFirstValueTo 1 = .ok (.getfield 31, 3) := by decide +kernel
theorem dX0_moveFirstValueTo_4 : decode cX0_moveFirstValueTo 4 = .ok (.ifCond .gt 5, 3) := by decide +kernel
theorem dX0_moveFirstValueTo_7 : decode cX0_moveFirstValueTo 7 = .ok (.iconst 0, 1) := by decide +kernel
theorem dX0_moveFirstValueTo_8 : decode cX0_moveFirstValueTo 8 = .ok (.ireturn, 1) := by decide +kernel
theorem dX0_moveFirstValueTo_9 : decode cX0_moveFirstValueTo 9 = .ok (.aload_n 0, 1) := by decide +kernel
theorem dX0_moveFirstValueTo_10 : decode cX0_moveFirstValueTo 10 = .ok (.getfield 19, 3) := by decide +kernel
theorem dX0_moveFirstValueTo_13 : decode cX0_moveFirstValueTo 13 = .ok (.iload_n 1, 1) := by decide +kernel
theorem dX0_moveFirstValueTo_14 : decode cX0_moveFirstValueTo 14 = .ok (.dup2, 1) := by decide +kernel
theorem dX0_moveFirstValueTo_15 : decode cX0_moveFirstValueTo 15 = .ok (.laload, 1) := by decide +kernel
theorem dX0_moveFirstValueTo_16 : decode cX0_moveFirstValueTo 16 = .ok (.aload_n 0, 1) := by decide +kernel
theorem dX0_moveFirstValueTo_17 : decode cX0_moveFirstValueTo 17 = .ok (.getfield 22, 3) := by decide +kernel
theorem dX0_moveFirstValueTo_20 : decode cX0_moveFirstValueTo 20 = .ok (.iconst 0, 1) := by decide +kernel
theorem dX0_moveFirstValueTo_21 : decode cX0_moveFirstValueTo 21 = .ok (.laload, 1) := by decide +kernel
theorem dX0_moveFirstValueTo_22 : decode cX0_moveFirstValueTo 22 = .ok (.ladd, 1) := by decide +kernel
theorem dX0_moveFirstValueTo_23 : decode cX0_moveFirstValueTo 23 = .ok (.lastore, 1) := by decide +kernel
theorem dX0_moveFirstValueTo_24 : decode cX0_moveFirstValueTo 24 = .ok (.aload_n 0, 1) := by decide +kernel
theorem dX0_moveFirstValueTo_25 : decode cX0_moveFirstValueTo 25 = .ok (.dup, 1) := by decide +kernel
theorem dX0_moveFirstValueTo_26 : decode cX0_moveFirstValueTo 26 = .ok (.getfield 31, 3) := by decide +kernel
theorem dX0_moveFirstValueTo_29 : decode cX0_moveFirstValueTo 29 = .ok (.iconst 1, 1) := by decide +kernel
theorem dX0_moveFirstValueTo_30 : decode cX0_moveFirstValueTo 30 = .ok (.isub, 1) := by decide +kernel
theorem dX0_moveFirstValueTo_31 : decode cX0_moveFirstValueTo 31 = .ok (.putfield 31, 3) := by decide +kernel
theorem dX0_moveFirstValueTo_34 : decode cX0_moveFirstValueTo 34 = .ok (.iconst 0, 1) := by decide +kernel
theorem dX0_moveFirstValueTo_35 : decode cX0_moveFirstValueTo 35 = .ok (.istore_n 2, 1) := by decide +kernel
theorem dX0_moveFirstValueTo_36 : decode cX0_moveFirstValueTo 36 = .ok (.iload_n 2, 1) := by decide +kernel
theorem dX0_moveFirstValueTo_37 : decode cX0_moveFirstValueTo 37 = .ok (.aload_n 0, 1) := by decide +kernel
theorem dX0_moveFirstValueTo_38 : decode cX0_moveFirstValueTo 38 = .ok (.getfield 31, 3) := by decide +kernel
theorem dX0_moveFirstValueTo_41 : decode cX0_moveFirstValueTo 41 = .ok (.if_icmp .ge 23, 3) := by decide +kernel
theorem dX0_moveFirstValueTo_44 : decode cX0_moveFirstValueTo 44 = .ok (.aload_n 0, 1) := by decide +kernel
theorem dX0_moveFirstValueTo_45 : decode cX0_moveFirstValueTo 45 = .ok (.getfield 22, 3) := by decide +kernel
theorem dX0_moveFirstValueTo_48 : decode cX0_moveFirstValueTo 48 = .ok (.iload_n 2, 1) := by decide +kernel
theorem dX0_moveFirstValueTo_49 : decode cX0_moveFirstValueTo 49 = .ok (.aload_n 0, 1) := by decide +kernel
theorem dX0_moveFirstValueTo_50 : decode cX0_moveFirstValueTo 50 = .ok (.getfield 22, 3) := by decide +kernel
theorem dX0_moveFirstValueTo_53 : decode cX0_moveFirstValueTo 53 = .ok (.iload_n 2, 1) := by decide +kernel
theorem dX0_moveFirstValueTo_54 : decode cX0_moveFirstValueTo 54 = .ok (.iconst 1, 1) := by decide +kernel
theorem dX0_moveFirstValueTo_55 : decode cX0_moveFirstValueTo 55 = .ok (.iadd, 1) := by decide +kernel
theorem dX0_moveFirstValueTo_56 : decode cX0_moveFirstValueTo 56 = .ok (.laload, 1) := by decide +kernel
theorem dX0_moveFirstValueTo_57 : decode cX0_moveFirstValueTo 57 = .ok (.lastore, 1) := by decide +kernel
theorem dX0_moveFirstValueTo_58 : decode cX0_moveFirstValueTo 58 = .ok (.iinc 2 1, 3) := by decide +kernel
theorem dX0_moveFirstValueTo_61 : decode cX0_moveFirstValueTo 61 = .ok (.goto (-25), 3) := by decide +kernel
theorem dX0_moveFirstValueTo_64 : decode cX0_moveFirstValueTo 64 = .ok (.iconst 1, 1) := by decide +kernel
theorem dX0_moveFirstValueTo_65 : decode cX0_moveFirstValueTo 65 = .ok (.ireturn, 1) := by decide +kernel
theorem dX0_makeNumber_0 : decode cX0_makeNumber 0 = .ok (.aload_n 0, 1) := by decide +kernel
theorem dX0_makeNumber_1 : decode cX0_makeNumber 1 = .ok (.getfield 9, 3) := by decide +kernel
theorem dX0_makeNumber_4 : decode cX0_makeNumber 4 = .ok (.iload_n 1, 1) := by decide +kernel
theorem dX0_makeNumber_5 : decode cX0_makeNumber 5 = .ok (.iaload, 1) := by decide +kernel
theorem dX0_makeNumber_6 : decode cX0_makeNumber 6 = .ok (.bipush 40, 2) := by decide +kernel
theorem dX0_makeNumber_8 : decode cX0_makeNumber 8 = .ok (.if_icmp .lt 5, 3) := by decide +kernel
theorem dX0_makeNumber_11 : decode cX0_makeNumber 11 = .ok (.iconst 0, 1) := by decide +kernel
theorem dX0_makeNumber_12 : decode cX0_makeNumber 12 = .ok (.ireturn, 1) := by decide +kernel
theorem dX0_makeNumber_13 : decode cX0_makeNumber 13 = .ok (.aload_n 0, 1) := by decide +kernel
theorem dX0_makeNumber_14 : decode cX0_makeNumber 14 = .ok (.getfield 9, 3) := by decide +kernel
theorem dX0_makeNumber_17 : decode cX0_makeNumber 17 = .ok (.iload_n 1, 1) := by decide +kernel
theorem dX0_makeNumber_18 : decode cX0_makeNumber 18 = .ok (.dup2, 1) := by decide +kernel
theorem dX0_makeNumber_19 : decode cX0_makeNumber 19 = .ok (.iaload, 1) := by decide +kernel
theorem dX0_makeNumber_20 : decode cX0_makeNumber 20 = .ok (.iconst 1, 1) := by decide +kernel
theorem dX0_makeNumber_21 : decode cX0_makeNumber 21 = .ok (.iadd, 1) := by decide +kernel
theorem dX0_makeNumber_22 : decode cX0_makeNumber 22 = .ok (.iastore, 1) := by decide +kernel
theorem dX0_makeNumber_23 : decode cX0_makeNumber 23 = .ok (.aload_n 0, 1) := by decide +kernel
theorem dX0_makeNumber_24 : decode cX0_makeNumber 24 = .ok (.getfield 15, 3) := by decide +kernel
theorem dX0_makeNumber_27 : decode cX0_makeNumber 27 = .ok (.iload_n 1, 1) := by decide +kernel
theorem dX0_makeNumber_28 : decode cX0_makeNumber 28 = .ok (.dup2, 1) := by decide +kernel
theorem dX0_makeNumber_29 : decode cX0_makeNumber 29 = .ok (.laload, 1) := by decide +kernel
theorem dX0_makeNumber_30 : decode cX0_makeNumber 30 = .ok (.lconst 1, 1) := by decide +kernel
theorem dX0_makeNumber_31 : decode cX0_makeNumber 31 = .ok (.aload_n 0, 1) := by decide +kernel
theorem dX0_makeNumber_32 : decode cX0_makeNumber 32 = .ok (.getfield 9, 3) := by decide +kernel
theorem dX0_makeNumber_35 : decode cX0_makeNumber 35 = .ok (.iload_n 1, 1) := by decide +kernel
theorem dX0_makeNumber_36 : decode cX0_makeNumber 36 = .ok (.iaload, 1) := by decide +kernel
theorem dX0_makeNumber_37 : decode cX0_makeNumber 37 = .ok (.lshl, 1) := by decide +kernel
theorem dX0_makeNumber_38 : decode cX0_makeNumber 38 = .ok (.lor, 1) := by decide +kernel
theorem dX0_makeNumber_39 : decode cX0_makeNumber 39 = .ok (.lastore, 1) := by decide +kernel
theorem dX0_makeNumber_40 : decode cX0_makeNumber 40 = .ok (.iconst 1, 1) := by decide +kernel
theorem dX0_makeNumber_41 : decode cX0_makeNumber 41 = .ok (.ireturn, 1) := by decide +kernel
set_option maxRecDepth 20000 in
theorem ggX0_isHere_X2_isKind : GoodIn wsX0_isHere wsX2_isKind := goodIn_r _ [4] (by decide +kernel) (by decide +kernel)
set_option maxRecDepth 20000 in
theorem gX0_isHere_X2_isKind_n35 : GoodIn wsX0_isHere (wsX2_isKind) := ggX0_isHere_X2_isKind
theorem dX0_isHere_0 : decode cX0_isHere 0 = .ok (.iload_n 1, 1) := by decide +kernel
theorem dX0_isHere_1 : decode cX0_isHere 1 = .ok (.invokestatic 35, 3) := by decide +kernel
theorem dX0_isHere_4 : decode cX0_isHere 4 = .ok (.ifCond .eq 33, 3) := by decide +kernel
theorem dX0_isHere_7 : decode cX0_isHere 7 = .ok (.iload_n 2, 1) := by decide +kernel
theorem dX0_isHere_8 : decode cX0_isHere 8 = .ok (.iconst 1, 1) := by decide +kernel
theorem dX0_isHere_9 : decode cX0_isHere 9 = .ok (.if_icmp .lt 28, 3) := by decide +kernel
theorem dX0_isHere_12 : decode cX0_isHere 12 = .ok (.iload_n 2, 1) := by decide +kernel
theorem dX0_isHere_13 : decode cX0_isHere 13 = .ok (.bipush 40, 2) := by decide +kernel
theorem dX0_isHere_15 : decode cX0_isHere 15 = .ok (.if_icmp .gt 22, 3) := by decide +kernel
theorem dX0_isHere_18 : decode cX0_isHere 18 = .ok (.aload_n 0, 1) := by decide +kernel
theorem dX0_isHere_19 : decode cX0_isHere 19 = .ok (.getfield 15, 3) := by decide +kernel
theorem dX0_isHere_22 : decode cX0_isHere 22 = .ok (.iload_n 1, 1) := by decide +kernel
theorem dX0_isHere_23 : decode cX0_isHere 23 = .ok (.laload, 1) := by decide +kernel
theorem dX0_isHere_24 : decode cX0_isHere 24 = .ok (.lconst 1, 1) := by decide +kernel
theorem dX0_isHere_25 : decode cX0_isHere 25 = .ok (.iload_n 2, 1) := by decide +kernel
theorem dX0_isHere_26 : decode cX0_isHere 26 = .ok (.lshl, 1) := by decide +kernel
theorem dX0_isHere_27 : decode cX0_isHere 27 = .ok (.land, 1) := by decide +kernel
theorem dX0_isHere_28 : decode cX0_isHere 28 = .ok (.lconst 0, 1) := by decide +kernel
theorem dX0_isHere_29 : decode cX0_isHere 29 = .ok (.lcmp, 1) := by decide +kernel
theorem dX0_isHere_30 : decode cX0_isHere 30 = .ok (.ifCond .eq 7, 3) := by decide +kernel
theorem dX0_isHere_33 : decode cX0_isHere 33 = .ok (.iconst 1, 1) := by decide +kernel
theorem dX0_isHere_34 : decode cX0_isHere 34 = .ok (.goto 4, 3) := by decide +kernel
theorem dX0_isHere_37 : decode cX0_isHere 37 = .ok (.iconst 0, 1) := by decide +kernel
theorem dX0_isHere_38 : decode cX0_isHere 38 = .ok (.ireturn, 1) := by decide +kernel
set_option maxRecDepth 20000 in
theorem ggX0_dropNumber_X0_isHere : GoodIn wsX0_dropNumber wsX0_isHere := goodIn_r _ [7, 1, 8, 9, 10, 11, 12, 13, 14, 15] (by decide +kernel) (by decide +kernel)
set_option maxRecDepth 20000 in
theorem gX0_dropNumber_X0_isHere : GoodIn wsX0_dropNumber (wsV RX0 39 RX0 yX0_isHere wsX0_isHere) := goodIn_app (goodIn_of _ (by decide +kernel)) ggX0_dropNumber_X0_isHere
theorem dX0_dropNumber_0 : decode cX0_dropNumber 0 = .ok (.aload_n 0, 1) := by decide +kernel
theorem dX0_dropNumber_1 : decode cX0_dropNumber 1 = .ok (.iload_n 1, 1) := by decide +kernel
theorem dX0_dropNumber_2 : decode cX0_dropNumber 2 = .ok (.iload_n 2, 1) := by decide +kernel
theorem dX0_dropNumber_3 : decode cX0_dropNumber 3 = .ok (.invokevirtual 39, 3) := by decide +kernel
theorem dX0_dropNumber_6 : decode cX0_dropNumber 6 = .ok (.ifCond .ne 5, 3) := by decide +kernel
theorem dX0_dropNumber_9 : decode cX0_dropNumber 9 = .ok (.iconst 0, 1) := by decide +kernel
theorem dX0_dropNumber_10 : decode cX0_dropNumber 10 = .ok (.ireturn, 1) := by decide +kernel
theorem dX0_dropNumber_11 : decode cX0_dropNumber 11 = .ok (.aload_n 0, 1) := by decide +kernel
theorem dX0_dropNumber_12 : decode cX0_dropNumber 12 = .ok (.getfield 15, 3) := by decide +kernel
theorem dX0_dropNumber_15 : decode cX0_dropNumber 15 = .ok (.iload_n 1, 1) := by decide +kernel
theorem dX0_dropNumber_16 : decode cX0_dropNumber 16 = .ok (.dup2, 1) := by decide +kernel
theorem dX0_dropNumber_17 : decode cX0_dropNumber 17 = .ok (.laload, 1) := by decide +kernel
theorem dX0_dropNumber_18 : decode cX0_dropNumber 18 = .ok (.lconst 1, 1) := by decide +kernel
theorem dX0_dropNumber_19 : decode cX0_dropNumber 19 = .ok (.iload_n 2, 1) := by decide +kernel
theorem dX0_dropNumber_20 : decode cX0_dropNumber 20 = .ok (.lshl, 1) := by decide +kernel
theorem dX0_dropNumber_21 : decode cX0_dropNumber 21 = .ok (.ldc2_w 43, 3) := by decide +kernel
theorem dX0_dropNumber_24 : decode cX0_dropNumber 24 = .ok (.lxor, 1) := by decide +kernel
theorem dX0_dropNumber_25 : decode cX0_dropNumber 25 = .ok (.land, 1) := by decide +kernel
theorem dX0_dropNumber_26 : decode cX0_dropNumber 26 = .ok (.lastore, 1) := by decide +kernel
theorem dX0_dropNumber_27 : decode cX0_dropNumber 27 = .ok (.iconst 1, 1) := by decide +kernel
theorem dX0_dropNumber_28 : decode cX0_dropNumber 28 = .ok (.ireturn, 1) := by decide +kernel
set_option maxRecDepth 20000 in
theorem ggX0_countHere_J13_bitCount_95d88 : GoodIn wsX0_countHere wsJ13_bitCount_95d88 := goodIn_r _ [5, 6, 7, 8] (by decide +kernel) (by decide +kernel)
set_option maxRecDepth 20000 in
theorem gX0_countHere_J13_bitCount_95d88 : GoodIn wsX0_countHere (va_wsS RX0 45 yJ13_bitCount_95d88 wsJ13_bitCount_95d88) := goodIn_app (goodIn_of _ (by decide +kernel)) ggX0_countHere_J13_bitCount_95d88
theorem dX0_countHere_0 : decode cX0_countHere 0 = .ok (.aload_n 0, 1) := by decide +kernel
theorem dX0_countHere_1 : decode cX0_countHere 1 = .ok (.getfield 15, 3) := by decide +kernel
theorem dX0_countHere_4 : decode cX0_countHere 4 = .ok (.iload_n 1, 1) := by decide +kernel
theorem dX0_countHere_5 : decode cX0_countHere 5 = .ok (.laload, 1) := by decide +kernel
theorem dX0_countHere_6 : decode cX0_countHere 6 = .ok (.invokestatic 45, 3) := by decide +kernel
theorem dX0_countHere_9 : decode cX0_countHere 9 = .ok (.ireturn, 1) := by decide +kernel
set_option maxRecDepth 20000 in
theorem ggX0_greatestHere_X0_isHere : GoodIn wsX0_greatestHere wsX0_isHere := goodIn_r _ [6, 7, 8, 9, 10, 11, 12, 13, 14, 15] (by decide +kernel) (by decide +kernel)
set_option maxRecDepth 20000 in
theorem gX0_greatestHere_X0_isHere : GoodIn wsX0_greatestHere (wsV RX0 39 RX0 yX0_isHere wsX0_isHere) := goodIn_app (goodIn_of _ (by decide +kernel)) ggX0_greatestHere_X0_isHere
theorem dX0_greatestHere_0 : decode cX0_greatestHere 0 = .ok (.aload_n 0, 1) := by decide +kernel
theorem dX0_greatestHere_1 : decode cX0_greatestHere 1 = .ok (.getfield 9, 3) := by decide +kernel
theorem dX0_greatestHere_4 : decode cX0_greatestHere 4 = .ok (.iload_n 1, 1) := by decide +kernel
theorem dX0_greatestHere_5 : decode cX0_greatestHere 5 = .ok (.iaload, 1) := by decide +kernel
theorem dX0_greatestHere_6 : decode cX0_greatestHere 6 = .ok (.istore_n 2, 1) := by decide +kernel
theorem dX0_greatestHere_7 : decode cX0_greatestHere 7 = .ok (.iload_n 2, 1) := by decide +kernel
theorem dX0_greatestHere_8 : decode cX0_greatestHere 8 = .ok (.iconst 1, 1) := by decide +kernel
theorem dX0_greatestHere_9 : decode cX0_greatestHere 9 = .ok (.if_icmp .lt 20, 3) := by decide +kernel
theorem dX0_greatestHere_12 : decode cX0_greatestHere 12 = .ok (.aload_n 0, 1) := by decide +kernel
theorem dX0_greatestHere_13 : decode cX0_greatestHere 13 = .ok (.iload_n 1, 1) := by decide +kernel
theorem dX0_greatestHere_14 : decode cX0_greatestHere 14 = .ok (.iload_n 2, 1) := by decide +kernel
theorem dX0_greatestHere_15 : decode cX0_greatestHere 15 = .ok (.invokevirtual 39, 3) := by decide +kernel
theorem dX0_greatestHere_18 : decode cX0_greatestHere 18 = .ok (.ifCond .eq 5, 3) := by decide +kernel
theorem dX0_greatestHere_21 : decode cX0_greatestHere 21 = .ok (.iload_n 2, 1) := by decide +kernel
theorem dX0_greatestHere_22 : decode cX0_greatestHere 22 = .ok (.ireturn, 1) := by decide +kernel
theorem dX0_greatestHere_23 : decode cX0_greatestHere 23 = .ok (.iinc 2 (-1), 3) := by decide +kernel
theorem dX0_greatestHere_26 : decode cX0_greatestHere 26 = .ok (.goto (-19), 3) := by decide +kernel
theorem dX0_greatestHere_29 : decode cX0_greatestHere 29 = .ok (.iconst (-1), 1) := by decide +kernel
theorem dX0_greatestHere_30 : decode cX0_greatestHere 30 = .ok (.ireturn, 1) := by decide +kernel
theorem dX1_init_0 : decode cX1_init 0 = .ok (.aload_n 0, 1) := by decide +kernel
theorem dX1_init_1 : decode cX1_init 1 = .ok (.invokespecial 3, 3) := by decide +kernel
theorem dX1_init_4 : decode cX1_init 4 = .ok (.aload_n 0, 1) := by decide +kernel
theorem dX1_init_5 : decode cX1_init 5 = .ok (.iconst (-1), 1) := by decide +kernel
theorem dX1_init_6 : decode cX1_init 6 = .ok (.putfield 9, 3) := by decide +kernel
theorem dX1_init_9 : decode cX1_init 9 = .ok (.aload_n 0, 1) := by decide +kernel
theorem dX1_init_10 : decode cX1_init 10 = .ok (.bipush 6, 2) := by decide +kernel
theorem dX1_init_12 : decode cX1_init 12 = .ok (.newarray .int, 2) := by decide +kernel
theorem dX1_init_14 : decode cX1_init 14 = .ok (.putfield 15, 3) := by decide +kernel
theorem dX1_init_17 : decode cX1_init 17 = .ok (.aload_n 0, 1) := by decide +kernel
theorem dX1_init_18 : decode cX1_init 18 = .ok (.bipush 6, 2) := by decide +kernel
theorem dX1_init_20 : decode cX1_init 20 = .ok (.newarray .int, 2) := by decide +kernel
theorem dX1_init_22 : decode cX1_init 22 = .ok (.putfield 19, 3) := by decide +kernel
theorem dX1_init_25 : decode cX1_init 25 = .ok (.aload_n 0, 1) := by decide +kernel
theorem dX1_init_26 : decode cX1_init 26 = .ok (.iconst (-1), 1) := by decide +kernel
theorem dX1_init_27 : decode cX1_init 27 = .ok (.putfield 22, 3) := by decide +kernel
theorem dX1_init_30 : decode cX1_init 30 = .ok (.return_, 1) := by decide +kernel
theorem dX1_addAct_0 : decode cX1_addAct 0 = .ok (.aload_n 0, 1) := by decide +kernel
theorem dX1_addAct_1 : decode cX1_addAct 1 = .ok (.getfield 25, 3) := by decide +kernel
theorem dX1_addAct_4 : decode cX1_addAct 4 = .ok (.bipush 6, 2) := by decide +kernel
theorem dX1_addAct_6 : decode cX1_addAct 6 = .ok (.if_icmp .lt 5, 3) := by decide +kernel
theorem dX1_addAct_9 : decode cX1_addAct 9 = .ok (.iconst 0, 1) := by decide +kernel
theorem dX1_addAct_10 : decode cX1_addAct 10 = .ok (.ireturn, 1) := by decide +kernel
theorem dX1_addAct_11 : decode cX1_addAct 11 = .ok (.aload_n 0, 1) := by decide +kernel
theorem dX1_addAct_12 : decode cX1_addAct 12 = .ok (.getfield 15, 3) := by decide +kernel
theorem dX1_addAct_15 : decode cX1_addAct 15 = .ok (.aload_n 0, 1) := by decide +kernel
theorem dX1_addAct_16 : decode cX1_addAct 16 = .ok (.getfield 25, 3) := by decide +kernel
theorem dX1_addAct_19 : decode cX1_addAct 19 = .ok (.iload_n 1, 1) := by decide +kernel
theorem dX1_addAct_20 : decode cX1_addAct 20 = .ok (.iastore, 1) := by decide +kernel
theorem dX1_addAct_21 : decode cX1_addAct 21 = .ok (.aload_n 0, 1) := by decide +kernel
theorem dX1_addAct_22 : decode cX1_addAct 22 = .ok (.getfield 19, 3) := by decide +kernel
theorem dX1_addAct_25 : decode cX1_addAct 25 = .ok (.aload_n 0, 1) := by decide +kernel
theorem dX1_addAct_26 : decode cX1_addAct 26 = .ok (.getfield 25, 3) := by decide +kernel
theorem dX1_addAct_29 : decode cX1_addAct 29 = .ok (.iload_n 2, 1) := by decide +kernel
theorem dX1_addAct_30 : decode cX1_addAct 30 = .ok (.iastore, 1) := by decide +kernel
theorem dX1_addAct_31 : decode cX1_addAct 31 = .ok (.aload_n 0, 1) := by decide +kernel
theorem dX1_addAct_32 : decode cX1_addAct 32 = .ok (.dup, 1) := by decide +kernel
theorem dX1_addAct_33 : decode cX1_addAct 33 = .ok (.getfield 25, 3) := by decide +kernel
theorem dX1_addAct_36 : decode cX1_addAct 36 = .ok (.iconst 1, 1) := by decide +kernel
theorem dX1_addAct_37 : decode cX1_addAct 37 = .ok (.iadd, 1) := by decide +kernel
theorem dX1_addAct_38 : decode cX1_addAct 38 = .ok (.putfield 25, 3) := by decide +kernel
theorem dX1_addAct_41 : decode cX1_addAct 41 = .ok (.iconst 1, 1) := by decide +kernel
theorem dX1_addAct_42 : decode cX1_addAct 42 = .ok (.ireturn, 1) := by decide +kernel
theorem dX1_tellToFail_0 : decode cX1_tellToFail 0 = .ok (.aload_n 0, 1) := by decide +kernel
theorem dX1_tellToFail_1 : decode cX1_tellToFail 1 = .ok (.iload_n 1, 1) := by decide +kernel
theorem dX1_tellToFail_2 : decode cX1_tellToFail 2 = .ok (.putfield 22, 3) := by decide +kernel
theorem dX1_tellToFail_5 : decode cX1_tellToFail 5 = .ok (.aload_n 0, 1) := by decide +kernel
theorem dX1_tellToFail_6 : decode cX1_tellToFail 6 = .ok (.iload_n 2, 1) := by decide +kernel
theorem dX1_tellToFail_7 : decode cX1_tellToFail 7 = .ok (.putfield 28, 3) := by decide +kernel
theorem dX1_tellToFail_10 : decode cX1_tellToFail 10 = .ok (.return_, 1) := by decide +kernel
theorem dX1_isToldToFailAt_0 : decode cX1_isToldToFailAt 0 = .ok (.aload_n 0, 1) := by decide +kernel
theorem dX1_isToldToFailAt_1 : decode cX1_isToldToFailAt 1 = .ok (.getfield 22, 3) := by decide +kernel
theorem dX1_isToldToFailAt_4 : decode cX1_isToldToFailAt 4 = .ok (.iload_n 1, 1) := by decide +kernel
theorem dX1_isToldToFailAt_5 : decode cX1_isToldToFailAt 5 = .ok (.if_icmp .ne 7, 3) := by decide +kernel
theorem dX1_isToldToFailAt_8 : decode cX1_isToldToFailAt 8 = .ok (.iconst 1, 1) := by decide +kernel
theorem dX1_isToldToFailAt_9 : decode cX1_isToldToFailAt 9 = .ok (.goto 4, 3) := by decide +kernel
theorem dX1_isToldToFailAt_12 : decode cX1_isToldToFailAt 12 = .ok (.iconst 0, 1) := by decide +kernel
theorem dX1_isToldToFailAt_13 : decode cX1_isToldToFailAt 13 = .ok (.ireturn, 1) := by decide +kernel
theorem dX1_forgetTold_0 : decode cX1_forgetTold 0 = .ok (.aload_n 0, 1) := by decide +kernel
theorem dX1_forgetTold_1 : decode cX1_forgetTold 1 = .ok (.iconst (-1), 1) := by decide +kernel
theorem dX1_forgetTold_2 : decode cX1_forgetTold 2 = .ok (.putfield 22, 3) := by decide +kernel
theorem dX1_forgetTold_5 : decode cX1_forgetTold 5 = .ok (.return_, 1) := by decide +kernel
set_option maxRecDepth 20000 in
theorem ggX2_init_X1_init : GoodIn wsX2_init wsX1_init := goodIn_r _ [15, 16, 2, 3, 17, 18, 19, 20, 21, 44, 45, 46, 47, 48, 49] (by decide +kernel) (by decide +kernel)
set_option maxRecDepth 20000 in
theorem gX2_init_X1_init : GoodIn wsX2_init (wsX1_init) := ggX2_init_X1_init
set_option maxRecDepth 20000 in
theorem ggX2_init_X0_init : GoodIn wsX2_init wsX0_init := goodIn_r _ [24, 25, 2, 3, 18, 26, 27, 28, 29, 30, 50, 51, 52, 53, 54] (by decide +kernel) (by decide +kernel)
set_option maxRecDepth 20000 in
theorem gX2_init_X0_init : GoodIn wsX2_init (wsX0_init) := ggX2_init_X0_init
theorem dX2_init_0 : decode cX2_init 0 = .ok (.aload_n 0, 1) := by decide +kernel
theorem dX2_init_1 : decode cX2_init 1 = .ok (.invokespecial 1, 3) := by decide +kernel
theorem dX2_init_4 : decode cX2_init 4 = .ok (.aload_n 0, 1) := by decide +kernel
theorem dX2_init_5 : decode cX2_init 5 = .ok (.bipush 10, 2) := by decide +kernel
theorem dX2_init_7 : decode cX2_init 7 = .ok (.anewarray 9, 3) := by decide +kernel
theorem dX2_init_10 : decode cX2_init 10 = .ok (.putfield 11, 3) := by decide +kernel
theorem dX2_init_13 : decode cX2_init 13 = .ok (.iconst 0, 1) := by decide +kernel
theorem dX2_init_14 : decode cX2_init 14 = .ok (.istore_n 1, 1) := by decide +kernel
theorem dX2_init_15 : decode cX2_init 15 = .ok (.iload_n 1, 1) := by decide +kernel
theorem dX2_init_16 : decode cX2_init 16 = .ok (.bipush 10, 2) := by decide +kernel
theorem dX2_init_18 : decode cX2_init 18 = .ok (.if_icmp .ge 22, 3) := by decide +kernel
theorem dX2_init_21 : decode cX2_init 21 = .ok (.aload_n 0, 1) := by decide +kernel
theorem dX2_init_22 : decode cX2_init 22 = .ok (.getfield 11, 3) := by decide +kernel
theorem dX2_init_25 : decode cX2_init 25 = .ok (.iload_n 1, 1) := by decide +kernel
theorem dX2_init_26 : decode cX2_init 26 = .ok (.new 9, 3) := by decide +kernel
theorem dX2_init_29 : decode cX2_init 29 = .ok (.dup, 1) := by decide +kernel
theorem dX2_init_30 : decode cX2_init 30 = .ok (.invokespecial 15, 3) := by decide +kernel
theorem dX2_init_33 : decode cX2_init 33 = .ok (.aastore, 1) := by decide +kernel
theorem dX2_init_34 : decode cX2_init 34 = .ok (.iinc 1 1, 3) := by decide +kernel
theorem dX2_init_37 : decode cX2_init 37 = .ok (.goto (-22), 3) := by decide +kernel
theorem dX2_init_40 : decode cX2_init 40 = .ok (.aload_n 0, 1) := by decide +kernel
theorem dX2_init_41 : decode cX2_init 41 = .ok (.new 16, 3) := by decide +kernel
theorem dX2_init_44 : decode cX2_init 44 = .ok (.dup, 1) := by decide +kernel
theorem dX2_init_45 : decode cX2_init 45 = .ok (.invokespecial 18, 3) := by decide +kernel
theorem dX2_init_48 : decode cX2_init 48 = .ok (.putfield 19, 3) := by decide +kernel
theorem dX2_init_51 : decode cX2_init 51 = .ok (.aload_n 0, 1) := by decide +kernel
theorem dX2_init_52 : decode cX2_init 52 = .ok (.new 16, 3) := by decide +kernel
theorem dX2_init_55 : decode cX2_init 55 = .ok (.dup, 1) := by decide +kernel
theorem dX2_init_56 : decode cX2_init 56 = .ok (.invokespecial 18, 3) := by decide +kernel
theorem dX2_init_59 : decode cX2_init 59 = .ok (.putfield 23, 3) := by decide +kernel
theorem dX2_init_62 : decode cX2_init 62 = .ok (.return_, 1) := by decide +kernel
set_option maxRecDepth 20000 in
theorem ggX2_collect_X0_addValue : GoodIn wsX2_collect wsX0_addValue := goodIn_r _ [7, 8, 9, 23, 24, 25, 26, 27] (by decide +kernel) (by decide +kernel)
set_option maxRecDepth 20000 in
theorem gX2_collect_X0_addValue : GoodIn wsX2_collect (wsV RX2 26 RX0 yX0_addValue wsX0_addValue) := goodIn_app (goodIn_of _ (by decide +kernel)) ggX2_collect_X0_addValue
theorem dX2_collect_0 : decode cX2_collect 0 = .ok (.aload_n 0, 1) := by decide +kernel
theorem dX2_collect_1 : decode cX2_collect 1 = .ok (.getfield 19, 3) := by decide +kernel
theorem dX2_collect_4 : decode cX2_collect 4 = .ok (.lload_n 1, 1) := by decide +kernel
theorem dX2_collect_5 : decode cX2_collect 5 = .ok (.invokevirtual 26, 3) := by decide +kernel
theorem dX2_collect_8 : decode cX2_collect 8 = .ok (.ifCond .eq 13, 3) := by decide +kernel
theorem dX2_collect_11 : decode cX2_collect 11 = .ok (.aload_n 0, 1) := by decide +kernel
theorem dX2_collect_12 : decode cX2_collect 12 = .ok (.getfield 19, 3) := by decide +kernel
theorem dX2_collect_15 : decode cX2_collect 15 = .ok (.getfield 30, 3) := by decide +kernel
theorem dX2_collect_18 : decode cX2_collect 18 = .ok (.goto 4, 3) := by decide +kernel
theorem dX2_collect_21 : decode cX2_collect 21 = .ok (.iconst (-1), 1) := by decide +kernel
theorem dX2_collect_22 : decode cX2_collect 22 = .ok (.ireturn, 1) := by decide +kernel
set_option maxRecDepth 20000 in
theorem ggX2_wants_X2_isCall : GoodIn wsX2_wants wsX2_isCall := goodIn_r _ [6] (by decide +kernel) (by decide +kernel)
set_option maxRecDepth 20000 in
theorem gX2_wants_X2_isCall : GoodIn wsX2_wants (va_wsS RX2 34 yX2_isCall wsX2_isCall) := goodIn_app (goodIn_of _ (by decide +kernel)) ggX2_wants_X2_isCall
set_option maxRecDepth 20000 in
theorem ggX2_wants_X2_isKind : GoodIn wsX2_wants wsX2_isKind := goodIn_r _ [9] (by decide +kernel) (by decide +kernel)
set_option maxRecDepth 20000 in
theorem gX2_wants_X2_isKind : GoodIn wsX2_wants (va_wsS RX2 38 yX2_isKind wsX2_isKind) := goodIn_app (goodIn_of _ (by decide +kernel)) ggX2_wants_X2_isKind
theorem dX2_wants_0 : decode cX2_wants 0 = .ok (.iload_n 1, 1) := by decide +kernel
theorem dX2_wants_1 : decode cX2_wants 1 = .ok (.invokestatic 34, 3) := by decide +kernel
theorem dX2_wants_4 : decode cX2_wants 4 = .ok (.ifCond .eq 15, 3) := by decide +kernel
theorem dX2_wants_7 : decode cX2_wants 7 = .ok (.iload_n 2, 1) := by decide +kernel
theorem dX2_wants_8 : decode cX2_wants 8 = .ok (.iconst (-1), 1) := by decide +kernel
theorem dX2_wants_9 : decode cX2_wants 9 = .ok (.if_icmp .eq 13, 3) := by decide +kernel
theorem dX2_wants_12 : decode cX2_wants 12 = .ok (.iload_n 2, 1) := by decide +kernel
theorem dX2_wants_13 : decode cX2_wants 13 = .ok (.invokestatic 38, 3) := by decide +kernel
theorem dX2_wants_16 : decode cX2_wants 16 = .ok (.ifCond .ne 6, 3) := by decide +kernel
theorem dX2_wants_19 : decode cX2_wants 19 = .ok (.bipush (-2), 2) := by decide +kernel
theorem dX2_wants_21 : decode cX2_wants 21 = .ok (.ireturn, 1) := by decide +kernel
theorem dX2_wants_22 : decode cX2_wants 22 = .ok (.aload_n 0, 1) := by decide +kernel
theorem dX2_wants_23 : decode cX2_wants 23 = .ok (.getfield 11, 3) := by decide +kernel
theorem dX2_wants_26 : decode cX2_wants 26 = .ok (.iload_n 1, 1) := by decide +kernel
theorem dX2_wants_27 : decode cX2_wants 27 = .ok (.aaload, 1) := by decide +kernel
theorem dX2_wants_28 : decode cX2_wants 28 = .ok (.getfield 41, 3) := by decide +kernel
theorem dX2_wants_31 : decode cX2_wants 31 = .ok (.istore_n 3, 1) := by decide +kernel
theorem dX2_wants_32 : decode cX2_wants 32 = .ok (.aload_n 0, 1) := by decide +kernel
theorem dX2_wants_33 : decode cX2_wants 33 = .ok (.getfield 11, 3) := by decide +kernel
theorem dX2_wants_36 : decode cX2_wants 36 = .ok (.iload_n 1, 1) := by decide +kernel
theorem dX2_wants_37 : decode cX2_wants 37 = .ok (.aaload, 1) := by decide +kernel
theorem dX2_wants_38 : decode cX2_wants 38 = .ok (.iload_n 2, 1) := by decide +kernel
theorem dX2_wants_39 : decode cX2_wants 39 = .ok (.putfield 41, 3) := by decide +kernel
theorem dX2_wants_42 : decode cX2_wants 42 = .ok (.iload_n 3, 1) := by decide +kernel
theorem dX2_wants_43 : decode cX2_wants 43 = .ok (.ireturn, 1) := by decide +kernel
set_option maxRecDepth 20000 in
theorem ggX2_act_X2_isCall : GoodIn wsX2_act wsX2_isCall := goodIn_r _ [6] (by decide +kernel) (by decide +kernel)
set_option maxRecDepth 20000 in
theorem gX2_act_X2_isCall : GoodIn wsX2_act (va_wsS RX2 34 yX2_isCall wsX2_isCall) := goodIn_app (goodIn_of _ (by decide +kernel)) ggX2_act_X2_isCall
set_option maxRecDepth 20000 in
theorem ggX2_act_X2_isSort : GoodIn wsX2_act wsX2_isSort := goodIn_r _ [9] (by decide +kernel) (by decide +kernel)
set_option maxRecDepth 20000 in
theorem gX2_act_X2_isSort : GoodIn wsX2_act (va_wsS RX2 44 yX2_isSort wsX2_isSort) := goodIn_app (goodIn_of _ (by decide +kernel)) ggX2_act_X2_isSort
set_option maxRecDepth 20000 in
theorem ggX2_act_X2_isKind : GoodIn wsX2_act wsX2_isKind := goodIn_r _ [12] (by decide +kernel) (by decide +kernel)
set_option maxRecDepth 20000 in
theorem gX2_act_X2_isKind : GoodIn wsX2_act (va_wsS RX2 38 yX2_isKind wsX2_isKind) := goodIn_app (goodIn_of _ (by decide +kernel)) ggX2_act_X2_isKind
set_option maxRecDepth 20000 in
theorem ggX2_act_X1_addAct : GoodIn wsX2_act wsX1_addAct := goodIn_r _ [17, 18, 19, 20, 34, 35, 36, 37, 38, 39] (by decide +kernel) (by decide +kernel)
set_option maxRecDepth 20000 in
theorem gX2_act_X1_addAct : GoodIn wsX2_act (wsV RX2 47 RX1 yX1_addAct wsX1_addAct) := goodIn_app (goodIn_of _ (by decide +kernel)) ggX2_act_X1_addAct
theorem dX2_act_0 : decode cX2_act 0 = .ok (.iload_n 1, 1) := by decide +kernel
theorem dX2_act_1 : decode cX2_act 1 = .ok (.invokestatic 34, 3) := by decide +kernel
theorem dX2_act_4 : decode cX2_act 4 = .ok (.ifCond .eq 17, 3) := by decide +kernel
theorem dX2_act_7 : decode cX2_act 7 = .ok (.iload_n 2, 1) := by decide +kernel
theorem dX2_act_8 : decode cX2_act 8 = .ok (.invokestatic 44, 3) := by decide +kernel
theorem dX2_act_11 : decode cX2_act 11 = .ok (.ifCond .eq 10, 3) := by decide +kernel
theorem dX2_act_14 : decode cX2_act 14 = .ok (.iload_n 3, 1) := by decide +kernel
theorem dX2_act_15 : decode cX2_act 15 = .ok (.invokestatic 38, 3) := by decide +kernel
theorem dX2_act_18 : decode cX2_act 18 = .ok (.ifCond .ne 5, 3) := by decide +kernel
theorem dX2_act_21 : decode cX2_act 21 = .ok (.iconst (-1), 1) := by decide +kernel
theorem dX2_act_22 : decode cX2_act 22 = .ok (.ireturn, 1) := by decide +kernel
theorem dX2_act_23 : decode cX2_act 23 = .ok (.aload_n 0, 1) := by decide +kernel
theorem dX2_act_24 : decode cX2_act 24 = .ok (.getfield 11, 3) := by decide +kernel
theorem dX2_act_27 : decode cX2_act 27 = .ok (.iload_n 1, 1) := by decide +kernel
theorem dX2_act_28 : decode cX2_act 28 = .ok (.aaload, 1) := by decide +kernel
theorem dX2_act_29 : decode cX2_act 29 = .ok (.iload_n 2, 1) := by decide +kernel
theorem dX2_act_30 : decode cX2_act 30 = .ok (.iload_n 3, 1) := by decide +kernel
theorem dX2_act_31 : decode cX2_act 31 = .ok (.invokevirtual 47, 3) := by decide +kernel
theorem dX2_act_34 : decode cX2_act 34 = .ok (.ifCond .eq 15, 3) := by decide +kernel
theorem dX2_act_37 : decode cX2_act 37 = .ok (.aload_n 0, 1) := by decide +kernel
theorem dX2_act_38 : decode cX2_act 38 = .ok (.getfield 11, 3) := by decide +kernel
theorem dX2_act_41 : decode cX2_act 41 = .ok (.iload_n 1, 1) := by decide +kernel
theorem dX2_act_42 : decode cX2_act 42 = .ok (.aaload, 1) := by decide +kernel
theorem dX2_act_43 : decode cX2_act 43 = .ok (.getfield 51, 3) := by decide +kernel
theorem dX2_act_46 : decode cX2_act 46 = .ok (.goto 4, 3) := by decide +kernel
theorem dX2_act_49 : decode cX2_act 49 = .ok (.iconst (-1), 1) := by decide +kernel
theorem dX2_act_50 : decode cX2_act 50 = .ok (.ireturn, 1) := by decide +kernel
set_option maxRecDepth 20000 in
theorem ggX2_fails_X2_isCall : GoodIn wsX2_fails wsX2_isCall := goodIn_r _ [5] (by decide +kernel) (by decide +kernel)
set_option maxRecDepth 20000 in
theorem gX2_fails_X2_isCall : GoodIn wsX2_fails (va_wsS RX2 34 yX2_isCall wsX2_isCall) := goodIn_app (goodIn_of _ (by decide +kernel)) ggX2_fails_X2_isCall
set_option maxRecDepth 20000 in
theorem ggX2_fails_X1_tellToFail : GoodIn wsX2_fails wsX1_tellToFail := goodIn_r _ [10, 11, 12, 26, 27, 28, 29, 30, 31] (by decide +kernel) (by decide +kernel)
set_option maxRecDepth 20000 in
theorem gX2_fails_X1_tellToFail : GoodIn wsX2_fails (wsV RX2 54 RX1 yX1_tellToFail wsX1_tellToFail) := goodIn_app (goodIn_of _ (by decide +kernel)) ggX2_fails_X1_tellToFail
theorem dX2_fails_0 : decode cX2_fails 0 = .ok (.iload_n 1, 1) := by decide +kernel
theorem dX2_fails_1 : decode cX2_fails 1 = .ok (.invokestatic 34, 3) := by decide +kernel
theorem dX2_fails_4 : decode cX2_fails 4 = .ok (.ifCond .eq 23, 3) := by decide +kernel
theorem dX2_fails_7 : decode cX2_fails 7 = .ok (.iload_n 2, 1) := by decide +kernel
theorem dX2_fails_8 : decode cX2_fails 8 = .ok (.ifCond .lt 19, 3) := by decide +kernel
theorem dX2_fails_11 : decode cX2_fails 11 = .ok (.iload_n 2, 1) := by decide +kernel
theorem dX2_fails_12 : decode cX2_fails 12 = .ok (.bipush 6, 2) := by decide +kernel
theorem dX2_fails_14 : decode cX2_fails 14 = .ok (.if_icmp .ge 13, 3) := by decide +kernel
theorem dX2_fails_17 : decode cX2_fails 17 = .ok (.iload_n 3, 1) := by decide +kernel
theorem dX2_fails_18 : decode cX2_fails 18 = .ok (.iconst 1, 1) := by decide +kernel
theorem dX2_fails_19 : decode cX2_fails 19 = .ok (.if_icmp .lt 8, 3) := by decide +kernel
theorem dX2_fails_22 : decode cX2_fails 22 = .ok (.iload_n 3, 1) := by decide +kernel
theorem dX2_fails_23 : decode cX2_fails 23 = .ok (.iconst 5, 1) := by decide +kernel
theorem dX2_fails_24 : decode cX2_fails 24 = .ok (.if_icmp .le 5, 3) := by decide +kernel
theorem dX2_fails_27 : decode cX2_fails 27 = .ok (.iconst 0, 1) := by decide +kernel
theorem dX2_fails_28 : decode cX2_fails 28 = .ok (.ireturn, 1) := by decide +kernel
theorem dX2_fails_29 : decode cX2_fails 29 = .ok (.aload_n 0, 1) := by decide +kernel
theorem dX2_fails_30 : decode cX2_fails 30 = .ok (.getfield 11, 3) := by decide +kernel
theorem dX2_fails_33 : decode cX2_fails 33 = .ok (.iload_n 1, 1) := by decide +kernel
theorem dX2_fails_34 : decode cX2_fails 34 = .ok (.aaload, 1) := by decide +kernel
theorem dX2_fails_35 : decode cX2_fails 35 = .ok (.iload_n 2, 1) := by decide +kernel
theorem dX2_fails_36 : decode cX2_fails 36 = .ok (.iload_n 3, 1) := by decide +kernel
theorem dX2_fails_37 : decode cX2_fails 37 = .ok (.invokevirtual 54, 3) := by decide +kernel
theorem dX2_fails_40 : decode cX2_fails 40 = .ok (.iconst 1, 1) := by decide +kernel
theorem dX2_fails_41 : decode cX2_fails 41 = .ok (.ireturn, 1) := by decide +kernel
set_option maxRecDepth 20000 in
theorem ggX2_make_X2_isKind : GoodIn wsX2_make wsX2_isKind := goodIn_r _ [6] (by decide +kernel) (by decide +kernel)
set_option maxRecDepth 20000 in
theorem gX2_make_X2_isKind : GoodIn wsX2_make (va_wsS RX2 38 yX2_isKind wsX2_isKind) := goodIn_app (goodIn_of _ (by decide +kernel)) ggX2_make_X2_isKind
set_option maxRecDepth 20000 in
theorem ggX2_make_X0_makeNumber : GoodIn wsX2_make wsX0_makeNumber := goodIn_r _ [11, 12, 13, 27, 28, 29, 30, 31] (by decide +kernel) (by decide +kernel)
set_option maxRecDepth 20000 in
theorem gX2_make_X0_makeNumber : GoodIn wsX2_make (wsV RX2 58 RX0 yX0_makeNumber wsX0_makeNumber) := goodIn_app (goodIn_of _ (by decide +kernel)) ggX2_make_X0_makeNumber
theorem dX2_make_0 : decode cX2_make 0 = .ok (.iload_n 1, 1) := by decide +kernel
theorem dX2_make_1 : decode cX2_make 1 = .ok (.invokestatic 38, 3) := by decide +kernel
theorem dX2_make_4 : decode cX2_make 4 = .ok (.ifCond .eq 14, 3) := by decide +kernel
theorem dX2_make_7 : decode cX2_make 7 = .ok (.aload_n 0, 1) := by decide +kernel
theorem dX2_make_8 : decode cX2_make 8 = .ok (.getfield 19, 3) := by decide +kernel
theorem dX2_make_11 : decode cX2_make 11 = .ok (.iload_n 1, 1) := by decide +kernel
theorem dX2_make_12 : decode cX2_make 12 = .ok (.invokevirtual 58, 3) := by decide +kernel
theorem dX2_make_15 : decode cX2_make 15 = .ok (.ifCond .ne 5, 3) := by decide +kernel
theorem dX2_make_18 : decode cX2_make 18 = .ok (.iconst (-1), 1) := by decide +kernel
theorem dX2_make_19 : decode cX2_make 19 = .ok (.ireturn, 1) := by decide +kernel
theorem dX2_make_20 : decode cX2_make 20 = .ok (.aload_n 0, 1) := by decide +kernel
theorem dX2_make_21 : decode cX2_make 21 = .ok (.getfield 19, 3) := by decide +kernel
theorem dX2_make_24 : decode cX2_make 24 = .ok (.getfield 61, 3) := by decide +kernel
theorem dX2_make_27 : decode cX2_make 27 = .ok (.iload_n 1, 1) := by decide +kernel
theorem dX2_make_28 : decode cX2_make 28 = .ok (.iaload, 1) := by decide +kernel
theorem dX2_make_29 : decode cX2_make 29 = .ok (.ireturn, 1) := by decide +kernel
set_option maxRecDepth 20000 in
theorem ggX2_drop_X0_dropNumber : GoodIn wsX2_drop wsX0_dropNumber := goodIn_r _ [6, 7, 8, 9, 10, 11, 5, 12, 13, 14, 15, 29, 30, 31, 32, 33] (by decide +kernel) (by decide +kernel)
set_option maxRecDepth 20000 in
theorem gX2_drop_X0_dropNumber : GoodIn wsX2_drop (wsV RX2 65 RX0 yX0_dropNumber wsX0_dropNumber) := goodIn_app (goodIn_of _ (by decide +kernel)) ggX2_drop_X0_dropNumber
theorem dX2_drop_0 : decode cX2_drop 0 = .ok (.aload_n 0, 1) := by decide +kernel
theorem dX2_drop_1 : decode cX2_drop 1 = .ok (.getfield 19, 3) := by decide +kernel
theorem dX2_drop_4 : decode cX2_drop 4 = .ok (.iload_n 1, 1) := by decide +kernel
theorem dX2_drop_5 : decode cX2_drop 5 = .ok (.iload_n 2, 1) := by decide +kernel
theorem dX2_drop_6 : decode cX2_drop 6 = .ok (.invokevirtual 65, 3) := by decide +kernel
theorem dX2_drop_9 : decode cX2_drop 9 = .ok (.ireturn, 1) := by decide +kernel
set_option maxRecDepth 20000 in
theorem ggX2_call_X2_isRefused : GoodIn wsX2_call wsX2_isRefused := goodIn_r _ [12, 3, 13, 14, 15, 16, 11, 17, 18, 19, 20, 21, 22, 23, 24, 25, 106, 107, 108, 109, 110, 111, 112, 113, 114, 115, 116, 117, 118, 119, 120, 121, 122, 123, 124, 125, 126, 127, 128, 129] (by decide +kernel) (by decide +kernel)
set_option maxRecDepth 20000 in
theorem gX2_call_X2_isRefused : GoodIn wsX2_call (wsV RX2 68 RX2 yX2_isRefused wsX2_isRefused) := goodIn_app (goodIn_of _ (by decide +kernel)) ggX2_call_X2_isRefused
set_option maxRecDepth 20000 in
theorem ggX2_call_X2_tryActs : GoodIn wsX2_call wsX2_tryActs := goodIn_r _ [29, 30, 14, 7, 4, 31, 32, 33, 34, 35, 36, 21, 37, 38, 39, 40, 41, 42, 23, 43, 44, 45, 46, 47, 48, 49, 50, 51, 52, 53, 54, 11, 55, 56, 57, 58, 59, 13, 60, 61, 62, 63, 64, 65, 66, 67, 68, 19, 20, 22, 24, 25, 69, 70, 71, 72, 73, 74, 75, 76, 77, 78, 79, 80, 81, 82, 83, 84, 85, 86, 87, 88, 106, 107, 108, 109, 110, 111, 112, 113, 114, 115, 116, 117, 118, 119, 120, 121, 122, 123, 124, 125, 126, 127, 128, 129] (by decide +kernel) (by decide +kernel)
set_option maxRecDepth 20000 in
theorem gX2_call_X2_tryActs : GoodIn wsX2_call (wsV RX2 76 RX2 yX2_tryActs wsX2_tryActs) := goodIn_app (goodIn_of _ (by decide +kernel)) ggX2_call_X2_tryActs
set_option maxRecDepth 20000 in
theorem ggX2_call_X2_noteFailure : GoodIn wsX2_call wsX2_noteFailure := goodIn_r _ [92, 3, 32, 93, 4, 94, 95, 96, 97, 46, 47, 48, 49, 50, 51, 98, 99, 100, 101, 106, 107, 108, 109, 110, 111, 112, 113, 114, 115, 116, 117, 118, 119, 120, 121, 122, 123, 124] (by decide +kernel) (by decide +kernel)
set_option maxRecDepth 20000 in
theorem gX2_call_X2_noteFailure : GoodIn wsX2_call (wsV RX2 83 RX2 yX2_noteFailure wsX2_noteFailure) := goodIn_app (goodIn_of _ (by decide +kernel)) ggX2_call_X2_noteFailure
set_option maxRecDepth 20000 in
theorem ggX2_call_X2_keepTrial : GoodIn wsX2_call wsX2_keepTrial := goodIn_r _ [105, 14, 30, 106, 107, 108, 109, 110, 111, 112, 113, 114, 115, 116, 117, 118] (by decide +kernel) (by decide +kernel)
set_option maxRecDepth 20000 in
theorem gX2_call_X2_keepTrial : GoodIn wsX2_call (wsV RX2 88 RX2 yX2_keepTrial wsX2_keepTrial) := goodIn_app (goodIn_of _ (by decide +kernel)) ggX2_call_X2_keepTrial
theorem dX2_call_0 : decode cX2_call 0 = .ok (.aload_n 0, 1) := by decide +kernel
theorem dX2_call_1 : decode cX2_call 1 = .ok (.iload_n 1, 1) := by decide +kernel
theorem dX2_call_2 : decode cX2_call 2 = .ok (.iload_n 2, 1) := by decide +kernel
theorem dX2_call_3 : decode cX2_call 3 = .ok (.invokevirtual 68, 3) := by decide +kernel
theorem dX2_call_6 : decode cX2_call 6 = .ok (.ifCond .eq 17, 3) := by decide +kernel
theorem dX2_call_9 : decode cX2_call 9 = .ok (.aload_n 0, 1) := by decide +kernel
theorem dX2_call_10 : decode cX2_call 10 = .ok (.dup, 1) := by decide +kernel
theorem dX2_call_11 : decode cX2_call 11 = .ok (.getfield 71, 3) := by decide +kernel
theorem dX2_call_14 : decode cX2_call 14 = .ok (.iconst 1, 1) := by decide +kernel
theorem dX2_call_15 : decode cX2_call 15 = .ok (.iadd, 1) := by decide +kernel
theorem dX2_call_16 : decode cX2_call 16 = .ok (.putfield 71, 3) := by decide +kernel
theorem dX2_call_19 : decode cX2_call 19 = .ok (.ldc2_w 74, 3) := by decide +kernel
theorem dX2_call_22 : decode cX2_call 22 = .ok (.lreturn, 1) := by decide +kernel
theorem dX2_call_23 : decode cX2_call 23 = .ok (.aload_n 0, 1) := by decide +kernel
theorem dX2_call_24 : decode cX2_call 24 = .ok (.aload_n 0, 1) := by decide +kernel
theorem dX2_call_25 : decode cX2_call 25 = .ok (.getfield 11, 3) := by decide +kernel
theorem dX2_call_28 : decode cX2_call 28 = .ok (.iload_n 1, 1) := by decide +kernel
theorem dX2_call_29 : decode cX2_call 29 = .ok (.aaload, 1) := by decide +kernel
theorem dX2_call_30 : decode cX2_call 30 = .ok (.iload_n 2, 1) := by decide +kernel
theorem dX2_call_31 : decode cX2_call 31 = .ok (.lload_n 3, 1) := by decide +kernel
theorem dX2_call_32 : decode cX2_call 32 = .ok (.invokevirtual 76, 3) := by decide +kernel
theorem dX2_call_35 : decode cX2_call 35 = .ok (.aload_n 0, 1) := by decide +kernel
theorem dX2_call_36 : decode cX2_call 36 = .ok (.getfield 80, 3) := by decide +kernel
theorem dX2_call_39 : decode cX2_call 39 = .ok (.ifCond .eq 13, 3) := by decide +kernel
theorem dX2_call_42 : decode cX2_call 42 = .ok (.aload_n 0, 1) := by decide +kernel
theorem dX2_call_43 : decode cX2_call 43 = .ok (.iload_n 1, 1) := by decide +kernel
theorem dX2_call_44 : decode cX2_call 44 = .ok (.iload_n 2, 1) := by decide +kernel
theorem dX2_call_45 : decode cX2_call 45 = .ok (.invokevirtual 83, 3) := by decide +kernel
theorem dX2_call_48 : decode cX2_call 48 = .ok (.ldc2_w 86, 3) := by decide +kernel
theorem dX2_call_51 : decode cX2_call 51 = .ok (.lreturn, 1) := by decide +kernel
theorem dX2_call_52 : decode cX2_call 52 = .ok (.aload_n 0, 1) := by decide +kernel
theorem dX2_call_53 : decode cX2_call 53 = .ok (.invokevirtual 88, 3) := by decide +kernel
theorem dX2_call_56 : decode cX2_call 56 = .ok (.aload_n 0, 1) := by decide +kernel
theorem dX2_call_57 : decode cX2_call 57 = .ok (.dup, 1) := by decide +kernel
theorem dX2_call_58 : decode cX2_call 58 = .ok (.getfield 91, 3) := by decide +kernel
theorem dX2_call_61 : decode cX2_call 61 = .ok (.iconst 1, 1) := by decide +kernel
theorem dX2_call_62 : decode cX2_call 62 = .ok (.iadd, 1) := by decide +kernel
theorem dX2_call_63 : decode cX2_call 63 = .ok (.putfield 91, 3) := by decide +kernel
theorem dX2_call_66 : decode cX2_call 66 = .ok (.aload_n 0, 1) := by decide +kernel
theorem dX2_call_67 : decode cX2_call 67 = .ok (.getfield 94, 3) := by decide +kernel
theorem dX2_call_70 : decode cX2_call 70 = .ok (.lreturn, 1) := by decide +kernel
set_option maxRecDepth 20000 in
theorem ggX2_again_X2_isRefused : GoodIn wsX2_again wsX2_isRefused := goodIn_r _ [10, 2, 11, 12, 13, 14, 9, 15, 16, 17, 18, 19, 20, 21, 22, 23, 87, 88, 89, 90, 91, 92, 93, 94, 95, 96, 97, 98, 99, 100, 101, 102, 103, 104, 105, 106, 107, 108, 109, 110] (by decide +kernel) (by decide +kernel)
set_option maxRecDepth 20000 in
theorem gX2_again_X2_isRefused : GoodIn wsX2_again (wsV RX2 68 RX2 yX2_isRefused wsX2_isRefused) := goodIn_app (goodIn_of _ (by decide +kernel)) ggX2_again_X2_isRefused
set_option maxRecDepth 20000 in
theorem ggX2_again_X2_tryActs : GoodIn wsX2_again wsX2_tryActs := goodIn_r _ [27, 28, 12, 5, 3, 29, 30, 31, 32, 33, 34, 19, 35, 36, 37, 38, 39, 40, 21, 41, 42, 43, 44, 45, 46, 47, 48, 49, 50, 51, 52, 9, 53, 54, 55, 56, 57, 11, 58, 59, 60, 61, 62, 63, 64, 65, 66, 17, 18, 20, 22, 23, 67, 68, 69, 70, 71, 72, 73, 74, 75, 76, 77, 78, 79, 80, 81, 82, 83, 84, 85, 86, 87, 88, 89, 90, 91, 92, 93, 94, 95, 96, 97, 98, 99, 100, 101, 102, 103, 104, 105, 106, 107, 108, 109, 110] (by decide +kernel) (by decide +kernel)
set_option maxRecDepth 20000 in
theorem gX2_again_X2_tryActs : GoodIn wsX2_again (wsV RX2 76 RX2 yX2_tryActs wsX2_tryActs) := goodIn_app (goodIn_of _ (by decide +kernel)) ggX2_again_X2_tryActs
theorem dX2_again_0 : decode cX2_again 0 = .ok (.aload_n 0, 1) := by decide +kernel
theorem dX2_again_1 : decode cX2_again 1 = .ok (.iload_n 1, 1) := by decide +kernel
theorem dX2_again_2 : decode cX2_again 2 = .ok (.iload_n 2, 1) := by decide +kernel
theorem dX2_again_3 : decode cX2_again 3 = .ok (.invokevirtual 68, 3) := by decide +kernel
theorem dX2_again_6 : decode cX2_again 6 = .ok (.ifCond .eq 7, 3) := by decide +kernel
theorem dX2_again_9 : decode cX2_again 9 = .ok (.ldc2_w 74, 3) := by decide +kernel
theorem dX2_again_12 : decode cX2_again 12 = .ok (.lreturn, 1) := by decide +kernel
theorem dX2_again_13 : decode cX2_again 13 = .ok (.aload_n 0, 1) := by decide +kernel
theorem dX2_again_14 : decode cX2_again 14 = .ok (.aload_n 0, 1) := by decide +kernel
theorem dX2_again_15 : decode cX2_again 15 = .ok (.getfield 11, 3) := by decide +kernel
theorem dX2_again_18 : decode cX2_again 18 = .ok (.iload_n 1, 1) := by decide +kernel
theorem dX2_again_19 : decode cX2_again 19 = .ok (.aaload, 1) := by decide +kernel
theorem dX2_again_20 : decode cX2_again 20 = .ok (.iload_n 2, 1) := by decide +kernel
theorem dX2_again_21 : decode cX2_again 21 = .ok (.lload_n 3, 1) := by decide +kernel
theorem dX2_again_22 : decode cX2_again 22 = .ok (.invokevirtual 76, 3) := by decide +kernel
theorem dX2_again_25 : decode cX2_again 25 = .ok (.aload_n 0, 1) := by decide +kernel
theorem dX2_again_26 : decode cX2_again 26 = .ok (.getfield 80, 3) := by decide +kernel
theorem dX2_again_29 : decode cX2_again 29 = .ok (.ifCond .eq 9, 3) := by decide +kernel
theorem dX2_again_32 : decode cX2_again 32 = .ok (.ldc2_w 86, 3) := by decide +kernel
theorem dX2_again_35 : decode cX2_again 35 = .ok (.goto 7, 3) := by decide +kernel
theorem dX2_again_38 : decode cX2_again 38 = .ok (.aload_n 0, 1) := by decide +kernel
theorem dX2_again_39 : decode cX2_again 39 = .ok (.getfield 94, 3) := by decide +kernel
theorem dX2_again_42 : decode cX2_again 42 = .ok (.lreturn, 1) := by decide +kernel
theorem dX2_told_0 : decode cX2_told 0 = .ok (.iload_n 1, 1) := by decide +kernel
theorem dX2_told_1 : decode cX2_told 1 = .ok (.tableswitch 78 0 6 #[43, 48, 53, 58, 63, 68, 73], 43) := by decide +kernel
theorem dX2_told_44 : decode cX2_told 44 = .ok (.aload_n 0, 1) := by decide +kernel
theorem dX2_told_45 : decode cX2_told 45 = .ok (.getfield 91, 3) := by decide +kernel
theorem dX2_told_48 : decode cX2_told 48 = .ok (.ireturn, 1) := by decide +kernel
theorem dX2_told_49 : decode cX2_told 49 = .ok (.aload_n 0, 1) := by decide +kernel
theorem dX2_told_50 : decode cX2_told 50 = .ok (.getfield 71, 3) := by decide +kernel
theorem dX2_told_53 : decode cX2_told 53 = .ok (.ireturn, 1) := by decide +kernel
theorem dX2_told_54 : decode cX2_told 54 = .ok (.aload_n 0, 1) := by decide +kernel
theorem dX2_told_55 : decode cX2_told 55 = .ok (.getfield 98, 3) := by decide +kernel
theorem dX2_told_58 : decode cX2_told 58 = .ok (.ireturn, 1) := by decide +kernel
theorem dX2_told_59 : decode cX2_told 59 = .ok (.aload_n 0, 1) := by decide +kernel
theorem dX2_told_60 : decode cX2_told 60 = .ok (.getfield 101, 3) := by decide +kernel
theorem dX2_told_63 : decode cX2_told 63 = .ok (.ireturn, 1) := by decide +kernel
theorem dX2_told_64 : decode cX2_told 64 = .ok (.aload_n 0, 1) := by decide +kernel
theorem dX2_told_65 : decode cX2_told 65 = .ok (.getfield 104, 3) := by decide +kernel
theorem dX2_told_68 : decode cX2_told 68 = .ok (.ireturn, 1) := by decide +kernel
theorem dX2_told_69 : decode cX2_told 69 = .ok (.aload_n 0, 1) := by decide +kernel
theorem dX2_told_70 : decode cX2_told 70 = .ok (.getfield 107, 3) := by decide +kernel
theorem dX2_told_73 : decode cX2_told 73 = .ok (.ireturn, 1) := by decide +kernel
theorem dX2_told_74 : decode cX2_told 74 = .ok (.aload_n 0, 1) := by decide +kernel
theorem dX2_told_75 : decode cX2_told 75 = .ok (.getfield 110, 3) := by decide +kernel
theorem dX2_told_78 : decode cX2_told 78 = .ok (.ireturn, 1) := by decide +kernel
theorem dX2_told_79 : decode cX2_told 79 = .ok (.iconst (-1), 1) := by decide +kernel
theorem dX2_told_80 : decode cX2_told 80 = .ok (.ireturn, 1) := by decide +kernel
set_option maxRecDepth 20000 in
theorem ggX2_numbers_X2_isKind : GoodIn wsX2_numbers wsX2_isKind := goodIn_r _ [5] (by decide +kernel) (by decide +kernel)
set_option maxRecDepth 20000 in
theorem gX2_numbers_X2_isKind : GoodIn wsX2_numbers (va_wsS RX2 38 yX2_isKind wsX2_isKind) := goodIn_app (goodIn_of _ (by decide +kernel)) ggX2_numbers_X2_isKind
set_option maxRecDepth 20000 in
theorem ggX2_numbers_X0_countHere : GoodIn wsX2_numbers wsX0_countHere := goodIn_r _ [10, 11, 12, 13, 14, 15, 16, 17, 18, 32, 33, 34, 35, 36] (by decide +kernel) (by decide +kernel)
set_option maxRecDepth 20000 in
theorem gX2_numbers_X0_countHere : GoodIn wsX2_numbers (wsV RX2 113 RX0 yX0_countHere wsX0_countHere) := goodIn_app (goodIn_of _ (by decide +kernel)) ggX2_numbers_X0_countHere
theorem dX2_numbers_0 : decode cX2_numbers 0 = .ok (.iload_n 1, 1) := by decide +kernel
theorem dX2_numbers_1 : decode cX2_numbers 1 = .ok (.invokestatic 38, 3) := by decide +kernel
theorem dX2_numbers_4 : decode cX2_numbers 4 = .ok (.ifCond .eq 14, 3) := by decide +kernel
theorem dX2_numbers_7 : decode cX2_numbers 7 = .ok (.aload_n 0, 1) := by decide +kernel
theorem dX2_numbers_8 : decode cX2_numbers 8 = .ok (.getfield 19, 3) := by decide +kernel
theorem dX2_numbers_11 : decode cX2_numbers 11 = .ok (.iload_n 1, 1) := by decide +kernel
theorem dX2_numbers_12 : decode cX2_numbers 12 = .ok (.invokevirtual 113, 3) := by decide +kernel
theorem dX2_numbers_15 : decode cX2_numbers 15 = .ok (.goto 4, 3) := by decide +kernel
theorem dX2_numbers_18 : decode cX2_numbers 18 = .ok (.iconst (-1), 1) := by decide +kernel
theorem dX2_numbers_19 : decode cX2_numbers 19 = .ok (.ireturn, 1) := by decide +kernel
set_option maxRecDepth 20000 in
theorem ggX2_here_X0_isHere : GoodIn wsX2_here wsX0_isHere := goodIn_r _ [6, 7, 8, 9, 10, 24, 25, 26, 27, 28] (by decide +kernel) (by decide +kernel)
set_option maxRecDepth 20000 in
theorem gX2_here_X0_isHere : GoodIn wsX2_here (wsV RX2 117 RX0 yX0_isHere wsX0_isHere) := goodIn_app (goodIn_of _ (by decide +kernel)) ggX2_here_X0_isHere
theorem dX2_here_0 : decode cX2_here 0 = .ok (.aload_n 0, 1) := by decide +kernel
theorem dX2_here_1 : decode cX2_here 1 = .ok (.getfield 19, 3) := by decide +kernel
theorem dX2_here_4 : decode cX2_here 4 = .ok (.iload_n 1, 1) := by decide +kernel
theorem dX2_here_5 : decode cX2_here 5 = .ok (.iload_n 2, 1) := by decide +kernel
theorem dX2_here_6 : decode cX2_here 6 = .ok (.invokevirtual 117, 3) := by decide +kernel
theorem dX2_here_9 : decode cX2_here 9 = .ok (.ireturn, 1) := by decide +kernel
set_option maxRecDepth 20000 in
theorem ggX2_tally_X2_isKind : GoodIn wsX2_tally wsX2_isKind := goodIn_r _ [6] (by decide +kernel) (by decide +kernel)
set_option maxRecDepth 20000 in
theorem gX2_tally_X2_isKind : GoodIn wsX2_tally (va_wsS RX2 38 yX2_isKind wsX2_isKind) := goodIn_app (goodIn_of _ (by decide +kernel)) ggX2_tally_X2_isKind
theorem dX2_tally_0 : decode cX2_tally 0 = .ok (.iload_n 1, 1) := by decide +kernel
theorem dX2_tally_1 : decode cX2_tally 1 = .ok (.invokestatic 38, 3) := by decide +kernel
theorem dX2_tally_4 : decode cX2_tally 4 = .ok (.ifCond .eq 15, 3) := by decide +kernel
theorem dX2_tally_7 : decode cX2_tally 7 = .ok (.aload_n 0, 1) := by decide +kernel
theorem dX2_tally_8 : decode cX2_tally 8 = .ok (.getfield 19, 3) := by decide +kernel
theorem dX2_tally_11 : decode cX2_tally 11 = .ok (.getfield 120, 3) := by decide +kernel
theorem dX2_tally_14 : decode cX2_tally 14 = .ok (.iload_n 1, 1) := by decide +kernel
theorem dX2_tally_15 : decode cX2_tally 15 = .ok (.laload, 1) := by decide +kernel
theorem dX2_tally_16 : decode cX2_tally 16 = .ok (.goto 4, 3) := by decide +kernel
theorem dX2_tally_19 : decode cX2_tally 19 = .ok (.lconst 0, 1) := by decide +kernel
theorem dX2_tally_20 : decode cX2_tally 20 = .ok (.lreturn, 1) := by decide +kernel
theorem dX2_row_0 : decode cX2_row 0 = .ok (.iload_n 1, 1) := by decide +kernel
theorem dX2_row_1 : decode cX2_row 1 = .ok (.ifCond .lt 14, 3) := by decide +kernel
theorem dX2_row_4 : decode cX2_row 4 = .ok (.iload_n 1, 1) := by decide +kernel
theorem dX2_row_5 : decode cX2_row 5 = .ok (.aload_n 0, 1) := by decide +kernel
theorem dX2_row_6 : decode cX2_row 6 = .ok (.getfield 19, 3) := by decide +kernel
theorem dX2_row_9 : decode cX2_row 9 = .ok (.getfield 30, 3) := by decide +kernel
theorem dX2_row_12 : decode cX2_row 12 = .ok (.if_icmp .lt 13, 3) := by decide +kernel
theorem dX2_row_15 : decode cX2_row 15 = .ok (.new 124, 3) := by decide +kernel
theorem dX2_row_18 : decode cX2_row 18 = .ok (.dup, 1) := by decide +kernel
theorem dX2_row_19 : decode cX2_row 19 = .ok (.ldc 126, 2) := by decide +kernel
theorem dX2_row_21 : decode cX2_row 21 = .ok (.invokespecial 128, 3) := by decide +kernel
theorem dX2_row_24 : decode cX2_row 24 = .ok (.athrow, 1) := by decide +kernel
theorem dX2_row_25 : decode cX2_row 25 = .ok (.aload_n 0, 1) := by decide +kernel
theorem dX2_row_26 : decode cX2_row 26 = .ok (.getfield 19, 3) := by decide +kernel
theorem dX2_row_29 : decode cX2_row 29 = .ok (.getfield 131, 3) := by decide +kernel
theorem dX2_row_32 : decode cX2_row 32 = .ok (.iload_n 1, 1) := by decide +kernel
theorem dX2_row_33 : decode cX2_row 33 = .ok (.laload, 1) := by decide +kernel
theorem dX2_row_34 : decode cX2_row 34 = .ok (.lreturn, 1) := by decide +kernel
theorem dX2_isKind_0 : decode cX2_isKind 0 = .ok (.iload_n 0, 1) := by decide +kernel
theorem dX2_isKind_1 : decode cX2_isKind 1 = .ok (.ifCond .lt 13, 3) := by decide +kernel
theorem dX2_isKind_4 : decode cX2_isKind 4 = .ok (.iload_n 0, 1) := by decide +kernel
theorem dX2_isKind_5 : decode cX2_isKind 5 = .ok (.bipush 8, 2) := by decide +kernel
theorem dX2_isKind_7 : decode cX2_isKind 7 = .ok (.if_icmp .ge 7, 3) := by decide +kernel
theorem dX2_isKind_10 : decode cX2_isKind 10 = .ok (.iconst 1, 1) := by decide +kernel
theorem dX2_isKind_11 : decode cX2_isKind 11 = .ok (.goto 4, 3) := by decide +kernel
theorem dX2_isKind_14 : decode cX2_isKind 14 = .ok (.iconst 0, 1) := by decide +kernel
theorem dX2_isKind_15 : decode cX2_isKind 15 = .ok (.ireturn, 1) := by decide +kernel
theorem dX2_isCall_0 : decode cX2_isCall 0 = .ok (.iload_n 0, 1) := by decide +kernel
theorem dX2_isCall_1 : decode cX2_isCall 1 = .ok (.ifCond .lt 13, 3) := by decide +kernel
theorem dX2_isCall_4 : decode cX2_isCall 4 = .ok (.iload_n 0, 1) := by decide +kernel
theorem dX2_isCall_5 : decode cX2_isCall 5 = .ok (.bipush 10, 2) := by decide +kernel
theorem dX2_isCall_7 : decode cX2_isCall 7 = .ok (.if_icmp .ge 7, 3) := by decide +kernel
theorem dX2_isCall_10 : decode cX2_isCall 10 = .ok (.iconst 1, 1) := by decide +kernel
theorem dX2_isCall_11 : decode cX2_isCall 11 = .ok (.goto 4, 3) := by decide +kernel
theorem dX2_isCall_14 : decode cX2_isCall 14 = .ok (.iconst 0, 1) := by decide +kernel
theorem dX2_isCall_15 : decode cX2_isCall 15 = .ok (.ireturn, 1) := by decide +kernel
theorem dX2_isSort_0 : decode cX2_isSort 0 = .ok (.iload_n 0, 1) := by decide +kernel
theorem dX2_isSort_1 : decode cX2_isSort 1 = .ok (.ifCond .lt 13, 3) := by decide +kernel
theorem dX2_isSort_4 : decode cX2_isSort 4 = .ok (.iload_n 0, 1) := by decide +kernel
theorem dX2_isSort_5 : decode cX2_isSort 5 = .ok (.bipush 6, 2) := by decide +kernel
theorem dX2_isSort_7 : decode cX2_isSort 7 = .ok (.if_icmp .gt 7, 3) := by decide +kernel
theorem dX2_isSort_10 : decode cX2_isSort 10 = .ok (.iconst 1, 1) := by decide +kernel
theorem dX2_isSort_11 : decode cX2_isSort 11 = .ok (.goto 4, 3) := by decide +kernel
theorem dX2_isSort_14 : decode cX2_isSort 14 = .ok (.iconst 0, 1) := by decide +kernel
theorem dX2_isSort_15 : decode cX2_isSort 15 = .ok (.ireturn, 1) := by decide +kernel
set_option maxRecDepth 20000 in
theorem ggX2_isRefused_X2_isCall : GoodIn wsX2_isRefused wsX2_isCall := goodIn_r _ [7] (by decide +kernel) (by decide +kernel)
set_option maxRecDepth 20000 in
theorem gX2_isRefused_X2_isCall : GoodIn wsX2_isRefused (va_wsS RX2 34 yX2_isCall wsX2_isCall) := goodIn_app (goodIn_of _ (by decide +kernel)) ggX2_isRefused_X2_isCall
set_option maxRecDepth 20000 in
theorem ggX2_isRefused_X0_isHere : GoodIn wsX2_isRefused wsX0_isHere := goodIn_r _ [12, 13, 14, 6, 15, 35, 36, 37, 38, 39] (by decide +kernel) (by decide +kernel)
set_option maxRecDepth 20000 in
theorem gX2_isRefused_X0_isHere : GoodIn wsX2_isRefused (wsV RX2 117 RX0 yX0_isHere wsX0_isHere) := goodIn_app (goodIn_of _ (by decide +kernel)) ggX2_isRefused_X0_isHere
theorem dX2_isRefused_0 : decode cX2_isRefused 0 = .ok (.iload_n 1, 1) := by decide +kernel
theorem dX2_isRefused_1 : decode cX2_isRefused 1 = .ok (.invokestatic 34, 3) := by decide +kernel
theorem dX2_isRefused_4 : decode cX2_isRefused 4 = .ok (.ifCond .ne 5, 3) := by decide +kernel
theorem dX2_isRefused_7 : decode cX2_isRefused 7 = .ok (.iconst 1, 1) := by decide +kernel
theorem dX2_isRefused_8 : decode cX2_isRefused 8 = .ok (.ireturn, 1) := by decide +kernel
theorem dX2_isRefused_9 : decode cX2_isRefused 9 = .ok (.aload_n 0, 1) := by decide +kernel
theorem dX2_isRefused_10 : decode cX2_isRefused 10 = .ok (.getfield 11, 3) := by decide +kernel
theorem dX2_isRefused_13 : decode cX2_isRefused 13 = .ok (.iload_n 1, 1) := by decide +kernel
theorem dX2_isRefused_14 : decode cX2_isRefused 14 = .ok (.aaload, 1) := by decide +kernel
theorem dX2_isRefused_15 : decode cX2_isRefused 15 = .ok (.getfield 41, 3) := by decide +kernel
theorem dX2_isRefused_18 : decode cX2_isRefused 18 = .ok (.istore_n 3, 1) := by decide +kernel
theorem dX2_isRefused_19 : decode cX2_isRefused 19 = .ok (.iload_n 3, 1) := by decide +kernel
theorem dX2_isRefused_20 : decode cX2_isRefused 20 = .ok (.iconst (-1), 1) := by decide +kernel
theorem dX2_isRefused_21 : decode cX2_isRefused 21 = .ok (.if_icmp .eq 19, 3) := by decide +kernel
theorem dX2_isRefused_24 : decode cX2_isRefused 24 = .ok (.aload_n 0, 1) := by decide +kernel
theorem dX2_isRefused_25 : decode cX2_isRefused 25 = .ok (.getfield 19, 3) := by decide +kernel
theorem dX2_isRefused_28 : decode cX2_isRefused 28 = .ok (.iload_n 3, 1) := by decide +kernel
theorem dX2_isRefused_29 : decode cX2_isRefused 29 = .ok (.iload_n 2, 1) := by decide +kernel
theorem dX2_isRefused_30 : decode cX2_isRefused 30 = .ok (.invokevirtual 117, 3) := by decide +kernel
theorem dX2_isRefused_33 : decode cX2_isRefused 33 = .ok (.ifCond .ne 7, 3) := by decide +kernel
theorem dX2_isRefused_36 : decode cX2_isRefused 36 = .ok (.iconst 1, 1) := by decide +kernel
theorem dX2_isRefused_37 : decode cX2_isRefused 37 = .ok (.goto 4, 3) := by decide +kernel
theorem dX2_isRefused_40 : decode cX2_isRefused 40 = .ok (.iconst 0, 1) := by decide +kernel
theorem dX2_isRefused_41 : decode cX2_isRefused 41 = .ok (.ireturn, 1) := by decide +kernel
set_option maxRecDepth 20000 in
theorem ggX2_tryActs_X0_copyFrom : GoodIn wsX2_tryActs wsX0_copyFrom := goodIn_r _ [12, 13, 14, 15, 16, 17, 18, 19, 20, 21, 91, 92, 93, 94, 95] (by decide +kernel) (by decide +kernel)
set_option maxRecDepth 20000 in
theorem gX2_tryActs_X0_copyFrom : GoodIn wsX2_tryActs (wsV RX2 134 RX0 yX0_copyFrom wsX0_copyFrom) := goodIn_app (goodIn_of _ (by decide +kernel)) ggX2_tryActs_X0_copyFrom
set_option maxRecDepth 20000 in
theorem ggX2_tryActs_X1_isToldToFailAt : GoodIn wsX2_tryActs wsX1_isToldToFailAt := goodIn_r _ [26, 27, 85, 86, 87, 88, 89, 90] (by decide +kernel) (by decide +kernel)
set_option maxRecDepth 20000 in
theorem gX2_tryActs_X1_isToldToFailAt : GoodIn wsX2_tryActs (wsV RX2 141 RX1 yX1_isToldToFailAt wsX1_isToldToFailAt) := goodIn_app (goodIn_of _ (by decide +kernel)) ggX2_tryActs_X1_isToldToFailAt
set_option maxRecDepth 20000 in
theorem ggX2_tryActs_X2_doAct : GoodIn wsX2_tryActs wsX2_doAct := goodIn_r _ [32, 33, 34, 1, 35, 36, 3, 37, 38, 39, 40, 11, 41, 13, 18, 42, 43, 44, 45, 46, 47, 48, 49, 50, 31, 51, 52, 53, 54, 55, 56, 57, 58, 59, 60, 21, 19, 20, 61, 62, 63, 64, 65, 66, 67, 68, 69, 70, 71, 85, 86, 87, 88, 89, 90, 72, 73, 74, 75, 76, 77, 78, 79, 80, 81, 82, 83, 84, 91, 92, 93, 94, 95] (by decide +kernel) (by decide +kernel)
set_option maxRecDepth 20000 in
theorem gX2_tryActs_X2_doAct : GoodIn wsX2_tryActs (wsV RX2 147 RX2 yX2_doAct wsX2_doAct) := goodIn_app (goodIn_of _ (by decide +kernel)) ggX2_tryActs_X2_doAct
theorem dX2_tryActs_0 : decode cX2_tryActs 0 = .ok (.aload_n 0, 1) := by decide +kernel
theorem dX2_tryActs_1 : decode cX2_tryActs 1 = .ok (.getfield 23, 3) := by decide +kernel
theorem dX2_tryActs_4 : decode cX2_tryActs 4 = .ok (.aload_n 0, 1) := by decide +kernel
theorem dX2_tryActs_5 : decode cX2_tryActs 5 = .ok (.getfield 19, 3) := by decide +kernel
theorem dX2_tryActs_8 : decode cX2_tryActs 8 = .ok (.invokevirtual 134, 3) := by decide +kernel
theorem dX2_tryActs_11 : decode cX2_tryActs 11 = .ok (.aload_n 0, 1) := by decide +kernel
theorem dX2_tryActs_12 : decode cX2_tryActs 12 = .ok (.lload_n 3, 1) := by decide +kernel
theorem dX2_tryActs_13 : decode cX2_tryActs 13 = .ok (.putfield 94, 3) := by decide +kernel
theorem dX2_tryActs_16 : decode cX2_tryActs 16 = .ok (.aload_n 0, 1) := by decide +kernel
theorem dX2_tryActs_17 : decode cX2_tryActs 17 = .ok (.iconst 0, 1) := by decide +kernel
theorem dX2_tryActs_18 : decode cX2_tryActs 18 = .ok (.putfield 80, 3) := by decide +kernel
theorem dX2_tryActs_21 : decode cX2_tryActs 21 = .ok (.iconst 0, 1) := by decide +kernel
theorem dX2_tryActs_22 : decode cX2_tryActs 22 = .ok (.istore 5, 2) := by decide +kernel
theorem dX2_tryActs_24 : decode cX2_tryActs 24 = .ok (.iload 5, 2) := by decide +kernel
theorem dX2_tryActs_26 : decode cX2_tryActs 26 = .ok (.aload_n 1, 1) := by decide +kernel
theorem dX2_tryActs_27 : decode cX2_tryActs 27 = .ok (.getfield 51, 3) := by decide +kernel
theorem dX2_tryActs_30 : decode cX2_tryActs 30 = .ok (.if_icmp .ge 51, 3) := by decide +kernel
theorem dX2_tryActs_33 : decode cX2_tryActs 33 = .ok (.aload_n 0, 1) := by decide +kernel
theorem dX2_tryActs_34 : decode cX2_tryActs 34 = .ok (.getfield 80, 3) := by decide +kernel
theorem dX2_tryActs_37 : decode cX2_tryActs 37 = .ok (.ifCond .ne 44, 3) := by decide +kernel
theorem dX2_tryActs_40 : decode cX2_tryActs 40 = .ok (.aload_n 0, 1) := by decide +kernel
theorem dX2_tryActs_41 : decode cX2_tryActs 41 = .ok (.iload 5, 2) := by decide +kernel
theorem dX2_tryActs_43 : decode cX2_tryActs 43 = .ok (.putfield 138, 3) := by decide +kernel
theorem dX2_tryActs_46 : decode cX2_tryActs 46 = .ok (.aload_n 0, 1) := by decide +kernel
theorem dX2_tryActs_47 : decode cX2_tryActs 47 = .ok (.aload_n 1, 1) := by decide +kernel
theorem dX2_tryActs_48 : decode cX2_tryActs 48 = .ok (.iload 5, 2) := by decide +kernel
theorem dX2_tryActs_50 : decode cX2_tryActs 50 = .ok (.invokevirtual 141, 3) := by decide +kernel
theorem dX2_tryActs_53 : decode cX2_tryActs 53 = .ok (.ifCond .eq 10, 3) := by decide +kernel
theorem dX2_tryActs_56 : decode cX2_tryActs 56 = .ok (.aload_n 1, 1) := by decide +kernel
theorem dX2_tryActs_57 : decode cX2_tryActs 57 = .ok (.getfield 144, 3) := by decide +kernel
theorem dX2_tryActs_60 : decode cX2_tryActs 60 = .ok (.goto 12, 3) := by decide +kernel
theorem dX2_tryActs_63 : decode cX2_tryActs 63 = .ok (.aload_n 0, 1) := by decide +kernel
theorem dX2_tryActs_64 : decode cX2_tryActs 64 = .ok (.aload_n 1, 1) := by decide +kernel
theorem dX2_tryActs_65 : decode cX2_tryActs 65 = .ok (.iload 5, 2) := by decide +kernel
theorem dX2_tryActs_67 : decode cX2_tryActs 67 = .ok (.iload_n 2, 1) := by decide +kernel
theorem dX2_tryActs_68 : decode cX2_tryActs 68 = .ok (.lload_n 3, 1) := by decide +kernel
theorem dX2_tryActs_69 : decode cX2_tryActs 69 = .ok (.invokevirtual 147, 3) := by decide +kernel
theorem dX2_tryActs_72 : decode cX2_tryActs 72 = .ok (.putfield 80, 3) := by decide +kernel
theorem dX2_tryActs_75 : decode cX2_tryActs 75 = .ok (.iinc 5 1, 3) := by decide +kernel
theorem dX2_tryActs_78 : decode cX2_tryActs 78 = .ok (.goto (-54), 3) := by decide +kernel
theorem dX2_tryActs_81 : decode cX2_tryActs 81 = .ok (.return_, 1) := by decide +kernel
set_option maxRecDepth 20000 in
theorem ggX2_doAct_X0_makeNumber : GoodIn wsX2_doAct wsX0_makeNumber := goodIn_r _ [12, 13, 14, 68, 69, 70, 71, 72] (by decide +kernel) (by decide +kernel)
set_option maxRecDepth 20000 in
theorem gX2_doAct_X0_makeNumber : GoodIn wsX2_doAct (wsV RX2 58 RX0 yX0_makeNumber wsX0_makeNumber) := goodIn_app (goodIn_of _ (by decide +kernel)) ggX2_doAct_X0_makeNumber
set_option maxRecDepth 20000 in
theorem ggX2_doAct_X0_greatestHere : GoodIn wsX2_doAct wsX0_greatestHere := goodIn_r _ [18, 13, 19, 20, 21, 11, 22, 14, 23, 24, 25, 68, 69, 70, 71, 72] (by decide +kernel) (by decide +kernel)
set_option maxRecDepth 20000 in
theorem gX2_doAct_X0_greatestHere : GoodIn wsX2_doAct (wsV RX2 157 RX0 yX0_greatestHere wsX0_greatestHere) := goodIn_app (goodIn_of _ (by decide +kernel)) ggX2_doAct_X0_greatestHere
set_option maxRecDepth 20000 in
theorem ggX2_doAct_X0_dropNumber : GoodIn wsX2_doAct wsX0_dropNumber := goodIn_r _ [29, 14, 30, 19, 20, 21, 11, 22, 23, 24, 25, 68, 69, 70, 71, 72] (by decide +kernel) (by decide +kernel)
set_option maxRecDepth 20000 in
theorem gX2_doAct_X0_dropNumber : GoodIn wsX2_doAct (wsV RX2 65 RX0 yX0_dropNumber wsX0_dropNumber) := goodIn_app (goodIn_of _ (by decide +kernel)) ggX2_doAct_X0_dropNumber
set_option maxRecDepth 20000 in
theorem ggX2_doAct_X0_moveFirstValueTo : GoodIn wsX2_doAct wsX0_moveFirstValueTo := goodIn_r _ [34, 35, 36, 37, 68, 69, 70, 71, 72] (by decide +kernel) (by decide +kernel)
set_option maxRecDepth 20000 in
theorem gX2_doAct_X0_moveFirstValueTo : GoodIn wsX2_doAct (wsV RX2 160 RX0 yX0_moveFirstValueTo wsX0_moveFirstValueTo) := goodIn_app (goodIn_of _ (by decide +kernel)) ggX2_doAct_X0_moveFirstValueTo
set_option maxRecDepth 20000 in
theorem ggX2_doAct_X0_countHere : GoodIn wsX2_doAct wsX0_countHere := goodIn_r _ [41, 14, 42, 43, 44, 45, 46, 47, 48, 68, 69, 70, 71, 72] (by decide +kernel) (by decide +kernel)
set_option maxRecDepth 20000 in
theorem gX2_doAct_X0_countHere : GoodIn wsX2_doAct (wsV RX2 113 RX0 yX0_countHere wsX0_countHere) := goodIn_app (goodIn_of _ (by decide +kernel)) ggX2_doAct_X0_countHere
theorem dX2_doAct_0 : decode cX2_doAct 0 = .ok (.aload_n 1, 1) := by decide +kernel
theorem dX2_doAct_1 : decode cX2_doAct 1 = .ok (.getfield 151, 3) := by decide +kernel
theorem dX2_doAct_4 : decode cX2_doAct 4 = .ok (.iload_n 2, 1) := by decide +kernel
theorem dX2_doAct_5 : decode cX2_doAct 5 = .ok (.iaload, 1) := by decide +kernel
theorem dX2_doAct_6 : decode cX2_doAct 6 = .ok (.istore 6, 2) := by decide +kernel
theorem dX2_doAct_8 : decode cX2_doAct 8 = .ok (.aload_n 1, 1) := by decide +kernel
theorem dX2_doAct_9 : decode cX2_doAct 9 = .ok (.getfield 154, 3) := by decide +kernel
theorem dX2_doAct_12 : decode cX2_doAct 12 = .ok (.iload_n 2, 1) := by decide +kernel
theorem dX2_doAct_13 : decode cX2_doAct 13 = .ok (.iaload, 1) := by decide +kernel
theorem dX2_doAct_14 : decode cX2_doAct 14 = .ok (.tableswitch 171 0 5 #[38, 57, 85, 102, 121, 146], 38) := by decide +kernel
theorem dX2_doAct_52 : decode cX2_doAct 52 = .ok (.aload_n 0, 1) := by decide +kernel
theorem dX2_doAct_53 : decode cX2_doAct 53 = .ok (.getfield 23, 3) := by decide +kernel
theorem dX2_doAct_56 : decode cX2_doAct 56 = .ok (.iload 6, 2) := by decide +kernel
theorem dX2_doAct_58 : decode cX2_doAct 58 = .ok (.invokevirtual 58, 3) := by decide +kernel
theorem dX2_doAct_61 : decode cX2_doAct 61 = .ok (.ifCond .eq 7, 3) := by decide +kernel
theorem dX2_doAct_64 : decode cX2_doAct 64 = .ok (.iconst 0, 1) := by decide +kernel
theorem dX2_doAct_65 : decode cX2_doAct 65 = .ok (.goto 5, 3) := by decide +kernel
theorem dX2_doAct_68 : decode cX2_doAct 68 = .ok (.bipush 6, 2) := by decide +kernel
theorem dX2_doAct_70 : decode cX2_doAct 70 = .ok (.ireturn, 1) := by decide +kernel
theorem dX2_doAct_71 : decode cX2_doAct 71 = .ok (.aload_n 0, 1) := by decide +kernel
theorem dX2_doAct_72 : decode cX2_doAct 72 = .ok (.getfield 23, 3) := by decide +kernel
theorem dX2_doAct_75 : decode cX2_doAct 75 = .ok (.iload 6, 2) := by decide +kernel
theorem dX2_doAct_77 : decode cX2_doAct 77 = .ok (.aload_n 0, 1) := by decide +kernel
theorem dX2_doAct_78 : decode cX2_doAct 78 = .ok (.getfield 23, 3) := by decide +kernel
theorem dX2_doAct_81 : decode cX2_doAct 81 = .ok (.iload 6, 2) := by decide +kernel
theorem dX2_doAct_83 : decode cX2_doAct 83 = .ok (.invokevirtual 157, 3) := by decide +kernel
theorem dX2_doAct_86 : decode cX2_doAct 86 = .ok (.invokevirtual 65, 3) := by decide +kernel
theorem dX2_doAct_89 : decode cX2_doAct 89 = .ok (.ifCond .eq 7, 3) := by decide +kernel
theorem dX2_doAct_92 : decode cX2_doAct 92 = .ok (.iconst 0, 1) := by decide +kernel
theorem dX2_doAct_93 : decode cX2_doAct 93 = .ok (.goto 5, 3) := by decide +kernel
theorem dX2_doAct_96 : decode cX2_doAct 96 = .ok (.bipush 7, 2) := by decide +kernel
theorem dX2_doAct_98 : decode cX2_doAct 98 = .ok (.ireturn, 1) := by decide +kernel
theorem dX2_doAct_99 : decode cX2_doAct 99 = .ok (.aload_n 0, 1) := by decide +kernel
theorem dX2_doAct_100 : decode cX2_doAct 100 = .ok (.getfield 23, 3) := by decide +kernel
theorem dX2_doAct_103 : decode cX2_doAct 103 = .ok (.getfield 120, 3) := by decide +kernel
theorem dX2_doAct_106 : decode cX2_doAct 106 = .ok (.iload 6, 2) := by decide +kernel
theorem dX2_doAct_108 : decode cX2_doAct 108 = .ok (.dup2, 1) := by decide +kernel
theorem dX2_doAct_109 : decode cX2_doAct 109 = .ok (.laload, 1) := by decide +kernel
theorem dX2_doAct_110 : decode cX2_doAct 110 = .ok (.lload 4, 2) := by decide +kernel
theorem dX2_doAct_112 : decode cX2_doAct 112 = .ok (.ladd, 1) := by decide +kernel
theorem dX2_doAct_113 : decode cX2_doAct 113 = .ok (.lastore, 1) := by decide +kernel
theorem dX2_doAct_114 : decode cX2_doAct 114 = .ok (.iconst 0, 1) := by decide +kernel
theorem dX2_doAct_115 : decode cX2_doAct 115 = .ok (.ireturn, 1) := by decide +kernel
theorem dX2_doAct_116 : decode cX2_doAct 116 = .ok (.aload_n 0, 1) := by decide +kernel
theorem dX2_doAct_117 : decode cX2_doAct 117 = .ok (.getfield 23, 3) := by decide +kernel
theorem dX2_doAct_120 : decode cX2_doAct 120 = .ok (.iload 6, 2) := by decide +kernel
theorem dX2_doAct_122 : decode cX2_doAct 122 = .ok (.invokevirtual 160, 3) := by decide +kernel
theorem dX2_doAct_125 : decode cX2_doAct 125 = .ok (.ifCond .eq 7, 3) := by decide +kernel
theorem dX2_doAct_128 : decode cX2_doAct 128 = .ok (.iconst 0, 1) := by decide +kernel
theorem dX2_doAct_129 : decode cX2_doAct 129 = .ok (.goto 5, 3) := by decide +kernel
theorem dX2_doAct_132 : decode cX2_doAct 132 = .ok (.bipush 8, 2) := by decide +kernel
theorem dX2_doAct_134 : decode cX2_doAct 134 = .ok (.ireturn, 1) := by decide +kernel
theorem dX2_doAct_135 : decode cX2_doAct 135 = .ok (.aload_n 0, 1) := by decide +kernel
theorem dX2_doAct_136 : decode cX2_doAct 136 = .ok (.ldc2_w 163, 3) := by decide +kernel
theorem dX2_doAct_139 : decode cX2_doAct 139 = .ok (.aload_n 0, 1) := by decide +kernel
theorem dX2_doAct_140 : decode cX2_doAct 140 = .ok (.getfield 94, 3) := by decide +kernel
theorem dX2_doAct_143 : decode cX2_doAct 143 = .ok (.lmul, 1) := by decide +kernel
theorem dX2_doAct_144 : decode cX2_doAct 144 = .ok (.aload_n 0, 1) := by decide +kernel
theorem dX2_doAct_145 : decode cX2_doAct 145 = .ok (.getfield 23, 3) := by decide +kernel
theorem dX2_doAct_148 : decode cX2_doAct 148 = .ok (.getfield 120, 3) := by decide +kernel
theorem dX2_doAct_151 : decode cX2_doAct 151 = .ok (.iload 6, 2) := by decide +kernel
theorem dX2_doAct_153 : decode cX2_doAct 153 = .ok (.laload, 1) := by decide +kernel
theorem dX2_doAct_154 : decode cX2_doAct 154 = .ok (.ladd, 1) := by decide +kernel
theorem dX2_doAct_155 : decode cX2_doAct 155 = .ok (.putfield 94, 3) := by decide +kernel
theorem dX2_doAct_158 : decode cX2_doAct 158 = .ok (.iconst 0, 1) := by decide +kernel
theorem dX2_doAct_159 : decode cX2_doAct 159 = .ok (.ireturn, 1) := by decide +kernel
theorem dX2_doAct_160 : decode cX2_doAct 160 = .ok (.aload_n 0, 1) := by decide +kernel
theorem dX2_doAct_161 : decode cX2_doAct 161 = .ok (.ldc2_w 163, 3) := by decide +kernel
theorem dX2_doAct_164 : decode cX2_doAct 164 = .ok (.aload_n 0, 1) := by decide +kernel
theorem dX2_doAct_165 : decode cX2_doAct 165 = .ok (.getfield 94, 3) := by decide +kernel
theorem dX2_doAct_168 : decode cX2_doAct 168 = .ok (.lmul, 1) := by decide +kernel
theorem dX2_doAct_169 : decode cX2_doAct 169 = .ok (.aload_n 0, 1) := by decide +kernel
theorem dX2_doAct_170 : decode cX2_doAct 170 = .ok (.getfield 23, 3) := by decide +kernel
theorem dX2_doAct_173 : decode cX2_doAct 173 = .ok (.iload 6, 2) := by decide +kernel
theorem dX2_doAct_175 : decode cX2_doAct 175 = .ok (.invokevirtual 113, 3) := by decide +kernel
theorem dX2_doAct_178 : decode cX2_doAct 178 = .ok (.i2l, 1) := by decide +kernel
theorem dX2_doAct_179 : decode cX2_doAct 179 = .ok (.ladd, 1) := by decide +kernel
theorem dX2_doAct_180 : decode cX2_doAct 180 = .ok (.putfield 94, 3) := by decide +kernel
theorem dX2_doAct_183 : decode cX2_doAct 183 = .ok (.iconst 0, 1) := by decide +kernel
theorem dX2_doAct_184 : decode cX2_doAct 184 = .ok (.ireturn, 1) := by decide +kernel
theorem dX2_doAct_185 : decode cX2_doAct 185 = .ok (.aload_n 0, 1) := by decide +kernel
theorem dX2_doAct_186 : decode cX2_doAct 186 = .ok (.getfield 23, 3) := by decide +kernel
theorem dX2_doAct_189 : decode cX2_doAct 189 = .ok (.aload_n 1, 1) := by decide +kernel
theorem dX2_doAct_190 : decode cX2_doAct 190 = .ok (.getfield 41, 3) := by decide +kernel
theorem dX2_doAct_193 : decode cX2_doAct 193 = .ok (.iload_n 3, 1) := by decide +kernel
theorem dX2_doAct_194 : decode cX2_doAct 194 = .ok (.invokevirtual 65, 3) := by decide +kernel
theorem dX2_doAct_197 : decode cX2_doAct 197 = .ok (.ifCond .eq 7, 3) := by decide +kernel
theorem dX2_doAct_200 : decode cX2_doAct 200 = .ok (.iconst 0, 1) := by decide +kernel
theorem dX2_doAct_201 : decode cX2_doAct 201 = .ok (.goto 5, 3) := by decide +kernel
theorem dX2_doAct_204 : decode cX2_doAct 204 = .ok (.bipush 7, 2) := by decide +kernel
theorem dX2_doAct_206 : decode cX2_doAct 206 = .ok (.ireturn, 1) := by decide +kernel
theorem dX2_keepTrial_0 : decode cX2_keepTrial 0 = .ok (.aload_n 0, 1) := by decide +kernel
theorem dX2_keepTrial_1 : decode cX2_keepTrial 1 = .ok (.getfield 19, 3) := by decide +kernel
theorem dX2_keepTrial_4 : decode cX2_keepTrial 4 = .ok (.astore_n 1, 1) := by decide +kernel
theorem dX2_keepTrial_5 : decode cX2_keepTrial 5 = .ok (.aload_n 0, 1) := by decide +kernel
theorem dX2_keepTrial_6 : decode cX2_keepTrial 6 = .ok (.aload_n 0, 1) := by decide +kernel
theorem dX2_keepTrial_7 : decode cX2_keepTrial 7 = .ok (.getfield 23, 3) := by decide +kernel
theorem dX2_keepTrial_10 : decode cX2_keepTrial 10 = .ok (.putfield 19, 3) := by decide +kernel
theorem dX2_keepTrial_13 : decode cX2_keepTrial 13 = .ok (.aload_n 0, 1) := by decide +kernel
theorem dX2_keepTrial_14 : decode cX2_keepTrial 14 = .ok (.aload_n 1, 1) := by decide +kernel
theorem dX2_keepTrial_15 : decode cX2_keepTrial 15 = .ok (.putfield 23, 3) := by decide +kernel
theorem dX2_keepTrial_18 : decode cX2_keepTrial 18 = .ok (.return_, 1) := by decide +kernel
set_option maxRecDepth 20000 in
theorem ggX2_noteFailure_X1_isToldToFailAt : GoodIn wsX2_noteFailure wsX1_isToldToFailAt := goodIn_r _ [13, 14, 32, 33, 34, 35, 36, 37] (by decide +kernel) (by decide +kernel)
set_option maxRecDepth 20000 in
theorem gX2_noteFailure_X1_isToldToFailAt : GoodIn wsX2_noteFailure (wsV RX2 141 RX1 yX1_isToldToFailAt wsX1_isToldToFailAt) := goodIn_app (goodIn_of _ (by decide +kernel)) ggX2_noteFailure_X1_isToldToFailAt
set_option maxRecDepth 20000 in
theorem ggX2_noteFailure_X1_forgetTold : GoodIn wsX2_noteFailure wsX1_forgetTold := goodIn_r _ [18, 14, 32, 33, 34, 35, 36, 37] (by decide +kernel) (by decide +kernel)
set_option maxRecDepth 20000 in
theorem gX2_noteFailure_X1_forgetTold : GoodIn wsX2_noteFailure (wsV RX2 165 RX1 yX1_forgetTold wsX1_forgetTold) := goodIn_app (goodIn_of _ (by decide +kernel)) ggX2_noteFailure_X1_forgetTold
theorem dX2_noteFailure_0 : decode cX2_noteFailure 0 = .ok (.aload_n 0, 1) := by decide +kernel
theorem dX2_noteFailure_1 : decode cX2_noteFailure 1 = .ok (.getfield 11, 3) := by decide +kernel
theorem dX2_noteFailure_4 : decode cX2_noteFailure 4 = .ok (.iload_n 1, 1) := by decide +kernel
theorem dX2_noteFailure_5 : decode cX2_noteFailure 5 = .ok (.aaload, 1) := by decide +kernel
theorem dX2_noteFailure_6 : decode cX2_noteFailure 6 = .ok (.aload_n 0, 1) := by decide +kernel
theorem dX2_noteFailure_7 : decode cX2_noteFailure 7 = .ok (.getfield 138, 3) := by decide +kernel
theorem dX2_noteFailure_10 : decode cX2_noteFailure 10 = .ok (.invokevirtual 141, 3) := by decide +kernel
theorem dX2_noteFailure_13 : decode cX2_noteFailure 13 = .ok (.ifCond .eq 12, 3) := by decide +kernel
theorem dX2_noteFailure_16 : decode cX2_noteFailure 16 = .ok (.aload_n 0, 1) := by decide +kernel
theorem dX2_noteFailure_17 : decode cX2_noteFailure 17 = .ok (.getfield 11, 3) := by decide +kernel
theorem dX2_noteFailure_20 : decode cX2_noteFailure 20 = .ok (.iload_n 1, 1) := by decide +kernel
theorem dX2_noteFailure_21 : decode cX2_noteFailure 21 = .ok (.aaload, 1) := by decide +kernel
theorem dX2_noteFailure_22 : decode cX2_noteFailure 22 = .ok (.invokevirtual 165, 3) := by decide +kernel
theorem dX2_noteFailure_25 : decode cX2_noteFailure 25 = .ok (.aload_n 0, 1) := by decide +kernel
theorem dX2_noteFailure_26 : decode cX2_noteFailure 26 = .ok (.dup, 1) := by decide +kernel
theorem dX2_noteFailure_27 : decode cX2_noteFailure 27 = .ok (.getfield 98, 3) := by decide +kernel
theorem dX2_noteFailure_30 : decode cX2_noteFailure 30 = .ok (.iconst 1, 1) := by decide +kernel
theorem dX2_noteFailure_31 : decode cX2_noteFailure 31 = .ok (.iadd, 1) := by decide +kernel
theorem dX2_noteFailure_32 : decode cX2_noteFailure 32 = .ok (.putfield 98, 3) := by decide +kernel
theorem dX2_noteFailure_35 : decode cX2_noteFailure 35 = .ok (.aload_n 0, 1) := by decide +kernel
theorem dX2_noteFailure_36 : decode cX2_noteFailure 36 = .ok (.aload_n 0, 1) := by decide +kernel
theorem dX2_noteFailure_37 : decode cX2_noteFailure 37 = .ok (.getfield 80, 3) := by decide +kernel
theorem dX2_noteFailure_40 : decode cX2_noteFailure 40 = .ok (.putfield 101, 3) := by decide +kernel
theorem dX2_noteFailure_43 : decode cX2_noteFailure 43 = .ok (.aload_n 0, 1) := by decide +kernel
theorem dX2_noteFailure_44 : decode cX2_noteFailure 44 = .ok (.aload_n 0, 1) := by decide +kernel
theorem dX2_noteFailure_45 : decode cX2_noteFailure 45 = .ok (.getfield 138, 3) := by decide +kernel
theorem dX2_noteFailure_48 : decode cX2_noteFailure 48 = .ok (.putfield 104, 3) := by decide +kernel
theorem dX2_noteFailure_51 : decode cX2_noteFailure 51 = .ok (.aload_n 0, 1) := by decide +kernel
theorem dX2_noteFailure_52 : decode cX2_noteFailure 52 = .ok (.iload_n 1, 1) := by decide +kernel
theorem dX2_noteFailure_53 : decode cX2_noteFailure 53 = .ok (.putfield 107, 3) := by decide +kernel
theorem dX2_noteFailure_56 : decode cX2_noteFailure 56 = .ok (.aload_n 0, 1) := by decide +kernel
theorem dX2_noteFailure_57 : decode cX2_noteFailure 57 = .ok (.iload_n 2, 1) := by decide +kernel
theorem dX2_noteFailure_58 : decode cX2_noteFailure 58 = .ok (.putfield 110, 3) := by decide +kernel
theorem dX2_noteFailure_61 : decode cX2_noteFailure 61 = .ok (.return_, 1) := by decide +kernel
theorem dX3_init_0 : decode cX3_init 0 = .ok (.aload_n 0, 1) := by decide +kernel
theorem dX3_init_1 : decode cX3_init 1 = .ok (.invokespecial 1, 3) := by decide +kernel
theorem dX3_init_4 : decode cX3_init 4 = .ok (.aload_n 0, 1) := by decide +kernel
theorem dX3_init_5 : decode cX3_init 5 = .ok (.sipush 328, 3) := by decide +kernel
theorem dX3_init_8 : decode cX3_init 8 = .ok (.newarray .boolean, 2) := by decide +kernel
theorem dX3_init_10 : decode cX3_init 10 = .ok (.putfield 7, 3) := by decide +kernel
theorem dX3_init_13 : decode cX3_init 13 = .ok (.aload_n 0, 1) := by decide +kernel
theorem dX3_init_14 : decode cX3_init 14 = .ok (.bipush 8, 2) := by decide +kernel
theorem dX3_init_16 : decode cX3_init 16 = .ok (.newarray .int, 2) := by decide +kernel
theorem dX3_init_18 : decode cX3_init 18 = .ok (.putfield 13, 3) := by decide +kernel
theorem dX3_init_21 : decode cX3_init 21 = .ok (.aload_n 0, 1) := by decide +kernel
theorem dX3_init_22 : decode cX3_init 22 = .ok (.bipush 8, 2) := by decide +kernel
theorem dX3_init_24 : decode cX3_init 24 = .ok (.newarray .long, 2) := by decide +kernel
theorem dX3_init_26 : decode cX3_init 26 = .ok (.putfield 17, 3) := by decide +kernel
theorem dX3_init_29 : decode cX3_init 29 = .ok (.aload_n 0, 1) := by decide +kernel
theorem dX3_init_30 : decode cX3_init 30 = .ok (.bipush 20, 2) := by decide +kernel
theorem dX3_init_32 : decode cX3_init 32 = .ok (.newarray .long, 2) := by decide +kernel
theorem dX3_init_34 : decode cX3_init 34 = .ok (.putfield 21, 3) := by decide +kernel
theorem dX3_init_37 : decode cX3_init 37 = .ok (.aload_n 0, 1) := by decide +kernel
theorem dX3_init_38 : decode cX3_init 38 = .ok (.sipush 328, 3) := by decide +kernel
theorem dX3_init_41 : decode cX3_init 41 = .ok (.newarray .boolean, 2) := by decide +kernel
theorem dX3_init_43 : decode cX3_init 43 = .ok (.putfield 24, 3) := by decide +kernel
theorem dX3_init_46 : decode cX3_init 46 = .ok (.aload_n 0, 1) := by decide +kernel
theorem dX3_init_47 : decode cX3_init 47 = .ok (.bipush 8, 2) := by decide +kernel
theorem dX3_init_49 : decode cX3_init 49 = .ok (.newarray .int, 2) := by decide +kernel
theorem dX3_init_51 : decode cX3_init 51 = .ok (.putfield 27, 3) := by decide +kernel
theorem dX3_init_54 : decode cX3_init 54 = .ok (.aload_n 0, 1) := by decide +kernel
theorem dX3_init_55 : decode cX3_init 55 = .ok (.bipush 8, 2) := by decide +kernel
theorem dX3_init_57 : decode cX3_init 57 = .ok (.newarray .long, 2) := by decide +kernel
theorem dX3_init_59 : decode cX3_init 59 = .ok (.putfield 30, 3) := by decide +kernel
theorem dX3_init_62 : decode cX3_init 62 = .ok (.aload_n 0, 1) := by decide +kernel
theorem dX3_init_63 : decode cX3_init 63 = .ok (.bipush 20, 2) := by decide +kernel
theorem dX3_init_65 : decode cX3_init 65 = .ok (.newarray .long, 2) := by decide +kernel
theorem dX3_init_67 : decode cX3_init 67 = .ok (.putfield 33, 3) := by decide +kernel
theorem dX3_init_70 : decode cX3_init 70 = .ok (.aload_n 0, 1) := by decide +kernel
theorem dX3_init_71 : decode cX3_init 71 = .ok (.bipush 10, 2) := by decide +kernel
theorem dX3_init_73 : decode cX3_init 73 = .ok (.newarray .int, 2) := by decide +kernel
theorem dX3_init_75 : decode cX3_init 75 = .ok (.putfield 36, 3) := by decide +kernel
theorem dX3_init_78 : decode cX3_init 78 = .ok (.aload_n 0, 1) := by decide +kernel
theorem dX3_init_79 : decode cX3_init 79 = .ok (.bipush 60, 2) := by decide +kernel
theorem dX3_init_81 : decode cX3_init 81 = .ok (.newarray .int, 2) := by decide +kernel
theorem dX3_init_83 : decode cX3_init 83 = .ok (.putfield 39, 3) := by decide +kernel
theorem dX3_init_86 : decode cX3_init 86 = .ok (.aload_n 0, 1) := by decide +kernel
theorem dX3_init_87 : decode cX3_init 87 = .ok (.bipush 60, 2) := by decide +kernel
theorem dX3_init_89 : decode cX3_init 89 = .ok (.newarray .int, 2) := by decide +kernel
theorem dX3_init_91 : decode cX3_init 91 = .ok (.putfield 42, 3) := by decide +kernel
theorem dX3_init_94 : decode cX3_init 94 = .ok (.aload_n 0, 1) := by decide +kernel
theorem dX3_init_95 : decode cX3_init 95 = .ok (.bipush 10, 2) := by decide +kernel
theorem dX3_init_97 : decode cX3_init 97 = .ok (.newarray .int, 2) := by decide +kernel
theorem dX3_init_99 : decode cX3_init 99 = .ok (.putfield 45, 3) := by decide +kernel
theorem dX3_init_102 : decode cX3_init 102 = .ok (.aload_n 0, 1) := by decide +kernel
theorem dX3_init_103 : decode cX3_init 103 = .ok (.bipush 10, 2) := by decide +kernel
theorem dX3_init_105 : decode cX3_init 105 = .ok (.newarray .int, 2) := by decide +kernel
theorem dX3_init_107 : decode cX3_init 107 = .ok (.putfield 48, 3) := by decide +kernel
theorem dX3_init_110 : decode cX3_init 110 = .ok (.aload_n 0, 1) := by decide +kernel
theorem dX3_init_111 : decode cX3_init 111 = .ok (.bipush 10, 2) := by decide +kernel
theorem dX3_init_113 : decode cX3_init 113 = .ok (.newarray .int, 2) := by decide +kernel
theorem dX3_init_115 : decode cX3_init 115 = .ok (.putfield 51, 3) := by decide +kernel
theorem dX3_init_118 : decode cX3_init 118 = .ok (.aload_n 0, 1) := by decide +kernel
theorem dX3_init_119 : decode cX3_init 119 = .ok (.bipush 7, 2) := by decide +kernel
theorem dX3_init_121 : decode cX3_init 121 = .ok (.newarray .int, 2) := by decide +kernel
theorem dX3_init_123 : decode cX3_init 123 = .ok (.putfield 54, 3) := by decide +kernel
theorem dX3_init_126 : decode cX3_init 126 = .ok (.iconst 0, 1) := by decide +kernel
theorem dX3_init_127 : decode cX3_init 127 = .ok (.istore_n 1, 1) := by decide +kernel
theorem dX3_init_128 : decode cX3_init 128 = .ok (.iload_n 1, 1) := by decide +kernel
theorem dX3_init_129 : decode cX3_init 129 = .ok (.bipush 10, 2) := by decide +kernel
theorem dX3_init_131 : decode cX3_init 131 = .ok (.if_icmp .ge 23, 3) := by decide +kernel
theorem dX3_init_134 : decode cX3_init 134 = .ok (.aload_n 0, 1) := by decide +kernel
theorem dX3_init_135 : decode cX3_init 135 = .ok (.getfield 36, 3) := by decide +kernel
theorem dX3_init_138 : decode cX3_init 138 = .ok (.iload_n 1, 1) := by decide +kernel
theorem dX3_init_139 : decode cX3_init 139 = .ok (.iconst (-1), 1) := by decide +kernel
theorem dX3_init_140 : decode cX3_init 140 = .ok (.iastore, 1) := by decide +kernel
theorem dX3_init_141 : decode cX3_init 141 = .ok (.aload_n 0, 1) := by decide +kernel
theorem dX3_init_142 : decode cX3_init 142 = .ok (.getfield 48, 3) := by decide +kernel
theorem dX3_init_145 : decode cX3_init 145 = .ok (.iload_n 1, 1) := by decide +kernel
theorem dX3_init_146 : decode cX3_init 146 = .ok (.iconst (-1), 1) := by decide +kernel
theorem dX3_init_147 : decode cX3_init 147 = .ok (.iastore, 1) := by decide +kernel
theorem dX3_init_148 : decode cX3_init 148 = .ok (.iinc 1 1, 3) := by decide +kernel
theorem dX3_init_151 : decode cX3_init 151 = .ok (.goto (-23), 3) := by decide +kernel
theorem dX3_init_154 : decode cX3_init 154 = .ok (.return_, 1) := by decide +kernel
theorem dX3_thrown_0 : decode cX3_thrown 0 = .ok (.aload_n 0, 1) := by decide +kernel
theorem dX3_thrown_1 : decode cX3_thrown 1 = .ok (.getfield 57, 3) := by decide +kernel
theorem dX3_thrown_4 : decode cX3_thrown 4 = .ok (.ireturn, 1) := by decide +kernel
theorem dX3_isCall_0 : decode cX3_isCall 0 = .ok (.iload_n 0, 1) := by decide +kernel
theorem dX3_isCall_1 : decode cX3_isCall 1 = .ok (.ifCond .lt 13, 3) := by decide +kernel
theorem dX3_isCall_4 : decode cX3_isCall 4 = .ok (.iload_n 0, 1) := by decide +kernel
theorem dX3_isCall_5 : decode cX3_isCall 5 = .ok (.bipush 10, 2) := by decide +kernel
theorem dX3_isCall_7 : decode cX3_isCall 7 = .ok (.if_icmp .ge 7, 3) := by decide +kernel
theorem dX3_isCall_10 : decode cX3_isCall 10 = .ok (.iconst 1, 1) := by decide +kernel
theorem dX3_isCall_11 : decode cX3_isCall 11 = .ok (.goto 4, 3) := by decide +kernel
theorem dX3_isCall_14 : decode cX3_isCall 14 = .ok (.iconst 0, 1) := by decide +kernel
theorem dX3_isCall_15 : decode cX3_isCall 15 = .ok (.ireturn, 1) := by decide +kernel
theorem dX3_isKind_0 : decode cX3_isKind 0 = .ok (.iload_n 0, 1) := by decide +kernel
theorem dX3_isKind_1 : decode cX3_isKind 1 = .ok (.ifCond .lt 13, 3) := by decide +kernel
theorem dX3_isKind_4 : decode cX3_isKind 4 = .ok (.iload_n 0, 1) := by decide +kernel
theorem dX3_isKind_5 : decode cX3_isKind 5 = .ok (.bipush 8, 2) := by decide +kernel
theorem dX3_isKind_7 : decode cX3_isKind 7 = .ok (.if_icmp .ge 7, 3) := by decide +kernel
theorem dX3_isKind_10 : decode cX3_isKind 10 = .ok (.iconst 1, 1) := by decide +kernel
theorem dX3_isKind_11 : decode cX3_isKind 11 = .ok (.goto 4, 3) := by decide +kernel
theorem dX3_isKind_14 : decode cX3_isKind 14 = .ok (.iconst 0, 1) := by decide +kernel
theorem dX3_isKind_15 : decode cX3_isKind 15 = .ok (.ireturn, 1) := by decide +kernel
theorem dX3_collect_0 : decode cX3_collect 0 = .ok (.aload_n 0, 1) := by decide +kernel
theorem dX3_collect_1 : decode cX3_collect 1 = .ok (.iconst 0, 1) := by decide +kernel
theorem dX3_collect_2 : decode cX3_collect 2 = .ok (.putfield 57, 3) := by decide +kernel
theorem dX3_collect_5 : decode cX3_collect 5 = .ok (.aload_n 0, 1) := by decide +kernel
theorem dX3_collect_6 : decode cX3_collect 6 = .ok (.getfield 61, 3) := by decide +kernel
theorem dX3_collect_9 : decode cX3_collect 9 = .ok (.bipush 20, 2) := by decide +kernel
theorem dX3_collect_11 : decode cX3_collect 11 = .ok (.if_icmp .ne 5, 3) := by decide +kernel
theorem dX3_collect_14 : decode cX3_collect 14 = .ok (.iconst (-1), 1) := by decide +kernel
theorem dX3_collect_15 : decode cX3_collect 15 = .ok (.ireturn, 1) := by decide +kernel
theorem dX3_collect_16 : decode cX3_collect 16 = .ok (.aload_n 0, 1) := by decide +kernel
theorem dX3_collect_17 : decode cX3_collect 17 = .ok (.getfield 21, 3) := by decide +kernel
theorem dX3_collect_20 : decode cX3_collect 20 = .ok (.aload_n 0, 1) := by decide +kernel
theorem dX3_collect_21 : decode cX3_collect 21 = .ok (.getfield 61, 3) := by decide +kernel
theorem dX3_collect_24 : decode cX3_collect 24 = .ok (.lload_n 1, 1) := by decide +kernel
theorem dX3_collect_25 : decode cX3_collect 25 = .ok (.lastore, 1) := by decide +kernel
theorem dX3_collect_26 : decode cX3_collect 26 = .ok (.aload_n 0, 1) := by decide +kernel
theorem dX3_collect_27 : decode cX3_collect 27 = .ok (.dup, 1) := by decide +kernel
theorem dX3_collect_28 : decode cX3_collect 28 = .ok (.getfield 61, 3) := by decide +kernel
theorem dX3_collect_31 : decode cX3_collect 31 = .ok (.iconst 1, 1) := by decide +kernel
theorem dX3_collect_32 : decode cX3_collect 32 = .ok (.iadd, 1) := by decide +kernel
theorem dX3_collect_33 : decode cX3_collect 33 = .ok (.putfield 61, 3) := by decide +kernel
theorem dX3_collect_36 : decode cX3_collect 36 = .ok (.aload_n 0, 1) := by decide +kernel
theorem dX3_collect_37 : decode cX3_collect 37 = .ok (.getfield 61, 3) := by decide +kernel
theorem dX3_collect_40 : decode cX3_collect 40 = .ok (.ireturn, 1) := by decide +kernel
set_option maxRecDepth 20000 in
theorem ggX3_wants_X3_isCall : GoodIn wsX3_wants wsX3_isCall := goodIn_r _ [6] (by decide +kernel) (by decide +kernel)
set_option maxRecDepth 20000 in
theorem gX3_wants_X3_isCall : GoodIn wsX3_wants (va_wsS RX3 64 yX3_isCall wsX3_isCall) := goodIn_app (goodIn_of _ (by decide +kernel)) ggX3_wants_X3_isCall
set_option maxRecDepth 20000 in
theorem ggX3_wants_X3_isKind : GoodIn wsX3_wants wsX3_isKind := goodIn_r _ [9] (by decide +kernel) (by decide +kernel)
set_option maxRecDepth 20000 in
theorem gX3_wants_X3_isKind : GoodIn wsX3_wants (va_wsS RX3 68 yX3_isKind wsX3_isKind) := goodIn_app (goodIn_of _ (by decide +kernel)) ggX3_wants_X3_isKind
theorem dX3_wants_0 : decode cX3_wants 0 = .ok (.aload_n 0, 1) := by decide +kernel
theorem dX3_wants_1 : decode cX3_wants 1 = .ok (.iconst 0, 1) := by decide +kernel
theorem dX3_wants_2 : decode cX3_wants 2 = .ok (.putfield 57, 3) := by decide +kernel
theorem dX3_wants_5 : decode cX3_wants 5 = .ok (.iload_n 1, 1) := by decide +kernel
theorem dX3_wants_6 : decode cX3_wants 6 = .ok (.invokestatic 64, 3) := by decide +kernel
theorem dX3_wants_9 : decode cX3_wants 9 = .ok (.ifCond .eq 15, 3) := by decide +kernel
theorem dX3_wants_12 : decode cX3_wants 12 = .ok (.iload_n 2, 1) := by decide +kernel
theorem dX3_wants_13 : decode cX3_wants 13 = .ok (.iconst (-1), 1) := by decide +kernel
theorem dX3_wants_14 : decode cX3_wants 14 = .ok (.if_icmp .eq 13, 3) := by decide +kernel
theorem dX3_wants_17 : decode cX3_wants 17 = .ok (.iload_n 2, 1) := by decide +kernel
theorem dX3_wants_18 : decode cX3_wants 18 = .ok (.invokestatic 68, 3) := by decide +kernel
theorem dX3_wants_21 : decode cX3_wants 21 = .ok (.ifCond .ne 6, 3) := by decide +kernel
theorem dX3_wants_24 : decode cX3_wants 24 = .ok (.bipush (-2), 2) := by decide +kernel
theorem dX3_wants_26 : decode cX3_wants 26 = .ok (.ireturn, 1) := by decide +kernel
theorem dX3_wants_27 : decode cX3_wants 27 = .ok (.aload_n 0, 1) := by decide +kernel
theorem dX3_wants_28 : decode cX3_wants 28 = .ok (.getfield 36, 3) := by decide +kernel
theorem dX3_wants_31 : decode cX3_wants 31 = .ok (.iload_n 1, 1) := by decide +kernel
theorem dX3_wants_32 : decode cX3_wants 32 = .ok (.iaload, 1) := by decide +kernel
theorem dX3_wants_33 : decode cX3_wants 33 = .ok (.istore_n 3, 1) := by decide +kernel
theorem dX3_wants_34 : decode cX3_wants 34 = .ok (.aload_n 0, 1) := by decide +kernel
theorem dX3_wants_35 : decode cX3_wants 35 = .ok (.getfield 36, 3) := by decide +kernel
theorem dX3_wants_38 : decode cX3_wants 38 = .ok (.iload_n 1, 1) := by decide +kernel
theorem dX3_wants_39 : decode cX3_wants 39 = .ok (.iload_n 2, 1) := by decide +kernel
theorem dX3_wants_40 : decode cX3_wants 40 = .ok (.iastore, 1) := by decide +kernel
theorem dX3_wants_41 : decode cX3_wants 41 = .ok (.iload_n 3, 1) := by decide +kernel
theorem dX3_wants_42 : decode cX3_wants 42 = .ok (.ireturn, 1) := by decide +kernel
set_option maxRecDepth 20000 in
theorem ggX3_act_X3_isCall : GoodIn wsX3_act wsX3_isCall := goodIn_r _ [8] (by decide +kernel) (by decide +kernel)
set_option maxRecDepth 20000 in
theorem gX3_act_X3_isCall : GoodIn wsX3_act (va_wsS RX3 64 yX3_isCall wsX3_isCall) := goodIn_app (goodIn_of _ (by decide +kernel)) ggX3_act_X3_isCall
set_option maxRecDepth 20000 in
theorem ggX3_act_X3_isKind : GoodIn wsX3_act wsX3_isKind := goodIn_r _ [11] (by decide +kernel) (by decide +kernel)
set_option maxRecDepth 20000 in
theorem gX3_act_X3_isKind : GoodIn wsX3_act (va_wsS RX3 68 yX3_isKind wsX3_isKind) := goodIn_app (goodIn_of _ (by decide +kernel)) ggX3_act_X3_isKind
theorem dX3_act_0 : decode cX3_act 0 = .ok (.aload_n 0, 1) := by decide +kernel
theorem dX3_act_1 : decode cX3_act 1 = .ok (.iconst 0, 1) := by decide +kernel
theorem dX3_act_2 : decode cX3_act 2 = .ok (.putfield 57, 3) := by decide +kernel
theorem dX3_act_5 : decode cX3_act 5 = .ok (.iload_n 1, 1) := by decide +kernel
theorem dX3_act_6 : decode cX3_act 6 = .ok (.invokestatic 64, 3) := by decide +kernel
theorem dX3_act_9 : decode cX3_act 9 = .ok (.ifCond .eq 31, 3) := by decide +kernel
theorem dX3_act_12 : decode cX3_act 12 = .ok (.iload_n 2, 1) := by decide +kernel
theorem dX3_act_13 : decode cX3_act 13 = .ok (.ifCond .lt 27, 3) := by decide +kernel
theorem dX3_act_16 : decode cX3_act 16 = .ok (.iload_n 2, 1) := by decide +kernel
theorem dX3_act_17 : decode cX3_act 17 = .ok (.bipush 6, 2) := by decide +kernel
theorem dX3_act_19 : decode cX3_act 19 = .ok (.if_icmp .gt 21, 3) := by decide +kernel
theorem dX3_act_22 : decode cX3_act 22 = .ok (.iload_n 3, 1) := by decide +kernel
theorem dX3_act_23 : decode cX3_act 23 = .ok (.invokestatic 68, 3) := by decide +kernel
theorem dX3_act_26 : decode cX3_act 26 = .ok (.ifCond .eq 14, 3) := by decide +kernel
theorem dX3_act_29 : decode cX3_act 29 = .ok (.aload_n 0, 1) := by decide +kernel
theorem dX3_act_30 : decode cX3_act 30 = .ok (.getfield 45, 3) := by decide +kernel
theorem dX3_act_33 : decode cX3_act 33 = .ok (.iload_n 1, 1) := by decide +kernel
theorem dX3_act_34 : decode cX3_act 34 = .ok (.iaload, 1) := by decide +kernel
theorem dX3_act_35 : decode cX3_act 35 = .ok (.bipush 6, 2) := by decide +kernel
theorem dX3_act_37 : decode cX3_act 37 = .ok (.if_icmp .ne 5, 3) := by decide +kernel
theorem dX3_act_40 : decode cX3_act 40 = .ok (.iconst (-1), 1) := by decide +kernel
theorem dX3_act_41 : decode cX3_act 41 = .ok (.ireturn, 1) := by decide +kernel
theorem dX3_act_42 : decode cX3_act 42 = .ok (.bipush 6, 2) := by decide +kernel
theorem dX3_act_44 : decode cX3_act 44 = .ok (.iload_n 1, 1) := by decide +kernel
theorem dX3_act_45 : decode cX3_act 45 = .ok (.imul, 1) := by decide +kernel
theorem dX3_act_46 : decode cX3_act 46 = .ok (.aload_n 0, 1) := by decide +kernel
theorem dX3_act_47 : decode cX3_act 47 = .ok (.getfield 45, 3) := by decide +kernel
theorem dX3_act_50 : decode cX3_act 50 = .ok (.iload_n 1, 1) := by decide +kernel
theorem dX3_act_51 : decode cX3_act 51 = .ok (.iaload, 1) := by decide +kernel
theorem dX3_act_52 : decode cX3_act 52 = .ok (.iadd, 1) := by decide +kernel
theorem dX3_act_53 : decode cX3_act 53 = .ok (.istore 4, 2) := by decide +kernel
theorem dX3_act_55 : decode cX3_act 55 = .ok (.aload_n 0, 1) := by decide +kernel
theorem dX3_act_56 : decode cX3_act 56 = .ok (.getfield 39, 3) := by decide +kernel
theorem dX3_act_59 : decode cX3_act 59 = .ok (.iload 4, 2) := by decide +kernel
theorem dX3_act_61 : decode cX3_act 61 = .ok (.iload_n 2, 1) := by decide +kernel
theorem dX3_act_62 : decode cX3_act 62 = .ok (.iastore, 1) := by decide +kernel
theorem dX3_act_63 : decode cX3_act 63 = .ok (.aload_n 0, 1) := by decide +kernel
theorem dX3_act_64 : decode cX3_act 64 = .ok (.getfield 42, 3) := by decide +kernel
theorem dX3_act_67 : decode cX3_act 67 = .ok (.iload 4, 2) := by decide +kernel
theorem dX3_act_69 : decode cX3_act 69 = .ok (.iload_n 3, 1) := by decide +kernel
theorem dX3_act_70 : decode cX3_act 70 = .ok (.iastore, 1) := by decide +kernel
theorem dX3_act_71 : decode cX3_act 71 = .ok (.aload_n 0, 1) := by decide +kernel
theorem dX3_act_72 : decode cX3_act 72 = .ok (.getfield 45, 3) := by decide +kernel
theorem dX3_act_75 : decode cX3_act 75 = .ok (.iload_n 1, 1) := by decide +kernel
theorem dX3_act_76 : decode cX3_act 76 = .ok (.dup2, 1) := by decide +kernel
theorem dX3_act_77 : decode cX3_act 77 = .ok (.iaload, 1) := by decide +kernel
theorem dX3_act_78 : decode cX3_act 78 = .ok (.iconst 1, 1) := by decide +kernel
theorem dX3_act_79 : decode cX3_act 79 = .ok (.iadd, 1) := by decide +kernel
theorem dX3_act_80 : decode cX3_act 80 = .ok (.iastore, 1) := by decide +kernel
theorem dX3_act_81 : decode cX3_act 81 = .ok (.aload_n 0, 1) := by decide +kernel
theorem dX3_act_82 : decode cX3_act 82 = .ok (.getfield 45, 3) := by decide +kernel
theorem dX3_act_85 : decode cX3_act 85 = .ok (.iload_n 1, 1) := by decide +kernel
theorem dX3_act_86 : decode cX3_act 86 = .ok (.iaload, 1) := by decide +kernel
theorem dX3_act_87 : decode cX3_act 87 = .ok (.ireturn, 1) := by decide +kernel
set_option maxRecDepth 20000 in
theorem ggX3_fails_X3_isCall : GoodIn wsX3_fails wsX3_isCall := goodIn_r _ [7] (by decide +kernel) (by decide +kernel)
set_option maxRecDepth 20000 in
theorem gX3_fails_X3_isCall : GoodIn wsX3_fails (va_wsS RX3 64 yX3_isCall wsX3_isCall) := goodIn_app (goodIn_of _ (by decide +kernel)) ggX3_fails_X3_isCall
theorem dX3_fails_0 : decode cX3_fails 0 = .ok (.aload_n 0, 1) := by decide +kernel
theorem dX3_fails_1 : decode cX3_fails 1 = .ok (.iconst 0, 1) := by decide +kernel
theorem dX3_fails_2 : decode cX3_fails 2 = .ok (.putfield 57, 3) := by decide +kernel
theorem dX3_fails_5 : decode cX3_fails 5 = .ok (.iload_n 1, 1) := by decide +kernel
theorem dX3_fails_6 : decode cX3_fails 6 = .ok (.invokestatic 64, 3) := by decide +kernel
theorem dX3_fails_9 : decode cX3_fails 9 = .ok (.ifCond .eq 22, 3) := by decide +kernel
theorem dX3_fails_12 : decode cX3_fails 12 = .ok (.iload_n 2, 1) := by decide +kernel
theorem dX3_fails_13 : decode cX3_fails 13 = .ok (.ifCond .lt 18, 3) := by decide +kernel
theorem dX3_fails_16 : decode cX3_fails 16 = .ok (.iload_n 2, 1) := by decide +kernel
theorem dX3_fails_17 : decode cX3_fails 17 = .ok (.iconst 5, 1) := by decide +kernel
theorem dX3_fails_18 : decode cX3_fails 18 = .ok (.if_icmp .gt 13, 3) := by decide +kernel
theorem dX3_fails_21 : decode cX3_fails 21 = .ok (.iload_n 3, 1) := by decide +kernel
theorem dX3_fails_22 : decode cX3_fails 22 = .ok (.iconst 1, 1) := by decide +kernel
theorem dX3_fails_23 : decode cX3_fails 23 = .ok (.if_icmp .lt 8, 3) := by decide +kernel
theorem dX3_fails_26 : decode cX3_fails 26 = .ok (.iload_n 3, 1) := by decide +kernel
theorem dX3_fails_27 : decode cX3_fails 27 = .ok (.iconst 5, 1) := by decide +kernel
theorem dX3_fails_28 : decode cX3_fails 28 = .ok (.if_icmp .le 5, 3) := by decide +kernel
theorem dX3_fails_31 : decode cX3_fails 31 = .ok (.iconst 0, 1) := by decide +kernel
theorem dX3_fails_32 : decode cX3_fails 32 = .ok (.ireturn, 1) := by decide +kernel
theorem dX3_fails_33 : decode cX3_fails 33 = .ok (.aload_n 0, 1) := by decide +kernel
theorem dX3_fails_34 : decode cX3_fails 34 = .ok (.getfield 48, 3) := by decide +kernel
theorem dX3_fails_37 : decode cX3_fails 37 = .ok (.iload_n 1, 1) := by decide +kernel
theorem dX3_fails_38 : decode cX3_fails 38 = .ok (.iload_n 2, 1) := by decide +kernel
theorem dX3_fails_39 : decode cX3_fails 39 = .ok (.iastore, 1) := by decide +kernel
theorem dX3_fails_40 : decode cX3_fails 40 = .ok (.aload_n 0, 1) := by decide +kernel
theorem dX3_fails_41 : decode cX3_fails 41 = .ok (.getfield 51, 3) := by decide +kernel
theorem dX3_fails_44 : decode cX3_fails 44 = .ok (.iload_n 1, 1) := by decide +kernel
theorem dX3_fails_45 : decode cX3_fails 45 = .ok (.iload_n 3, 1) := by decide +kernel
theorem dX3_fails_46 : decode cX3_fails 46 = .ok (.iastore, 1) := by decide +kernel
theorem dX3_fails_47 : decode cX3_fails 47 = .ok (.iconst 1, 1) := by decide +kernel
theorem dX3_fails_48 : decode cX3_fails 48 = .ok (.ireturn, 1) := by decide +kernel
set_option maxRecDepth 20000 in
theorem ggX3_isHere_X3_isKind : GoodIn wsX3_isHere wsX3_isKind := goodIn_r _ [5] (by decide +kernel) (by decide +kernel)
set_option maxRecDepth 20000 in
theorem gX3_isHere_X3_isKind : GoodIn wsX3_isHere (va_wsS RX3 68 yX3_isKind wsX3_isKind) := goodIn_app (goodIn_of _ (by decide +kernel)) ggX3_isHere_X3_isKind
theorem dX3_isHere_0 : decode cX3_isHere 0 = .ok (.iload_n 1, 1) := by decide +kernel
theorem dX3_isHere_1 : decode cX3_isHere 1 = .ok (.invokestatic 68, 3) := by decide +kernel
theorem dX3_isHere_4 : decode cX3_isHere 4 = .ok (.ifCond .eq 31, 3) := by decide +kernel
theorem dX3_isHere_7 : decode cX3_isHere 7 = .ok (.iload_n 2, 1) := by decide +kernel
theorem dX3_isHere_8 : decode cX3_isHere 8 = .ok (.ifCond .le 27, 3) := by decide +kernel
theorem dX3_isHere_11 : decode cX3_isHere 11 = .ok (.iload_n 2, 1) := by decide +kernel
theorem dX3_isHere_12 : decode cX3_isHere 12 = .ok (.bipush 41, 2) := by decide +kernel
theorem dX3_isHere_14 : decode cX3_isHere 14 = .ok (.if_icmp .ge 21, 3) := by decide +kernel
theorem dX3_isHere_17 : decode cX3_isHere 17 = .ok (.aload_n 0, 1) := by decide +kernel
theorem dX3_isHere_18 : decode cX3_isHere 18 = .ok (.getfield 7, 3) := by decide +kernel
theorem dX3_isHere_21 : decode cX3_isHere 21 = .ok (.bipush 41, 2) := by decide +kernel
theorem dX3_isHere_23 : decode cX3_isHere 23 = .ok (.iload_n 1, 1) := by decide +kernel
theorem dX3_isHere_24 : decode cX3_isHere 24 = .ok (.imul, 1) := by decide +kernel
theorem dX3_isHere_25 : decode cX3_isHere 25 = .ok (.iload_n 2, 1) := by decide +kernel
theorem dX3_isHere_26 : decode cX3_isHere 26 = .ok (.iadd, 1) := by decide +kernel
theorem dX3_isHere_27 : decode cX3_isHere 27 = .ok (.baload, 1) := by decide +kernel
theorem dX3_isHere_28 : decode cX3_isHere 28 = .ok (.ifCond .eq 7, 3) := by decide +kernel
theorem dX3_isHere_31 : decode cX3_isHere 31 = .ok (.iconst 1, 1) := by decide +kernel
theorem dX3_isHere_32 : decode cX3_isHere 32 = .ok (.goto 4, 3) := by decide +kernel
theorem dX3_isHere_35 : decode cX3_isHere 35 = .ok (.iconst 0, 1) := by decide +kernel
theorem dX3_isHere_36 : decode cX3_isHere 36 = .ok (.ireturn, 1) := by decide +kernel
theorem dX3_makes_0 : decode cX3_makes 0 = .ok (.aload_n 0, 1) := by decide +kernel
theorem dX3_makes_1 : decode cX3_makes 1 = .ok (.getfield 13, 3) := by decide +kernel
theorem dX3_makes_4 : decode cX3_makes 4 = .ok (.iload_n 1, 1) := by decide +kernel
theorem dX3_makes_5 : decode cX3_makes 5 = .ok (.iaload, 1) := by decide +kernel
theorem dX3_makes_6 : decode cX3_makes 6 = .ok (.bipush 40, 2) := by decide +kernel
theorem dX3_makes_8 : decode cX3_makes 8 = .ok (.if_icmp .ne 5, 3) := by decide +kernel
theorem dX3_makes_11 : decode cX3_makes 11 = .ok (.iconst (-1), 1) := by decide +kernel
theorem dX3_makes_12 : decode cX3_makes 12 = .ok (.ireturn, 1) := by decide +kernel
theorem dX3_makes_13 : decode cX3_makes 13 = .ok (.aload_n 0, 1) := by decide +kernel
theorem dX3_makes_14 : decode cX3_makes 14 = .ok (.getfield 13, 3) := by decide +kernel
theorem dX3_makes_17 : decode cX3_makes 17 = .ok (.iload_n 1, 1) := by decide +kernel
theorem dX3_makes_18 : decode cX3_makes 18 = .ok (.dup2, 1) := by decide +kernel
theorem dX3_makes_19 : decode cX3_makes 19 = .ok (.iaload, 1) := by decide +kernel
theorem dX3_makes_20 : decode cX3_makes 20 = .ok (.iconst 1, 1) := by decide +kernel
theorem dX3_makes_21 : decode cX3_makes 21 = .ok (.iadd, 1) := by decide +kernel
theorem dX3_makes_22 : decode cX3_makes 22 = .ok (.iastore, 1) := by decide +kernel
theorem dX3_makes_23 : decode cX3_makes 23 = .ok (.aload_n 0, 1) := by decide +kernel
theorem dX3_makes_24 : decode cX3_makes 24 = .ok (.getfield 7, 3) := by decide +kernel
theorem dX3_makes_27 : decode cX3_makes 27 = .ok (.bipush 41, 2) := by decide +kernel
theorem dX3_makes_29 : decode cX3_makes 29 = .ok (.iload_n 1, 1) := by decide +kernel
theorem dX3_makes_30 : decode cX3_makes 30 = .ok (.imul, 1) := by decide +kernel
theorem dX3_makes_31 : decode cX3_makes 31 = .ok (.aload_n 0, 1) := by decide +kernel
theorem dX3_makes_32 : decode cX3_makes 32 = .ok (.getfield 13, 3) := by decide +kernel
theorem dX3_makes_35 : decode cX3_makes 35 = .ok (.iload_n 1, 1) := by decide +kernel
theorem dX3_makes_36 : decode cX3_makes 36 = .ok (.iaload, 1) := by decide +kernel
theorem dX3_makes_37 : decode cX3_makes 37 = .ok (.iadd, 1) := by decide +kernel
theorem dX3_makes_38 : decode cX3_makes 38 = .ok (.iconst 1, 1) := by decide +kernel
theorem dX3_makes_39 : decode cX3_makes 39 = .ok (.bastore, 1) := by decide +kernel
theorem dX3_makes_40 : decode cX3_makes 40 = .ok (.aload_n 0, 1) := by decide +kernel
theorem dX3_makes_41 : decode cX3_makes 41 = .ok (.getfield 13, 3) := by decide +kernel
theorem dX3_makes_44 : decode cX3_makes 44 = .ok (.iload_n 1, 1) := by decide +kernel
theorem dX3_makes_45 : decode cX3_makes 45 = .ok (.iaload, 1) := by decide +kernel
theorem dX3_makes_46 : decode cX3_makes 46 = .ok (.ireturn, 1) := by decide +kernel
theorem dX3_greatest_0 : decode cX3_greatest 0 = .ok (.bipush 40, 2) := by decide +kernel
theorem dX3_greatest_2 : decode cX3_greatest 2 = .ok (.istore_n 2, 1) := by decide +kernel
theorem dX3_greatest_3 : decode cX3_greatest 3 = .ok (.iload_n 2, 1) := by decide +kernel
theorem dX3_greatest_4 : decode cX3_greatest 4 = .ok (.ifCond .le 23, 3) := by decide +kernel
theorem dX3_greatest_7 : decode cX3_greatest 7 = .ok (.aload_n 0, 1) := by decide +kernel
theorem dX3_greatest_8 : decode cX3_greatest 8 = .ok (.getfield 7, 3) := by decide +kernel
theorem dX3_greatest_11 : decode cX3_greatest 11 = .ok (.bipush 41, 2) := by decide +kernel
theorem dX3_greatest_13 : decode cX3_greatest 13 = .ok (.iload_n 1, 1) := by decide +kernel
theorem dX3_greatest_14 : decode cX3_greatest 14 = .ok (.imul, 1) := by decide +kernel
theorem dX3_greatest_15 : decode cX3_greatest 15 = .ok (.iload_n 2, 1) := by decide +kernel
theorem dX3_greatest_16 : decode cX3_greatest 16 = .ok (.iadd, 1) := by decide +kernel
theorem dX3_greatest_17 : decode cX3_greatest 17 = .ok (.baload, 1) := by decide +kernel
theorem dX3_greatest_18 : decode cX3_greatest 18 = .ok (.ifCond .ne 9, 3) := by decide +kernel
theorem dX3_greatest_21 : decode cX3_greatest 21 = .ok (.iinc 2 (-1), 3) := by decide +kernel
theorem dX3_greatest_24 : decode cX3_greatest 24 = .ok (.goto (-21), 3) := by decide +kernel
theorem dX3_greatest_27 : decode cX3_greatest 27 = .ok (.iload_n 2, 1) := by decide +kernel
theorem dX3_greatest_28 : decode cX3_greatest 28 = .ok (.ireturn, 1) := by decide +kernel
theorem dX3_many_0 : decode cX3_many 0 = .ok (.iconst 0, 1) := by decide +kernel
theorem dX3_many_1 : decode cX3_many 1 = .ok (.istore_n 2, 1) := by decide +kernel
theorem dX3_many_2 : decode cX3_many 2 = .ok (.iconst 1, 1) := by decide +kernel
theorem dX3_many_3 : decode cX3_many 3 = .ok (.istore_n 3, 1) := by decide +kernel
theorem dX3_many_4 : decode cX3_many 4 = .ok (.iload_n 3, 1) := by decide +kernel
theorem dX3_many_5 : decode cX3_many 5 = .ok (.bipush 41, 2) := by decide +kernel
theorem dX3_many_7 : decode cX3_many 7 = .ok (.if_icmp .ge 31, 3) := by decide +kernel
theorem dX3_many_10 : decode cX3_many 10 = .ok (.iload_n 2, 1) := by decide +kernel
theorem dX3_many_11 : decode cX3_many 11 = .ok (.aload_n 0, 1) := by decide +kernel
theorem dX3_many_12 : decode cX3_many 12 = .ok (.getfield 7, 3) := by decide +kernel
theorem dX3_many_15 : decode cX3_many 15 = .ok (.bipush 41, 2) := by decide +kernel
theorem dX3_many_17 : decode cX3_many 17 = .ok (.iload_n 1, 1) := by decide +kernel
theorem dX3_many_18 : decode cX3_many 18 = .ok (.imul, 1) := by decide +kernel
theorem dX3_many_19 : decode cX3_many 19 = .ok (.iload_n 3, 1) := by decide +kernel
theorem dX3_many_20 : decode cX3_many 20 = .ok (.iadd, 1) := by decide +kernel
theorem dX3_many_21 : decode cX3_many 21 = .ok (.baload, 1) := by decide +kernel
theorem dX3_many_22 : decode cX3_many 22 = .ok (.ifCond .eq 7, 3) := by decide +kernel
theorem dX3_many_25 : decode cX3_many 25 = .ok (.iconst 1, 1) := by decide +kernel
theorem dX3_many_26 : decode cX3_many 26 = .ok (.goto 4, 3) := by decide +kernel
theorem dX3_many_29 : decode cX3_many 29 = .ok (.iconst 0, 1) := by decide +kernel
theorem dX3_many_30 : decode cX3_many 30 = .ok (.iadd, 1) := by decide +kernel
theorem dX3_many_31 : decode cX3_many 31 = .ok (.istore_n 2, 1) := by decide +kernel
theorem dX3_many_32 : decode cX3_many 32 = .ok (.iinc 3 1, 3) := by decide +kernel
theorem dX3_many_35 : decode cX3_many 35 = .ok (.goto (-31), 3) := by decide +kernel
theorem dX3_many_38 : decode cX3_many 38 = .ok (.iload_n 2, 1) := by decide +kernel
theorem dX3_many_39 : decode cX3_many 39 = .ok (.ireturn, 1) := by decide +kernel
set_option maxRecDepth 20000 in
theorem ggX3_make_X3_isKind : GoodIn wsX3_make wsX3_isKind := goodIn_r _ [5] (by decide +kernel) (by decide +kernel)
set_option maxRecDepth 20000 in
theorem gX3_make_X3_isKind : GoodIn wsX3_make (va_wsS RX3 68 yX3_isKind wsX3_isKind) := goodIn_app (goodIn_of _ (by decide +kernel)) ggX3_make_X3_isKind
set_option maxRecDepth 20000 in
theorem ggX3_make_X3_makes : GoodIn wsX3_make wsX3_makes := goodIn_r _ [9, 10, 11, 12, 13, 14, 15, 16, 17, 18, 19, 20, 21, 22, 23, 24, 25, 26, 27, 28, 29, 30, 31, 32] (by decide +kernel) (by decide +kernel)
set_option maxRecDepth 20000 in
theorem gX3_make_X3_makes : GoodIn wsX3_make (wsV RX3 71 RX3 yX3_makes wsX3_makes) := goodIn_app (goodIn_of _ (by decide +kernel)) ggX3_make_X3_makes
theorem dX3_make_0 : decode cX3_make 0 = .ok (.aload_n 0, 1) := by decide +kernel
theorem dX3_make_1 : decode cX3_make 1 = .ok (.iconst 0, 1) := by decide +kernel
theorem dX3_make_2 : decode cX3_make 2 = .ok (.putfield 57, 3) := by decide +kernel
theorem dX3_make_5 : decode cX3_make 5 = .ok (.iload_n 1, 1) := by decide +kernel
theorem dX3_make_6 : decode cX3_make 6 = .ok (.invokestatic 68, 3) := by decide +kernel
theorem dX3_make_9 : decode cX3_make 9 = .ok (.ifCond .eq 11, 3) := by decide +kernel
theorem dX3_make_12 : decode cX3_make 12 = .ok (.aload_n 0, 1) := by decide +kernel
theorem dX3_make_13 : decode cX3_make 13 = .ok (.iload_n 1, 1) := by decide +kernel
theorem dX3_make_14 : decode cX3_make 14 = .ok (.invokevirtual 71, 3) := by decide +kernel
theorem dX3_make_17 : decode cX3_make 17 = .ok (.goto 4, 3) := by decide +kernel
theorem dX3_make_20 : decode cX3_make 20 = .ok (.iconst (-1), 1) := by decide +kernel
theorem dX3_make_21 : decode cX3_make 21 = .ok (.ireturn, 1) := by decide +kernel
set_option maxRecDepth 20000 in
theorem ggX3_drops_X3_isHere : GoodIn wsX3_drops wsX3_isHere := goodIn_r _ [6, 1, 7, 8, 5, 9, 10, 11, 12, 13, 14, 15, 16, 17, 18, 19, 20, 21, 22, 23, 24, 25, 26, 27, 28, 29, 30] (by decide +kernel) (by decide +kernel)
set_option maxRecDepth 20000 in
theorem gX3_drops_X3_isHere : GoodIn wsX3_drops (wsV RX3 75 RX3 yX3_isHere wsX3_isHere) := goodIn_app (goodIn_of _ (by decide +kernel)) ggX3_drops_X3_isHere
theorem dX3_drops_0 : decode cX3_drops 0 = .ok (.aload_n 0, 1) := by decide +kernel
theorem dX3_drops_1 : decode cX3_drops 1 = .ok (.iload_n 1, 1) := by decide +kernel
theorem dX3_drops_2 : decode cX3_drops 2 = .ok (.iload_n 2, 1) := by decide +kernel
theorem dX3_drops_3 : decode cX3_drops 3 = .ok (.invokevirtual 75, 3) := by decide +kernel
theorem dX3_drops_6 : decode cX3_drops 6 = .ok (.ifCond .ne 5, 3) := by decide +kernel
theorem dX3_drops_9 : decode cX3_drops 9 = .ok (.iconst 0, 1) := by decide +kernel
theorem dX3_drops_10 : decode cX3_drops 10 = .ok (.ireturn, 1) := by decide +kernel
theorem dX3_drops_11 : decode cX3_drops 11 = .ok (.aload_n 0, 1) := by decide +kernel
theorem dX3_drops_12 : decode cX3_drops 12 = .ok (.getfield 7, 3) := by decide +kernel
theorem dX3_drops_15 : decode cX3_drops 15 = .ok (.bipush 41, 2) := by decide +kernel
theorem dX3_drops_17 : decode cX3_drops 17 = .ok (.iload_n 1, 1) := by decide +kernel
theorem dX3_drops_18 : decode cX3_drops 18 = .ok (.imul, 1) := by decide +kernel
theorem dX3_drops_19 : decode cX3_drops 19 = .ok (.iload_n 2, 1) := by decide +kernel
theorem dX3_drops_20 : decode cX3_drops 20 = .ok (.iadd, 1) := by decide +kernel
theorem dX3_drops_21 : decode cX3_drops 21 = .ok (.iconst 0, 1) := by decide +kernel
theorem dX3_drops_22 : decode cX3_drops 22 = .ok (.bastore, 1) := by decide +kernel
theorem dX3_drops_23 : decode cX3_drops 23 = .ok (.iconst 1, 1) := by decide +kernel
theorem dX3_drops_24 : decode cX3_drops 24 = .ok (.ireturn, 1) := by decide +kernel
set_option maxRecDepth 20000 in
theorem ggX3_drop_X3_drops : GoodIn wsX3_drop wsX3_drops := goodIn_r _ [6, 7, 8, 9, 10, 5, 11, 12, 13, 14, 15, 16, 17, 18, 19, 20, 21, 22, 23, 24, 25, 26, 27, 28, 29, 30, 31, 32, 33, 34, 35] (by decide +kernel) (by decide +kernel)
set_option maxRecDepth 20000 in
theorem gX3_drop_X3_drops : GoodIn wsX3_drop (wsV RX3 79 RX3 yX3_drops wsX3_drops) := goodIn_app (goodIn_of _ (by decide +kernel)) ggX3_drop_X3_drops
theorem dX3_drop_0 : decode cX3_drop 0 = .ok (.aload_n 0, 1) := by decide +kernel
theorem dX3_drop_1 : decode cX3_drop 1 = .ok (.iconst 0, 1) := by decide +kernel
theorem dX3_drop_2 : decode cX3_drop 2 = .ok (.putfield 57, 3) := by decide +kernel
theorem dX3_drop_5 : decode cX3_drop 5 = .ok (.aload_n 0, 1) := by decide +kernel
theorem dX3_drop_6 : decode cX3_drop 6 = .ok (.iload_n 1, 1) := by decide +kernel
theorem dX3_drop_7 : decode cX3_drop 7 = .ok (.iload_n 2, 1) := by decide +kernel
theorem dX3_drop_8 : decode cX3_drop 8 = .ok (.invokevirtual 79, 3) := by decide +kernel
theorem dX3_drop_11 : decode cX3_drop 11 = .ok (.ireturn, 1) := by decide +kernel
theorem dX3_keep_0 : decode cX3_keep 0 = .ok (.iconst 0, 1) := by decide +kernel
theorem dX3_keep_1 : decode cX3_keep 1 = .ok (.istore_n 1, 1) := by decide +kernel
theorem dX3_keep_2 : decode cX3_keep 2 = .ok (.iload_n 1, 1) := by decide +kernel
theorem dX3_keep_3 : decode cX3_keep 3 = .ok (.sipush 328, 3) := by decide +kernel
theorem dX3_keep_6 : decode cX3_keep 6 = .ok (.if_icmp .ge 21, 3) := by decide +kernel
theorem dX3_keep_9 : decode cX3_keep 9 = .ok (.aload_n 0, 1) := by decide +kernel
theorem dX3_keep_10 : decode cX3_keep 10 = .ok (.getfield 24, 3) := by decide +kernel
theorem dX3_keep_13 : decode cX3_keep 13 = .ok (.iload_n 1, 1) := by decide +kernel
theorem dX3_keep_14 : decode cX3_keep 14 = .ok (.aload_n 0, 1) := by decide +kernel
theorem dX3_keep_15 : decode cX3_keep 15 = .ok (.getfield 7, 3) := by decide +kernel
theorem dX3_keep_18 : decode cX3_keep 18 = .ok (.iload_n 1, 1) := by decide +kernel
theorem dX3_keep_19 : decode cX3_keep 19 = .ok (.baload, 1) := by decide +kernel
theorem dX3_keep_20 : decode cX3_keep 20 = .ok (.bastore, 1) := by decide +kernel
theorem dX3_keep_21 : decode cX3_keep 21 = .ok (.iinc 1 1, 3) := by decide +kernel
theorem dX3_keep_24 : decode cX3_keep 24 = .ok (.goto (-22), 3) := by decide +kernel
theorem dX3_keep_27 : decode cX3_keep 27 = .ok (.iconst 0, 1) := by decide +kernel
theorem dX3_keep_28 : decode cX3_keep 28 = .ok (.istore_n 1, 1) := by decide +kernel
theorem dX3_keep_29 : decode cX3_keep 29 = .ok (.iload_n 1, 1) := by decide +kernel
theorem dX3_keep_30 : decode cX3_keep 30 = .ok (.bipush 8, 2) := by decide +kernel
theorem dX3_keep_32 : decode cX3_keep 32 = .ok (.if_icmp .ge 33, 3) := by decide +kernel
theorem dX3_keep_35 : decode cX3_keep 35 = .ok (.aload_n 0, 1) := by decide +kernel
theorem dX3_keep_36 : decode cX3_keep 36 = .ok (.getfield 27, 3) := by decide +kernel
theorem dX3_keep_39 : decode cX3_keep 39 = .ok (.iload_n 1, 1) := by decide +kernel
theorem dX3_keep_40 : decode cX3_keep 40 = .ok (.aload_n 0, 1) := by decide +kernel
theorem dX3_keep_41 : decode cX3_keep 41 = .ok (.getfield 13, 3) := by decide +kernel
theorem dX3_keep_44 : decode cX3_keep 44 = .ok (.iload_n 1, 1) := by decide +kernel
theorem dX3_keep_45 : decode cX3_keep 45 = .ok (.iaload, 1) := by decide +kernel
theorem dX3_keep_46 : decode cX3_keep 46 = .ok (.iastore, 1) := by decide +kernel
theorem dX3_keep_47 : decode cX3_keep 47 = .ok (.aload_n 0, 1) := by decide +kernel
theorem dX3_keep_48 : decode cX3_keep 48 = .ok (.getfield 30, 3) := by decide +kernel
theorem dX3_keep_51 : decode cX3_keep 51 = .ok (.iload_n 1, 1) := by decide +kernel
theorem dX3_keep_52 : decode cX3_keep 52 = .ok (.aload_n 0, 1) := by decide +kernel
theorem dX3_keep_53 : decode cX3_keep 53 = .ok (.getfield 17, 3) := by decide +kernel
theorem dX3_keep_56 : decode cX3_keep 56 = .ok (.iload_n 1, 1) := by decide +kernel
theorem dX3_keep_57 : decode cX3_keep 57 = .ok (.laload, 1) := by decide +kernel
theorem dX3_keep_58 : decode cX3_keep 58 = .ok (.lastore, 1) := by decide +kernel
theorem dX3_keep_59 : decode cX3_keep 59 = .ok (.iinc 1 1, 3) := by decide +kernel
theorem dX3_keep_62 : decode cX3_keep 62 = .ok (.goto (-33), 3) := by decide +kernel
theorem dX3_keep_65 : decode cX3_keep 65 = .ok (.iconst 0, 1) := by decide +kernel
theorem dX3_keep_66 : decode cX3_keep 66 = .ok (.istore_n 1, 1) := by decide +kernel
theorem dX3_keep_67 : decode cX3_keep 67 = .ok (.iload_n 1, 1) := by decide +kernel
theorem dX3_keep_68 : decode cX3_keep 68 = .ok (.bipush 20, 2) := by decide +kernel
theorem dX3_keep_70 : decode cX3_keep 70 = .ok (.if_icmp .ge 21, 3) := by decide +kernel
theorem dX3_keep_73 : decode cX3_keep 73 = .ok (.aload_n 0, 1) := by decide +kernel
theorem dX3_keep_74 : decode cX3_keep 74 = .ok (.getfield 33, 3) := by decide +kernel
theorem dX3_keep_77 : decode cX3_keep 77 = .ok (.iload_n 1, 1) := by decide +kernel
theorem dX3_keep_78 : decode cX3_keep 78 = .ok (.aload_n 0, 1) := by decide +kernel
theorem dX3_keep_79 : decode cX3_keep 79 = .ok (.getfield 21, 3) := by decide +kernel
theorem dX3_keep_82 : decode cX3_keep 82 = .ok (.iload_n 1, 1) := by decide +kernel
theorem dX3_keep_83 : decode cX3_keep 83 = .ok (.laload, 1) := by decide +kernel
theorem dX3_keep_84 : decode cX3_keep 84 = .ok (.lastore, 1) := by decide +kernel
theorem dX3_keep_85 : decode cX3_keep 85 = .ok (.iinc 1 1, 3) := by decide +kernel
theorem dX3_keep_88 : decode cX3_keep 88 = .ok (.goto (-21), 3) := by decide +kernel
theorem dX3_keep_91 : decode cX3_keep 91 = .ok (.aload_n 0, 1) := by decide +kernel
theorem dX3_keep_92 : decode cX3_keep 92 = .ok (.aload_n 0, 1) := by decide +kernel
theorem dX3_keep_93 : decode cX3_keep 93 = .ok (.getfield 61, 3) := by decide +kernel
theorem dX3_keep_96 : decode cX3_keep 96 = .ok (.putfield 82, 3) := by decide +kernel
theorem dX3_keep_99 : decode cX3_keep 99 = .ok (.return_, 1) := by decide +kernel
theorem dX3_restore_0 : decode cX3_restore 0 = .ok (.iconst 0, 1) := by decide +kernel
theorem dX3_restore_1 : decode cX3_restore 1 = .ok (.istore_n 1, 1) := by decide +kernel
theorem dX3_restore_2 : decode cX3_restore 2 = .ok (.iload_n 1, 1) := by decide +kernel
theorem dX3_restore_3 : decode cX3_restore 3 = .ok (.sipush 328, 3) := by decide +kernel
theorem dX3_restore_6 : decode cX3_restore 6 = .ok (.if_icmp .ge 21, 3) := by decide +kernel
theorem dX3_restore_9 : decode cX3_restore 9 = .ok (.aload_n 0, 1) := by decide +kernel
theorem dX3_restore_10 : decode cX3_restore 10 = .ok (.getfield 7, 3) := by decide +kernel
theorem dX3_restore_13 : decode cX3_restore 13 = .ok (.iload_n 1, 1) := by decide +kernel
theorem dX3_restore_14 : decode cX3_restore 14 = .ok (.aload_n 0, 1) := by decide +kernel
theorem dX3_restore_15 : decode cX3_restore 15 = .ok (.getfield 24, 3) := by decide +kernel
theorem dX3_restore_18 : decode cX3_restore 18 = .ok (.iload_n 1, 1) := by decide +kernel
theorem dX3_restore_19 : decode cX3_restore 19 = .ok (.baload, 1) := by decide +kernel
theorem dX3_restore_20 : decode cX3_restore 20 = .ok (.bastore, 1) := by decide +kernel
theorem dX3_restore_21 : decode cX3_restore 21 = .ok (.iinc 1 1, 3) := by decide +kernel
theorem dX3_restore_24 : decode cX3_restore 24 = .ok (.goto (-22), 3) := by decide +kernel
theorem dX3_restore_27 : decode cX3_restore 27 = .ok (.iconst 0, 1) := by decide +kernel
theorem dX3_restore_28 : decode cX3_restore 28 = .ok (.istore_n 1, 1) := by decide +kernel
theorem dX3_restore_29 : decode cX3_restore 29 = .ok (.iload_n 1, 1) := by decide +kernel
theorem dX3_restore_30 : decode cX3_restore 30 = .ok (.bipush 8, 2) := by decide +kernel
theorem dX3_restore_32 : decode cX3_restore 32 = .ok (.if_icmp .ge 33, 3) := by decide +kernel
theorem dX3_restore_35 : decode cX3_restore 35 = .ok (.aload_n 0, 1) := by decide +kernel
theorem dX3_restore_36 : decode cX3_restore 36 = .ok (.getfield 13, 3) := by decide +kernel
theorem dX3_restore_39 : decode cX3_restore 39 = .ok (.iload_n 1, 1) := by decide +kernel
theorem dX3_restore_40 : decode cX3_restore 40 = .ok (.aload_n 0, 1) := by decide +kernel
theorem dX3_restore_41 : decode cX3_restore 41 = .ok (.getfield 27, 3) := by decide +kernel
theorem dX3_restore_44 : decode cX3_restore 44 = .ok (.iload_n 1, 1) := by decide +kernel
theorem dX3_restore_45 : decode cX3_restore 45 = .ok (.iaload, 1) := by decide +kernel
theorem dX3_restore_46 : decode cX3_restore 46 = .ok (.iastore, 1) := by decide +kernel
theorem dX3_restore_47 : decode cX3_restore 47 = .ok (.aload_n 0, 1) := by decide +kernel
theorem dX3_restore_48 : decode cX3_restore 48 = .ok (.getfield 17, 3) := by decide +kernel
theorem dX3_restore_51 : decode cX3_restore 51 = .ok (.iload_n 1, 1) := by decide +kernel
theorem dX3_restore_52 : decode cX3_restore 52 = .ok (.aload_n 0, 1) := by decide +kernel
theorem dX3_restore_53 : decode cX3_restore 53 = .ok (.getfield 30, 3) := by decide +kernel
theorem dX3_restore_56 : decode cX3_restore 56 = .ok (.iload_n 1, 1) := by decide +kernel
theorem dX3_restore_57 : decode cX3_restore 57 = .ok (.laload, 1) := by decide +kernel
theorem dX3_restore_58 : decode cX3_restore 58 = .ok (.lastore, 1) := by decide +kernel
theorem dX3_restore_59 : decode cX3_restore 59 = .ok (.iinc 1 1, 3) := by decide +kernel
theorem dX3_restore_62 : decode cX3_restore 62 = .ok (.goto (-33), 3) := by decide +kernel
theorem dX3_restore_65 : decode cX3_restore 65 = .ok (.iconst 0, 1) := by decide +kernel
theorem dX3_restore_66 : decode cX3_restore 66 = .ok (.istore_n 1, 1) := by decide +kernel
theorem dX3_restore_67 : decode cX3_restore 67 = .ok (.iload_n 1, 1) := by decide +kernel
theorem dX3_restore_68 : decode cX3_restore 68 = .ok (.bipush 20, 2) := by decide +kernel
theorem dX3_restore_70 : decode cX3_restore 70 = .ok (.if_icmp .ge 21, 3) := by decide +kernel
theorem dX3_restore_73 : decode cX3_restore 73 = .ok (.aload_n 0, 1) := by decide +kernel
theorem dX3_restore_74 : decode cX3_restore 74 = .ok (.getfield 21, 3) := by decide +kernel
theorem dX3_restore_77 : decode cX3_restore 77 = .ok (.iload_n 1, 1) := by decide +kernel
theorem dX3_restore_78 : decode cX3_restore 78 = .ok (.aload_n 0, 1) := by decide +kernel
theorem dX3_restore_79 : decode cX3_restore 79 = .ok (.getfield 33, 3) := by decide +kernel
theorem dX3_restore_82 : decode cX3_restore 82 = .ok (.iload_n 1, 1) := by decide +kernel
theorem dX3_restore_83 : decode cX3_restore 83 = .ok (.laload, 1) := by decide +kernel
theorem dX3_restore_84 : decode cX3_restore 84 = .ok (.lastore, 1) := by decide +kernel
theorem dX3_restore_85 : decode cX3_restore 85 = .ok (.iinc 1 1, 3) := by decide +kernel
theorem dX3_restore_88 : decode cX3_restore 88 = .ok (.goto (-21), 3) := by decide +kernel
theorem dX3_restore_91 : decode cX3_restore 91 = .ok (.aload_n 0, 1) := by decide +kernel
theorem dX3_restore_92 : decode cX3_restore 92 = .ok (.aload_n 0, 1) := by decide +kernel
theorem dX3_restore_93 : decode cX3_restore 93 = .ok (.getfield 82, 3) := by decide +kernel
theorem dX3_restore_96 : decode cX3_restore 96 = .ok (.putfield 61, 3) := by decide +kernel
theorem dX3_restore_99 : decode cX3_restore 99 = .ok (.return_, 1) := by decide +kernel
theorem dX3_take_0 : decode cX3_take 0 = .ok (.aload_n 0, 1) := by decide +kernel
theorem dX3_take_1 : decode cX3_take 1 = .ok (.getfield 17, 3) := by decide +kernel
theorem dX3_take_4 : decode cX3_take 4 = .ok (.iload_n 1, 1) := by decide +kernel
theorem dX3_take_5 : decode cX3_take 5 = .ok (.dup2, 1) := by decide +kernel
theorem dX3_take_6 : decode cX3_take 6 = .ok (.laload, 1) := by decide +kernel
theorem dX3_take_7 : decode cX3_take 7 = .ok (.aload_n 0, 1) := by decide +kernel
theorem dX3_take_8 : decode cX3_take 8 = .ok (.getfield 21, 3) := by decide +kernel
theorem dX3_take_11 : decode cX3_take 11 = .ok (.iconst 0, 1) := by decide +kernel
theorem dX3_take_12 : decode cX3_take 12 = .ok (.laload, 1) := by decide +kernel
theorem dX3_take_13 : decode cX3_take 13 = .ok (.ladd, 1) := by decide +kernel
theorem dX3_take_14 : decode cX3_take 14 = .ok (.lastore, 1) := by decide +kernel
theorem dX3_take_15 : decode cX3_take 15 = .ok (.aload_n 0, 1) := by decide +kernel
theorem dX3_take_16 : decode cX3_take 16 = .ok (.dup, 1) := by decide +kernel
theorem dX3_take_17 : decode cX3_take 17 = .ok (.getfield 61, 3) := by decide +kernel
theorem dX3_take_20 : decode cX3_take 20 = .ok (.iconst 1, 1) := by decide +kernel
theorem dX3_take_21 : decode cX3_take 21 = .ok (.isub, 1) := by decide +kernel
theorem dX3_take_22 : decode cX3_take 22 = .ok (.putfield 61, 3) := by decide +kernel
theorem dX3_take_25 : decode cX3_take 25 = .ok (.iconst 0, 1) := by decide +kernel
theorem dX3_take_26 : decode cX3_take 26 = .ok (.istore_n 2, 1) := by decide +kernel
theorem dX3_take_27 : decode cX3_take 27 = .ok (.iload_n 2, 1) := by decide +kernel
theorem dX3_take_28 : decode cX3_take 28 = .ok (.aload_n 0, 1) := by decide +kernel
theorem dX3_take_29 : decode cX3_take 29 = .ok (.getfield 61, 3) := by decide +kernel
theorem dX3_take_32 : decode cX3_take 32 = .ok (.if_icmp .ge 23, 3) := by decide +kernel
theorem dX3_take_35 : decode cX3_take 35 = .ok (.aload_n 0, 1) := by decide +kernel
theorem dX3_take_36 : decode cX3_take 36 = .ok (.getfield 21, 3) := by decide +kernel
theorem dX3_take_39 : decode cX3_take 39 = .ok (.iload_n 2, 1) := by decide +kernel
theorem dX3_take_40 : decode cX3_take 40 = .ok (.aload_n 0, 1) := by decide +kernel
theorem dX3_take_41 : decode cX3_take 41 = .ok (.getfield 21, 3) := by decide +kernel
theorem dX3_take_44 : decode cX3_take 44 = .ok (.iload_n 2, 1) := by decide +kernel
theorem dX3_take_45 : decode cX3_take 45 = .ok (.iconst 1, 1) := by decide +kernel
theorem dX3_take_46 : decode cX3_take 46 = .ok (.iadd, 1) := by decide +kernel
theorem dX3_take_47 : decode cX3_take 47 = .ok (.laload, 1) := by decide +kernel
theorem dX3_take_48 : decode cX3_take 48 = .ok (.lastore, 1) := by decide +kernel
theorem dX3_take_49 : decode cX3_take 49 = .ok (.iinc 2 1, 3) := by decide +kernel
theorem dX3_take_52 : decode cX3_take 52 = .ok (.goto (-25), 3) := by decide +kernel
theorem dX3_take_55 : decode cX3_take 55 = .ok (.return_, 1) := by decide +kernel
set_option maxRecDepth 20000 in
theorem ggX3_does_X3_makes : GoodIn wsX3_does wsX3_makes := goodIn_r _ [12, 13, 14, 39, 40, 41, 42, 43, 44, 45, 46, 47, 48, 49, 50, 51, 52, 53, 54, 55, 56, 57, 58, 59] (by decide +kernel) (by decide +kernel)
set_option maxRecDepth 20000 in
theorem gX3_does_X3_makes : GoodIn wsX3_does (wsV RX3 71 RX3 yX3_makes wsX3_makes) := goodIn_app (goodIn_of _ (by decide +kernel)) ggX3_does_X3_makes
set_option maxRecDepth 20000 in
theorem ggX3_does_X3_greatest : GoodIn wsX3_does wsX3_greatest := goodIn_r _ [18, 14, 39, 40, 41, 42, 43, 44, 45, 46, 47, 48, 49, 50, 51, 52, 53, 54, 55, 56, 57, 58, 59] (by decide +kernel) (by decide +kernel)
set_option maxRecDepth 20000 in
theorem gX3_does_X3_greatest : GoodIn wsX3_does (wsV RX3 85 RX3 yX3_greatest wsX3_greatest) := goodIn_app (goodIn_of _ (by decide +kernel)) ggX3_does_X3_greatest
set_option maxRecDepth 20000 in
theorem ggX3_does_X3_drops : GoodIn wsX3_does wsX3_drops := goodIn_r _ [22, 14, 23, 24, 25, 11, 26, 27, 28, 29, 39, 40, 41, 42, 43, 44, 45, 46, 47, 48, 49, 50, 51, 52, 53, 54, 55, 56, 57, 58, 59] (by decide +kernel) (by decide +kernel)
set_option maxRecDepth 20000 in
theorem gX3_does_X3_drops : GoodIn wsX3_does (wsV RX3 79 RX3 yX3_drops wsX3_drops) := goodIn_app (goodIn_of _ (by decide +kernel)) ggX3_does_X3_drops
set_option maxRecDepth 20000 in
theorem ggX3_does_X3_take : GoodIn wsX3_does wsX3_take := goodIn_r _ [33, 3, 34, 4, 39, 40, 41, 42, 43, 44, 45, 46, 47, 48, 49, 50, 51, 52, 53, 54, 55, 56, 57, 58, 59] (by decide +kernel) (by decide +kernel)
set_option maxRecDepth 20000 in
theorem gX3_does_X3_take : GoodIn wsX3_does (wsV RX3 88 RX3 yX3_take wsX3_take) := goodIn_app (goodIn_of _ (by decide +kernel)) ggX3_does_X3_take
set_option maxRecDepth 20000 in
theorem ggX3_does_X3_many : GoodIn wsX3_does wsX3_many := goodIn_r _ [38, 14, 39, 40, 41, 42, 43, 44, 45, 46, 47, 48, 49, 50, 51, 52, 53, 54, 55, 56, 57, 58, 59] (by decide +kernel) (by decide +kernel)
set_option maxRecDepth 20000 in
theorem gX3_does_X3_many : GoodIn wsX3_does (wsV RX3 98 RX3 yX3_many wsX3_many) := goodIn_app (goodIn_of _ (by decide +kernel)) ggX3_does_X3_many
theorem dX3_does_0 : decode cX3_does 0 = .ok (.aload_n 0, 1) := by decide +kernel
theorem dX3_does_1 : decode cX3_does 1 = .ok (.getfield 42, 3) := by decide +kernel
theorem dX3_does_4 : decode cX3_does 4 = .ok (.bipush 6, 2) := by decide +kernel
theorem dX3_does_6 : decode cX3_does 6 = .ok (.iload_n 1, 1) := by decide +kernel
theorem dX3_does_7 : decode cX3_does 7 = .ok (.imul, 1) := by decide +kernel
theorem dX3_does_8 : decode cX3_does 8 = .ok (.iload_n 2, 1) := by decide +kernel
theorem dX3_does_9 : decode cX3_does 9 = .ok (.iadd, 1) := by decide +kernel
theorem dX3_does_10 : decode cX3_does 10 = .ok (.iaload, 1) := by decide +kernel
theorem dX3_does_11 : decode cX3_does 11 = .ok (.istore 6, 2) := by decide +kernel
theorem dX3_does_13 : decode cX3_does 13 = .ok (.aload_n 0, 1) := by decide +kernel
theorem dX3_does_14 : decode cX3_does 14 = .ok (.getfield 39, 3) := by decide +kernel
theorem dX3_does_17 : decode cX3_does 17 = .ok (.bipush 6, 2) := by decide +kernel
theorem dX3_does_19 : decode cX3_does 19 = .ok (.iload_n 1, 1) := by decide +kernel
theorem dX3_does_20 : decode cX3_does 20 = .ok (.imul, 1) := by decide +kernel
theorem dX3_does_21 : decode cX3_does 21 = .ok (.iload_n 2, 1) := by decide +kernel
theorem dX3_does_22 : decode cX3_does 22 = .ok (.iadd, 1) := by decide +kernel
theorem dX3_does_23 : decode cX3_does 23 = .ok (.iaload, 1) := by decide +kernel
theorem dX3_does_24 : decode cX3_does 24 = .ok (.tableswitch 155 0 5 #[40, 57, 79, 93, 111, 133], 40) := by decide +kernel
theorem dX3_does_64 : decode cX3_does 64 = .ok (.aload_n 0, 1) := by decide +kernel
theorem dX3_does_65 : decode cX3_does 65 = .ok (.iload 6, 2) := by decide +kernel
theorem dX3_does_67 : decode cX3_does 67 = .ok (.invokevirtual 71, 3) := by decide +kernel
theorem dX3_does_70 : decode cX3_does 70 = .ok (.iconst (-1), 1) := by decide +kernel
theorem dX3_does_71 : decode cX3_does 71 = .ok (.if_icmp .ne 8, 3) := by decide +kernel
theorem dX3_does_74 : decode cX3_does 74 = .ok (.bipush 6, 2) := by decide +kernel
theorem dX3_does_76 : decode cX3_does 76 = .ok (.goto 4, 3) := by decide +kernel
theorem dX3_does_79 : decode cX3_does 79 = .ok (.iconst 0, 1) := by decide +kernel
theorem dX3_does_80 : decode cX3_does 80 = .ok (.ireturn, 1) := by decide +kernel
theorem dX3_does_81 : decode cX3_does 81 = .ok (.aload_n 0, 1) := by decide +kernel
theorem dX3_does_82 : decode cX3_does 82 = .ok (.iload 6, 2) := by decide +kernel
theorem dX3_does_84 : decode cX3_does 84 = .ok (.aload_n 0, 1) := by decide +kernel
theorem dX3_does_85 : decode cX3_does 85 = .ok (.iload 6, 2) := by decide +kernel
theorem dX3_does_87 : decode cX3_does 87 = .ok (.invokevirtual 85, 3) := by decide +kernel
theorem dX3_does_90 : decode cX3_does 90 = .ok (.invokevirtual 79, 3) := by decide +kernel
theorem dX3_does_93 : decode cX3_does 93 = .ok (.ifCond .eq 7, 3) := by decide +kernel
theorem dX3_does_96 : decode cX3_does 96 = .ok (.iconst 0, 1) := by decide +kernel
theorem dX3_does_97 : decode cX3_does 97 = .ok (.goto 5, 3) := by decide +kernel
theorem dX3_does_100 : decode cX3_does 100 = .ok (.bipush 7, 2) := by decide +kernel
theorem dX3_does_102 : decode cX3_does 102 = .ok (.ireturn, 1) := by decide +kernel
theorem dX3_does_103 : decode cX3_does 103 = .ok (.aload_n 0, 1) := by decide +kernel
theorem dX3_does_104 : decode cX3_does 104 = .ok (.getfield 17, 3) := by decide +kernel
theorem dX3_does_107 : decode cX3_does 107 = .ok (.iload 6, 2) := by decide +kernel
theorem dX3_does_109 : decode cX3_does 109 = .ok (.dup2, 1) := by decide +kernel
theorem dX3_does_110 : decode cX3_does 110 = .ok (.laload, 1) := by decide +kernel
theorem dX3_does_111 : decode cX3_does 111 = .ok (.lload 4, 2) := by decide +kernel
theorem dX3_does_113 : decode cX3_does 113 = .ok (.ladd, 1) := by decide +kernel
theorem dX3_does_114 : decode cX3_does 114 = .ok (.lastore, 1) := by decide +kernel
theorem dX3_does_115 : decode cX3_does 115 = .ok (.iconst 0, 1) := by decide +kernel
theorem dX3_does_116 : decode cX3_does 116 = .ok (.ireturn, 1) := by decide +kernel
theorem dX3_does_117 : decode cX3_does 117 = .ok (.aload_n 0, 1) := by decide +kernel
theorem dX3_does_118 : decode cX3_does 118 = .ok (.getfield 61, 3) := by decide +kernel
theorem dX3_does_121 : decode cX3_does 121 = .ok (.ifCond .ne 6, 3) := by decide +kernel
theorem dX3_does_124 : decode cX3_does 124 = .ok (.bipush 8, 2) := by decide +kernel
theorem dX3_does_126 : decode cX3_does 126 = .ok (.ireturn, 1) := by decide +kernel
theorem dX3_does_127 : decode cX3_does 127 = .ok (.aload_n 0, 1) := by decide +kernel
theorem dX3_does_128 : decode cX3_does 128 = .ok (.iload 6, 2) := by decide +kernel
theorem dX3_does_130 : decode cX3_does 130 = .ok (.invokevirtual 88, 3) := by decide +kernel
theorem dX3_does_133 : decode cX3_does 133 = .ok (.iconst 0, 1) := by decide +kernel
theorem dX3_does_134 : decode cX3_does 134 = .ok (.ireturn, 1) := by decide +kernel
theorem dX3_does_135 : decode cX3_does 135 = .ok (.aload_n 0, 1) := by decide +kernel
theorem dX3_does_136 : decode cX3_does 136 = .ok (.ldc2_w 92, 3) := by decide +kernel
theorem dX3_does_139 : decode cX3_does 139 = .ok (.aload_n 0, 1) := by decide +kernel
theorem dX3_does_140 : decode cX3_does 140 = .ok (.getfield 94, 3) := by decide +kernel
theorem dX3_does_143 : decode cX3_does 143 = .ok (.lmul, 1) := by decide +kernel
theorem dX3_does_144 : decode cX3_does 144 = .ok (.aload_n 0, 1) := by decide +kernel
theorem dX3_does_145 : decode cX3_does 145 = .ok (.getfield 17, 3) := by decide +kernel
theorem dX3_does_148 : decode cX3_does 148 = .ok (.iload 6, 2) := by decide +kernel
theorem dX3_does_150 : decode cX3_does 150 = .ok (.laload, 1) := by decide +kernel
theorem dX3_does_151 : decode cX3_does 151 = .ok (.ladd, 1) := by decide +kernel
theorem dX3_does_152 : decode cX3_does 152 = .ok (.putfield 94, 3) := by decide +kernel
theorem dX3_does_155 : decode cX3_does 155 = .ok (.iconst 0, 1) := by decide +kernel
theorem dX3_does_156 : decode cX3_does 156 = .ok (.ireturn, 1) := by decide +kernel
theorem dX3_does_157 : decode cX3_does 157 = .ok (.aload_n 0, 1) := by decide +kernel
theorem dX3_does_158 : decode cX3_does 158 = .ok (.ldc2_w 92, 3) := by decide +kernel
theorem dX3_does_161 : decode cX3_does 161 = .ok (.aload_n 0, 1) := by decide +kernel
theorem dX3_does_162 : decode cX3_does 162 = .ok (.getfield 94, 3) := by decide +kernel
theorem dX3_does_165 : decode cX3_does 165 = .ok (.lmul, 1) := by decide +kernel
theorem dX3_does_166 : decode cX3_does 166 = .ok (.aload_n 0, 1) := by decide +kernel
theorem dX3_does_167 : decode cX3_does 167 = .ok (.iload 6, 2) := by decide +kernel
theorem dX3_does_169 : decode cX3_does 169 = .ok (.invokevirtual 98, 3) := by decide +kernel
theorem dX3_does_172 : decode cX3_does 172 = .ok (.i2l, 1) := by decide +kernel
theorem dX3_does_173 : decode cX3_does 173 = .ok (.ladd, 1) := by decide +kernel
theorem dX3_does_174 : decode cX3_does 174 = .ok (.putfield 94, 3) := by decide +kernel
theorem dX3_does_177 : decode cX3_does 177 = .ok (.iconst 0, 1) := by decide +kernel
theorem dX3_does_178 : decode cX3_does 178 = .ok (.ireturn, 1) := by decide +kernel
theorem dX3_does_179 : decode cX3_does 179 = .ok (.aload_n 0, 1) := by decide +kernel
theorem dX3_does_180 : decode cX3_does 180 = .ok (.getfield 36, 3) := by decide +kernel
theorem dX3_does_183 : decode cX3_does 183 = .ok (.iload_n 1, 1) := by decide +kernel
theorem dX3_does_184 : decode cX3_does 184 = .ok (.iaload, 1) := by decide +kernel
theorem dX3_does_185 : decode cX3_does 185 = .ok (.iconst (-1), 1) := by decide +kernel
theorem dX3_does_186 : decode cX3_does 186 = .ok (.if_icmp .eq 21, 3) := by decide +kernel
theorem dX3_does_189 : decode cX3_does 189 = .ok (.aload_n 0, 1) := by decide +kernel
theorem dX3_does_190 : decode cX3_does 190 = .ok (.aload_n 0, 1) := by decide +kernel
theorem dX3_does_191 : decode cX3_does 191 = .ok (.getfield 36, 3) := by decide +kernel
theorem dX3_does_194 : decode cX3_does 194 = .ok (.iload_n 1, 1) := by decide +kernel
theorem dX3_does_195 : decode cX3_does 195 = .ok (.iaload, 1) := by decide +kernel
theorem dX3_does_196 : decode cX3_does 196 = .ok (.iload_n 3, 1) := by decide +kernel
theorem dX3_does_197 : decode cX3_does 197 = .ok (.invokevirtual 79, 3) := by decide +kernel
theorem dX3_does_200 : decode cX3_does 200 = .ok (.ifCond .eq 7, 3) := by decide +kernel
theorem dX3_does_203 : decode cX3_does 203 = .ok (.iconst 0, 1) := by decide +kernel
theorem dX3_does_204 : decode cX3_does 204 = .ok (.goto 5, 3) := by decide +kernel
theorem dX3_does_207 : decode cX3_does 207 = .ok (.bipush 7, 2) := by decide +kernel
theorem dX3_does_209 : decode cX3_does 209 = .ok (.ireturn, 1) := by decide +kernel
set_option maxRecDepth 20000 in
theorem ggX3_done_X3_keep : GoodIn wsX3_done wsX3_keep := goodIn_r _ [11, 12, 13, 14, 15, 16, 17, 18, 19, 20, 21, 61, 62, 63, 64, 65, 66, 67, 68, 69, 70, 71, 72, 73, 74, 75, 76, 77, 78, 79, 80, 81] (by decide +kernel) (by decide +kernel)
set_option maxRecDepth 20000 in
theorem gX3_done_X3_keep : GoodIn wsX3_done (wsV RX3 101 RX3 yX3_keep wsX3_keep) := goodIn_app (goodIn_of _ (by decide +kernel)) ggX3_done_X3_keep
set_option maxRecDepth 20000 in
theorem ggX3_done_X3_does : GoodIn wsX3_done wsX3_does := goodIn_r _ [25, 26, 27, 17, 20, 28, 1, 29, 30, 31, 32, 10, 33, 15, 13, 34, 35, 36, 37, 38, 39, 40, 41, 42, 43, 44, 45, 46, 47, 48, 49, 50, 51, 52, 19, 53, 54, 55, 56, 61, 62, 63, 64, 65, 66, 67, 68, 69, 70, 71, 72, 73, 74, 75, 76, 77, 78, 79, 80, 81] (by decide +kernel) (by decide +kernel)
set_option maxRecDepth 20000 in
theorem gX3_done_X3_does : GoodIn wsX3_done (wsV RX3 110 RX3 yX3_does wsX3_does) := goodIn_app (goodIn_of _ (by decide +kernel)) ggX3_done_X3_does
set_option maxRecDepth 20000 in
theorem ggX3_done_X3_restore : GoodIn wsX3_done wsX3_restore := goodIn_r _ [60, 13, 12, 15, 14, 17, 16, 19, 18, 21, 20, 61, 62, 63, 64, 65, 66, 67, 68, 69, 70, 71, 72, 73, 74, 75, 76, 77, 78, 79, 80, 81] (by decide +kernel) (by decide +kernel)
set_option maxRecDepth 20000 in
theorem gX3_done_X3_restore : GoodIn wsX3_done (wsV RX3 114 RX3 yX3_restore wsX3_restore) := goodIn_app (goodIn_of _ (by decide +kernel)) ggX3_done_X3_restore
theorem dX3_done_0 : decode cX3_done 0 = .ok (.aload_n 0, 1) := by decide +kernel
theorem dX3_done_1 : decode cX3_done 1 = .ok (.invokevirtual 101, 3) := by decide +kernel
theorem dX3_done_4 : decode cX3_done 4 = .ok (.aload_n 0, 1) := by decide +kernel
theorem dX3_done_5 : decode cX3_done 5 = .ok (.lload_n 3, 1) := by decide +kernel
theorem dX3_done_6 : decode cX3_done 6 = .ok (.putfield 94, 3) := by decide +kernel
theorem dX3_done_9 : decode cX3_done 9 = .ok (.aload_n 0, 1) := by decide +kernel
theorem dX3_done_10 : decode cX3_done 10 = .ok (.iconst 0, 1) := by decide +kernel
theorem dX3_done_11 : decode cX3_done 11 = .ok (.putfield 104, 3) := by decide +kernel
theorem dX3_done_14 : decode cX3_done 14 = .ok (.iconst 0, 1) := by decide +kernel
theorem dX3_done_15 : decode cX3_done 15 = .ok (.istore 5, 2) := by decide +kernel
theorem dX3_done_17 : decode cX3_done 17 = .ok (.iload 5, 2) := by decide +kernel
theorem dX3_done_19 : decode cX3_done 19 = .ok (.aload_n 0, 1) := by decide +kernel
theorem dX3_done_20 : decode cX3_done 20 = .ok (.getfield 45, 3) := by decide +kernel
theorem dX3_done_23 : decode cX3_done 23 = .ok (.iload_n 1, 1) := by decide +kernel
theorem dX3_done_24 : decode cX3_done 24 = .ok (.iaload, 1) := by decide +kernel
theorem dX3_done_25 : decode cX3_done 25 = .ok (.if_icmp .ge 55, 3) := by decide +kernel
theorem dX3_done_28 : decode cX3_done 28 = .ok (.aload_n 0, 1) := by decide +kernel
theorem dX3_done_29 : decode cX3_done 29 = .ok (.getfield 104, 3) := by decide +kernel
theorem dX3_done_32 : decode cX3_done 32 = .ok (.ifCond .ne 48, 3) := by decide +kernel
theorem dX3_done_35 : decode cX3_done 35 = .ok (.aload_n 0, 1) := by decide +kernel
theorem dX3_done_36 : decode cX3_done 36 = .ok (.iload 5, 2) := by decide +kernel
theorem dX3_done_38 : decode cX3_done 38 = .ok (.putfield 107, 3) := by decide +kernel
theorem dX3_done_41 : decode cX3_done 41 = .ok (.aload_n 0, 1) := by decide +kernel
theorem dX3_done_42 : decode cX3_done 42 = .ok (.aload_n 0, 1) := by decide +kernel
theorem dX3_done_43 : decode cX3_done 43 = .ok (.getfield 48, 3) := by decide +kernel
theorem dX3_done_46 : decode cX3_done 46 = .ok (.iload_n 1, 1) := by decide +kernel
theorem dX3_done_47 : decode cX3_done 47 = .ok (.iaload, 1) := by decide +kernel
theorem dX3_done_48 : decode cX3_done 48 = .ok (.iload 5, 2) := by decide +kernel
theorem dX3_done_50 : decode cX3_done 50 = .ok (.if_icmp .ne 12, 3) := by decide +kernel
theorem dX3_done_53 : decode cX3_done 53 = .ok (.aload_n 0, 1) := by decide +kernel
theorem dX3_done_54 : decode cX3_done 54 = .ok (.getfield 51, 3) := by decide +kernel
theorem dX3_done_57 : decode cX3_done 57 = .ok (.iload_n 1, 1) := by decide +kernel
theorem dX3_done_58 : decode cX3_done 58 = .ok (.iaload, 1) := by decide +kernel
theorem dX3_done_59 : decode cX3_done 59 = .ok (.goto 12, 3) := by decide +kernel
theorem dX3_done_62 : decode cX3_done 62 = .ok (.aload_n 0, 1) := by decide +kernel
theorem dX3_done_63 : decode cX3_done 63 = .ok (.iload_n 1, 1) := by decide +kernel
theorem dX3_done_64 : decode cX3_done 64 = .ok (.iload 5, 2) := by decide +kernel
theorem dX3_done_66 : decode cX3_done 66 = .ok (.iload_n 2, 1) := by decide +kernel
theorem dX3_done_67 : decode cX3_done 67 = .ok (.lload_n 3, 1) := by decide +kernel
theorem dX3_done_68 : decode cX3_done 68 = .ok (.invokevirtual 110, 3) := by decide +kernel
theorem dX3_done_71 : decode cX3_done 71 = .ok (.putfield 104, 3) := by decide +kernel
theorem dX3_done_74 : decode cX3_done 74 = .ok (.iinc 5 1, 3) := by decide +kernel
theorem dX3_done_77 : decode cX3_done 77 = .ok (.goto (-60), 3) := by decide +kernel
theorem dX3_done_80 : decode cX3_done 80 = .ok (.aload_n 0, 1) := by decide +kernel
theorem dX3_done_81 : decode cX3_done 81 = .ok (.getfield 104, 3) := by decide +kernel
theorem dX3_done_84 : decode cX3_done 84 = .ok (.ifCond .eq 7, 3) := by decide +kernel
theorem dX3_done_87 : decode cX3_done 87 = .ok (.aload_n 0, 1) := by decide +kernel
theorem dX3_done_88 : decode cX3_done 88 = .ok (.invokevirtual 114, 3) := by decide +kernel
theorem dX3_done_91 : decode cX3_done 91 = .ok (.aload_n 0, 1) := by decide +kernel
theorem dX3_done_92 : decode cX3_done 92 = .ok (.getfield 104, 3) := by decide +kernel
theorem dX3_done_95 : decode cX3_done 95 = .ok (.ifCond .ne 7, 3) := by decide +kernel
theorem dX3_done_98 : decode cX3_done 98 = .ok (.iconst 1, 1) := by decide +kernel
theorem dX3_done_99 : decode cX3_done 99 = .ok (.goto 4, 3) := by decide +kernel
theorem dX3_done_102 : decode cX3_done 102 = .ok (.iconst 0, 1) := by decide +kernel
theorem dX3_done_103 : decode cX3_done 103 = .ok (.ireturn, 1) := by decide +kernel
set_option maxRecDepth 20000 in
theorem ggX3_may_X3_isCall : GoodIn wsX3_may wsX3_isCall := goodIn_r _ [5] (by decide +kernel) (by decide +kernel)
set_option maxRecDepth 20000 in
theorem gX3_may_X3_isCall : GoodIn wsX3_may (va_wsS RX3 64 yX3_isCall wsX3_isCall) := goodIn_app (goodIn_of _ (by decide +kernel)) ggX3_may_X3_isCall
set_option maxRecDepth 20000 in
theorem ggX3_may_X3_isHere : GoodIn wsX3_may wsX3_isHere := goodIn_r _ [9, 10, 11, 12, 4, 13, 14, 15, 16, 17, 18, 19, 20, 21, 22, 23, 24, 25, 26, 27, 28, 29, 30, 31, 32, 33, 34] (by decide +kernel) (by decide +kernel)
set_option maxRecDepth 20000 in
theorem gX3_may_X3_isHere : GoodIn wsX3_may (wsV RX3 75 RX3 yX3_isHere wsX3_isHere) := goodIn_app (goodIn_of _ (by decide +kernel)) ggX3_may_X3_isHere
theorem dX3_may_0 : decode cX3_may 0 = .ok (.iload_n 1, 1) := by decide +kernel
theorem dX3_may_1 : decode cX3_may 1 = .ok (.invokestatic 64, 3) := by decide +kernel
theorem dX3_may_4 : decode cX3_may 4 = .ok (.ifCond .eq 31, 3) := by decide +kernel
theorem dX3_may_7 : decode cX3_may 7 = .ok (.aload_n 0, 1) := by decide +kernel
theorem dX3_may_8 : decode cX3_may 8 = .ok (.getfield 36, 3) := by decide +kernel
theorem dX3_may_11 : decode cX3_may 11 = .ok (.iload_n 1, 1) := by decide +kernel
theorem dX3_may_12 : decode cX3_may 12 = .ok (.iaload, 1) := by decide +kernel
theorem dX3_may_13 : decode cX3_may 13 = .ok (.iconst (-1), 1) := by decide +kernel
theorem dX3_may_14 : decode cX3_may 14 = .ok (.if_icmp .eq 17, 3) := by decide +kernel
theorem dX3_may_17 : decode cX3_may 17 = .ok (.aload_n 0, 1) := by decide +kernel
theorem dX3_may_18 : decode cX3_may 18 = .ok (.aload_n 0, 1) := by decide +kernel
theorem dX3_may_19 : decode cX3_may 19 = .ok (.getfield 36, 3) := by decide +kernel
theorem dX3_may_22 : decode cX3_may 22 = .ok (.iload_n 1, 1) := by decide +kernel
theorem dX3_may_23 : decode cX3_may 23 = .ok (.iaload, 1) := by decide +kernel
theorem dX3_may_24 : decode cX3_may 24 = .ok (.iload_n 2, 1) := by decide +kernel
theorem dX3_may_25 : decode cX3_may 25 = .ok (.invokevirtual 75, 3) := by decide +kernel
theorem dX3_may_28 : decode cX3_may 28 = .ok (.ifCond .eq 7, 3) := by decide +kernel
theorem dX3_may_31 : decode cX3_may 31 = .ok (.iconst 1, 1) := by decide +kernel
theorem dX3_may_32 : decode cX3_may 32 = .ok (.goto 4, 3) := by decide +kernel
theorem dX3_may_35 : decode cX3_may 35 = .ok (.iconst 0, 1) := by decide +kernel
theorem dX3_may_36 : decode cX3_may 36 = .ok (.ireturn, 1) := by decide +kernel
set_option maxRecDepth 20000 in
theorem ggX3_call_X3_may : GoodIn wsX3_call wsX3_may := goodIn_r _ [13, 14, 15, 16, 12, 17, 18, 19, 20, 21, 22, 23, 24, 25, 76, 77, 78, 79, 80, 81, 82, 83, 84, 85, 86, 87, 88, 89, 90, 91, 92, 93, 94, 95, 96] (by decide +kernel) (by decide +kernel)
set_option maxRecDepth 20000 in
theorem gX3_call_X3_may : GoodIn wsX3_call (wsV RX3 117 RX3 yX3_may wsX3_may) := goodIn_app (goodIn_of _ (by decide +kernel)) ggX3_call_X3_may
set_option maxRecDepth 20000 in
theorem ggX3_call_X3_done : GoodIn wsX3_call wsX3_done := goodIn_r _ [29, 4, 5, 30, 6, 7, 31, 32, 33, 34, 12, 35, 36, 22, 37, 38, 39, 40, 41, 42, 43, 44, 45, 46, 47, 48, 49, 50, 51, 14, 52, 53, 54, 55, 56, 57, 58, 59, 60, 61, 62, 63, 18, 19, 20, 21, 23, 24, 25, 64, 65, 66, 67, 68, 69, 70, 71, 72, 73, 74, 75, 76, 77, 78, 79, 80, 81, 82, 83, 84, 85, 86, 87, 88, 89, 90, 91, 92, 93, 94, 95, 96] (by decide +kernel) (by decide +kernel)
set_option maxRecDepth 20000 in
theorem gX3_call_X3_done : GoodIn wsX3_call (wsV RX3 122 RX3 yX3_done wsX3_done) := goodIn_app (goodIn_of _ (by decide +kernel)) ggX3_call_X3_done
theorem dX3_call_0 : decode cX3_call 0 = .ok (.aload_n 0, 1) := by decide +kernel
theorem dX3_call_1 : decode cX3_call 1 = .ok (.iconst 0, 1) := by decide +kernel
theorem dX3_call_2 : decode cX3_call 2 = .ok (.putfield 57, 3) := by decide +kernel
theorem dX3_call_5 : decode cX3_call 5 = .ok (.aload_n 0, 1) := by decide +kernel
theorem dX3_call_6 : decode cX3_call 6 = .ok (.iload_n 1, 1) := by decide +kernel
theorem dX3_call_7 : decode cX3_call 7 = .ok (.iload_n 2, 1) := by decide +kernel
theorem dX3_call_8 : decode cX3_call 8 = .ok (.invokevirtual 117, 3) := by decide +kernel
theorem dX3_call_11 : decode cX3_call 11 = .ok (.ifCond .ne 17, 3) := by decide +kernel
theorem dX3_call_14 : decode cX3_call 14 = .ok (.aload_n 0, 1) := by decide +kernel
theorem dX3_call_15 : decode cX3_call 15 = .ok (.getfield 54, 3) := by decide +kernel
theorem dX3_call_18 : decode cX3_call 18 = .ok (.iconst 1, 1) := by decide +kernel
theorem dX3_call_19 : decode cX3_call 19 = .ok (.dup2, 1) := by decide +kernel
theorem dX3_call_20 : decode cX3_call 20 = .ok (.iaload, 1) := by decide +kernel
theorem dX3_call_21 : decode cX3_call 21 = .ok (.iconst 1, 1) := by decide +kernel
theorem dX3_call_22 : decode cX3_call 22 = .ok (.iadd, 1) := by decide +kernel
theorem dX3_call_23 : decode cX3_call 23 = .ok (.iastore, 1) := by decide +kernel
theorem dX3_call_24 : decode cX3_call 24 = .ok (.ldc2_w 120, 3) := by decide +kernel
theorem dX3_call_27 : decode cX3_call 27 = .ok (.lreturn, 1) := by decide +kernel
theorem dX3_call_28 : decode cX3_call 28 = .ok (.aload_n 0, 1) := by decide +kernel
theorem dX3_call_29 : decode cX3_call 29 = .ok (.iload_n 1, 1) := by decide +kernel
theorem dX3_call_30 : decode cX3_call 30 = .ok (.iload_n 2, 1) := by decide +kernel
theorem dX3_call_31 : decode cX3_call 31 = .ok (.lload_n 3, 1) := by decide +kernel
theorem dX3_call_32 : decode cX3_call 32 = .ok (.invokevirtual 122, 3) := by decide +kernel
theorem dX3_call_35 : decode cX3_call 35 = .ok (.ifCond .eq 18, 3) := by decide +kernel
theorem dX3_call_38 : decode cX3_call 38 = .ok (.aload_n 0, 1) := by decide +kernel
theorem dX3_call_39 : decode cX3_call 39 = .ok (.getfield 54, 3) := by decide +kernel
theorem dX3_call_42 : decode cX3_call 42 = .ok (.iconst 0, 1) := by decide +kernel
theorem dX3_call_43 : decode cX3_call 43 = .ok (.dup2, 1) := by decide +kernel
theorem dX3_call_44 : decode cX3_call 44 = .ok (.iaload, 1) := by decide +kernel
theorem dX3_call_45 : decode cX3_call 45 = .ok (.iconst 1, 1) := by decide +kernel
theorem dX3_call_46 : decode cX3_call 46 = .ok (.iadd, 1) := by decide +kernel
theorem dX3_call_47 : decode cX3_call 47 = .ok (.iastore, 1) := by decide +kernel
theorem dX3_call_48 : decode cX3_call 48 = .ok (.aload_n 0, 1) := by decide +kernel
theorem dX3_call_49 : decode cX3_call 49 = .ok (.getfield 94, 3) := by decide +kernel
theorem dX3_call_52 : decode cX3_call 52 = .ok (.lreturn, 1) := by decide +kernel
theorem dX3_call_53 : decode cX3_call 53 = .ok (.aload_n 0, 1) := by decide +kernel
theorem dX3_call_54 : decode cX3_call 54 = .ok (.getfield 54, 3) := by decide +kernel
theorem dX3_call_57 : decode cX3_call 57 = .ok (.iconst 2, 1) := by decide +kernel
theorem dX3_call_58 : decode cX3_call 58 = .ok (.dup2, 1) := by decide +kernel
theorem dX3_call_59 : decode cX3_call 59 = .ok (.iaload, 1) := by decide +kernel
theorem dX3_call_60 : decode cX3_call 60 = .ok (.iconst 1, 1) := by decide +kernel
theorem dX3_call_61 : decode cX3_call 61 = .ok (.iadd, 1) := by decide +kernel
theorem dX3_call_62 : decode cX3_call 62 = .ok (.iastore, 1) := by decide +kernel
theorem dX3_call_63 : decode cX3_call 63 = .ok (.aload_n 0, 1) := by decide +kernel
theorem dX3_call_64 : decode cX3_call 64 = .ok (.getfield 54, 3) := by decide +kernel
theorem dX3_call_67 : decode cX3_call 67 = .ok (.iconst 3, 1) := by decide +kernel
theorem dX3_call_68 : decode cX3_call 68 = .ok (.aload_n 0, 1) := by decide +kernel
theorem dX3_call_69 : decode cX3_call 69 = .ok (.getfield 104, 3) := by decide +kernel
theorem dX3_call_72 : decode cX3_call 72 = .ok (.iastore, 1) := by decide +kernel
theorem dX3_call_73 : decode cX3_call 73 = .ok (.aload_n 0, 1) := by decide +kernel
theorem dX3_call_74 : decode cX3_call 74 = .ok (.getfield 54, 3) := by decide +kernel
theorem dX3_call_77 : decode cX3_call 77 = .ok (.iconst 4, 1) := by decide +kernel
theorem dX3_call_78 : decode cX3_call 78 = .ok (.aload_n 0, 1) := by decide +kernel
theorem dX3_call_79 : decode cX3_call 79 = .ok (.getfield 107, 3) := by decide +kernel
theorem dX3_call_82 : decode cX3_call 82 = .ok (.iastore, 1) := by decide +kernel
theorem dX3_call_83 : decode cX3_call 83 = .ok (.aload_n 0, 1) := by decide +kernel
theorem dX3_call_84 : decode cX3_call 84 = .ok (.getfield 54, 3) := by decide +kernel
theorem dX3_call_87 : decode cX3_call 87 = .ok (.iconst 5, 1) := by decide +kernel
theorem dX3_call_88 : decode cX3_call 88 = .ok (.iload_n 1, 1) := by decide +kernel
theorem dX3_call_89 : decode cX3_call 89 = .ok (.iastore, 1) := by decide +kernel
theorem dX3_call_90 : decode cX3_call 90 = .ok (.aload_n 0, 1) := by decide +kernel
theorem dX3_call_91 : decode cX3_call 91 = .ok (.getfield 54, 3) := by decide +kernel
theorem dX3_call_94 : decode cX3_call 94 = .ok (.bipush 6, 2) := by decide +kernel
theorem dX3_call_96 : decode cX3_call 96 = .ok (.iload_n 2, 1) := by decide +kernel
theorem dX3_call_97 : decode cX3_call 97 = .ok (.iastore, 1) := by decide +kernel
theorem dX3_call_98 : decode cX3_call 98 = .ok (.aload_n 0, 1) := by decide +kernel
theorem dX3_call_99 : decode cX3_call 99 = .ok (.getfield 48, 3) := by decide +kernel
theorem dX3_call_102 : decode cX3_call 102 = .ok (.iload_n 1, 1) := by decide +kernel
theorem dX3_call_103 : decode cX3_call 103 = .ok (.aload_n 0, 1) := by decide +kernel
theorem dX3_call_104 : decode cX3_call 104 = .ok (.getfield 104, 3) := by decide +kernel
theorem dX3_call_107 : decode cX3_call 107 = .ok (.bipush 6, 2) := by decide +kernel
theorem dX3_call_109 : decode cX3_call 109 = .ok (.if_icmp .ge 7, 3) := by decide +kernel
theorem dX3_call_112 : decode cX3_call 112 = .ok (.iconst (-1), 1) := by decide +kernel
theorem dX3_call_113 : decode cX3_call 113 = .ok (.goto 9, 3) := by decide +kernel
theorem dX3_call_116 : decode cX3_call 116 = .ok (.aload_n 0, 1) := by decide +kernel
theorem dX3_call_117 : decode cX3_call 117 = .ok (.getfield 48, 3) := by decide +kernel
theorem dX3_call_120 : decode cX3_call 120 = .ok (.iload_n 1, 1) := by decide +kernel
theorem dX3_call_121 : decode cX3_call 121 = .ok (.iaload, 1) := by decide +kernel
theorem dX3_call_122 : decode cX3_call 122 = .ok (.iastore, 1) := by decide +kernel
theorem dX3_call_123 : decode cX3_call 123 = .ok (.ldc2_w 126, 3) := by decide +kernel
theorem dX3_call_126 : decode cX3_call 126 = .ok (.lreturn, 1) := by decide +kernel
set_option maxRecDepth 20000 in
theorem ggX3_again_X3_may : GoodIn wsX3_again wsX3_may := goodIn_r _ [9, 10, 11, 12, 8, 13, 14, 15, 16, 17, 18, 19, 20, 21, 75, 76, 77, 78, 79, 80, 81, 82, 83, 84, 85, 86, 87, 88, 89, 90, 91, 92, 93, 94, 95] (by decide +kernel) (by decide +kernel)
set_option maxRecDepth 20000 in
theorem gX3_again_X3_may : GoodIn wsX3_again (wsV RX3 117 RX3 yX3_may wsX3_may) := goodIn_app (goodIn_of _ (by decide +kernel)) ggX3_again_X3_may
set_option maxRecDepth 20000 in
theorem ggX3_again_X3_done : GoodIn wsX3_again wsX3_done := goodIn_r _ [25, 3, 26, 27, 28, 29, 30, 31, 32, 33, 8, 34, 35, 18, 36, 37, 38, 39, 40, 41, 42, 43, 44, 45, 46, 47, 48, 49, 50, 10, 51, 52, 53, 54, 55, 56, 57, 58, 59, 60, 61, 62, 14, 15, 16, 17, 19, 20, 21, 63, 64, 65, 66, 67, 68, 69, 70, 71, 72, 73, 74, 75, 76, 77, 78, 79, 80, 81, 82, 83, 84, 85, 86, 87, 88, 89, 90, 91, 92, 93, 94, 95] (by decide +kernel) (by decide +kernel)
set_option maxRecDepth 20000 in
theorem gX3_again_X3_done : GoodIn wsX3_again (wsV RX3 122 RX3 yX3_done wsX3_done) := goodIn_app (goodIn_of _ (by decide +kernel)) ggX3_again_X3_done
set_option maxRecDepth 20000 in
theorem ggX3_again_X3_restore : GoodIn wsX3_again wsX3_restore := goodIn_r _ [74, 18, 35, 37, 36, 39, 38, 41, 40, 43, 42, 75, 76, 77, 78, 79, 80, 81, 82, 83, 84, 85, 86, 87, 88, 89, 90, 91, 92, 93, 94, 95] (by decide +kernel) (by decide +kernel)
set_option maxRecDepth 20000 in
theorem gX3_again_X3_restore : GoodIn wsX3_again (wsV RX3 114 RX3 yX3_restore wsX3_restore) := goodIn_app (goodIn_of _ (by decide +kernel)) ggX3_again_X3_restore
theorem dX3_again_0 : decode cX3_again 0 = .ok (.aload_n 0, 1) := by decide +kernel
theorem dX3_again_1 : decode cX3_again 1 = .ok (.iconst 0, 1) := by decide +kernel
theorem dX3_again_2 : decode cX3_again 2 = .ok (.putfield 57, 3) := by decide +kernel
theorem dX3_again_5 : decode cX3_again 5 = .ok (.aload_n 0, 1) := by decide +kernel
theorem dX3_again_6 : decode cX3_again 6 = .ok (.iload_n 1, 1) := by decide +kernel
theorem dX3_again_7 : decode cX3_again 7 = .ok (.iload_n 2, 1) := by decide +kernel
theorem dX3_again_8 : decode cX3_again 8 = .ok (.invokevirtual 117, 3) := by decide +kernel
theorem dX3_again_11 : decode cX3_again 11 = .ok (.ifCond .ne 7, 3) := by decide +kernel
theorem dX3_again_14 : decode cX3_again 14 = .ok (.ldc2_w 120, 3) := by decide +kernel
theorem dX3_again_17 : decode cX3_again 17 = .ok (.lreturn, 1) := by decide +kernel
theorem dX3_again_18 : decode cX3_again 18 = .ok (.aload_n 0, 1) := by decide +kernel
theorem dX3_again_19 : decode cX3_again 19 = .ok (.iload_n 1, 1) := by decide +kernel
theorem dX3_again_20 : decode cX3_again 20 = .ok (.iload_n 2, 1) := by decide +kernel
theorem dX3_again_21 : decode cX3_again 21 = .ok (.lload_n 3, 1) := by decide +kernel
theorem dX3_again_22 : decode cX3_again 22 = .ok (.invokevirtual 122, 3) := by decide +kernel
theorem dX3_again_25 : decode cX3_again 25 = .ok (.istore 5, 2) := by decide +kernel
theorem dX3_again_27 : decode cX3_again 27 = .ok (.aload_n 0, 1) := by decide +kernel
theorem dX3_again_28 : decode cX3_again 28 = .ok (.invokevirtual 114, 3) := by decide +kernel
theorem dX3_again_31 : decode cX3_again 31 = .ok (.iload 5, 2) := by decide +kernel
theorem dX3_again_33 : decode cX3_again 33 = .ok (.ifCond .eq 10, 3) := by decide +kernel
theorem dX3_again_36 : decode cX3_again 36 = .ok (.aload_n 0, 1) := by decide +kernel
theorem dX3_again_37 : decode cX3_again 37 = .ok (.getfield 94, 3) := by decide +kernel
theorem dX3_again_40 : decode cX3_again 40 = .ok (.goto 6, 3) := by decide +kernel
theorem dX3_again_43 : decode cX3_again 43 = .ok (.ldc2_w 126, 3) := by decide +kernel
theorem dX3_again_46 : decode cX3_again 46 = .ok (.lreturn, 1) := by decide +kernel
theorem dX3_told_0 : decode cX3_told 0 = .ok (.aload_n 0, 1) := by decide +kernel
theorem dX3_told_1 : decode cX3_told 1 = .ok (.iconst 0, 1) := by decide +kernel
theorem dX3_told_2 : decode cX3_told 2 = .ok (.putfield 57, 3) := by decide +kernel
theorem dX3_told_5 : decode cX3_told 5 = .ok (.iload_n 1, 1) := by decide +kernel
theorem dX3_told_6 : decode cX3_told 6 = .ok (.ifCond .lt 9, 3) := by decide +kernel
theorem dX3_told_9 : decode cX3_told 9 = .ok (.iload_n 1, 1) := by decide +kernel
theorem dX3_told_10 : decode cX3_told 10 = .ok (.bipush 6, 2) := by decide +kernel
theorem dX3_told_12 : decode cX3_told 12 = .ok (.if_icmp .le 7, 3) := by decide +kernel
theorem dX3_told_15 : decode cX3_told 15 = .ok (.iconst (-1), 1) := by decide +kernel
theorem dX3_told_16 : decode cX3_told 16 = .ok (.goto 9, 3) := by decide +kernel
theorem dX3_told_19 : decode cX3_told 19 = .ok (.aload_n 0, 1) := by decide +kernel
theorem dX3_told_20 : decode cX3_told 20 = .ok (.getfield 54, 3) := by decide +kernel
theorem dX3_told_23 : decode cX3_told 23 = .ok (.iload_n 1, 1) := by decide +kernel
theorem dX3_told_24 : decode cX3_told 24 = .ok (.iaload, 1) := by decide +kernel
theorem dX3_told_25 : decode cX3_told 25 = .ok (.ireturn, 1) := by decide +kernel
set_option maxRecDepth 20000 in
theorem ggX3_numbers_X3_isKind : GoodIn wsX3_numbers wsX3_isKind := goodIn_r _ [5] (by decide +kernel) (by decide +kernel)
set_option maxRecDepth 20000 in
theorem gX3_numbers_X3_isKind : GoodIn wsX3_numbers (va_wsS RX3 68 yX3_isKind wsX3_isKind) := goodIn_app (goodIn_of _ (by decide +kernel)) ggX3_numbers_X3_isKind
set_option maxRecDepth 20000 in
theorem ggX3_numbers_X3_many : GoodIn wsX3_numbers wsX3_many := goodIn_r _ [9, 10, 11, 12, 13, 14, 15, 16, 17, 18, 19, 20, 21, 22, 23, 24, 25, 26, 27, 28, 29, 30, 31] (by decide +kernel) (by decide +kernel)
set_option maxRecDepth 20000 in
theorem gX3_numbers_X3_many : GoodIn wsX3_numbers (wsV RX3 98 RX3 yX3_many wsX3_many) := goodIn_app (goodIn_of _ (by decide +kernel)) ggX3_numbers_X3_many
theorem dX3_numbers_0 : decode cX3_numbers 0 = .ok (.aload_n 0, 1) := by decide +kernel
theorem dX3_numbers_1 : decode cX3_numbers 1 = .ok (.iconst 0, 1) := by decide +kernel
theorem dX3_numbers_2 : decode cX3_numbers 2 = .ok (.putfield 57, 3) := by decide +kernel
theorem dX3_numbers_5 : decode cX3_numbers 5 = .ok (.iload_n 1, 1) := by decide +kernel
theorem dX3_numbers_6 : decode cX3_numbers 6 = .ok (.invokestatic 68, 3) := by decide +kernel
theorem dX3_numbers_9 : decode cX3_numbers 9 = .ok (.ifCond .eq 11, 3) := by decide +kernel
theorem dX3_numbers_12 : decode cX3_numbers 12 = .ok (.aload_n 0, 1) := by decide +kernel
theorem dX3_numbers_13 : decode cX3_numbers 13 = .ok (.iload_n 1, 1) := by decide +kernel
theorem dX3_numbers_14 : decode cX3_numbers 14 = .ok (.invokevirtual 98, 3) := by decide +kernel
theorem dX3_numbers_17 : decode cX3_numbers 17 = .ok (.goto 4, 3) := by decide +kernel
theorem dX3_numbers_20 : decode cX3_numbers 20 = .ok (.iconst (-1), 1) := by decide +kernel
theorem dX3_numbers_21 : decode cX3_numbers 21 = .ok (.ireturn, 1) := by decide +kernel
set_option maxRecDepth 20000 in
theorem ggX3_here_X3_isHere : GoodIn wsX3_here wsX3_isHere := goodIn_r _ [6, 7, 8, 9, 5, 10, 11, 12, 13, 14, 15, 16, 17, 18, 19, 20, 21, 22, 23, 24, 25, 26, 27, 28, 29, 30, 31] (by decide +kernel) (by decide +kernel)
set_option maxRecDepth 20000 in
theorem gX3_here_X3_isHere : GoodIn wsX3_here (wsV RX3 75 RX3 yX3_isHere wsX3_isHere) := goodIn_app (goodIn_of _ (by decide +kernel)) ggX3_here_X3_isHere
theorem dX3_here_0 : decode cX3_here 0 = .ok (.aload_n 0, 1) := by decide +kernel
theorem dX3_here_1 : decode cX3_here 1 = .ok (.iconst 0, 1) := by decide +kernel
theorem dX3_here_2 : decode cX3_here 2 = .ok (.putfield 57, 3) := by decide +kernel
theorem dX3_here_5 : decode cX3_here 5 = .ok (.aload_n 0, 1) := by decide +kernel
theorem dX3_here_6 : decode cX3_here 6 = .ok (.iload_n 1, 1) := by decide +kernel
theorem dX3_here_7 : decode cX3_here 7 = .ok (.iload_n 2, 1) := by decide +kernel
theorem dX3_here_8 : decode cX3_here 8 = .ok (.invokevirtual 75, 3) := by decide +kernel
theorem dX3_here_11 : decode cX3_here 11 = .ok (.ireturn, 1) := by decide +kernel
set_option maxRecDepth 20000 in
theorem ggX3_tally_X3_isKind : GoodIn wsX3_tally wsX3_isKind := goodIn_r _ [6] (by decide +kernel) (by decide +kernel)
set_option maxRecDepth 20000 in
theorem gX3_tally_X3_isKind : GoodIn wsX3_tally (va_wsS RX3 68 yX3_isKind wsX3_isKind) := goodIn_app (goodIn_of _ (by decide +kernel)) ggX3_tally_X3_isKind
theorem dX3_tally_0 : decode cX3_tally 0 = .ok (.aload_n 0, 1) := by decide +kernel
theorem dX3_tally_1 : decode cX3_tally 1 = .ok (.iconst 0, 1) := by decide +kernel
theorem dX3_tally_2 : decode cX3_tally 2 = .ok (.putfield 57, 3) := by decide +kernel
theorem dX3_tally_5 : decode cX3_tally 5 = .ok (.iload_n 1, 1) := by decide +kernel
theorem dX3_tally_6 : decode cX3_tally 6 = .ok (.invokestatic 68, 3) := by decide +kernel
theorem dX3_tally_9 : decode cX3_tally 9 = .ok (.ifCond .eq 12, 3) := by decide +kernel
theorem dX3_tally_12 : decode cX3_tally 12 = .ok (.aload_n 0, 1) := by decide +kernel
theorem dX3_tally_13 : decode cX3_tally 13 = .ok (.getfield 17, 3) := by decide +kernel
theorem dX3_tally_16 : decode cX3_tally 16 = .ok (.iload_n 1, 1) := by decide +kernel
theorem dX3_tally_17 : decode cX3_tally 17 = .ok (.laload, 1) := by decide +kernel
theorem dX3_tally_18 : decode cX3_tally 18 = .ok (.goto 4, 3) := by decide +kernel
theorem dX3_tally_21 : decode cX3_tally 21 = .ok (.lconst 0, 1) := by decide +kernel
theorem dX3_tally_22 : decode cX3_tally 22 = .ok (.lreturn, 1) := by decide +kernel
theorem dX3_row_0 : decode cX3_row 0 = .ok (.aload_n 0, 1) := by decide +kernel
theorem dX3_row_1 : decode cX3_row 1 = .ok (.iconst 0, 1) := by decide +kernel
theorem dX3_row_2 : decode cX3_row 2 = .ok (.putfield 57, 3) := by decide +kernel
theorem dX3_row_5 : decode cX3_row 5 = .ok (.iload_n 1, 1) := by decide +kernel
theorem dX3_row_6 : decode cX3_row 6 = .ok (.ifCond .lt 11, 3) := by decide +kernel
theorem dX3_row_9 : decode cX3_row 9 = .ok (.iload_n 1, 1) := by decide +kernel
theorem dX3_row_10 : decode cX3_row 10 = .ok (.aload_n 0, 1) := by decide +kernel
theorem dX3_row_11 : decode cX3_row 11 = .ok (.getfield 61, 3) := by decide +kernel
theorem dX3_row_14 : decode cX3_row 14 = .ok (.if_icmp .lt 10, 3) := by decide +kernel
theorem dX3_row_17 : decode cX3_row 17 = .ok (.aload_n 0, 1) := by decide +kernel
theorem dX3_row_18 : decode cX3_row 18 = .ok (.iconst 1, 1) := by decide +kernel
theorem dX3_row_19 : decode cX3_row 19 = .ok (.putfield 57, 3) := by decide +kernel
theorem dX3_row_22 : decode cX3_row 22 = .ok (.lconst 0, 1) := by decide +kernel
theorem dX3_row_23 : decode cX3_row 23 = .ok (.lreturn, 1) := by decide +kernel
theorem dX3_row_24 : decode cX3_row 24 = .ok (.aload_n 0, 1) := by decide +kernel
theorem dX3_row_25 : decode cX3_row 25 = .ok (.getfield 21, 3) := by decide +kernel
theorem dX3_row_28 : decode cX3_row 28 = .ok (.iload_n 1, 1) := by decide +kernel
theorem dX3_row_29 : decode cX3_row 29 = .ok (.laload, 1) := by decide +kernel
theorem dX3_row_30 : decode cX3_row 30 = .ok (.lreturn, 1) := by decide +kernel
theorem dJx00060_init_a7421_0 : decode cJx00060_init_a7421 0 = .ok (.aload_n 0, 1) := by decide +kernel
theorem dJx00060_init_a7421_1 : decode cJx00060_init_a7421 1 = .ok (.aload_n 1, 1) := by decide +kernel
theorem dJx00060_init_a7421_2 : decode cJx00060_init_a7421 2 = .ok (.invokespecial 7, 3) := by decide +kernel
theorem dJx00060_init_a7421_5 : decode cJx00060_init_a7421 5 = .ok (.return_, 1) := by decide +kernel
theorem dJ13_bitCount_95d88_0 : decode cJ13_bitCount_95d88 0 = .ok (.lload_n 0, 1) := by decide +kernel
theorem dJ13_bitCount_95d88_1 : decode cJ13_bitCount_95d88 1 = .ok (.lload_n 0, 1) := by decide +kernel
theorem dJ13_bitCount_95d88_2 : decode cJ13_bitCount_95d88 2 = .ok (.iconst 1, 1) := by decide +kernel
theorem dJ13_bitCount_95d88_3 : decode cJ13_bitCount_95d88 3 = .ok (.lushr, 1) := by decide +kernel
theorem dJ13_bitCount_95d88_4 : decode cJ13_bitCount_95d88 4 = .ok (.ldc2_w 314, 3) := by decide +kernel
theorem dJ13_bitCount_95d88_7 : decode cJ13_bitCount_95d88 7 = .ok (.land, 1) := by decide +kernel
theorem dJ13_bitCount_95d88_8 : decode cJ13_bitCount_95d88 8 = .ok (.lsub, 1) := by decide +kernel
theorem dJ13_bitCount_95d88_9 : decode cJ13_bitCount_95d88 9 = .ok (.lstore_n 0, 1) := by decide +kernel
theorem dJ13_bitCount_95d88_10 : decode cJ13_bitCount_95d88 10 = .ok (.lload_n 0, 1) := by decide +kernel
theorem dJ13_bitCount_95d88_11 : decode cJ13_bitCount_95d88 11 = .ok (.ldc2_w 316, 3) := by decide +kernel
theorem dJ13_bitCount_95d88_14 : decode cJ13_bitCount_95d88 14 = .ok (.land, 1) := by decide +kernel
theorem dJ13_bitCount_95d88_15 : decode cJ13_bitCount_95d88 15 = .ok (.lload_n 0, 1) := by decide +kernel
theorem dJ13_bitCount_95d88_16 : decode cJ13_bitCount_95d88 16 = .ok (.iconst 2, 1) := by decide +kernel
theorem dJ13_bitCount_95d88_17 : decode cJ13_bitCount_95d88 17 = .ok (.lushr, 1) := by decide +kernel
theorem dJ13_bitCount_95d88_18 : decode cJ13_bitCount_95d88 18 = .ok (.ldc2_w 316, 3) := by decide +kernel
theorem dJ13_bitCount_95d88_21 : decode cJ13_bitCount_95d88 21 = .ok (.land, 1) := by decide +kernel
theorem dJ13_bitCount_95d88_22 : decode cJ13_bitCount_95d88 22 = .ok (.ladd, 1) := by decide +kernel
theorem dJ13_bitCount_95d88_23 : decode cJ13_bitCount_95d88 23 = .ok (.lstore_n 0, 1) := by decide +kernel
theorem dJ13_bitCount_95d88_24 : decode cJ13_bitCount_95d88 24 = .ok (.lload_n 0, 1) := by decide +kernel
theorem dJ13_bitCount_95d88_25 : decode cJ13_bitCount_95d88 25 = .ok (.lload_n 0, 1) := by decide +kernel
theorem dJ13_bitCount_95d88_26 : decode cJ13_bitCount_95d88 26 = .ok (.iconst 4, 1) := by decide +kernel
theorem dJ13_bitCount_95d88_27 : decode cJ13_bitCount_95d88 27 = .ok (.lushr, 1) := by decide +kernel
theorem dJ13_bitCount_95d88_28 : decode cJ13_bitCount_95d88 28 = .ok (.ladd, 1) := by decide +kernel
theorem dJ13_bitCount_95d88_29 : decode cJ13_bitCount_95d88 29 = .ok (.ldc2_w 318, 3) := by decide +kernel
theorem dJ13_bitCount_95d88_32 : decode cJ13_bitCount_95d88 32 = .ok (.land, 1) := by decide +kernel
theorem dJ13_bitCount_95d88_33 : decode cJ13_bitCount_95d88 33 = .ok (.lstore_n 0, 1) := by decide +kernel
theorem dJ13_bitCount_95d88_34 : decode cJ13_bitCount_95d88 34 = .ok (.lload_n 0, 1) := by decide +kernel
theorem dJ13_bitCount_95d88_35 : decode cJ13_bitCount_95d88 35 = .ok (.lload_n 0, 1) := by decide +kernel
theorem dJ13_bitCount_95d88_36 : decode cJ13_bitCount_95d88 36 = .ok (.bipush 8, 2) := by decide +kernel
theorem dJ13_bitCount_95d88_38 : decode cJ13_bitCount_95d88 38 = .ok (.lushr, 1) := by decide +kernel
theorem dJ13_bitCount_95d88_39 : decode cJ13_bitCount_95d88 39 = .ok (.ladd, 1) := by decide +kernel
theorem dJ13_bitCount_95d88_40 : decode cJ13_bitCount_95d88 40 = .ok (.lstore_n 0, 1) := by decide +kernel
theorem dJ13_bitCount_95d88_41 : decode cJ13_bitCount_95d88 41 = .ok (.lload_n 0, 1) := by decide +kernel
theorem dJ13_bitCount_95d88_42 : decode cJ13_bitCount_95d88 42 = .ok (.lload_n 0, 1) := by decide +kernel
theorem dJ13_bitCount_95d88_43 : decode cJ13_bitCount_95d88 43 = .ok (.bipush 16, 2) := by decide +kernel
theorem dJ13_bitCount_95d88_45 : decode cJ13_bitCount_95d88 45 = .ok (.lushr, 1) := by decide +kernel
theorem dJ13_bitCount_95d88_46 : decode cJ13_bitCount_95d88 46 = .ok (.ladd, 1) := by decide +kernel
theorem dJ13_bitCount_95d88_47 : decode cJ13_bitCount_95d88 47 = .ok (.lstore_n 0, 1) := by decide +kernel
theorem dJ13_bitCount_95d88_48 : decode cJ13_bitCount_95d88 48 = .ok (.lload_n 0, 1) := by decide +kernel
theorem dJ13_bitCount_95d88_49 : decode cJ13_bitCount_95d88 49 = .ok (.lload_n 0, 1) := by decide +kernel
theorem dJ13_bitCount_95d88_50 : decode cJ13_bitCount_95d88 50 = .ok (.bipush 32, 2) := by decide +kernel
theorem dJ13_bitCount_95d88_52 : decode cJ13_bitCount_95d88 52 = .ok (.lushr, 1) := by decide +kernel
theorem dJ13_bitCount_95d88_53 : decode cJ13_bitCount_95d88 53 = .ok (.ladd, 1) := by decide +kernel
theorem dJ13_bitCount_95d88_54 : decode cJ13_bitCount_95d88 54 = .ok (.lstore_n 0, 1) := by decide +kernel
theorem dJ13_bitCount_95d88_55 : decode cJ13_bitCount_95d88 55 = .ok (.lload_n 0, 1) := by decide +kernel
theorem dJ13_bitCount_95d88_56 : decode cJ13_bitCount_95d88 56 = .ok (.l2i, 1) := by decide +kernel
theorem dJ13_bitCount_95d88_57 : decode cJ13_bitCount_95d88 57 = .ok (.bipush 127, 2) := by decide +kernel
theorem dJ13_bitCount_95d88_59 : decode cJ13_bitCount_95d88 59 = .ok (.iand, 1) := by decide +kernel
theorem dJ13_bitCount_95d88_60 : decode cJ13_bitCount_95d88 60 = .ok (.ireturn, 1) := by decide +kernel
set_option maxRecDepth 20000 in
theorem ggL_row_X2_row : GoodIn wsL_row wsX2_row := goodIn_r _ [5, 6, 7, 8, 9, 10, 11, 12, 13, 14, 15, 16, 17, 18, 19, 20, 21, 22, 23, 24, 25, 26, 27, 28, 29, 30, 31, 32, 33, 34, 35] (by decide +kernel) (by decide +kernel)
set_option maxRecDepth 20000 in
theorem gL_row_X2_row : GoodIn wsL_row (wsV RL 7 RX2 yX2_row wsX2_row) := goodIn_app (goodIn_of _ (by decide +kernel)) ggL_row_X2_row
theorem dL_row_0 : decode cL_row 0 = .ok (.aload_n 2, 1) := by decide +kernel
theorem dL_row_1 : decode cL_row 1 = .ok (.iconst 0, 1) := by decide +kernel
theorem dL_row_2 : decode cL_row 2 = .ok (.aload_n 0, 1) := by decide +kernel
theorem dL_row_3 : decode cL_row 3 = .ok (.iload_n 1, 1) := by decide +kernel
theorem dL_row_4 : decode cL_row 4 = .ok (.invokevirtual 7, 3) := by decide +kernel
theorem dL_row_7 : decode cL_row 7 = .ok (.lastore, 1) := by decide +kernel
theorem dL_row_8 : decode cL_row 8 = .ok (.goto 6, 3) := by decide +kernel
theorem dL_row_11 : decode cL_row 11 = .ok (.astore_n 3, 1) := by decide +kernel
theorem dL_row_12 : decode cL_row 12 = .ok (.iconst 1, 1) := by decide +kernel
theorem dL_row_13 : decode cL_row 13 = .ok (.ireturn, 1) := by decide +kernel
theorem dL_row_14 : decode cL_row 14 = .ok (.iconst 0, 1) := by decide +kernel
theorem dL_row_15 : decode cL_row 15 = .ok (.ireturn, 1) := by decide +kernel
set_option maxRecDepth 20000 in
theorem ggL_law_X2_init : GoodIn wsL_law wsX2_init := goodIn_r _ [10, 11, 12, 13, 14, 15, 16, 17, 18, 19, 20, 21, 22, 23, 24, 25, 26, 27, 28, 29, 30, 31, 32, 33, 34, 35, 36, 6, 37, 38, 39, 349, 350, 351, 352, 353, 354, 355, 356, 357, 358, 359, 360, 361, 383, 384, 385, 386, 387, 388, 389, 390, 391, 392, 393] (by decide +kernel) (by decide +kernel)
set_option maxRecDepth 20000 in
theorem gL_law_X2_init : GoodIn wsL_law (wsX2_init) := ggL_law_X2_init
set_option maxRecDepth 20000 in
theorem ggL_law_X3_init : GoodIn wsL_law wsX3_init := goodIn_r _ [42, 43, 12, 13, 44, 45, 28, 46, 6, 47, 48, 49, 50, 51, 52, 53, 54, 55, 56, 57, 58, 59, 362, 363, 364, 365, 366, 367, 368, 369, 370, 371, 372, 373, 374, 375, 376, 377, 378, 379, 380, 381, 382] (by decide +kernel) (by decide +kernel)
set_option maxRecDepth 20000 in
theorem gL_law_X3_init : GoodIn wsL_law (wsX3_init) := ggL_law_X3_init
set_option maxRecDepth 20000 in
theorem ggL_law_X2_collect : GoodIn wsL_law wsX2_collect := goodIn_r _ [63, 21, 64, 65, 66, 67, 20, 68, 69, 39, 349, 350, 351, 352, 353, 354, 355, 356, 357, 358, 359, 360, 361, 389, 390, 391, 392, 393] (by decide +kernel) (by decide +kernel)
set_option maxRecDepth 20000 in
theorem gL_law_X2_collect : GoodIn wsL_law (wsV RL 21 RX2 yX2_collect wsX2_collect) := goodIn_app (goodIn_of _ (by decide +kernel)) ggL_law_X2_collect
set_option maxRecDepth 20000 in
theorem ggL_law_X3_collect : GoodIn wsL_law wsX3_collect := goodIn_r _ [73, 74, 75, 48, 362, 363, 364, 365, 366, 367, 368, 369, 370, 371, 372, 373, 374, 375, 376, 377, 378, 379, 380, 381, 382] (by decide +kernel) (by decide +kernel)
set_option maxRecDepth 20000 in
theorem gL_law_X3_collect : GoodIn wsL_law (wsV RL 25 RX3 yX3_collect wsX3_collect) := goodIn_app (goodIn_of _ (by decide +kernel)) ggL_law_X3_collect
set_option maxRecDepth 20000 in
theorem ggL_law_X2_wants : GoodIn wsL_law wsX2_wants := goodIn_r _ [79, 15, 80, 81, 82, 2, 83, 84, 85, 86, 349, 350, 351, 352, 353, 354, 355, 356, 357, 358, 359, 360, 361, 383, 384, 385, 386, 387, 388] (by decide +kernel) (by decide +kernel)
set_option maxRecDepth 20000 in
theorem gL_law_X2_wants : GoodIn wsL_law (wsV RL 26 RX2 yX2_wants wsX2_wants) := goodIn_app (goodIn_of _ (by decide +kernel)) ggL_law_X2_wants
set_option maxRecDepth 20000 in
theorem ggL_law_X3_wants : GoodIn wsL_law wsX3_wants := goodIn_r _ [90, 74, 53, 91, 92, 5, 93, 94, 95, 96, 362, 363, 364, 365, 366, 367, 368, 369, 370, 371, 372, 373, 374, 375, 376, 377, 378, 379, 380, 381, 382] (by decide +kernel) (by decide +kernel)
set_option maxRecDepth 20000 in
theorem gL_law_X3_wants : GoodIn wsL_law (wsV RL 30 RX3 yX3_wants wsX3_wants) := goodIn_app (goodIn_of _ (by decide +kernel)) ggL_law_X3_wants
set_option maxRecDepth 20000 in
theorem ggL_law_X2_act : GoodIn wsL_law wsX2_act := goodIn_r _ [100, 15, 101, 81, 82, 2, 83, 102, 103, 104, 84, 85, 86, 105, 106, 107, 17, 108, 109, 29, 30, 349, 350, 351, 352, 353, 354, 355, 356, 357, 358, 359, 360, 361, 383, 384, 385, 386, 387, 388] (by decide +kernel) (by decide +kernel)
set_option maxRecDepth 20000 in
theorem gL_law_X2_act : GoodIn wsL_law (wsV RL 31 RX2 yX2_act wsX2_act) := goodIn_app (goodIn_of _ (by decide +kernel)) ggL_law_X2_act
set_option maxRecDepth 20000 in
theorem ggL_law_X3_act : GoodIn wsL_law wsX3_act := goodIn_r _ [113, 74, 56, 54, 55, 91, 92, 5, 93, 94, 95, 96, 362, 363, 364, 365, 366, 367, 368, 369, 370, 371, 372, 373, 374, 375, 376, 377, 378, 379, 380, 381, 382] (by decide +kernel) (by decide +kernel)
set_option maxRecDepth 20000 in
theorem gL_law_X3_act : GoodIn wsL_law (wsV RL 35 RX3 yX3_act wsX3_act) := goodIn_app (goodIn_of _ (by decide +kernel)) ggL_law_X3_act
set_option maxRecDepth 20000 in
theorem ggL_law_X2_fails : GoodIn wsL_law wsX2_fails := goodIn_r _ [117, 15, 81, 82, 2, 83, 118, 119, 120, 17, 121, 31, 122, 349, 350, 351, 352, 353, 354, 355, 356, 357, 358, 359, 360, 361, 383, 384, 385, 386, 387, 388] (by decide +kernel) (by decide +kernel)
set_option maxRecDepth 20000 in
theorem gL_law_X2_fails : GoodIn wsL_law (wsV RL 36 RX2 yX2_fails wsX2_fails) := goodIn_app (goodIn_of _ (by decide +kernel)) ggL_law_X2_fails
set_option maxRecDepth 20000 in
theorem ggL_law_X3_fails : GoodIn wsL_law wsX3_fails := goodIn_r _ [126, 74, 57, 58, 91, 92, 5, 93, 362, 363, 364, 365, 366, 367, 368, 369, 370, 371, 372, 373, 374, 375, 376, 377, 378, 379, 380, 381, 382] (by decide +kernel) (by decide +kernel)
set_option maxRecDepth 20000 in
theorem gL_law_X3_fails : GoodIn wsL_law (wsV RL 39 RX3 yX3_fails wsX3_fails) := goodIn_app (goodIn_of _ (by decide +kernel)) ggL_law_X3_fails
set_option maxRecDepth 20000 in
theorem ggL_law_X2_make : GoodIn wsL_law wsX2_make := goodIn_r _ [130, 21, 131, 84, 85, 2, 86, 132, 133, 134, 20, 135, 36, 37, 349, 350, 351, 352, 353, 354, 355, 356, 357, 358, 359, 360, 361, 389, 390, 391, 392, 393] (by decide +kernel) (by decide +kernel)
set_option maxRecDepth 20000 in
theorem gL_law_X2_make : GoodIn wsL_law (wsV RL 40 RX2 yX2_make wsX2_make) := goodIn_app (goodIn_of _ (by decide +kernel)) ggL_law_X2_make
set_option maxRecDepth 20000 in
theorem ggL_law_X3_make : GoodIn wsL_law wsX3_make := goodIn_r _ [139, 74, 94, 95, 5, 96, 140, 141, 142, 143, 46, 45, 362, 363, 364, 365, 366, 367, 368, 369, 370, 371, 372, 373, 374, 375, 376, 377, 378, 379, 380, 381, 382] (by decide +kernel) (by decide +kernel)
set_option maxRecDepth 20000 in
theorem gL_law_X3_make : GoodIn wsL_law (wsV RL 44 RX3 yX3_make wsX3_make) := goodIn_app (goodIn_of _ (by decide +kernel)) ggL_law_X3_make
set_option maxRecDepth 20000 in
theorem ggL_law_X2_drop : GoodIn wsL_law wsX2_drop := goodIn_r _ [147, 21, 148, 149, 150, 20, 151, 37, 152, 153, 154, 155, 156, 85, 2, 86, 349, 350, 351, 352, 353, 354, 355, 356, 357, 358, 359, 360, 361, 389, 390, 391, 392, 393] (by decide +kernel) (by decide +kernel)
set_option maxRecDepth 20000 in
theorem gL_law_X2_drop : GoodIn wsL_law (wsV RL 45 RX2 yX2_drop wsX2_drop) := goodIn_app (goodIn_of _ (by decide +kernel)) ggL_law_X2_drop
set_option maxRecDepth 20000 in
theorem ggL_law_X3_drop : GoodIn wsL_law wsX3_drop := goodIn_r _ [160, 74, 161, 162, 163, 5, 164, 45, 165, 166, 167, 168, 94, 95, 96, 362, 363, 364, 365, 366, 367, 368, 369, 370, 371, 372, 373, 374, 375, 376, 377, 378, 379, 380, 381, 382] (by decide +kernel) (by decide +kernel)
set_option maxRecDepth 20000 in
theorem gL_law_X3_drop : GoodIn wsL_law (wsV RL 49 RX3 yX3_drop wsX3_drop) := goodIn_app (goodIn_of _ (by decide +kernel)) ggL_law_X3_drop
set_option maxRecDepth 20000 in
theorem ggL_law_X2_call : GoodIn wsL_law wsX2_call := goodIn_r _ [172, 173, 174, 15, 175, 176, 177, 178, 179, 180, 181, 2, 182, 80, 21, 81, 82, 83, 183, 154, 155, 20, 156, 37, 85, 86, 184, 185, 186, 187, 22, 101, 188, 189, 190, 191, 192, 193, 36, 194, 195, 196, 197, 38, 39, 69, 198, 199, 200, 17, 201, 31, 202, 203, 204, 205, 206, 207, 208, 209, 132, 133, 134, 135, 210, 211, 212, 213, 153, 148, 149, 150, 151, 152, 214, 215, 216, 217, 218, 219, 220, 221, 222, 223, 224, 225, 226, 227, 228, 229, 230, 231, 232, 233, 234, 235, 236, 237, 238, 239, 240, 241, 242, 243, 244, 245, 349, 350, 351, 352, 353, 354, 355, 356, 357, 358, 359, 360, 361, 383, 384, 385, 386, 387, 388, 389, 390, 391, 392, 393] (by decide +kernel) (by decide +kernel)
set_option maxRecDepth 20000 in
theorem gL_law_X2_call : GoodIn wsL_law (wsV RL 50 RX2 yX2_call wsX2_call) := goodIn_app (goodIn_of _ (by decide +kernel)) ggL_law_X2_call
set_option maxRecDepth 20000 in
theorem ggL_law_X3_call : GoodIn wsL_law wsX3_call := goodIn_r _ [249, 74, 59, 250, 251, 252, 253, 57, 254, 255, 256, 257, 5, 258, 53, 91, 92, 93, 165, 166, 167, 168, 45, 94, 95, 96, 259, 260, 261, 262, 56, 58, 263, 264, 265, 266, 49, 50, 46, 51, 47, 52, 48, 75, 267, 268, 269, 270, 271, 55, 54, 272, 140, 141, 142, 143, 273, 274, 275, 276, 161, 162, 163, 164, 277, 278, 279, 280, 281, 282, 283, 284, 285, 286, 287, 288, 362, 363, 364, 365, 366, 367, 368, 369, 370, 371, 372, 373, 374, 375, 376, 377, 378, 379, 380, 381, 382] (by decide +kernel) (by decide +kernel)
set_option maxRecDepth 20000 in
theorem gL_law_X3_call : GoodIn wsL_law (wsV RL 54 RX3 yX3_call wsX3_call) := goodIn_app (goodIn_of _ (by decide +kernel)) ggL_law_X3_call
set_option maxRecDepth 20000 in
theorem ggL_law_X2_again : GoodIn wsL_law wsX2_again := goodIn_r _ [292, 174, 15, 175, 176, 178, 179, 180, 181, 2, 182, 80, 21, 81, 82, 83, 183, 154, 155, 20, 156, 37, 85, 86, 184, 185, 186, 187, 22, 101, 188, 189, 190, 191, 192, 193, 36, 194, 195, 196, 197, 38, 39, 69, 198, 199, 200, 17, 201, 31, 202, 203, 204, 205, 206, 207, 208, 209, 132, 133, 134, 135, 210, 211, 212, 213, 153, 148, 149, 150, 151, 152, 214, 215, 216, 217, 218, 219, 220, 221, 222, 223, 224, 225, 226, 227, 228, 349, 350, 351, 352, 353, 354, 355, 356, 357, 358, 359, 360, 361, 383, 384, 385, 386, 387, 388, 389, 390, 391, 392, 393] (by decide +kernel) (by decide +kernel)
set_option maxRecDepth 20000 in
theorem gL_law_X2_again : GoodIn wsL_law (wsV RL 55 RX2 yX2_again wsX2_again) := goodIn_app (goodIn_of _ (by decide +kernel)) ggL_law_X2_again
set_option maxRecDepth 20000 in
theorem ggL_law_X3_again : GoodIn wsL_law wsX3_again := goodIn_r _ [296, 74, 250, 251, 254, 255, 256, 257, 5, 258, 53, 91, 92, 93, 165, 166, 167, 168, 45, 94, 95, 96, 259, 260, 261, 262, 252, 56, 253, 57, 58, 263, 264, 265, 266, 49, 50, 46, 51, 47, 52, 48, 75, 267, 268, 269, 270, 271, 55, 54, 272, 140, 141, 142, 143, 273, 274, 275, 276, 161, 162, 163, 164, 277, 278, 279, 280, 281, 282, 283, 284, 285, 286, 287, 288, 362, 363, 364, 365, 366, 367, 368, 369, 370, 371, 372, 373, 374, 375, 376, 377, 378, 379, 380, 381, 382] (by decide +kernel) (by decide +kernel)
set_option maxRecDepth 20000 in
theorem gL_law_X3_again : GoodIn wsL_law (wsV RL 58 RX3 yX3_again wsX3_again) := goodIn_app (goodIn_of _ (by decide +kernel)) ggL_law_X3_again
set_option maxRecDepth 20000 in
theorem ggL_law_X2_told : GoodIn wsL_law wsX2_told := goodIn_r _ [300, 177, 173, 233, 234, 235, 236, 237, 349, 350, 351, 352, 353, 354, 355, 356, 357, 358, 359, 360, 361] (by decide +kernel) (by decide +kernel)
set_option maxRecDepth 20000 in
theorem gL_law_X2_told : GoodIn wsL_law (wsV RL 59 RX2 yX2_told wsX2_told) := goodIn_app (goodIn_of _ (by decide +kernel)) ggL_law_X2_told
set_option maxRecDepth 20000 in
theorem ggL_law_X3_told : GoodIn wsL_law wsX3_told := goodIn_r _ [304, 74, 59, 362, 363, 364, 365, 366, 367, 368, 369, 370, 371, 372, 373, 374, 375, 376, 377, 378, 379, 380, 381, 382] (by decide +kernel) (by decide +kernel)
set_option maxRecDepth 20000 in
theorem gL_law_X3_told : GoodIn wsL_law (wsV RL 62 RX3 yX3_told wsX3_told) := goodIn_app (goodIn_of _ (by decide +kernel)) ggL_law_X3_told
set_option maxRecDepth 20000 in
theorem ggL_law_X2_numbers : GoodIn wsL_law wsX2_numbers := goodIn_r _ [308, 21, 84, 85, 2, 86, 218, 219, 220, 20, 221, 37, 222, 223, 224, 225, 226, 227, 228, 349, 350, 351, 352, 353, 354, 355, 356, 357, 358, 359, 360, 361, 389, 390, 391, 392, 393] (by decide +kernel) (by decide +kernel)
set_option maxRecDepth 20000 in
theorem gL_law_X2_numbers : GoodIn wsL_law (wsV RL 63 RX2 yX2_numbers wsX2_numbers) := goodIn_app (goodIn_of _ (by decide +kernel)) ggL_law_X2_numbers
set_option maxRecDepth 20000 in
theorem ggL_law_X3_numbers : GoodIn wsL_law wsX3_numbers := goodIn_r _ [312, 74, 94, 95, 5, 96, 281, 282, 283, 284, 45, 362, 363, 364, 365, 366, 367, 368, 369, 370, 371, 372, 373, 374, 375, 376, 377, 378, 379, 380, 381, 382] (by decide +kernel) (by decide +kernel)
set_option maxRecDepth 20000 in
theorem gL_law_X3_numbers : GoodIn wsL_law (wsV RL 66 RX3 yX3_numbers wsX3_numbers) := goodIn_app (goodIn_of _ (by decide +kernel)) ggL_law_X3_numbers
set_option maxRecDepth 20000 in
theorem ggL_law_X2_here : GoodIn wsL_law wsX2_here := goodIn_r _ [316, 21, 183, 154, 155, 20, 156, 37, 85, 2, 86, 349, 350, 351, 352, 353, 354, 355, 356, 357, 358, 359, 360, 361, 389, 390, 391, 392, 393] (by decide +kernel) (by decide +kernel)
set_option maxRecDepth 20000 in
theorem gL_law_X2_here : GoodIn wsL_law (wsV RL 67 RX2 yX2_here wsX2_here) := goodIn_app (goodIn_of _ (by decide +kernel)) ggL_law_X2_here
set_option maxRecDepth 20000 in
theorem ggL_law_X3_here : GoodIn wsL_law wsX3_here := goodIn_r _ [320, 74, 165, 166, 167, 5, 168, 45, 94, 95, 96, 362, 363, 364, 365, 366, 367, 368, 369, 370, 371, 372, 373, 374, 375, 376, 377, 378, 379, 380, 381, 382] (by decide +kernel) (by decide +kernel)
set_option maxRecDepth 20000 in
theorem gL_law_X3_here : GoodIn wsL_law (wsV RL 70 RX3 yX3_here wsX3_here) := goodIn_app (goodIn_of _ (by decide +kernel)) ggL_law_X3_here
set_option maxRecDepth 20000 in
theorem ggL_law_X2_tally : GoodIn wsL_law wsX2_tally := goodIn_r _ [324, 21, 208, 84, 85, 2, 86, 349, 350, 351, 352, 353, 354, 355, 356, 357, 358, 359, 360, 361, 389, 390, 391, 392, 393] (by decide +kernel) (by decide +kernel)
set_option maxRecDepth 20000 in
theorem gL_law_X2_tally : GoodIn wsL_law (wsV RL 71 RX2 yX2_tally wsX2_tally) := goodIn_app (goodIn_of _ (by decide +kernel)) ggL_law_X2_tally
set_option maxRecDepth 20000 in
theorem ggL_law_X3_tally : GoodIn wsL_law wsX3_tally := goodIn_r _ [328, 74, 47, 94, 95, 5, 96, 362, 363, 364, 365, 366, 367, 368, 369, 370, 371, 372, 373, 374, 375, 376, 377, 378, 379, 380, 381, 382] (by decide +kernel) (by decide +kernel)
set_option maxRecDepth 20000 in
theorem gL_law_X3_tally : GoodIn wsL_law (wsV RL 74 RX3 yX3_tally wsX3_tally) := goodIn_app (goodIn_of _ (by decide +kernel)) ggL_law_X3_tally
set_option maxRecDepth 20000 in
theorem ggL_law_L_row : GoodIn wsL_law wsL_row := goodIn_r _ [332, 333, 334, 335, 2, 336, 21, 64, 337, 338, 339, 340, 349, 350, 351, 352, 353, 354, 355, 356, 357, 358, 359, 360, 361, 389, 390, 391, 392, 393, 394, 395, 396, 397, 398, 399] (by decide +kernel) (by decide +kernel)
set_option maxRecDepth 20000 in
theorem gL_law_L_row : GoodIn wsL_law (va_wsS RL 75 yL_row wsL_row) := goodIn_app (goodIn_of _ (by decide +kernel)) ggL_law_L_row
set_option maxRecDepth 20000 in
theorem ggL_law_X3_row : GoodIn wsL_law wsX3_row := goodIn_r _ [344, 74, 75, 48, 362, 363, 364, 365, 366, 367, 368, 369, 370, 371, 372, 373, 374, 375, 376, 377, 378, 379, 380, 381, 382] (by decide +kernel) (by decide +kernel)
set_option maxRecDepth 20000 in
theorem gL_law_X3_row : GoodIn wsL_law (wsV RL 80 RX3 yX3_row wsX3_row) := goodIn_app (goodIn_of _ (by decide +kernel)) ggL_law_X3_row
set_option maxRecDepth 20000 in
theorem ggL_law_X3_thrown : GoodIn wsL_law wsX3_thrown := goodIn_r _ [348, 74, 362, 363, 364, 365, 366, 367, 368, 369, 370, 371, 372, 373, 374, 375, 376, 377, 378, 379, 380, 381, 382] (by decide +kernel) (by decide +kernel)
set_option maxRecDepth 20000 in
theorem gL_law_X3_thrown : GoodIn wsL_law (wsV RL 81 RX3 yX3_thrown wsX3_thrown) := goodIn_app (goodIn_of _ (by decide +kernel)) ggL_law_X3_thrown
end
section
theorem dL_law_0 : decode cL_law 0 = .ok (.new 8, 3) := by decide +kernel
theorem dL_law_3 : decode cL_law 3 = .ok (.dup, 1) := by decide +kernel
theorem dL_law_4 : decode cL_law 4 = .ok (.invokespecial 15, 3) := by decide +kernel
theorem dL_law_7 : decode cL_law 7 = .ok (.astore_n 1, 1) := by decide +kernel
theorem dL_law_8 : decode cL_law 8 = .ok (.new 16, 3) := by decide +kernel
theorem dL_law_11 : decode cL_law 11 = .ok (.dup, 1) := by decide +kernel
theorem dL_law_12 : decode cL_law 12 = .ok (.invokespecial 18, 3) := by decide +kernel
theorem dL_law_15 : decode cL_law 15 = .ok (.astore_n 2, 1) := by decide +kernel
theorem dL_law_16 : decode cL_law 16 = .ok (.iconst 1, 1) := by decide +kernel
theorem dL_law_17 : decode cL_law 17 = .ok (.newarray .long, 2) := by decide +kernel
theorem dL_law_19 : decode cL_law 19 = .ok (.astore_n 3, 1) := by decide +kernel
theorem dL_law_20 : decode cL_law 20 = .ok (.iconst 0, 1) := by decide +kernel
theorem dL_law_21 : decode cL_law 21 = .ok (.istore 4, 2) := by decide +kernel
theorem dL_law_23 : decode cL_law 23 = .ok (.iload 4, 2) := by decide +kernel
theorem dL_law_25 : decode cL_law 25 = .ok (.aload_n 0, 1) := by decide +kernel
theorem dL_law_26 : decode cL_law 26 = .ok (.arraylength, 1) := by decide +kernel
theorem dL_law_27 : decode cL_law 27 = .ok (.iconst 5, 1) := by decide +kernel
theorem dL_law_28 : decode cL_law 28 = .ok (.isub, 1) := by decide +kernel
theorem dL_law_29 : decode cL_law 29 = .ok (.if_icmp .gt 667, 3) := by decide +kernel
theorem dL_law_32 : decode cL_law 32 = .ok (.aload_n 0, 1) := by decide +kernel
theorem dL_law_33 : decode cL_law 33 = .ok (.iload 4, 2) := by decide +kernel
theorem dL_law_35 : decode cL_law 35 = .ok (.iaload, 1) := by decide +kernel
theorem dL_law_36 : decode cL_law 36 = .ok (.bipush 15, 2) := by decide +kernel
theorem dL_law_38 : decode cL_law 38 = .ok (.iand, 1) := by decide +kernel
theorem dL_law_39 : decode cL_law 39 = .ok (.tableswitch 651 0 12 #[65, 122, 159, 208, 257, 282, 319, 401, 483, 508, 533, 570, 596], 65) := by decide +kernel
theorem dL_law_104 : decode cL_law 104 = .ok (.aload_n 1, 1) := by decide +kernel
theorem dL_law_105 : decode cL_law 105 = .ok (.aload_n 0, 1) := by decide +kernel
theorem dL_law_106 : decode cL_law 106 = .ok (.iload 4, 2) := by decide +kernel
theorem dL_law_108 : decode cL_law 108 = .ok (.iconst 1, 1) := by decide +kernel
theorem dL_law_109 : decode cL_law 109 = .ok (.iadd, 1) := by decide +kernel
theorem dL_law_110 : decode cL_law 110 = .ok (.iaload, 1) := by decide +kernel
theorem dL_law_111 : decode cL_law 111 = .ok (.i2l, 1) := by decide +kernel
theorem dL_law_112 : decode cL_law 112 = .ok (.bipush 32, 2) := by decide +kernel
theorem dL_law_114 : decode cL_law 114 = .ok (.lshl, 1) := by decide +kernel
theorem dL_law_115 : decode cL_law 115 = .ok (.aload_n 0, 1) := by decide +kernel
theorem dL_law_116 : decode cL_law 116 = .ok (.iload 4, 2) := by decide +kernel
theorem dL_law_118 : decode cL_law 118 = .ok (.iconst 2, 1) := by decide +kernel
theorem dL_law_119 : decode cL_law 119 = .ok (.iadd, 1) := by decide +kernel
theorem dL_law_120 : decode cL_law 120 = .ok (.iaload, 1) := by decide +kernel
theorem dL_law_121 : decode cL_law 121 = .ok (.i2l, 1) := by decide +kernel
theorem dL_law_122 : decode cL_law 122 = .ok (.ldc2_w 19, 3) := by decide +kernel
theorem dL_law_125 : decode cL_law 125 = .ok (.land, 1) := by decide +kernel
theorem dL_law_126 : decode cL_law 126 = .ok (.lor, 1) := by decide +kernel
theorem dL_law_127 : decode cL_law 127 = .ok (.invokevirtual 21, 3) := by decide +kernel
theorem dL_law_130 : decode cL_law 130 = .ok (.aload_n 2, 1) := by decide +kernel
theorem dL_law_131 : decode cL_law 131 = .ok (.aload_n 0, 1) := by decide +kernel
theorem dL_law_132 : decode cL_law 132 = .ok (.iload 4, 2) := by decide +kernel
theorem dL_law_134 : decode cL_law 134 = .ok (.iconst 1, 1) := by decide +kernel
theorem dL_law_135 : decode cL_law 135 = .ok (.iadd, 1) := by decide +kernel
theorem dL_law_136 : decode cL_law 136 = .ok (.iaload, 1) := by decide +kernel
theorem dL_law_137 : decode cL_law 137 = .ok (.i2l, 1) := by decide +kernel
theorem dL_law_138 : decode cL_law 138 = .ok (.bipush 32, 2) := by decide +kernel
theorem dL_law_140 : decode cL_law 140 = .ok (.lshl, 1) := by decide +kernel
theorem dL_law_141 : decode cL_law 141 = .ok (.aload_n 0, 1) := by decide +kernel
theorem dL_law_142 : decode cL_law 142 = .ok (.iload 4, 2) := by decide +kernel
theorem dL_law_144 : decode cL_law 144 = .ok (.iconst 2, 1) := by decide +kernel
theorem dL_law_145 : decode cL_law 145 = .ok (.iadd, 1) := by decide +kernel
theorem dL_law_146 : decode cL_law 146 = .ok (.iaload, 1) := by decide +kernel
theorem dL_law_147 : decode cL_law 147 = .ok (.i2l, 1) := by decide +kernel
theorem dL_law_148 : decode cL_law 148 = .ok (.ldc2_w 19, 3) := by decide +kernel
theorem dL_law_151 : decode cL_law 151 = .ok (.land, 1) := by decide +kernel
theorem dL_law_152 : decode cL_law 152 = .ok (.lor, 1) := by decide +kernel
theorem dL_law_153 : decode cL_law 153 = .ok (.invokevirtual 25, 3) := by decide +kernel
theorem dL_law_156 : decode cL_law 156 = .ok (.if_icmp .eq 534, 3) := by decide +kernel
theorem dL_law_159 : decode cL_law 159 = .ok (.iconst 0, 1) := by decide +kernel
theorem dL_law_160 : decode cL_law 160 = .ok (.ireturn, 1) := by decide +kernel
theorem dL_law_161 : decode cL_law 161 = .ok (.aload_n 1, 1) := by decide +kernel
theorem dL_law_162 : decode cL_law 162 = .ok (.aload_n 0, 1) := by decide +kernel
theorem dL_law_163 : decode cL_law 163 = .ok (.iload 4, 2) := by decide +kernel
theorem dL_law_165 : decode cL_law 165 = .ok (.iconst 1, 1) := by decide +kernel
theorem dL_law_166 : decode cL_law 166 = .ok (.iadd, 1) := by decide +kernel
theorem dL_law_167 : decode cL_law 167 = .ok (.iaload, 1) := by decide +kernel
theorem dL_law_168 : decode cL_law 168 = .ok (.aload_n 0, 1) := by decide +kernel
theorem dL_law_169 : decode cL_law 169 = .ok (.iload 4, 2) := by decide +kernel
theorem dL_law_171 : decode cL_law 171 = .ok (.iconst 2, 1) := by decide +kernel
theorem dL_law_172 : decode cL_law 172 = .ok (.iadd, 1) := by decide +kernel
theorem dL_law_173 : decode cL_law 173 = .ok (.iaload, 1) := by decide +kernel
theorem dL_law_174 : decode cL_law 174 = .ok (.invokevirtual 26, 3) := by decide +kernel
theorem dL_law_177 : decode cL_law 177 = .ok (.aload_n 2, 1) := by decide +kernel
theorem dL_law_178 : decode cL_law 178 = .ok (.aload_n 0, 1) := by decide +kernel
theorem dL_law_179 : decode cL_law 179 = .ok (.iload 4, 2) := by decide +kernel
theorem dL_law_181 : decode cL_law 181 = .ok (.iconst 1, 1) := by decide +kernel
theorem dL_law_182 : decode cL_law 182 = .ok (.iadd, 1) := by decide +kernel
theorem dL_law_183 : decode cL_law 183 = .ok (.iaload, 1) := by decide +kernel
theorem dL_law_184 : decode cL_law 184 = .ok (.aload_n 0, 1) := by decide +kernel
theorem dL_law_185 : decode cL_law 185 = .ok (.iload 4, 2) := by decide +kernel
theorem dL_law_187 : decode cL_law 187 = .ok (.iconst 2, 1) := by decide +kernel
theorem dL_law_188 : decode cL_law 188 = .ok (.iadd, 1) := by decide +kernel
theorem dL_law_189 : decode cL_law 189 = .ok (.iaload, 1) := by decide +kernel
theorem dL_law_190 : decode cL_law 190 = .ok (.invokevirtual 30, 3) := by decide +kernel
theorem dL_law_193 : decode cL_law 193 = .ok (.if_icmp .eq 497, 3) := by decide +kernel
theorem dL_law_196 : decode cL_law 196 = .ok (.iconst 0, 1) := by decide +kernel
theorem dL_law_197 : decode cL_law 197 = .ok (.ireturn, 1) := by decide +kernel
theorem dL_law_198 : decode cL_law 198 = .ok (.aload_n 1, 1) := by decide +kernel
theorem dL_law_199 : decode cL_law 199 = .ok (.aload_n 0, 1) := by decide +kernel
theorem dL_law_200 : decode cL_law 200 = .ok (.iload 4, 2) := by decide +kernel
theorem dL_law_202 : decode cL_law 202 = .ok (.iconst 1, 1) := by decide +kernel
theorem dL_law_203 : decode cL_law 203 = .ok (.iadd, 1) := by decide +kernel
theorem dL_law_204 : decode cL_law 204 = .ok (.iaload, 1) := by decide +kernel
theorem dL_law_205 : decode cL_law 205 = .ok (.aload_n 0, 1) := by decide +kernel
theorem dL_law_206 : decode cL_law 206 = .ok (.iload 4, 2) := by decide +kernel
theorem dL_law_208 : decode cL_law 208 = .ok (.iconst 2, 1) := by decide +kernel
theorem dL_law_209 : decode cL_law 209 = .ok (.iadd, 1) := by decide +kernel
theorem dL_law_210 : decode cL_law 210 = .ok (.iaload, 1) := by decide +kernel
theorem dL_law_211 : decode cL_law 211 = .ok (.aload_n 0, 1) := by decide +kernel
theorem dL_law_212 : decode cL_law 212 = .ok (.iload 4, 2) := by decide +kernel
theorem dL_law_214 : decode cL_law 214 = .ok (.iconst 3, 1) := by decide +kernel
theorem dL_law_215 : decode cL_law 215 = .ok (.iadd, 1) := by decide +kernel
theorem dL_law_216 : decode cL_law 216 = .ok (.iaload, 1) := by decide +kernel
theorem dL_law_217 : decode cL_law 217 = .ok (.invokevirtual 31, 3) := by decide +kernel
theorem dL_law_220 : decode cL_law 220 = .ok (.aload_n 2, 1) := by decide +kernel
theorem dL_law_221 : decode cL_law 221 = .ok (.aload_n 0, 1) := by decide +kernel
theorem dL_law_222 : decode cL_law 222 = .ok (.iload 4, 2) := by decide +kernel
theorem dL_law_224 : decode cL_law 224 = .ok (.iconst 1, 1) := by decide +kernel
theorem dL_law_225 : decode cL_law 225 = .ok (.iadd, 1) := by decide +kernel
theorem dL_law_226 : decode cL_law 226 = .ok (.iaload, 1) := by decide +kernel
theorem dL_law_227 : decode cL_law 227 = .ok (.aload_n 0, 1) := by decide +kernel
theorem dL_law_228 : decode cL_law 228 = .ok (.iload 4, 2) := by decide +kernel
theorem dL_law_230 : decode cL_law 230 = .ok (.iconst 2, 1) := by decide +kernel
theorem dL_law_231 : decode cL_law 231 = .ok (.iadd, 1) := by decide +kernel
theorem dL_law_232 : decode cL_law 232 = .ok (.iaload, 1) := by decide +kernel
theorem dL_law_233 : decode cL_law 233 = .ok (.aload_n 0, 1) := by decide +kernel
theorem dL_law_234 : decode cL_law 234 = .ok (.iload 4, 2) := by decide +kernel
theorem dL_law_236 : decode cL_law 236 = .ok (.iconst 3, 1) := by decide +kernel
theorem dL_law_237 : decode cL_law 237 = .ok (.iadd, 1) := by decide +kernel
theorem dL_law_238 : decode cL_law 238 = .ok (.iaload, 1) := by decide +kernel
theorem dL_law_239 : decode cL_law 239 = .ok (.invokevirtual 35, 3) := by decide +kernel
theorem dL_law_242 : decode cL_law 242 = .ok (.if_icmp .eq 448, 3) := by decide +kernel
theorem dL_law_245 : decode cL_law 245 = .ok (.iconst 0, 1) := by decide +kernel
theorem dL_law_246 : decode cL_law 246 = .ok (.ireturn, 1) := by decide +kernel
theorem dL_law_247 : decode cL_law 247 = .ok (.aload_n 1, 1) := by decide +kernel
theorem dL_law_248 : decode cL_law 248 = .ok (.aload_n 0, 1) := by decide +kernel
theorem dL_law_249 : decode cL_law 249 = .ok (.iload 4, 2) := by decide +kernel
theorem dL_law_251 : decode cL_law 251 = .ok (.iconst 1, 1) := by decide +kernel
theorem dL_law_252 : decode cL_law 252 = .ok (.iadd, 1) := by decide +kernel
theorem dL_law_253 : decode cL_law 253 = .ok (.iaload, 1) := by decide +kernel
theorem dL_law_254 : decode cL_law 254 = .ok (.aload_n 0, 1) := by decide +kernel
theorem dL_law_255 : decode cL_law 255 = .ok (.iload 4, 2) := by decide +kernel
theorem dL_law_257 : decode cL_law 257 = .ok (.iconst 2, 1) := by decide +kernel
theorem dL_law_258 : decode cL_law 258 = .ok (.iadd, 1) := by decide +kernel
theorem dL_law_259 : decode cL_law 259 = .ok (.iaload, 1) := by decide +kernel
theorem dL_law_260 : decode cL_law 260 = .ok (.aload_n 0, 1) := by decide +kernel
theorem dL_law_261 : decode cL_law 261 = .ok (.iload 4, 2) := by decide +kernel
theorem dL_law_263 : decode cL_law 263 = .ok (.iconst 3, 1) := by decide +kernel
theorem dL_law_264 : decode cL_law 264 = .ok (.iadd, 1) := by decide +kernel
theorem dL_law_265 : decode cL_law 265 = .ok (.iaload, 1) := by decide +kernel
theorem dL_law_266 : decode cL_law 266 = .ok (.invokevirtual 36, 3) := by decide +kernel
theorem dL_law_269 : decode cL_law 269 = .ok (.aload_n 2, 1) := by decide +kernel
theorem dL_law_270 : decode cL_law 270 = .ok (.aload_n 0, 1) := by decide +kernel
theorem dL_law_271 : decode cL_law 271 = .ok (.iload 4, 2) := by decide +kernel
theorem dL_law_273 : decode cL_law 273 = .ok (.iconst 1, 1) := by decide +kernel
theorem dL_law_274 : decode cL_law 274 = .ok (.iadd, 1) := by decide +kernel
theorem dL_law_275 : decode cL_law 275 = .ok (.iaload, 1) := by decide +kernel
theorem dL_law_276 : decode cL_law 276 = .ok (.aload_n 0, 1) := by decide +kernel
theorem dL_law_277 : decode cL_law 277 = .ok (.iload 4, 2) := by decide +kernel
theorem dL_law_279 : decode cL_law 279 = .ok (.iconst 2, 1) := by decide +kernel
theorem dL_law_280 : decode cL_law 280 = .ok (.iadd, 1) := by decide +kernel
theorem dL_law_281 : decode cL_law 281 = .ok (.iaload, 1) := by decide +kernel
theorem dL_law_282 : decode cL_law 282 = .ok (.aload_n 0, 1) := by decide +kernel
theorem dL_law_283 : decode cL_law 283 = .ok (.iload 4, 2) := by decide +kernel
theorem dL_law_285 : decode cL_law 285 = .ok (.iconst 3, 1) := by decide +kernel
theorem dL_law_286 : decode cL_law 286 = .ok (.iadd, 1) := by decide +kernel
theorem dL_law_287 : decode cL_law 287 = .ok (.iaload, 1) := by decide +kernel
theorem dL_law_288 : decode cL_law 288 = .ok (.invokevirtual 39, 3) := by decide +kernel
theorem dL_law_291 : decode cL_law 291 = .ok (.if_icmp .eq 399, 3) := by decide +kernel
theorem dL_law_294 : decode cL_law 294 = .ok (.iconst 0, 1) := by decide +kernel
theorem dL_law_295 : decode cL_law 295 = .ok (.ireturn, 1) := by decide +kernel
theorem dL_law_296 : decode cL_law 296 = .ok (.aload_n 1, 1) := by decide +kernel
theorem dL_law_297 : decode cL_law 297 = .ok (.aload_n 0, 1) := by decide +kernel
theorem dL_law_298 : decode cL_law 298 = .ok (.iload 4, 2) := by decide +kernel
theorem dL_law_300 : decode cL_law 300 = .ok (.iconst 1, 1) := by decide +kernel
theorem dL_law_301 : decode cL_law 301 = .ok (.iadd, 1) := by decide +kernel
theorem dL_law_302 : decode cL_law 302 = .ok (.iaload, 1) := by decide +kernel
theorem dL_law_303 : decode cL_law 303 = .ok (.invokevirtual 40, 3) := by decide +kernel
theorem dL_law_306 : decode cL_law 306 = .ok (.aload_n 2, 1) := by decide +kernel
theorem dL_law_307 : decode cL_law 307 = .ok (.aload_n 0, 1) := by decide +kernel
theorem dL_law_308 : decode cL_law 308 = .ok (.iload 4, 2) := by decide +kernel
theorem dL_law_310 : decode cL_law 310 = .ok (.iconst 1, 1) := by decide +kernel
theorem dL_law_311 : decode cL_law 311 = .ok (.iadd, 1) := by decide +kernel
theorem dL_law_312 : decode cL_law 312 = .ok (.iaload, 1) := by decide +kernel
theorem dL_law_313 : decode cL_law 313 = .ok (.invokevirtual 44, 3) := by decide +kernel
theorem dL_law_316 : decode cL_law 316 = .ok (.if_icmp .eq 374, 3) := by decide +kernel
theorem dL_law_319 : decode cL_law 319 = .ok (.iconst 0, 1) := by decide +kernel
theorem dL_law_320 : decode cL_law 320 = .ok (.ireturn, 1) := by decide +kernel
theorem dL_law_321 : decode cL_law 321 = .ok (.aload_n 1, 1) := by decide +kernel
theorem dL_law_322 : decode cL_law 322 = .ok (.aload_n 0, 1) := by decide +kernel
theorem dL_law_323 : decode cL_law 323 = .ok (.iload 4, 2) := by decide +kernel
theorem dL_law_325 : decode cL_law 325 = .ok (.iconst 1, 1) := by decide +kernel
theorem dL_law_326 : decode cL_law 326 = .ok (.iadd, 1) := by decide +kernel
theorem dL_law_327 : decode cL_law 327 = .ok (.iaload, 1) := by decide +kernel
theorem dL_law_328 : decode cL_law 328 = .ok (.aload_n 0, 1) := by decide +kernel
theorem dL_law_329 : decode cL_law 329 = .ok (.iload 4, 2) := by decide +kernel
theorem dL_law_331 : decode cL_law 331 = .ok (.iconst 2, 1) := by decide +kernel
theorem dL_law_332 : decode cL_law 332 = .ok (.iadd, 1) := by decide +kernel
theorem dL_law_333 : decode cL_law 333 = .ok (.iaload, 1) := by decide +kernel
theorem dL_law_334 : decode cL_law 334 = .ok (.invokevirtual 45, 3) := by decide +kernel
theorem dL_law_337 : decode cL_law 337 = .ok (.aload_n 2, 1) := by decide +kernel
theorem dL_law_338 : decode cL_law 338 = .ok (.aload_n 0, 1) := by decide +kernel
theorem dL_law_339 : decode cL_law 339 = .ok (.iload 4, 2) := by decide +kernel
theorem dL_law_341 : decode cL_law 341 = .ok (.iconst 1, 1) := by decide +kernel
theorem dL_law_342 : decode cL_law 342 = .ok (.iadd, 1) := by decide +kernel
theorem dL_law_343 : decode cL_law 343 = .ok (.iaload, 1) := by decide +kernel
theorem dL_law_344 : decode cL_law 344 = .ok (.aload_n 0, 1) := by decide +kernel
theorem dL_law_345 : decode cL_law 345 = .ok (.iload 4, 2) := by decide +kernel
theorem dL_law_347 : decode cL_law 347 = .ok (.iconst 2, 1) := by decide +kernel
theorem dL_law_348 : decode cL_law 348 = .ok (.iadd, 1) := by decide +kernel
theorem dL_law_349 : decode cL_law 349 = .ok (.iaload, 1) := by decide +kernel
theorem dL_law_350 : decode cL_law 350 = .ok (.invokevirtual 49, 3) := by decide +kernel
theorem dL_law_353 : decode cL_law 353 = .ok (.if_icmp .eq 337, 3) := by decide +kernel
theorem dL_law_356 : decode cL_law 356 = .ok (.iconst 0, 1) := by decide +kernel
theorem dL_law_357 : decode cL_law 357 = .ok (.ireturn, 1) := by decide +kernel
theorem dL_law_358 : decode cL_law 358 = .ok (.aload_n 1, 1) := by decide +kernel
theorem dL_law_359 : decode cL_law 359 = .ok (.aload_n 0, 1) := by decide +kernel
theorem dL_law_360 : decode cL_law 360 = .ok (.iload 4, 2) := by decide +kernel
theorem dL_law_362 : decode cL_law 362 = .ok (.iconst 1, 1) := by decide +kernel
theorem dL_law_363 : decode cL_law 363 = .ok (.iadd, 1) := by decide +kernel
theorem dL_law_364 : decode cL_law 364 = .ok (.iaload, 1) := by decide +kernel
theorem dL_law_365 : decode cL_law 365 = .ok (.aload_n 0, 1) := by decide +kernel
theorem dL_law_366 : decode cL_law 366 = .ok (.iload 4, 2) := by decide +kernel
theorem dL_law_368 : decode cL_law 368 = .ok (.iconst 2, 1) := by decide +kernel
theorem dL_law_369 : decode cL_law 369 = .ok (.iadd, 1) := by decide +kernel
theorem dL_law_370 : decode cL_law 370 = .ok (.iaload, 1) := by decide +kernel
theorem dL_law_371 : decode cL_law 371 = .ok (.aload_n 0, 1) := by decide +kernel
theorem dL_law_372 : decode cL_law 372 = .ok (.iload 4, 2) := by decide +kernel
theorem dL_law_374 : decode cL_law 374 = .ok (.iconst 3, 1) := by decide +kernel
theorem dL_law_375 : decode cL_law 375 = .ok (.iadd, 1) := by decide +kernel
theorem dL_law_376 : decode cL_law 376 = .ok (.iaload, 1) := by decide +kernel
theorem dL_law_377 : decode cL_law 377 = .ok (.i2l, 1) := by decide +kernel
theorem dL_law_378 : decode cL_law 378 = .ok (.bipush 32, 2) := by decide +kernel
theorem dL_law_380 : decode cL_law 380 = .ok (.lshl, 1) := by decide +kernel
theorem dL_law_381 : decode cL_law 381 = .ok (.aload_n 0, 1) := by decide +kernel
theorem dL_law_382 : decode cL_law 382 = .ok (.iload 4, 2) := by decide +kernel
theorem dL_law_384 : decode cL_law 384 = .ok (.iconst 4, 1) := by decide +kernel
theorem dL_law_385 : decode cL_law 385 = .ok (.iadd, 1) := by decide +kernel
theorem dL_law_386 : decode cL_law 386 = .ok (.iaload, 1) := by decide +kernel
theorem dL_law_387 : decode cL_law 387 = .ok (.i2l, 1) := by decide +kernel
theorem dL_law_388 : decode cL_law 388 = .ok (.ldc2_w 19, 3) := by decide +kernel
theorem dL_law_391 : decode cL_law 391 = .ok (.land, 1) := by decide +kernel
theorem dL_law_392 : decode cL_law 392 = .ok (.lor, 1) := by decide +kernel
theorem dL_law_393 : decode cL_law 393 = .ok (.invokevirtual 50, 3) := by decide +kernel
theorem dL_law_396 : decode cL_law 396 = .ok (.aload_n 2, 1) := by decide +kernel
theorem dL_law_397 : decode cL_law 397 = .ok (.aload_n 0, 1) := by decide +kernel
theorem dL_law_398 : decode cL_law 398 = .ok (.iload 4, 2) := by decide +kernel
theorem dL_law_400 : decode cL_law 400 = .ok (.iconst 1, 1) := by decide +kernel
theorem dL_law_401 : decode cL_law 401 = .ok (.iadd, 1) := by decide +kernel
theorem dL_law_402 : decode cL_law 402 = .ok (.iaload, 1) := by decide +kernel
theorem dL_law_403 : decode cL_law 403 = .ok (.aload_n 0, 1) := by decide +kernel
theorem dL_law_404 : decode cL_law 404 = .ok (.iload 4, 2) := by decide +kernel
theorem dL_law_406 : decode cL_law 406 = .ok (.iconst 2, 1) := by decide +kernel
theorem dL_law_407 : decode cL_law 407 = .ok (.iadd, 1) := by decide +kernel
theorem dL_law_408 : decode cL_law 408 = .ok (.iaload, 1) := by decide +kernel
theorem dL_law_409 : decode cL_law 409 = .ok (.aload_n 0, 1) := by decide +kernel
theorem dL_law_410 : decode cL_law 410 = .ok (.iload 4, 2) := by decide +kernel
theorem dL_law_412 : decode cL_law 412 = .ok (.iconst 3, 1) := by decide +kernel
theorem dL_law_413 : decode cL_law 413 = .ok (.iadd, 1) := by decide +kernel
theorem dL_law_414 : decode cL_law 414 = .ok (.iaload, 1) := by decide +kernel
theorem dL_law_415 : decode cL_law 415 = .ok (.i2l, 1) := by decide +kernel
theorem dL_law_416 : decode cL_law 416 = .ok (.bipush 32, 2) := by decide +kernel
theorem dL_law_418 : decode cL_law 418 = .ok (.lshl, 1) := by decide +kernel
theorem dL_law_419 : decode cL_law 419 = .ok (.aload_n 0, 1) := by decide +kernel
theorem dL_law_420 : decode cL_law 420 = .ok (.iload 4, 2) := by decide +kernel
theorem dL_law_422 : decode cL_law 422 = .ok (.iconst 4, 1) := by decide +kernel
theorem dL_law_423 : decode cL_law 423 = .ok (.iadd, 1) := by decide +kernel
theorem dL_law_424 : decode cL_law 424 = .ok (.iaload, 1) := by decide +kernel
theorem dL_law_425 : decode cL_law 425 = .ok (.i2l, 1) := by decide +kernel
theorem dL_law_426 : decode cL_law 426 = .ok (.ldc2_w 19, 3) := by decide +kernel
theorem dL_law_429 : decode cL_law 429 = .ok (.land, 1) := by decide +kernel
theorem dL_law_430 : decode cL_law 430 = .ok (.lor, 1) := by decide +kernel
theorem dL_law_431 : decode cL_law 431 = .ok (.invokevirtual 54, 3) := by decide +kernel
theorem dL_law_434 : decode cL_law 434 = .ok (.lcmp, 1) := by decide +kernel
theorem dL_law_435 : decode cL_law 435 = .ok (.ifCond .eq 255, 3) := by decide +kernel
theorem dL_law_438 : decode cL_law 438 = .ok (.iconst 0, 1) := by decide +kernel
theorem dL_law_439 : decode cL_law 439 = .ok (.ireturn, 1) := by decide +kernel
theorem dL_law_440 : decode cL_law 440 = .ok (.aload_n 1, 1) := by decide +kernel
theorem dL_law_441 : decode cL_law 441 = .ok (.aload_n 0, 1) := by decide +kernel
theorem dL_law_442 : decode cL_law 442 = .ok (.iload 4, 2) := by decide +kernel
theorem dL_law_444 : decode cL_law 444 = .ok (.iconst 1, 1) := by decide +kernel
theorem dL_law_445 : decode cL_law 445 = .ok (.iadd, 1) := by decide +kernel
theorem dL_law_446 : decode cL_law 446 = .ok (.iaload, 1) := by decide +kernel
theorem dL_law_447 : decode cL_law 447 = .ok (.aload_n 0, 1) := by decide +kernel
theorem dL_law_448 : decode cL_law 448 = .ok (.iload 4, 2) := by decide +kernel
theorem dL_law_450 : decode cL_law 450 = .ok (.iconst 2, 1) := by decide +kernel
theorem dL_law_451 : decode cL_law 451 = .ok (.iadd, 1) := by decide +kernel
theorem dL_law_452 : decode cL_law 452 = .ok (.iaload, 1) := by decide +kernel
theorem dL_law_453 : decode cL_law 453 = .ok (.aload_n 0, 1) := by decide +kernel
theorem dL_law_454 : decode cL_law 454 = .ok (.iload 4, 2) := by decide +kernel
theorem dL_law_456 : decode cL_law 456 = .ok (.iconst 3, 1) := by decide +kernel
theorem dL_law_457 : decode cL_law 457 = .ok (.iadd, 1) := by decide +kernel
theorem dL_law_458 : decode cL_law 458 = .ok (.iaload, 1) := by decide +kernel
theorem dL_law_459 : decode cL_law 459 = .ok (.i2l, 1) := by decide +kernel
theorem dL_law_460 : decode cL_law 460 = .ok (.bipush 32, 2) := by decide +kernel
theorem dL_law_462 : decode cL_law 462 = .ok (.lshl, 1) := by decide +kernel
theorem dL_law_463 : decode cL_law 463 = .ok (.aload_n 0, 1) := by decide +kernel
theorem dL_law_464 : decode cL_law 464 = .ok (.iload 4, 2) := by decide +kernel
theorem dL_law_466 : decode cL_law 466 = .ok (.iconst 4, 1) := by decide +kernel
theorem dL_law_467 : decode cL_law 467 = .ok (.iadd, 1) := by decide +kernel
theorem dL_law_468 : decode cL_law 468 = .ok (.iaload, 1) := by decide +kernel
theorem dL_law_469 : decode cL_law 469 = .ok (.i2l, 1) := by decide +kernel
theorem dL_law_470 : decode cL_law 470 = .ok (.ldc2_w 19, 3) := by decide +kernel
theorem dL_law_473 : decode cL_law 473 = .ok (.land, 1) := by decide +kernel
theorem dL_law_474 : decode cL_law 474 = .ok (.lor, 1) := by decide +kernel
theorem dL_law_475 : decode cL_law 475 = .ok (.invokevirtual 55, 3) := by decide +kernel
theorem dL_law_478 : decode cL_law 478 = .ok (.aload_n 2, 1) := by decide +kernel
theorem dL_law_479 : decode cL_law 479 = .ok (.aload_n 0, 1) := by decide +kernel
theorem dL_law_480 : decode cL_law 480 = .ok (.iload 4, 2) := by decide +kernel
theorem dL_law_482 : decode cL_law 482 = .ok (.iconst 1, 1) := by decide +kernel
theorem dL_law_483 : decode cL_law 483 = .ok (.iadd, 1) := by decide +kernel
theorem dL_law_484 : decode cL_law 484 = .ok (.iaload, 1) := by decide +kernel
theorem dL_law_485 : decode cL_law 485 = .ok (.aload_n 0, 1) := by decide +kernel
theorem dL_law_486 : decode cL_law 486 = .ok (.iload 4, 2) := by decide +kernel
theorem dL_law_488 : decode cL_law 488 = .ok (.iconst 2, 1) := by decide +kernel
theorem dL_law_489 : decode cL_law 489 = .ok (.iadd, 1) := by decide +kernel
theorem dL_law_490 : decode cL_law 490 = .ok (.iaload, 1) := by decide +kernel
theorem dL_law_491 : decode cL_law 491 = .ok (.aload_n 0, 1) := by decide +kernel
theorem dL_law_492 : decode cL_law 492 = .ok (.iload 4, 2) := by decide +kernel
theorem dL_law_494 : decode cL_law 494 = .ok (.iconst 3, 1) := by decide +kernel
theorem dL_law_495 : decode cL_law 495 = .ok (.iadd, 1) := by decide +kernel
theorem dL_law_496 : decode cL_law 496 = .ok (.iaload, 1) := by decide +kernel
theorem dL_law_497 : decode cL_law 497 = .ok (.i2l, 1) := by decide +kernel
theorem dL_law_498 : decode cL_law 498 = .ok (.bipush 32, 2) := by decide +kernel
theorem dL_law_500 : decode cL_law 500 = .ok (.lshl, 1) := by decide +kernel
theorem dL_law_501 : decode cL_law 501 = .ok (.aload_n 0, 1) := by decide +kernel
theorem dL_law_502 : decode cL_law 502 = .ok (.iload 4, 2) := by decide +kernel
theorem dL_law_504 : decode cL_law 504 = .ok (.iconst 4, 1) := by decide +kernel
theorem dL_law_505 : decode cL_law 505 = .ok (.iadd, 1) := by decide +kernel
theorem dL_law_506 : decode cL_law 506 = .ok (.iaload, 1) := by decide +kernel
theorem dL_law_507 : decode cL_law 507 = .ok (.i2l, 1) := by decide +kernel
theorem dL_law_508 : decode cL_law 508 = .ok (.ldc2_w 19, 3) := by decide +kernel
theorem dL_law_511 : decode cL_law 511 = .ok (.land, 1) := by decide +kernel
theorem dL_law_512 : decode cL_law 512 = .ok (.lor, 1) := by decide +kernel
theorem dL_law_513 : decode cL_law 513 = .ok (.invokevirtual 58, 3) := by decide +kernel
theorem dL_law_516 : decode cL_law 516 = .ok (.lcmp, 1) := by decide +kernel
theorem dL_law_517 : decode cL_law 517 = .ok (.ifCond .eq 173, 3) := by decide +kernel
theorem dL_law_520 : decode cL_law 520 = .ok (.iconst 0, 1) := by decide +kernel
theorem dL_law_521 : decode cL_law 521 = .ok (.ireturn, 1) := by decide +kernel
theorem dL_law_522 : decode cL_law 522 = .ok (.aload_n 1, 1) := by decide +kernel
theorem dL_law_523 : decode cL_law 523 = .ok (.aload_n 0, 1) := by decide +kernel
theorem dL_law_524 : decode cL_law 524 = .ok (.iload 4, 2) := by decide +kernel
theorem dL_law_526 : decode cL_law 526 = .ok (.iconst 1, 1) := by decide +kernel
theorem dL_law_527 : decode cL_law 527 = .ok (.iadd, 1) := by decide +kernel
theorem dL_law_528 : decode cL_law 528 = .ok (.iaload, 1) := by decide +kernel
theorem dL_law_529 : decode cL_law 529 = .ok (.invokevirtual 59, 3) := by decide +kernel
theorem dL_law_532 : decode cL_law 532 = .ok (.aload_n 2, 1) := by decide +kernel
theorem dL_law_533 : decode cL_law 533 = .ok (.aload_n 0, 1) := by decide +kernel
theorem dL_law_534 : decode cL_law 534 = .ok (.iload 4, 2) := by decide +kernel
theorem dL_law_536 : decode cL_law 536 = .ok (.iconst 1, 1) := by decide +kernel
theorem dL_law_537 : decode cL_law 537 = .ok (.iadd, 1) := by decide +kernel
theorem dL_law_538 : decode cL_law 538 = .ok (.iaload, 1) := by decide +kernel
theorem dL_law_539 : decode cL_law 539 = .ok (.invokevirtual 62, 3) := by decide +kernel
theorem dL_law_542 : decode cL_law 542 = .ok (.if_icmp .eq 148, 3) := by decide +kernel
theorem dL_law_545 : decode cL_law 545 = .ok (.iconst 0, 1) := by decide +kernel
theorem dL_law_546 : decode cL_law 546 = .ok (.ireturn, 1) := by decide +kernel
theorem dL_law_547 : decode cL_law 547 = .ok (.aload_n 1, 1) := by decide +kernel
theorem dL_law_548 : decode cL_law 548 = .ok (.aload_n 0, 1) := by decide +kernel
theorem dL_law_549 : decode cL_law 549 = .ok (.iload 4, 2) := by decide +kernel
theorem dL_law_551 : decode cL_law 551 = .ok (.iconst 1, 1) := by decide +kernel
theorem dL_law_552 : decode cL_law 552 = .ok (.iadd, 1) := by decide +kernel
theorem dL_law_553 : decode cL_law 553 = .ok (.iaload, 1) := by decide +kernel
theorem dL_law_554 : decode cL_law 554 = .ok (.invokevirtual 63, 3) := by decide +kernel
theorem dL_law_557 : decode cL_law 557 = .ok (.aload_n 2, 1) := by decide +kernel
theorem dL_law_558 : decode cL_law 558 = .ok (.aload_n 0, 1) := by decide +kernel
theorem dL_law_559 : decode cL_law 559 = .ok (.iload 4, 2) := by decide +kernel
theorem dL_law_561 : decode cL_law 561 = .ok (.iconst 1, 1) := by decide +kernel
theorem dL_law_562 : decode cL_law 562 = .ok (.iadd, 1) := by decide +kernel
theorem dL_law_563 : decode cL_law 563 = .ok (.iaload, 1) := by decide +kernel
theorem dL_law_564 : decode cL_law 564 = .ok (.invokevirtual 66, 3) := by decide +kernel
theorem dL_law_567 : decode cL_law 567 = .ok (.if_icmp .eq 123, 3) := by decide +kernel
theorem dL_law_570 : decode cL_law 570 = .ok (.iconst 0, 1) := by decide +kernel
theorem dL_law_571 : decode cL_law 571 = .ok (.ireturn, 1) := by decide +kernel
theorem dL_law_572 : decode cL_law 572 = .ok (.aload_n 1, 1) := by decide +kernel
theorem dL_law_573 : decode cL_law 573 = .ok (.aload_n 0, 1) := by decide +kernel
theorem dL_law_574 : decode cL_law 574 = .ok (.iload 4, 2) := by decide +kernel
theorem dL_law_576 : decode cL_law 576 = .ok (.iconst 1, 1) := by decide +kernel
theorem dL_law_577 : decode cL_law 577 = .ok (.iadd, 1) := by decide +kernel
theorem dL_law_578 : decode cL_law 578 = .ok (.iaload, 1) := by decide +kernel
theorem dL_law_579 : decode cL_law 579 = .ok (.aload_n 0, 1) := by decide +kernel
theorem dL_law_580 : decode cL_law 580 = .ok (.iload 4, 2) := by decide +kernel
theorem dL_law_582 : decode cL_law 582 = .ok (.iconst 2, 1) := by decide +kernel
theorem dL_law_583 : decode cL_law 583 = .ok (.iadd, 1) := by decide +kernel
theorem dL_law_584 : decode cL_law 584 = .ok (.iaload, 1) := by decide +kernel
theorem dL_law_585 : decode cL_law 585 = .ok (.invokevirtual 67, 3) := by decide +kernel
theorem dL_law_588 : decode cL_law 588 = .ok (.aload_n 2, 1) := by decide +kernel
theorem dL_law_589 : decode cL_law 589 = .ok (.aload_n 0, 1) := by decide +kernel
theorem dL_law_590 : decode cL_law 590 = .ok (.iload 4, 2) := by decide +kernel
theorem dL_law_592 : decode cL_law 592 = .ok (.iconst 1, 1) := by decide +kernel
theorem dL_law_593 : decode cL_law 593 = .ok (.iadd, 1) := by decide +kernel
theorem dL_law_594 : decode cL_law 594 = .ok (.iaload, 1) := by decide +kernel
theorem dL_law_595 : decode cL_law 595 = .ok (.aload_n 0, 1) := by decide +kernel
theorem dL_law_596 : decode cL_law 596 = .ok (.iload 4, 2) := by decide +kernel
theorem dL_law_598 : decode cL_law 598 = .ok (.iconst 2, 1) := by decide +kernel
theorem dL_law_599 : decode cL_law 599 = .ok (.iadd, 1) := by decide +kernel
theorem dL_law_600 : decode cL_law 600 = .ok (.iaload, 1) := by decide +kernel
theorem dL_law_601 : decode cL_law 601 = .ok (.invokevirtual 70, 3) := by decide +kernel
theorem dL_law_604 : decode cL_law 604 = .ok (.if_icmp .eq 86, 3) := by decide +kernel
theorem dL_law_607 : decode cL_law 607 = .ok (.iconst 0, 1) := by decide +kernel
theorem dL_law_608 : decode cL_law 608 = .ok (.ireturn, 1) := by decide +kernel
theorem dL_law_609 : decode cL_law 609 = .ok (.aload_n 1, 1) := by decide +kernel
theorem dL_law_610 : decode cL_law 610 = .ok (.aload_n 0, 1) := by decide +kernel
theorem dL_law_611 : decode cL_law 611 = .ok (.iload 4, 2) := by decide +kernel
theorem dL_law_613 : decode cL_law 613 = .ok (.iconst 1, 1) := by decide +kernel
theorem dL_law_614 : decode cL_law 614 = .ok (.iadd, 1) := by decide +kernel
theorem dL_law_615 : decode cL_law 615 = .ok (.iaload, 1) := by decide +kernel
theorem dL_law_616 : decode cL_law 616 = .ok (.invokevirtual 71, 3) := by decide +kernel
theorem dL_law_619 : decode cL_law 619 = .ok (.aload_n 2, 1) := by decide +kernel
theorem dL_law_620 : decode cL_law 620 = .ok (.aload_n 0, 1) := by decide +kernel
theorem dL_law_621 : decode cL_law 621 = .ok (.iload 4, 2) := by decide +kernel
theorem dL_law_623 : decode cL_law 623 = .ok (.iconst 1, 1) := by decide +kernel
theorem dL_law_624 : decode cL_law 624 = .ok (.iadd, 1) := by decide +kernel
theorem dL_law_625 : decode cL_law 625 = .ok (.iaload, 1) := by decide +kernel
theorem dL_law_626 : decode cL_law 626 = .ok (.invokevirtual 74, 3) := by decide +kernel
theorem dL_law_629 : decode cL_law 629 = .ok (.lcmp, 1) := by decide +kernel
theorem dL_law_630 : decode cL_law 630 = .ok (.ifCond .eq 60, 3) := by decide +kernel
theorem dL_law_633 : decode cL_law 633 = .ok (.iconst 0, 1) := by decide +kernel
theorem dL_law_634 : decode cL_law 634 = .ok (.ireturn, 1) := by decide +kernel
theorem dL_law_635 : decode cL_law 635 = .ok (.aload_n 1, 1) := by decide +kernel
theorem dL_law_636 : decode cL_law 636 = .ok (.aload_n 0, 1) := by decide +kernel
theorem dL_law_637 : decode cL_law 637 = .ok (.iload 4, 2) := by decide +kernel
theorem dL_law_639 : decode cL_law 639 = .ok (.iconst 1, 1) := by decide +kernel
theorem dL_law_640 : decode cL_law 640 = .ok (.iadd, 1) := by decide +kernel
theorem dL_law_641 : decode cL_law 641 = .ok (.iaload, 1) := by decide +kernel
theorem dL_law_642 : decode cL_law 642 = .ok (.aload_n 3, 1) := by decide +kernel
theorem dL_law_643 : decode cL_law 643 = .ok (.invokestatic 75, 3) := by decide +kernel
theorem dL_law_646 : decode cL_law 646 = .ok (.istore 5, 2) := by decide +kernel
theorem dL_law_648 : decode cL_law 648 = .ok (.aload_n 2, 1) := by decide +kernel
theorem dL_law_649 : decode cL_law 649 = .ok (.aload_n 0, 1) := by decide +kernel
theorem dL_law_650 : decode cL_law 650 = .ok (.iload 4, 2) := by decide +kernel
theorem dL_law_652 : decode cL_law 652 = .ok (.iconst 1, 1) := by decide +kernel
theorem dL_law_653 : decode cL_law 653 = .ok (.iadd, 1) := by decide +kernel
theorem dL_law_654 : decode cL_law 654 = .ok (.iaload, 1) := by decide +kernel
theorem dL_law_655 : decode cL_law 655 = .ok (.invokevirtual 80, 3) := by decide +kernel
theorem dL_law_658 : decode cL_law 658 = .ok (.lstore 6, 2) := by decide +kernel
theorem dL_law_660 : decode cL_law 660 = .ok (.aload_n 2, 1) := by decide +kernel
theorem dL_law_661 : decode cL_law 661 = .ok (.invokevirtual 81, 3) := by decide +kernel
theorem dL_law_664 : decode cL_law 664 = .ok (.iload 5, 2) := by decide +kernel
theorem dL_law_666 : decode cL_law 666 = .ok (.if_icmp .eq 5, 3) := by decide +kernel
theorem dL_law_669 : decode cL_law 669 = .ok (.iconst 0, 1) := by decide +kernel
theorem dL_law_670 : decode cL_law 670 = .ok (.ireturn, 1) := by decide +kernel
theorem dL_law_671 : decode cL_law 671 = .ok (.iload 5, 2) := by decide +kernel
theorem dL_law_673 : decode cL_law 673 = .ok (.ifCond .ne 14, 3) := by decide +kernel
theorem dL_law_676 : decode cL_law 676 = .ok (.aload_n 3, 1) := by decide +kernel
theorem dL_law_677 : decode cL_law 677 = .ok (.iconst 0, 1) := by decide +kernel
theorem dL_law_678 : decode cL_law 678 = .ok (.laload, 1) := by decide +kernel
theorem dL_law_679 : decode cL_law 679 = .ok (.lload 6, 2) := by decide +kernel
theorem dL_law_681 : decode cL_law 681 = .ok (.lcmp, 1) := by decide +kernel
theorem dL_law_682 : decode cL_law 682 = .ok (.ifCond .eq 5, 3) := by decide +kernel
theorem dL_law_685 : decode cL_law 685 = .ok (.iconst 0, 1) := by decide +kernel
theorem dL_law_686 : decode cL_law 686 = .ok (.ireturn, 1) := by decide +kernel
theorem dL_law_687 : decode cL_law 687 = .ok (.goto 3, 3) := by decide +kernel
theorem dL_law_690 : decode cL_law 690 = .ok (.iinc 4 5, 3) := by decide +kernel
theorem dL_law_693 : decode cL_law 693 = .ok (.goto (-670), 3) := by decide +kernel
theorem dL_law_696 : decode cL_law 696 = .ok (.iconst 1, 1) := by decide +kernel
theorem dL_law_697 : decode cL_law 697 = .ok (.ireturn, 1) := by decide +kernel
abbrev vwCl : List vw_C := [(RJx00060, TJx00060, 6), (RX0, TX0, 5), (RX1, TX1, 6), (RX2, TX2, 13), (RX3, TX3, 21)]
end
section
/-! A world by places: cell k of n lies at the address ad k and holds en k. -/
def wl (ad : Nat → Nat) (en : Nat → va_E) (n : Nat) : va_W := (List.range n).map (fun k => (ad k, en k))
theorem wl_len (ad : Nat → Nat) (en : Nat → va_E) (n : Nat) : (wl ad en n).length = n := by simp [wl]
theorem wl_get {ad : Nat → Nat} {en : Nat → va_E} {n k : Nat} (h : k < n) : (wl ad en n)[k]? = some (ad k, en k) := by
  simp [wl, h]
theorem wl_at {ad : Nat → Nat} {en : Nat → va_E} {n k : Nat} {e : va_E} (h : k < n) (he : en k = e) : (wl ad en n)[k]? = some (ad k, e) := by
  rw [wl_get h, he]
theorem wl_none {ad : Nat → Nat} {en : Nat → va_E} {n k : Nat} (h : n ≤ k) : (wl ad en n)[k]? = none :=
  List.getElem?_eq_none (by rw [wl_len]; exact h)
theorem wl_set {ad : Nat → Nat} {en : Nat → va_E} {n k : Nat} (h : k < n) (e : va_E) : (wl ad en n).set k (ad k, e) = wl ad (va_up en k e) n := by
  apply List.ext_getElem?
  intro j
  by_cases hj : j = k
  · subst hj
    rw [List.getElem?_set_self (by rw [wl_len]; exact h), wl_get h, va_up_self]
  · rw [List.getElem?_set_ne (Ne.symm hj)]
    by_cases hjn : j < n
    · rw [wl_get hjn, wl_get hjn, va_up_ne _ _ hj]
    · rw [wl_none (by omega), wl_none (by omega)]
theorem wl_push (ad : Nat → Nat) (en : Nat → va_E) (n q : Nat) (e : va_E) : wl ad en n ++ [(q, e)] = wl (va_up ad n q) (va_up en n e) (n + 1) := by
  apply List.ext_getElem?
  intro j
  by_cases hj : j < n
  · rw [List.getElem?_append_left (by rw [wl_len]; exact hj), wl_get hj, wl_get (by omega), va_up_ne _ _ (by omega), va_up_ne _ _ (by omega)]
  · rw [List.getElem?_append_right (by rw [wl_len]; omega), wl_len]
    by_cases hn : j = n
    · subst hn
      rw [Nat.sub_self, wl_get (by omega), va_up_self, va_up_self]
      rfl
    · rw [wl_none (by omega)]
      exact List.getElem?_eq_none (by simp; omega)
/-- which cells a method may change: its world's, and those that it makes -/
def wA (ad : Nat → Nat) (n sz : Nat) : Nat → Prop := fun q => (∃ k, k < n ∧ q = ad k) ∨ sz ≤ q
/-- what the tables say beside the words: the link to a nest mate's private method, the class of the plans' row -/
def wE (U : State) : Prop := va_Nw (.methodLinkNest RX0 35 yX2_isKind "LibraryDesk") U ∧ va_AO RX1 U
theorem wE_warm {s U : State} (hW : s.WarmedH U.vm) (h : wE s) : wE U := ⟨va_Nw.warmM hW h.1, va_AO.moved hW.alike h.2⟩
theorem wE_same {s U : State} (hvm : s.vm = U.vm) (h : wE s) : wE U := ⟨va_Nw.same rfl hvm h.1, va_AO.moved (by rw [hvm]; exact Vm.Alike.refl _) h.2⟩
/-- a method's world while it runs -/
def wk (D : va_G) (cl : List vw_C) (tys : List (ClassId × FieldType)) (ad : Nat → Nat) (en : Nat → va_E) (n : Nat) (A : Nat → Prop) (s : State) (H : Heap) (locs : List Loc) : Prop :=
  va_K D cl tys s ∧ va_P D cl (wl ad en n) H ∧ va_D A (wl ad en n) ∧ va_S A s.heap H locs ∧ (∀ q : Nat, s.heap.size ≤ q → A q) ∧ wE s
/-- at a method's start -/
def wPc (D : va_G) (cl : List vw_C) (tys : List (ClassId × FieldType)) (ad : Nat → Nat) (en : Nat → va_E) (n sz : Nat) (As : List Value) : Array Value → State → Prop :=
  va_Pc As (fun U => U.heap.size = sz ∧ va_P D cl (wl ad en n) U.heap ∧ va_K D cl tys U ∧ va_D (fun _ => True) (wl ad en n) ∧ wE U)
/-- at a method's end -/
def wB (D : va_G) (cl : List vw_C) (tys : List (ClassId × FieldType)) (ad : Nat → Nat) (n : Nat) (A : Nat → Prop) (en : Nat → va_E) (t : State) : Prop :=
  va_P D cl (wl ad en n) t.heap ∧ va_K D cl tys t ∧ va_D A (wl ad en n)
/-- at a constructor's end: the world has grown -/
def wG (D : va_G) (cl : List vw_C) (tys : List (ClassId × FieldType)) (n : Nat) (A : Nat → Prop) (u : (Nat → Nat) × (Nat → va_E)) (t : State) : Prop :=
  va_P D cl (wl u.1 u.2 n) t.heap ∧ va_K D cl tys t ∧ va_D A (wl u.1 u.2 n)
theorem wPc_blind (D : va_G) (cl : List vw_C) (tys : List (ClassId × FieldType)) (ad : Nat → Nat) (en : Nat → va_E) (n sz : Nat) (As : List Value) : FrameBlind (wPc D cl tys ad en n sz As) := fun a U g mk q => by
  obtain ⟨q0, q1, qP, qK, qD, qE⟩ := q
  exact ⟨q0, q1, qP, va_K.moved (u := U) (U := U.calling g mk a) (Vm.Alike.refl U.vm) qK, qD, wE_same (U := U.calling g mk a) rfl qE⟩
theorem wk_of {D : va_G} {cl : List vw_C} {tys : List (ClassId × FieldType)} {ad : Nat → Nat} {en : Nat → va_E} {n : Nat} {s : State} (hP : va_P D cl (wl ad en n) s.heap) (hK : va_K D cl tys s) (hD : va_D (fun _ => True) (wl ad en n)) (hE : wE s) :
    wk D cl tys ad en n (wA ad n s.heap.size) s s.heap [] := by
  refine ⟨hK, hP, ⟨hD.1, fun k q hk => ?_⟩, va_S.rf, fun q h => Or.inr h, hE⟩
  by_cases h : k < n
  · rw [wl_get h] at hk
    cases hk
    exact Or.inl ⟨k, h, rfl⟩
  · rw [wl_none (by omega)] at hk
    cases hk
theorem wk_pre {D : va_G} {cl : List vw_C} {tys : List (ClassId × FieldType)} {ad : Nat → Nat} {en : Nat → va_E} {n : Nat} {A : Nat → Prop} {s : State} {H : Heap} {locs : List Loc} {As : List Value} (h : wk D cl tys ad en n A s H locs) :
    ∀ U : State, U.heap = H → s.WarmedH U.vm → wPc D cl tys ad en n H.size As As.toArray U := fun U hU hW =>
  ⟨rfl, by rw [hU], by rw [hU]; exact h.2.1, va_K.moved hW.alike h.1, h.2.2.1.weaken (fun _ _ _ _ => trivial), wE_warm hW h.2.2.2.2.2⟩
theorem wk_preS {D : va_G} {cl : List vw_C} {tys : List (ClassId × FieldType)} {ad : Nat → Nat} {en : Nat → va_E} {n : Nat} {A : Nat → Prop} {s : State} {H : Heap} {locs : List Loc} {As : List Value} (h : wk D cl tys ad en n A s H locs) :
    PreS s H (wPc D cl tys ad en n H.size As) As := ⟨wPc_blind D cl tys ad en n H.size As, wk_pre h⟩
theorem wk_preV {D : va_G} {cl : List vw_C} {tys : List (ClassId × FieldType)} {ad : Nat → Nat} {en : Nat → va_E} {n : Nat} {A : Nat → Prop} {s : State} {H : Heap} {locs : List Loc} {As : List Value} {k ci : Nat} {fs : List Value} {C : vw_C} (h : wk D cl tys ad en n A s H locs) (hk : k < n) (he : en k = .inr (ci, fs)) (hc : cl[ci]? = some C) :
    PreV s H C.1 (ad k) (wPc D cl tys ad en n H.size (.ref (ad k) :: As)) As := ⟨wPc_blind D cl tys ad en n H.size _, va_recv h.1 h.2.1 hc (wl_at hk he), wk_pre h⟩
theorem wk_free {D : va_G} {cl : List vw_C} {tys : List (ClassId × FieldType)} {ad : Nat → Nat} {en : Nat → va_E} {n : Nat} {A : Nat → Prop} {s : State} {H : Heap} {locs : List Loc} (h : wk D cl tys ad en n A s H locs) : ∀ q, wA ad n H.size q → A q := fun q hq => by
  rcases hq with ⟨k, hk, rfl⟩ | hq
  · exact h.2.2.1.2 k _ (wl_get hk)
  · exact h.2.2.2.2.1 q (Nat.le_trans h.2.2.2.1.1 hq)
theorem wk_next {D : va_G} {cl : List vw_C} {tys : List (ClassId × FieldType)} {ad : Nat → Nat} {en en' : Nat → va_E} {n : Nat} {A A1 : Nat → Prop} {s t : State} {H H1 : Heap} {locs locs1 : List Loc} (h : wk D cl tys ad en n A s H locs) (ht : t.heap = H1) (hvm : s.vm.Alike t.vm) (hB : wB D cl tys ad n A1 en' t) (hS : va_S A s.heap H1 locs1) :
    wk D cl tys ad en' n A s H1 locs1 := by
  obtain ⟨hP, hK, hD⟩ := hB
  refine ⟨h.1, by rw [← ht]; exact hP, ⟨hD.1, fun k q hk => ?_⟩, hS, h.2.2.2.2⟩
  by_cases hkn : k < n
  · rw [wl_get hkn] at hk
    cases hk
    exact h.2.2.1.2 k (ad k, en k) (wl_get hkn)
  · rw [wl_none (by omega)] at hk
    cases hk
/-- two places of a world have two addresses -/
theorem wk_apart {D : va_G} {cl : List vw_C} {tys : List (ClassId × FieldType)} {ad : Nat → Nat} {en : Nat → va_E} {n : Nat} {A : Nat → Prop} {s : State} {H : Heap} {locs : List Loc} (h : wk D cl tys ad en n A s H locs) {i j : Nat} (hi : i < n) (hj : j < n) (e : ad i = ad j) : i = j :=
  h.2.2.1.1 i j _ _ (wl_get hi) (wl_get hj) e
section WLR
variable {p : Program} {l : Launch} {e : Env} {R : Room} {s : State} {m : MethodId} {args : Array Value} {below : List Frame} {meth : Method} {c : Code} {H : Heap} {locs : List Loc} {cells slots : Nat} {Q : State → Prop}
variable {cc : ByteArray} {pc : Nat} {ls : Array Slot} {rest st0 : List Value} {D : va_G} {cl : List vw_C} {A : Nat → Prop} {tys : List (ClassId × FieldType)} {ad : Nat → Nat} {en : Nat → va_E} {n : Nat} {mc ms : Nat} {a : Array Value}
/-- calls: behind one, the world that the callee leaves -/
theorem wc_i {post : Int32 → (Nat → va_E) → Prop} (hw : wk D cl tys ad en n A s H locs) (hr : va_Run p l e R s m args below meth c H locs cells slots mc ms (F0 m pc ls st0) rest (va_Qi post (wB D cl tys ad n (wA ad n H.size)) (wA ad n H.size) a) (wA ad n H.size))
    (kk : ∀ (r : Int32) (en' : Nat → va_E) (H1 : Heap) (locs1 : List Loc), post r en' → wk D cl tys ad en' n A s H1 locs1 → W p l e R s m args below meth c H1 locs1 (cells + mc) (slots + ms) Q (F0 m (pc + 3) ls (.int r :: rest))) : W p l e R s m args below meth c H locs cells slots Q (F0 m pc ls st0) :=
  va_calli hr hw.2.2.2.1 (fun q _ h => wk_free hw q h) (wk_free hw) (fun r u t H1 locs1 ht hvm hp hB _ _ hS => kk r u H1 locs1 hp (wk_next hw ht hvm hB hS))
theorem wc_l {post : Int64 → (Nat → va_E) → Prop} (hw : wk D cl tys ad en n A s H locs) (hr : va_Run p l e R s m args below meth c H locs cells slots mc ms (F0 m pc ls st0) rest (va_Ql post (wB D cl tys ad n (wA ad n H.size)) (wA ad n H.size) a) (wA ad n H.size))
    (kk : ∀ (r : Int64) (en' : Nat → va_E) (H1 : Heap) (locs1 : List Loc), post r en' → wk D cl tys ad en' n A s H1 locs1 → W p l e R s m args below meth c H1 locs1 (cells + mc) (slots + ms) Q (F0 m (pc + 3) ls (.long r :: rest))) : W p l e R s m args below meth c H locs cells slots Q (F0 m pc ls st0) :=
  va_calll hr hw.2.2.2.1 (fun q _ h => wk_free hw q h) (wk_free hw) (fun r u t H1 locs1 ht hvm hp hB _ _ hS => kk r u H1 locs1 hp (wk_next hw ht hvm hB hS))
theorem wc_v {post : (Nat → va_E) → Prop} (hw : wk D cl tys ad en n A s H locs) (hr : va_Run p l e R s m args below meth c H locs cells slots mc ms (F0 m pc ls st0) rest (va_Qv post (wB D cl tys ad n (wA ad n H.size)) (wA ad n H.size) a) (wA ad n H.size))
    (kk : ∀ (en' : Nat → va_E) (H1 : Heap) (locs1 : List Loc), post en' → wk D cl tys ad en' n A s H1 locs1 → W p l e R s m args below meth c H1 locs1 (cells + mc) (slots + ms) Q (F0 m (pc + 3) ls rest)) : W p l e R s m args below meth c H locs cells slots Q (F0 m pc ls st0) :=
  va_callv hr hw.2.2.2.1 (fun q _ h => wk_free hw q h) (wk_free hw) (fun u t H1 locs1 ht hvm hp hB _ _ hS => kk u H1 locs1 hp (wk_next hw ht hvm hB hS))
end WLR
end
section
/-- a place that was written, and one that was not -/
theorem w_self {en en1 : Nat → va_E} {k : Nat} {e : va_E} (h : en1 = va_up en k e) : en1 k = e := by rw [h, va_up_self]
theorem w_fr {en en1 : Nat → va_E} {k j : Nat} {e : va_E} (h : en1 = va_up en k e) (hj : j ≠ k) : en1 j = en j := by rw [h, va_up_ne _ _ hj]
theorem w_ne {en en1 : Nat → va_E} {k j : Nat} {e x : va_E} (h : en1 = va_up en k e) (hj : j ≠ k) (hx : en j = x) : en1 j = x := (w_fr h hj).trans hx
section WLI
variable {p : Program} {l : Launch} {e : Env} {R : Room} {s : State} {m : MethodId} {args : Array Value} {below : List Frame} {meth : Method} {c : Code} {H : Heap} {locs : List Loc} {cells slots : Nat} {Q : State → Prop}
variable {cc : ByteArray} {pc : Nat} {ls : Array Slot} {rest : List Value} {D : va_G} {cl : List vw_C} {A : Nat → Prop} {tys : List (ClassId × FieldType)} {ad : Nat → Nat} {en : Nat → va_E} {n : Nat}
theorem wr_get (hx : p.tables.exec = Jvm.exec) (hb : c.code = cc) {own ref C : String} {T : u_T} {N ci index : Nat} {Ts : List Cond} (hts : ∀ w ∈ Ts, w.before args s = true) (hin : ∀ w ∈ u_ws C T N, w ∈ Ts) (hown : s.vm.findClass own = some m.cls) (hw : wk D cl tys ad en n A s H locs) (k : Nat) (hk : k < n) {fs : List Value} (he : en k = .inr (ci, fs)) (hc : cl[ci]? = some (C, T, N)) (j : Nat) (hj : j < N) (hlink : (Cond.fieldLink own index ref (T j).2.1 (T j).2.2.1).before args s = true) (hsame : ∀ x, s.fieldFound? (T j).1 (T j).2.1 (T j).2.2.1 = some x → s.fieldFound? ref (T j).2.1 (T j).2.2.1 = some x) {v : Value} (hv : fs[j]? = some v) (hdg : decode cc pc = .ok (.getfield index, 3))
    (kk : W p l e R s m args below meth c H locs cells slots Q (F0 m (pc + 3) ls (v :: rest))) : W p l e R s m args below meth c H locs cells slots Q (F0 m pc ls (.ref (ad k) :: rest)) :=
  va_get hx hb hts hin hown hw.1 hw.2.1 k (wl_at hk he) hc j hj hlink hsame hv hdg kk
theorem wk_put {k : Nat} (hw : wk D cl tys ad en n A s H locs) (hk : k < n) (e : va_E) {H1 : Heap} {locs1 : List Loc} (hP : va_P D cl ((wl ad en n).set k (ad k, e)) H1) (hD : va_D A ((wl ad en n).set k (ad k, e))) (hS : va_S A s.heap H1 locs1) : wk D cl tys ad (va_up en k e) n A s H1 locs1 := by
  rw [wl_set hk] at hP hD
  exact ⟨hw.1, hP, hD, hS, hw.2.2.2.2⟩
theorem wr_put (hx : p.tables.exec = Jvm.exec) (hb : c.code = cc) {own ref C : String} {T : u_T} {N ci index : Nat} {Ts : List Cond} (hts : ∀ w ∈ Ts, w.before args s = true) (hin : ∀ w ∈ u_ws C T N, w ∈ Ts) (ty0 : Nat → FieldType) (hty : ∀ k, k < N → parseFieldDescriptor (T k).2.2.1 = some (ty0 k)) (hnm : ∀ a, a < N → ∀ b, b < N → a ≠ b → (T a).2.1 ≠ (T b).2.1) (hown : s.vm.findClass own = some m.cls) (hw : wk D cl tys ad en n A s H locs) (k : Nat) (hk : k < n) {fs : List Value} (he : en k = .inr (ci, fs)) (hc : cl[ci]? = some (C, T, N)) (j : Nat) (hj : j < N) (hlink : (Cond.fieldLink own index ref (T j).2.1 (T j).2.2.1).before args s = true) (hsame : ∀ x, s.fieldFound? (T j).1 (T j).2.1 (T j).2.2.1 = some x → s.fieldFound? ref (T j).2.1 (T j).2.2.1 = some x) (hfin : (T j).2.2.2 = false) {ty : FieldType} {v : Value} (hd : parseFieldDescriptor (T j).2.2.1 = some ty) (hn : narrow ty v = v) (hfit : fits ty v = true) (hl : j < fs.length)
    (hdg : decode cc pc = .ok (.putfield index, 3)) (kk : ∀ (en1 : Nat → va_E) (H1 : Heap) (locs1 : List Loc), en1 = va_up en k (.inr (ci, fs.set j v)) → wk D cl tys ad en1 n A s H1 locs1 → W p l e R s m args below meth c H1 locs1 cells slots Q (F0 m (pc + 3) ls rest)) : W p l e R s m args below meth c H locs cells slots Q (F0 m pc ls (v :: .ref (ad k) :: rest)) :=
  va_put hx hb hts hin ty0 hty hnm hown hw.1 hw.2.1 hw.2.2.1 hw.2.2.2.1 k (wl_at hk he) hc j hj hlink hsame hfin hd hn hfit hl hdg (fun H1 locs1 hP hD hS => kk _ H1 locs1 rfl (wk_put hw hk _ hP hD hS))
theorem wr_putF (hx : p.tables.exec = Jvm.exec) (hb : c.code = cc) {own ref C : String} {T : u_T} {N ci index : Nat} {Ts : List Cond} (hts : ∀ w ∈ Ts, w.before args s = true) (hin : ∀ w ∈ u_ws C T N, w ∈ Ts) (ty0 : Nat → FieldType) (hty : ∀ k, k < N → parseFieldDescriptor (T k).2.2.1 = some (ty0 k)) (hnm : ∀ a, a < N → ∀ b, b < N → a ≠ b → (T a).2.1 ≠ (T b).2.1) (hown : s.vm.findClass own = some m.cls) (hw : wk D cl tys ad en n A s H locs) (k : Nat) (hk : k < n) {fs : List Value} (he : en k = .inr (ci, fs)) (hc : cl[ci]? = some (C, T, N)) (j : Nat) (hj : j < N) (hlink : (Cond.fieldLink own index ref (T j).2.1 (T j).2.2.1).before args s = true) (hsame : ∀ x, s.fieldFound? (T j).1 (T j).2.1 (T j).2.2.1 = some x → s.fieldFound? ref (T j).2.1 (T j).2.2.1 = some x) (hfin : (T j).2.2.2 = true) (hin2 : meth.name = "<init>") (hdecl : (T j).1 = own) {ty : FieldType} {v : Value} (hd : parseFieldDescriptor (T j).2.2.1 = some ty) (hn : narrow ty v = v) (hfit : fits ty v = true) (hl : j < fs.length)
    (hdg : decode cc pc = .ok (.putfield index, 3)) (kk : ∀ (en1 : Nat → va_E) (H1 : Heap) (locs1 : List Loc), en1 = va_up en k (.inr (ci, fs.set j v)) → wk D cl tys ad en1 n A s H1 locs1 → W p l e R s m args below meth c H1 locs1 cells slots Q (F0 m (pc + 3) ls rest)) : W p l e R s m args below meth c H locs cells slots Q (F0 m pc ls (v :: .ref (ad k) :: rest)) :=
  va_putF hx hb hts hin ty0 hty hnm hown hw.1 hw.2.1 hw.2.2.1 hw.2.2.2.1 k (wl_at hk he) hc j hj hlink hsame hfin hin2 hdecl hd hn hfit hl hdg (fun H1 locs1 hP hD hS => kk _ H1 locs1 rfl (wk_put hw hk _ hP hD hS))
theorem wr_iald (hx : p.tables.exec = Jvm.exec) (hb : c.code = cc) (hw : wk D cl tys ad en n A s H locs) (k : Nat) (hk : k < n) (t0 : Nat) {cA : ClassId} {N : Nat} {f : Nat → Int32} (he : en k = .inl (cA, N, .inl f)) (ht : tys[t0]? = some (cA, .int)) {i : Int32} (hin : vp_in i N) {v : Int32} (hv : f i.toNatClampNeg = v) (hdg : decode cc pc = .ok (.iaload, 1))
    (kk : W p l e R s m args below meth c H locs cells slots Q (F0 m (pc + 1) ls (.int v :: rest))) : W p l e R s m args below meth c H locs cells slots Q (F0 m pc ls (.int i :: .ref (ad k) :: rest)) := by
  subst hv
  exact va_iald hx hb hw.1 hw.2.1 k t0 (wl_at hk he) ht hin hdg kk
theorem wr_zald (hx : p.tables.exec = Jvm.exec) (hb : c.code = cc) (hw : wk D cl tys ad en n A s H locs) (k : Nat) (hk : k < n) (t0 : Nat) {cA : ClassId} {N : Nat} {f : Nat → Int32} (he : en k = .inl (cA, N, .inl f)) (ht : tys[t0]? = some (cA, .boolean)) {i : Int32} (hin : vp_in i N) {v : Int32} (hv : f i.toNatClampNeg = v) (hdg : decode cc pc = .ok (.baload, 1))
    (kk : W p l e R s m args below meth c H locs cells slots Q (F0 m (pc + 1) ls (.int v :: rest))) : W p l e R s m args below meth c H locs cells slots Q (F0 m pc ls (.int i :: .ref (ad k) :: rest)) := by
  subst hv
  exact va_zald hx hb hw.1 hw.2.1 k t0 (wl_at hk he) ht hin hdg kk
theorem wr_lald (hx : p.tables.exec = Jvm.exec) (hb : c.code = cc) (hw : wk D cl tys ad en n A s H locs) (k : Nat) (hk : k < n) (t0 : Nat) {cA : ClassId} {N : Nat} {f : Nat → Int64} (he : en k = .inl (cA, N, .inr (.inl f))) (ht : tys[t0]? = some (cA, .long)) {i : Int32} (hin : vp_in i N) {v : Int64} (hv : f i.toNatClampNeg = v) (hdg : decode cc pc = .ok (.laload, 1))
    (kk : W p l e R s m args below meth c H locs cells slots Q (F0 m (pc + 1) ls (.long v :: rest))) : W p l e R s m args below meth c H locs cells slots Q (F0 m pc ls (.int i :: .ref (ad k) :: rest)) := by
  subst hv
  exact va_lald hx hb hw.1 hw.2.1 k t0 (wl_at hk he) ht hin hdg kk
theorem wr_aldq (hx : p.tables.exec = Jvm.exec) (hb : c.code = cc) (hw : wk D cl tys ad en n A s H locs) (k : Nat) (hk : k < n) (t0 : Nat) {cA : ClassId} {C : String} {N : Nat} {f : Nat → Option Nat} (he : en k = .inl (cA, N, .inr (.inr (.inr (.inr f))))) (ht : tys[t0]? = some (cA, .object C)) {i : Int32} (hin : vp_in i N) {q : Nat} (hv : f i.toNatClampNeg = some q) (hdg : decode cc pc = .ok (.aaload, 1))
    (kk : W p l e R s m args below meth c H locs cells slots Q (F0 m (pc + 1) ls (.ref q :: rest))) : W p l e R s m args below meth c H locs cells slots Q (F0 m pc ls (.int i :: .ref (ad k) :: rest)) := by
  refine va_aldq hx hb hw.1 hw.2.1 k t0 (wl_at hk he) ht hin hdg ?_
  rw [hv]
  exact kk
theorem wr_iast (hx : p.tables.exec = Jvm.exec) (hb : c.code = cc) (hw : wk D cl tys ad en n A s H locs) (k : Nat) (hk : k < n) (t0 : Nat) {cA : ClassId} {N : Nat} {f : Nat → Int32} (he : en k = .inl (cA, N, .inl f)) (ht : tys[t0]? = some (cA, .int)) {i x : Int32} (hin : vp_in i N) {j : Nat} (hj : i.toNatClampNeg = j) (hdg : decode cc pc = .ok (.iastore, 1))
    (kk : ∀ (en1 : Nat → va_E) (H1 : Heap) (locs1 : List Loc), en1 = va_up en k (.inl (cA, N, .inl (upd f j x))) → wk D cl tys ad en1 n A s H1 locs1 → W p l e R s m args below meth c H1 locs1 cells slots Q (F0 m (pc + 1) ls rest)) : W p l e R s m args below meth c H locs cells slots Q (F0 m pc ls (.int x :: .int i :: .ref (ad k) :: rest)) := by
  subst hj
  exact va_iast hx hb hw.1 hw.2.1 hw.2.2.1 hw.2.2.2.1 k t0 (wl_at hk he) ht hin hdg (fun H1 locs1 hP hD hS => kk _ H1 locs1 rfl (wk_put hw hk _ hP hD hS))
theorem wr_zast (hx : p.tables.exec = Jvm.exec) (hb : c.code = cc) (hw : wk D cl tys ad en n A s H locs) (k : Nat) (hk : k < n) (t0 : Nat) {cA : ClassId} {N : Nat} {f : Nat → Int32} (he : en k = .inl (cA, N, .inl f)) (ht : tys[t0]? = some (cA, .boolean)) {i x : Int32} (hin : vp_in i N) {j : Nat} (hj : i.toNatClampNeg = j) {y : Int32} (hy : vp_nar .boolean x = y) (hdg : decode cc pc = .ok (.bastore, 1))
    (kk : ∀ (en1 : Nat → va_E) (H1 : Heap) (locs1 : List Loc), en1 = va_up en k (.inl (cA, N, .inl (upd f j y))) → wk D cl tys ad en1 n A s H1 locs1 → W p l e R s m args below meth c H1 locs1 cells slots Q (F0 m (pc + 1) ls rest)) : W p l e R s m args below meth c H locs cells slots Q (F0 m pc ls (.int x :: .int i :: .ref (ad k) :: rest)) := by
  subst hj
  subst hy
  exact va_zast hx hb hw.1 hw.2.1 hw.2.2.1 hw.2.2.2.1 k t0 (wl_at hk he) ht hin hdg (fun H1 locs1 hP hD hS => kk _ H1 locs1 rfl (wk_put hw hk _ hP hD hS))
theorem wr_last (hx : p.tables.exec = Jvm.exec) (hb : c.code = cc) (hw : wk D cl tys ad en n A s H locs) (k : Nat) (hk : k < n) (t0 : Nat) {cA : ClassId} {N : Nat} {f : Nat → Int64} (he : en k = .inl (cA, N, .inr (.inl f))) (ht : tys[t0]? = some (cA, .long)) {i : Int32} {x : Int64} (hin : vp_in i N) {j : Nat} (hj : i.toNatClampNeg = j) (hdg : decode cc pc = .ok (.lastore, 1))
    (kk : ∀ (en1 : Nat → va_E) (H1 : Heap) (locs1 : List Loc), en1 = va_up en k (.inl (cA, N, .inr (.inl (vp_updL f j x)))) → wk D cl tys ad en1 n A s H1 locs1 → W p l e R s m args below meth c H1 locs1 cells slots Q (F0 m (pc + 1) ls rest)) : W p l e R s m args below meth c H locs cells slots Q (F0 m pc ls (.long x :: .int i :: .ref (ad k) :: rest)) := by
  subst hj
  exact va_last hx hb hw.1 hw.2.1 hw.2.2.1 hw.2.2.2.1 k t0 (wl_at hk he) ht hin hdg (fun H1 locs1 hP hD hS => kk _ H1 locs1 rfl (wk_put hw hk _ hP hD hS))
theorem wr_alen (hx : p.tables.exec = Jvm.exec) (hb : c.code = cc) (hw : wk D cl tys ad en n A s H locs) (k : Nat) (hk : k < n) (t0 : Nat) {cA : ClassId} {x : vp_A} (he : en k = .inl (cA, x)) {ty : FieldType} (ht : tys[t0]? = some (cA, ty)) {v : Int32} (hv : Int32.ofNat x.1 = v) (hdg : decode cc pc = .ok (.arraylength, 1))
    (kk : W p l e R s m args below meth c H locs cells slots Q (F0 m (pc + 1) ls (.int v :: rest))) : W p l e R s m args below meth c H locs cells slots Q (F0 m pc ls (.ref (ad k) :: rest)) :=
  va_alen hx hb hw.1 hw.2.1 k t0 (wl_at hk he) ht hv hdg kk
theorem wk_push {q : Nat} {e : va_E} (hw : wk D cl tys ad en n A s H locs) {H1 : Heap} (hP : va_P D cl (wl ad en n ++ [(q, e)]) H1) (hD : va_D A (wl ad en n ++ [(q, e)])) (hS : va_S A s.heap H1 locs) : wk D cl tys (va_up ad n q) (va_up en n e) (n + 1) A s H1 locs := by
  rw [wl_push] at hP hD
  exact ⟨hw.1, hP, hD, hS, hw.2.2.2.2⟩
theorem wr_grown {en1 : Nat → va_E} {P : (Nat → Nat) → (Nat → va_E) → Heap → Prop} {Z : Heap → Nat → Prop} (kk : ∀ (ad1 : Nat → Nat) (e1 : Nat → va_E) (H1 : Heap), (∀ j, j < n → ad1 j = ad j) → e1 = en1 → P ad1 e1 H1 → Z H1 (ad1 n)) (q : Nat) (H1 : Heap) (h : P (va_up ad n q) en1 H1) : Z H1 q := by
  have := kk (va_up ad n q) en1 H1 (fun j hj => va_up_ne _ _ (by omega)) rfl h
  rw [va_up_self] at this
  exact this
theorem wr_new (hx : p.tables.exec = Jvm.exec) (hb : c.code = cc) {own C : String} {T : u_T} {N ci index : Nat} {Ts : List Cond} (hts : ∀ w ∈ Ts, w.before args s = true) (hin : ∀ w ∈ u_ws C T N, w ∈ Ts) (ty : Nat → FieldType) (hty : ∀ k, k < N → parseFieldDescriptor (T k).2.2.1 = some (ty k)) (hown : s.vm.findClass own = some m.cls) (hcl : (Cond.classLink own index C).before args s = true) (hinst : (Cond.instantiable C N).before args s = true) (hini : (Cond.initialized C).before args s = true)
    (hw : wk D cl tys ad en n A s H locs) (hc : cl[ci]? = some (C, T, N)) {fs : List Value} (hfs : ∀ j, j < N → defaultValue (ty j) = vp_V fs j) (hcells : cells + 1 ≤ R.cells) (hslots : slots + N ≤ R.slots) (hdg : decode cc pc = .ok (.new index, 3))
    (kk : ∀ (ad1 : Nat → Nat) (en1 : Nat → va_E) (H1 : Heap), (∀ j, j < n → ad1 j = ad j) → en1 = va_up en n (.inr (ci, fs)) → wk D cl tys ad1 en1 (n + 1) A s H1 locs → W p l e R s m args below meth c H1 locs (cells + 1) (slots + N) Q (F0 m (pc + 3) ls (.ref (ad1 n) :: rest))) : W p l e R s m args below meth c H locs cells slots Q (F0 m pc ls rest) :=
  va_new hx hb hts hin ty hty hown hcl hinst hini hw.1 hw.2.1 hw.2.2.1 hw.2.2.2.1 hw.2.2.2.2.1 hc hfs hcells hslots hdg (fun q H1 hP hD hS => by exact wr_grown (P := fun a e h => wk D cl tys a e (n + 1) A s h locs) (Z := fun h q => W p l e R s m args below meth c h locs (cells + 1) (slots + N) Q (F0 m (pc + 3) ls (.ref q :: rest))) kk q H1 (wk_push hw hP hD hS))
/-- an array of numbers is made: its class is the one that the tables' list has at t0 -/
theorem wr_newa (hx : p.tables.exec = Jvm.exec) (hb : c.code = cc) {atype : ArrayType} (harr : (Cond.arrayClass (newarray.typeOf atype)).before args s = true) {ty : FieldType} (hty : newarray.typeOf atype = ty) (hw : wk D cl tys ad en n A s H locs) (t0 : Nat) {cA : ClassId} (ht : tys[t0]? = some (cA, ty)) (hno : ∀ C, ty ≠ .object C)
    {i : Int32} {N' : Nat} {a0 : vp_A} (ha : ∀ cA : ClassId, vp_cell cA a0 = arrV cA N' (fun _ => defaultValue ty)) (hn : ¬ i < 0) (hN : i.toNatClampNeg = N') (hbytes : N' * componentBytes ty ≤ 536870912) (hcells : cells + 1 ≤ R.cells) (hslots : slots + N' ≤ R.slots) (hdg : decode cc pc = .ok (.newarray atype, 2))
    (kk : ∀ (ad1 : Nat → Nat) (en1 : Nat → va_E) (H1 : Heap), (∀ j, j < n → ad1 j = ad j) → en1 = va_up en n (.inl (cA, a0)) → wk D cl tys ad1 en1 (n + 1) A s H1 locs → W p l e R s m args below meth c H1 locs (cells + 1) (slots + N') Q (F0 m (pc + 2) ls (.ref (ad1 n) :: rest))) : W p l e R s m args below meth c H locs cells slots Q (F0 m pc ls (.int i :: rest)) := by
  refine va_newa hx hb harr hty hw.1 hw.2.1 hw.2.2.1 hw.2.2.2.1 hw.2.2.2.2.1 ha hn hN hbytes hcells hslots hdg (fun q c2 H1 hK hP hD hS => ?_)
  have h1 := (hK.2 tys.length (c2, ty) (by rw [List.getElem?_append_right (Nat.le_refl _), Nat.sub_self]; rfl)).2
  have h2 := (hw.1.2 t0 _ ht).2
  have h3 : c2 = cA := by
    cases ty <;> first | exact absurd rfl (hno _) | exact Option.some.inj (h1.symm.trans h2)
  subst h3
  exact wr_grown (P := fun a e h => wk D cl tys a e (n + 1) A s h locs) (Z := fun h q => W p l e R s m args below meth c h locs (cells + 1) (slots + N') Q (F0 m (pc + 2) ls (.ref q :: rest))) kk q H1 (wk_push hw hP hD hS)
/-- an array of references is made -/
theorem wr_newq (hx : p.tables.exec = Jvm.exec) (hb : c.code = cc) {own C : String} {index : Nat} (hown : s.vm.findClass own = some m.cls) (hclink : (Cond.classLink own index C).before args s = true) (hover : va_AO C s) (hw : wk D cl tys ad en n A s H locs) (t0 : Nat) {cA : ClassId} (ht : tys[t0]? = some (cA, .object C))
    {i : Int32} {N' : Nat} (hn : ¬ i < 0) (hN : i.toNatClampNeg = N') (hbytes : N' * 4 ≤ 536870912) (hcells : cells + 1 ≤ R.cells) (hslots : slots + N' ≤ R.slots) (hdg : decode cc pc = .ok (.anewarray index, 3))
    (kk : ∀ (ad1 : Nat → Nat) (en1 : Nat → va_E) (H1 : Heap), (∀ j, j < n → ad1 j = ad j) → en1 = va_up en n (.inl (cA, N', .inr (.inr (.inr (.inr (fun _ => none)))))) → wk D cl tys ad1 en1 (n + 1) A s H1 locs → W p l e R s m args below meth c H1 locs (cells + 1) (slots + N') Q (F0 m (pc + 3) ls (.ref (ad1 n) :: rest))) : W p l e R s m args below meth c H locs cells slots Q (F0 m pc ls (.int i :: rest)) := by
  refine va_newq hx hb hown hclink hover hw.1 hw.2.1 hw.2.2.1 hw.2.2.2.1 hw.2.2.2.2.1 hn hN hbytes hcells hslots hdg (fun q c2 H1 hK hP hD hS => ?_)
  obtain ⟨k1, o1, -, -, -, h1⟩ := (hK.2 tys.length (c2, .object C) (by rw [List.getElem?_append_right (Nat.le_refl _), Nat.sub_self]; rfl)).2
  obtain ⟨k2, o2, -, -, -, h2⟩ := (hw.1.2 t0 _ ht).2
  have h3 : c2 = cA := Option.some.inj (h1.symm.trans h2)
  subst h3
  exact wr_grown (P := fun a e h => wk D cl tys a e (n + 1) A s h locs) (Z := fun h q => W p l e R s m args below meth c h locs (cells + 1) (slots + N') Q (F0 m (pc + 3) ls (.ref q :: rest))) kk q H1 (wk_push hw hP hD hS)
theorem wr_astq (hx : p.tables.exec = Jvm.exec) (hb : c.code = cc) (hw : wk D cl tys ad en n A s H locs) (k : Nat) (hk : k < n) (t0 : Nat) (k2 : Nat) (hk2 : k2 < n) {ci : Nat} {cA : ClassId} {r : vw_C} {N : Nat} {vs : List Value} {f : Nat → Option Nat} (he : en k = .inl (cA, N, .inr (.inr (.inr (.inr f))))) (ht : tys[t0]? = some (cA, .object r.1)) (he2 : en k2 = .inr (ci, vs)) (hc : cl[ci]? = some r) {i : Int32} (hin : vp_in i N) {j : Nat} (hj : i.toNatClampNeg = j) (hdg : decode cc pc = .ok (.aastore, 1))
    (kk : ∀ (en1 : Nat → va_E) (H1 : Heap) (locs1 : List Loc), en1 = va_up en k (.inl (cA, N, .inr (.inr (.inr (.inr (va_up f j (some (ad k2)))))))) → wk D cl tys ad en1 n A s H1 locs1 → W p l e R s m args below meth c H1 locs1 cells slots Q (F0 m (pc + 1) ls rest)) : W p l e R s m args below meth c H locs cells slots Q (F0 m pc ls (.ref (ad k2) :: .int i :: .ref (ad k) :: rest)) := by
  subst hj
  exact va_astq hx hb hw.1 hw.2.1 hw.2.2.1 hw.2.2.2.1 k t0 k2 ci (wl_at hk he) ht (wl_at hk2 he2) hc hin hdg (fun H1 locs1 hP hD hS => kk _ H1 locs1 rfl (wk_put hw hk _ hP hD hS))
/-- System.arraycopy of a whole row, places 0 to N - 1 -/
theorem wr_copyi (hx : p.tables.exec = Jvm.exec) (hb : c.code = cc) (hml : c.maxLocals = ls.size) {own : String} {index : Nat} (hown : s.vm.findClass own = some m.cls) (hlink : (Cond.methodLink own index arraycopyName).before args s = true) (hnat : (Cond.native arraycopyName).before args s = true) (hstat : (Cond.static arraycopyName).before args s = true) (hini : (Cond.initialized "java/lang/System").before args s = true)
    (hw : wk D cl tys ad en n A s H locs) (k0 : Nat) (hk0 : k0 < n) (k1 : Nat) (hk1 : k1 < n) (t0 : Nat) {c0 : ClassId} {n0 N : Nat} {f g : Nat → Int32} (he0 : en k0 = .inl (c0, n0, .inl f)) (he1 : en k1 = .inl (c0, n0, .inl g)) (ht : tys[t0]? = some (c0, .int)) {i : Int32} (hi : ¬ i < 0) (hN : i.toNatClampNeg = N) (hle : N ≤ n0)
    (hframes : 1 ≤ R.frames) (hlocals : (rest.map fun v => v.category).sum + (nativeFrameWords "java/lang/System" "arraycopy" 5 + 11) ≤ R.locals) (hdg : decode cc pc = .ok (.invokestatic index, 3))
    (kk : ∀ (en1 : Nat → va_E) (H1 : Heap) (locs1 : List Loc), en1 = va_up en k1 (.inl (c0, n0, .inl (va_cpy f g 0 0 N))) → wk D cl tys ad en1 n A s H1 locs1 → W p l e R s m args below meth c H1 locs1 cells slots Q (F0 m (pc + 3) ls rest)) : W p l e R s m args below meth c H locs cells slots Q (F0 m pc ls (.int i :: .int 0 :: .ref (ad k1) :: .int 0 :: .ref (ad k0) :: rest)) := by
  subst hN
  have z : (0 : Int32).toNatClampNeg = 0 := by decide
  exact va_copyi hx hb hml hown hlink hnat hstat hini hw.1 hw.2.1 hw.2.2.1 hw.2.2.2.1 k0 k1 t0 t0 (wl_at hk0 he0) (wl_at hk1 he1) ht ht rfl (by decide) (by decide) hi (by rw [z]; omega) (by rw [z]; omega) (fun _ _ => rfl) hframes hlocals hdg (fun H1 locs1 hP hD hS => by rw [z] at hP hD; exact kk _ H1 locs1 rfl (wk_put hw hk1 _ hP hD hS))
theorem wr_copyl (hx : p.tables.exec = Jvm.exec) (hb : c.code = cc) (hml : c.maxLocals = ls.size) {own : String} {index : Nat} (hown : s.vm.findClass own = some m.cls) (hlink : (Cond.methodLink own index arraycopyName).before args s = true) (hnat : (Cond.native arraycopyName).before args s = true) (hstat : (Cond.static arraycopyName).before args s = true) (hini : (Cond.initialized "java/lang/System").before args s = true)
    (hw : wk D cl tys ad en n A s H locs) (k0 : Nat) (hk0 : k0 < n) (k1 : Nat) (hk1 : k1 < n) (t0 : Nat) {c0 : ClassId} {n0 N : Nat} {f g : Nat → Int64} (he0 : en k0 = .inl (c0, n0, .inr (.inl f))) (he1 : en k1 = .inl (c0, n0, .inr (.inl g))) (ht : tys[t0]? = some (c0, .long)) {i : Int32} (hi : ¬ i < 0) (hN : i.toNatClampNeg = N) (hle : N ≤ n0)
    (hframes : 1 ≤ R.frames) (hlocals : (rest.map fun v => v.category).sum + (nativeFrameWords "java/lang/System" "arraycopy" 5 + 11) ≤ R.locals) (hdg : decode cc pc = .ok (.invokestatic index, 3))
    (kk : ∀ (en1 : Nat → va_E) (H1 : Heap) (locs1 : List Loc), en1 = va_up en k1 (.inl (c0, n0, .inr (.inl (va_cpy f g 0 0 N)))) → wk D cl tys ad en1 n A s H1 locs1 → W p l e R s m args below meth c H1 locs1 cells slots Q (F0 m (pc + 3) ls rest)) : W p l e R s m args below meth c H locs cells slots Q (F0 m pc ls (.int i :: .int 0 :: .ref (ad k1) :: .int 0 :: .ref (ad k0) :: rest)) := by
  subst hN
  have z : (0 : Int32).toNatClampNeg = 0 := by decide
  exact va_copyl hx hb hml hown hlink hnat hstat hini hw.1 hw.2.1 hw.2.2.1 hw.2.2.2.1 k0 k1 t0 t0 (wl_at hk0 he0) (wl_at hk1 he1) ht ht rfl (by decide) (by decide) hi (by rw [z]; omega) (by rw [z]; omega) (fun _ _ => rfl) hframes hlocals hdg (fun H1 locs1 hP hD hS => by rw [z] at hP hD; exact kk _ H1 locs1 rfl (wk_put hw hk1 _ hP hD hS))
/-- ends -/
theorem we_i (hx : p.tables.exec = Jvm.exec) (hb : c.code = cc) (hr : meth.sig.returnType = some .int) (hlocks : meth.locks = false) (hw : wk D cl tys ad en n A s H locs) {post : Int32 → (Nat → va_E) → Prop} {v : Int32} (hp : post v en) (hdg : decode cc pc = .ok (.ireturn, 1)) :
    W p l e R s m args below meth c H locs cells slots (MQ below (va_Qi post (wB D cl tys ad n A) A) args s cells slots A) (F0 m pc ls [.int v]) :=
  W.iret hx hb hr (fun t ht hW => ⟨⟨v, en, rfl, hp, by rw [ht]; exact hw.2.1, va_K.moved hW.alike hw.1, hw.2.2.1⟩, hw.2.2.2.1.F ht⟩) hw.2.2.2.1.2.2 hdg hlocks
theorem we_z (hx : p.tables.exec = Jvm.exec) (hb : c.code = cc) (hr : meth.sig.returnType = some .boolean) (hlocks : meth.locks = false) (hw : wk D cl tys ad en n A s H locs) {post : Int32 → (Nat → va_E) → Prop} {v : Int32} (hv : v = 0 ∨ v = 1) (hp : post v en) (hdg : decode cc pc = .ok (.ireturn, 1)) :
    W p l e R s m args below meth c H locs cells slots (MQ below (va_Qi post (wB D cl tys ad n A) A) args s cells slots A) (F0 m pc ls [.int v]) :=
  W.zret hx hb hr (by rcases hv with rfl | rfl <;> rfl) (fun t ht hW => ⟨⟨v, en, rfl, hp, by rw [ht]; exact hw.2.1, va_K.moved hW.alike hw.1, hw.2.2.1⟩, hw.2.2.2.1.F ht⟩) hw.2.2.2.1.2.2 hdg hlocks
theorem we_l (hx : p.tables.exec = Jvm.exec) (hb : c.code = cc) (hr : meth.sig.returnType = some .long) (hlocks : meth.locks = false) (hw : wk D cl tys ad en n A s H locs) {post : Int64 → (Nat → va_E) → Prop} {v : Int64} (hp : post v en) (hdg : decode cc pc = .ok (.lreturn, 1)) :
    W p l e R s m args below meth c H locs cells slots (MQ below (va_Ql post (wB D cl tys ad n A) A) args s cells slots A) (F0 m pc ls [.long v]) :=
  W.lret hx hb hr (fun t ht hW => ⟨⟨v, en, rfl, hp, by rw [ht]; exact hw.2.1, va_K.moved hW.alike hw.1, hw.2.2.1⟩, hw.2.2.2.1.F ht⟩) hw.2.2.2.1.2.2 hdg hlocks
theorem we_v (hx : p.tables.exec = Jvm.exec) (hb : c.code = cc) (hr : meth.sig.returnType = none) (hlocks : meth.locks = false) (hw : wk D cl tys ad en n A s H locs) {post : (Nat → va_E) → Prop} (hp : post en) (hdg : decode cc pc = .ok (.return_, 1)) :
    W p l e R s m args below meth c H locs cells slots (MQ below (va_Qv post (wB D cl tys ad n A) A) args s cells slots A) (F0 m pc ls []) :=
  W.vret hx hb hr (fun t ht hW => ⟨⟨en, rfl, hp, by rw [ht]; exact hw.2.1, va_K.moved hW.alike hw.1, hw.2.2.1⟩, hw.2.2.2.1.F ht⟩) hw.2.2.2.1.2.2 hdg hlocks
end WLI
end
section
/-! Long.bitCount: what its five steps do to the eight bytes of a number -/
def bM (b : Nat) : Nat → Nat
  | 0 => 0
  | k + 1 => b + 256 * bM b k
def bf1 (M x : Nat) : Nat := x - ((x / 2) &&& M)
def bf2 (M x : Nat) : Nat := (x &&& M) + ((x / 4) &&& M)
def bf3 (M x : Nat) : Nat := (x + x / 16) &&& M
def pop8 (a : Nat) : Nat := a % 2 + a / 2 % 2 + a / 4 % 2 + a / 8 % 2 + a / 16 % 2 + a / 32 % 2 + a / 64 % 2 + a / 128 % 2
theorem b_and256 {a u : Nat} (n v : Nat) (ha : a < 256) (hu : u < 256) : (a + 256 * n) &&& (u + 256 * v) = (a &&& u) + 256 * (n &&& v) := by
  have h1 : ((a + 256 * n) &&& (u + 256 * v)) % 2 ^ 8 = a &&& u := by
    rw [Nat.and_mod_two_pow]
    have e1 : (a + 256 * n) % 2 ^ 8 = a := by omega
    have e2 : (u + 256 * v) % 2 ^ 8 = u := by omega
    rw [e1, e2]
  have h2 : ((a + 256 * n) &&& (u + 256 * v)) / 2 ^ 8 = n &&& v := by
    rw [← Nat.shiftRight_eq_div_pow, Nat.shiftRight_and_distrib, Nat.shiftRight_eq_div_pow, Nat.shiftRight_eq_div_pow]
    have e1 : (a + 256 * n) / 2 ^ 8 = n := by omega
    have e2 : (u + 256 * v) / 2 ^ 8 = v := by omega
    rw [e1, e2]
  omega
theorem b_d1 : ∀ a, a < 256 → ∀ b, b < 2 → (a / 2 + 128 * b) &&& 85 = (a / 2) &&& 85 := by decide +kernel
theorem b_d2 : ∀ a, a < 256 → ∀ b, b < 4 → (a / 4 + 64 * b) &&& 51 = (a / 4) &&& 51 := by decide +kernel
theorem b_d3 : ∀ a, a < 69 → ∀ b, b < 5 → (a + a / 16 + 16 * b) &&& 15 = (a + a / 16) &&& 15 := by decide +kernel
theorem b_d4 : ∀ a, a < 256 → bf2 51 (bf1 85 a) < 69 ∧ bf2 51 (bf1 85 a) % 16 < 5 ∧ bf1 85 a < 256 ∧ bf3 15 (bf2 51 (bf1 85 a)) = pop8 a := by decide +kernel
theorem b_s1 (M a n : Nat) (ha : a < 256) : bf1 (85 + 256 * M) (a + 256 * n) = bf1 85 a + 256 * bf1 M n := by
  unfold bf1
  have e : (a + 256 * n) / 2 = (a / 2 + 128 * (n % 2)) + 256 * (n / 2) := by omega
  rw [e, b_and256 _ _ (by omega) (by omega), b_d1 a ha (n % 2) (by omega)]
  have h1 : (a / 2) &&& 85 ≤ a / 2 := Nat.and_le_left
  have h2 : (n / 2) &&& M ≤ n / 2 := Nat.and_le_left
  omega
theorem b_s2 (M a n : Nat) (ha : a < 256) : bf2 (51 + 256 * M) (a + 256 * n) = bf2 51 a + 256 * bf2 M n := by
  unfold bf2
  have e : (a + 256 * n) / 4 = (a / 4 + 64 * (n % 4)) + 256 * (n / 4) := by omega
  rw [e, b_and256 _ _ ha (by omega), b_and256 _ _ (by omega) (by omega), b_d2 a ha (n % 4) (by omega)]
  omega
theorem b_s3 (M a n : Nat) (ha : a < 69) (hn : n % 16 < 5) : bf3 (15 + 256 * M) (a + 256 * n) = bf3 15 a + 256 * bf3 M n := by
  unfold bf3
  have e : a + 256 * n + (a + 256 * n) / 16 = (a + a / 16 + 16 * (n % 16)) + 256 * (n + n / 16) := by omega
  rw [e, b_and256 _ _ (by omega) (by omega), b_d3 a ha (n % 16) hn]
theorem b_low (k n : Nat) : bf2 (bM 51 k) (bf1 (bM 85 k) n) % 16 < 5 := by
  cases k with
  | zero =>
    show bf2 0 _ % 16 < 5
    simp [bf2]
  | succ k =>
    have e : n = n % 256 + 256 * (n / 256) := by omega
    have ha : n % 256 < 256 := by omega
    rw [e]
    show bf2 (51 + 256 * bM 51 k) (bf1 (85 + 256 * bM 85 k) (n % 256 + 256 * (n / 256))) % 16 < 5
    rw [b_s1 _ _ _ ha, b_s2 _ _ _ (b_d4 _ ha).2.2.1]
    have h := (b_d4 _ ha).2.1
    omega
def bG (k x : Nat) : Nat := bf3 (bM 15 k) (bf2 (bM 51 k) (bf1 (bM 85 k) x))
theorem bG_0 (x : Nat) : bG 0 x = 0 := by
  show bf3 0 _ = 0
  simp [bf3]
theorem bG_s (k x : Nat) : bG (k + 1) x = pop8 (x % 256) + 256 * bG k (x / 256) := by
  have e : x = x % 256 + 256 * (x / 256) := by omega
  have ha : x % 256 < 256 := by omega
  have h : bG (k + 1) (x % 256 + 256 * (x / 256)) = pop8 (x % 256) + 256 * bG k (x / 256) := by
    show bf3 (15 + 256 * bM 15 k) (bf2 (51 + 256 * bM 51 k) (bf1 (85 + 256 * bM 85 k) (x % 256 + 256 * (x / 256)))) = _
    rw [b_s1 _ _ _ ha, b_s2 _ _ _ (b_d4 _ ha).2.2.1, b_s3 _ _ _ (b_d4 _ ha).1 (b_low k _), (b_d4 _ ha).2.2.2]
    rfl
  rw [← e] at h
  exact h
/-- how many of the first k bits of x are set -/
def pcN : Nat → Nat → Nat
  | 0, _ => 0
  | k + 1, x => x % 2 + pcN k (x / 2)
theorem pcN_8 (k x : Nat) : pcN (k + 8) x = pop8 (x % 256) + pcN k (x / 256) := by
  show x % 2 + (x / 2 % 2 + (x / 2 / 2 % 2 + (x / 2 / 2 / 2 % 2 + (x / 2 / 2 / 2 / 2 % 2 + (x / 2 / 2 / 2 / 2 / 2 % 2 + (x / 2 / 2 / 2 / 2 / 2 / 2 % 2 + (x / 2 / 2 / 2 / 2 / 2 / 2 / 2 % 2 + pcN k (x / 2 / 2 / 2 / 2 / 2 / 2 / 2 / 2)))))))) = _
  have e : x / 2 / 2 / 2 / 2 / 2 / 2 / 2 / 2 = x / 256 := by omega
  rw [e]
  unfold pop8
  omega
theorem pop8_le (a : Nat) : pop8 a ≤ 8 := by unfold pop8; omega
/-- the five steps, over Nat -/
theorem b_fold (x : Nat) (y0 y1 y2 y3 : Nat) (h0 : y0 = bG 8 x) (h1 : y1 = y0 + y0 / 256) (h2 : y2 = y1 + y1 / 65536) (h3 : y3 = y2 + y2 / 4294967296) : y3 < 18446744073709551616 ∧ y2 < 18446744073709551616 ∧ y1 < 18446744073709551616 ∧ y3 % 128 = pcN 64 x := by
  have e : pcN 64 x = pop8 (x % 256) + (pop8 (x / 256 % 256) + (pop8 (x / 256 / 256 % 256) + (pop8 (x / 256 / 256 / 256 % 256) + (pop8 (x / 256 / 256 / 256 / 256 % 256) + (pop8 (x / 256 / 256 / 256 / 256 / 256 % 256) + (pop8 (x / 256 / 256 / 256 / 256 / 256 / 256 % 256) + (pop8 (x / 256 / 256 / 256 / 256 / 256 / 256 / 256 % 256)))))))) := by
    rw [pcN_8 56, pcN_8 48, pcN_8 40, pcN_8 32, pcN_8 24, pcN_8 16, pcN_8 8, pcN_8 0]
    rfl
  rw [bG_s, bG_s, bG_s, bG_s, bG_s, bG_s, bG_s, bG_s, bG_0] at h0
  rw [e]
  have b0 := pop8_le (x % 256)
  have b1 := pop8_le (x / 256 % 256)
  have b2 := pop8_le (x / 256 / 256 % 256)
  have b3 := pop8_le (x / 256 / 256 / 256 % 256)
  have b4 := pop8_le (x / 256 / 256 / 256 / 256 % 256)
  have b5 := pop8_le (x / 256 / 256 / 256 / 256 / 256 % 256)
  have b6 := pop8_le (x / 256 / 256 / 256 / 256 / 256 / 256 % 256)
  have b7 := pop8_le (x / 256 / 256 / 256 / 256 / 256 / 256 / 256 % 256)
  generalize pop8 (x % 256) = p0 at *
  generalize pop8 (x / 256 % 256) = p1 at *
  generalize pop8 (x / 256 / 256 % 256) = p2 at *
  generalize pop8 (x / 256 / 256 / 256 % 256) = p3 at *
  generalize pop8 (x / 256 / 256 / 256 / 256 % 256) = p4 at *
  generalize pop8 (x / 256 / 256 / 256 / 256 / 256 % 256) = p5 at *
  generalize pop8 (x / 256 / 256 / 256 / 256 / 256 / 256 % 256) = p6 at *
  generalize pop8 (x / 256 / 256 / 256 / 256 / 256 / 256 / 256 % 256) = p7 at *
  clear e
  have q0 : y0 / 256 = p1 + 256 * p2 + 65536 * p3 + 16777216 * p4 + 4294967296 * p5 + 1099511627776 * p6 + 281474976710656 * p7 := by omega
  have q1 : y1 = (p0 + p1) + 256 * (p1 + p2) + 65536 * (p2 + p3) + 16777216 * (p3 + p4) + 4294967296 * (p4 + p5) + 1099511627776 * (p5 + p6) + 281474976710656 * (p6 + p7) + 72057594037927936 * p7 := by omega
  clear h1 q0 h0
  have q2 : y1 / 65536 = (p2 + p3) + 256 * (p3 + p4) + 65536 * (p4 + p5) + 16777216 * (p5 + p6) + 4294967296 * (p6 + p7) + 1099511627776 * p7 := by omega
  have q3 : y2 = (p0 + p1 + p2 + p3) + 256 * (p1 + p2 + p3 + p4) + 65536 * (p2 + p3 + p4 + p5) + 16777216 * (p3 + p4 + p5 + p6) + 4294967296 * (p4 + p5 + p6 + p7) + 1099511627776 * (p5 + p6 + p7) + 281474976710656 * (p6 + p7) + 72057594037927936 * p7 := by omega
  clear h2 q2
  have q4 : y2 / 4294967296 = (p4 + p5 + p6 + p7) + 256 * (p5 + p6 + p7) + 65536 * (p6 + p7) + 16777216 * p7 := by omega
  have q5 : y3 = (p0 + p1 + p2 + p3 + p4 + p5 + p6 + p7) + 256 * (p1 + p2 + p3 + p4 + p5 + p6 + p7) + 65536 * (p2 + p3 + p4 + p5 + p6 + p7) + 16777216 * (p3 + p4 + p5 + p6 + p7) + 4294967296 * (p4 + p5 + p6 + p7) + 1099511627776 * (p5 + p6 + p7) + 281474976710656 * (p6 + p7) + 72057594037927936 * p7 := by omega
  clear h3 q4
  refine ⟨by omega, by omega, by omega, by omega⟩
end
section
/-! What the two sides hold, as one mathematical value. Ast: numbers made of a kind, which are here, tallies, the row's values, how many they are. -/
abbrev wT (q : ClassId × ClassId × ClassId × ClassId) : List (ClassId × FieldType) := [(q.1, .int), (q.2.1, .long), (q.2.2.1, .boolean), (q.2.2.2, .object RX1)]
abbrev Ast : Type := (Nat → Nat) × (Nat → Nat → Bool) × (Nat → Int64) × (Nat → Int64) × Nat
abbrev aMd (A : Ast) : Nat → Nat := A.1
abbrev aHr (A : Ast) : Nat → Nat → Bool := A.2.1
abbrev aTl (A : Ast) : Nat → Int64 := A.2.2.1
abbrev aRw (A : Ast) : Nat → Int64 := A.2.2.2.1
abbrev aCn (A : Ast) : Nat := A.2.2.2.2
def bL (x : Int64) (j : Nat) : Bool := x.toBitVec.getLsbD j
/-- a value more in the row -/
def aAdd (v : Int64) (A : Ast) : Ast := if aCn A < 20 then (A.1, A.2.1, A.2.2.1, vp_updL (aRw A) (aCn A) v, aCn A + 1) else A
def aMake (k : Nat) (A : Ast) : Ast := if aMd A k < 40 then (fun i => if i = k then aMd A k + 1 else aMd A i, fun i j => if i = k ∧ j = aMd A k + 1 then true else aHr A i j, A.2.2) else A
def aDrop (k z : Nat) (A : Ast) : Ast := (A.1, fun i j => if i = k ∧ j = z then false else aHr A i j, A.2.2)
def aGrow (k : Nat) (x : Int64) (A : Ast) : Ast := (A.1, A.2.1, fun i => if i = k then aTl A k + x else aTl A i, A.2.2.2)
def aTake (k : Nat) (A : Ast) : Ast := if 0 < aCn A then (A.1, A.2.1, fun i => if i = k then aTl A k + aRw A 0 else aTl A i, fun i => aRw A (i + 1), aCn A - 1) else A
/-- is a number of a kind here -/
def aIs (kind number : Int32) (A : Ast) : Bool := decide (0 ≤ kind ∧ kind < 8 ∧ 1 ≤ number ∧ number ≤ 40) && aHr A kind.toNatClampNeg number.toNatClampNeg
def aDropI (kind number : Int32) (A : Ast) : Ast := if aIs kind number A = true then aDrop kind.toNatClampNeg number.toNatClampNeg A else A
/-- the greatest place of 1 .. n at which f is; how many there are -/
def gr (f : Nat → Bool) : Nat → Nat
  | 0 => 0
  | n + 1 => if f (n + 1) = true then n + 1 else gr f n
def cn (f : Nat → Bool) : Nat → Nat
  | 0 => 0
  | n + 1 => cn f n + (if f (n + 1) = true then 1 else 0)
/-- what always holds of such a value -/
def Aok (A : Ast) : Prop := (∀ k, k < 8 → aMd A k ≤ 40 ∧ ∀ j, aHr A k j = true → 1 ≤ j ∧ j ≤ aMd A k) ∧ aCn A ≤ 20
/-- the class's rows hold it -/
def RC (mf : Nat → Int32) (hf tf vf : Nat → Int64) (A : Ast) : Prop :=
  (∀ k, k < 8 → mf k = nI (aMd A k) ∧ tf k = aTl A k ∧ ∀ j, j < 64 → bL (hf k) j = aHr A k j) ∧ ∀ i, i < aCn A → vf i = aRw A i
/-- an object Holdings at the places b .. b + 4 -/
def HoldAt (q : ClassId × ClassId × ClassId × ClassId) (ad : Nat → Nat) (en : Nat → va_E) (b : Nat) (A : Ast) : Prop :=
  ∃ (mf : Nat → Int32) (hf tf vf : Nat → Int64), en b = .inr (1, [.ref (ad (b + 1)), .ref (ad (b + 2)), .ref (ad (b + 3)), .ref (ad (b + 4)), .int (nI (aCn A))]) ∧ en (b + 1) = .inl (q.1, 8, .inl mf) ∧ en (b + 2) = .inl (q.2.1, 8, .inr (.inl hf)) ∧ en (b + 3) = .inl (q.2.1, 8, .inr (.inl tf)) ∧ en (b + 4) = .inl (q.2.1, 20, .inr (.inl vf)) ∧ RC mf hf tf vf A
/-- a call's plan: what it wants, how many acts, their sorts and kinds, at which act it is to fail, with what -/
abbrev Pst : Type := Int32 × Nat × (Nat → Int32) × (Nat → Int32) × Int32 × Int32
def PlanAt (q : ClassId × ClassId × ClassId × ClassId) (ad : Nat → Nat) (en : Nat → va_E) (b : Nat) (P : Pst) : Prop :=
  ∃ (sf kf : Nat → Int32), en b = .inr (2, [.int P.1, .int (nI P.2.1), .ref (ad (b + 1)), .ref (ad (b + 2)), .int P.2.2.2.2.1, .int P.2.2.2.2.2]) ∧ en (b + 1) = .inl (q.1, 6, .inl sf) ∧ en (b + 2) = .inl (q.1, 6, .inl kf) ∧ ∀ i, i < P.2.1 → sf i = P.2.2.1 i ∧ kf i = P.2.2.2.1 i
def pAdd (s k : Int32) (P : Pst) : Pst := if P.2.1 < 6 then (P.1, P.2.1 + 1, upd P.2.2.1 P.2.1 s, upd P.2.2.2.1 P.2.1 k, P.2.2.2.2) else P
/-! numbers -/
theorem kd_cases (x : Int32) {n : Nat} (hn : n < 2 ^ 31) : (∃ k, k < n ∧ x = nI k) ∨ ¬ (0 ≤ x ∧ x < nI n) := by
  rcases pk_ix x hn with h | h | ⟨j, h, e⟩
  · exact Or.inr (fun z => Int32.lt_irrefl (Int32.lt_of_le_of_lt z.1 h))
  · exact Or.inr (fun z => Int32.lt_irrefl (Int32.lt_of_le_of_lt h z.2))
  · exact Or.inl ⟨j, h, e⟩
theorem m1_ : ∀ l, l < 64 → ((1 : Int64) <<< ((nI l).toInt64 &&& 63)).toBitVec = BitVec.twoPow 64 l := by decide +kernel
theorem bL_or (x : Int64) {i j : Nat} (hi : i < 64) (hj : j < 64) : bL (x ||| ((1 : Int64) <<< ((nI j).toInt64 &&& 63))) i = (bL x i || decide (i = j)) := by
  unfold bL
  show (x.toBitVec ||| ((1 : Int64) <<< ((nI j).toInt64 &&& 63)).toBitVec).getLsbD i = _
  rw [m1_ j hj, BitVec.getLsbD_or, BitVec.getLsbD_twoPow]
  by_cases h : i = j
  · subst h; simp [hi]
  · have h' : ¬ j = i := fun z => h z.symm
    simp [h, h']
theorem bL_andn (x : Int64) {i j : Nat} (hi : i < 64) (hj : j < 64) : bL (x &&& (((1 : Int64) <<< ((nI j).toInt64 &&& 63)) ^^^ (-1))) i = (bL x i && !decide (i = j)) := by
  unfold bL
  show (x.toBitVec &&& (((1 : Int64) <<< ((nI j).toInt64 &&& 63)).toBitVec ^^^ (-1 : Int64).toBitVec)).getLsbD i = _
  have e : (-1 : Int64).toBitVec = BitVec.allOnes 64 := by decide
  rw [m1_ j hj, e, BitVec.getLsbD_and, BitVec.getLsbD_xor, BitVec.getLsbD_twoPow, BitVec.getLsbD_allOnes]
  by_cases h : i = j
  · subst h; simp [hi]
  · have h' : ¬ j = i := fun z => h z.symm
    simp [h, h', hi]
theorem bL_test (x : Int64) {j : Nat} (hj : j < 64) : (x &&& ((1 : Int64) <<< ((nI j).toInt64 &&& 63))) = 0 ↔ bL x j = false := by
  unfold bL
  have e : (x &&& ((1 : Int64) <<< ((nI j).toInt64 &&& 63))) = 0 ↔ x.toBitVec &&& BitVec.twoPow 64 j = 0#64 := by
    rw [← m1_ j hj]
    constructor
    · intro h
      exact congrArg Int64.toBitVec h
    · intro h
      exact Int64.toBitVec_inj.mp h
  rw [e]
  constructor
  · intro h
    have h2 : (x.toBitVec &&& BitVec.twoPow 64 j).getLsbD j = false := by rw [h]; simp
    rw [BitVec.getLsbD_and, BitVec.getLsbD_twoPow] at h2
    simpa [hj] using h2
  · intro h
    apply BitVec.eq_of_getLsbD_eq
    intro i hi
    rw [BitVec.getLsbD_and, BitVec.getLsbD_twoPow]
    by_cases hh : j = i
    · subst hh; simp [h]
    · simp [hh]
end
section
set_option maxHeartbeats 4000000 in
set_option maxRecDepth 100000 in
/-- X2_isKind -/
theorem kX2_isKind (l : Launch) (dC : Nat → ClassId) (dI : Nat → Nat → Nat) (q : ClassId × ClassId × ClassId × ClassId) (ad : Nat → Nat) (en : Nat → va_E) (n sz : Nat) (v : Int32) :
    Met l yX2_isKind wsX2_isKind ({ frames := 0, cells := 0, slots := 0, locals := 0 }) (wPc (dC, dI) vwCl (wT q) ad en n sz [.int v]) (va_Qi (fun (r : Int32) (en' : Nat → va_E) => r = (if 0 ≤ v ∧ v < 8 then 1 else 0) ∧ en' = en) (wB (dC, dI) vwCl (wT q) ad n (wA ad n sz)) (wA ad n sz)) 0 0 (wA ad n sz) := by
  refine Met.ofW (cc := cX2_isKind) (maxL := 1) (ret := (some .boolean)) (by decide) rfl ?_
  intro p e s m args below meth c s₁ B hml hv
  obtain ⟨rfl, hsz, hP, hK, hD0, hE0⟩ := hv
  have hx := B.exec
  have hb := B.bytes
  have hr := B.returns
  have hts := atoms_spec (ws := wsX2_isKind) B.pre
  have hown : s.vm.findClass RX2 = some m.cls := findClass_of_methodNamed B.named
  have hlocks := B.notSynchronized
  subst hsz
  have hw := wk_of hP hK hD0 hE0
  generalize wA ad n s.heap.size = AA at hw ⊢
  have hl := lv_entry ([.int v]) (n := 1) (Nat.le_of_ble_eq_true rfl)
  rw [lg_entry_eq]
  generalize (lg_sl ([.int v]) ++ List.replicate (1 - (lg_sl ([.int v])).length) Slot.unset).toArray = ls at hl ⊢
  have hl : lv_has ls 1 [(0, .int v)] := hl
  refine lv_iload_n hx hb dX2_isKind_0 rfl (lv_at hl 0 rfl) ?_
  refine lv_if_lt (tgt := 14) hx hb dX2_isKind_1 (by decide) (fun c1 => ?_) (fun c1 => ?_)
  · refine lv_iconst (v := 0) hx hb dX2_isKind_14 (by decide) ?_
    refine we_z hx hb hr hlocks hw (Or.inl rfl) ?_ dX2_isKind_15
    exact ⟨by rw [if_neg (fun h => absurd c1 (Int32.not_lt.mpr h.1))], rfl⟩
  · refine lv_iload_n hx hb dX2_isKind_4 rfl (lv_at hl 0 rfl) ?_
    refine lv_bipush (v := 8) hx hb dX2_isKind_5 (by decide) ?_
    refine lv_icmp_ge (tgt := 14) hx hb dX2_isKind_7 (by decide) (fun c7 => ?_) (fun c7 => ?_)
    · refine lv_iconst (v := 0) hx hb dX2_isKind_14 (by decide) ?_
      refine we_z hx hb hr hlocks hw (Or.inl rfl) ?_ dX2_isKind_15
      exact ⟨by rw [if_neg (fun h => absurd h.2 (Int32.not_lt.mpr c7))], rfl⟩
    · refine lv_iconst (v := 1) hx hb dX2_isKind_10 (by decide) ?_
      refine lv_goto (tgt := 15) hx hb dX2_isKind_11 (by decide) ?_
      refine we_z hx hb hr hlocks hw (Or.inr rfl) ?_ dX2_isKind_15
      exact ⟨by rw [if_pos ⟨Int32.not_lt.mp c1, Int32.not_le.mp c7⟩], rfl⟩

set_option maxHeartbeats 4000000 in
set_option maxRecDepth 100000 in
/-- X2_isCall -/
theorem kX2_isCall (l : Launch) (dC : Nat → ClassId) (dI : Nat → Nat → Nat) (q : ClassId × ClassId × ClassId × ClassId) (ad : Nat → Nat) (en : Nat → va_E) (n sz : Nat) (v : Int32) :
    Met l yX2_isCall wsX2_isCall ({ frames := 0, cells := 0, slots := 0, locals := 0 }) (wPc (dC, dI) vwCl (wT q) ad en n sz [.int v]) (va_Qi (fun (r : Int32) (en' : Nat → va_E) => r = (if 0 ≤ v ∧ v < 10 then 1 else 0) ∧ en' = en) (wB (dC, dI) vwCl (wT q) ad n (wA ad n sz)) (wA ad n sz)) 0 0 (wA ad n sz) := by
  refine Met.ofW (cc := cX2_isCall) (maxL := 1) (ret := (some .boolean)) (by decide) rfl ?_
  intro p e s m args below meth c s₁ B hml hv
  obtain ⟨rfl, hsz, hP, hK, hD0, hE0⟩ := hv
  have hx := B.exec
  have hb := B.bytes
  have hr := B.returns
  have hts := atoms_spec (ws := wsX2_isCall) B.pre
  have hown : s.vm.findClass RX2 = some m.cls := findClass_of_methodNamed B.named
  have hlocks := B.notSynchronized
  subst hsz
  have hw := wk_of hP hK hD0 hE0
  generalize wA ad n s.heap.size = AA at hw ⊢
  have hl := lv_entry ([.int v]) (n := 1) (Nat.le_of_ble_eq_true rfl)
  rw [lg_entry_eq]
  generalize (lg_sl ([.int v]) ++ List.replicate (1 - (lg_sl ([.int v])).length) Slot.unset).toArray = ls at hl ⊢
  have hl : lv_has ls 1 [(0, .int v)] := hl
  refine lv_iload_n hx hb dX2_isCall_0 rfl (lv_at hl 0 rfl) ?_
  refine lv_if_lt (tgt := 14) hx hb dX2_isCall_1 (by decide) (fun c1 => ?_) (fun c1 => ?_)
  · refine lv_iconst (v := 0) hx hb dX2_isCall_14 (by decide) ?_
    refine we_z hx hb hr hlocks hw (Or.inl rfl) ?_ dX2_isCall_15
    exact ⟨by rw [if_neg (fun h => absurd c1 (Int32.not_lt.mpr h.1))], rfl⟩
  · refine lv_iload_n hx hb dX2_isCall_4 rfl (lv_at hl 0 rfl) ?_
    refine lv_bipush (v := 10) hx hb dX2_isCall_5 (by decide) ?_
    refine lv_icmp_ge (tgt := 14) hx hb dX2_isCall_7 (by decide) (fun c7 => ?_) (fun c7 => ?_)
    · refine lv_iconst (v := 0) hx hb dX2_isCall_14 (by decide) ?_
      refine we_z hx hb hr hlocks hw (Or.inl rfl) ?_ dX2_isCall_15
      exact ⟨by rw [if_neg (fun h => absurd h.2 (Int32.not_lt.mpr c7))], rfl⟩
    · refine lv_iconst (v := 1) hx hb dX2_isCall_10 (by decide) ?_
      refine lv_goto (tgt := 15) hx hb dX2_isCall_11 (by decide) ?_
      refine we_z hx hb hr hlocks hw (Or.inr rfl) ?_ dX2_isCall_15
      exact ⟨by rw [if_pos ⟨Int32.not_lt.mp c1, Int32.not_le.mp c7⟩], rfl⟩

set_option maxHeartbeats 4000000 in
set_option maxRecDepth 100000 in
/-- X2_isSort -/
theorem kX2_isSort (l : Launch) (dC : Nat → ClassId) (dI : Nat → Nat → Nat) (q : ClassId × ClassId × ClassId × ClassId) (ad : Nat → Nat) (en : Nat → va_E) (n sz : Nat) (v : Int32) :
    Met l yX2_isSort wsX2_isSort ({ frames := 0, cells := 0, slots := 0, locals := 0 }) (wPc (dC, dI) vwCl (wT q) ad en n sz [.int v]) (va_Qi (fun (r : Int32) (en' : Nat → va_E) => r = (if 0 ≤ v ∧ v ≤ 6 then 1 else 0) ∧ en' = en) (wB (dC, dI) vwCl (wT q) ad n (wA ad n sz)) (wA ad n sz)) 0 0 (wA ad n sz) := by
  refine Met.ofW (cc := cX2_isSort) (maxL := 1) (ret := (some .boolean)) (by decide) rfl ?_
  intro p e s m args below meth c s₁ B hml hv
  obtain ⟨rfl, hsz, hP, hK, hD0, hE0⟩ := hv
  have hx := B.exec
  have hb := B.bytes
  have hr := B.returns
  have hts := atoms_spec (ws := wsX2_isSort) B.pre
  have hown : s.vm.findClass RX2 = some m.cls := findClass_of_methodNamed B.named
  have hlocks := B.notSynchronized
  subst hsz
  have hw := wk_of hP hK hD0 hE0
  generalize wA ad n s.heap.size = AA at hw ⊢
  have hl := lv_entry ([.int v]) (n := 1) (Nat.le_of_ble_eq_true rfl)
  rw [lg_entry_eq]
  generalize (lg_sl ([.int v]) ++ List.replicate (1 - (lg_sl ([.int v])).length) Slot.unset).toArray = ls at hl ⊢
  have hl : lv_has ls 1 [(0, .int v)] := hl
  refine lv_iload_n hx hb dX2_isSort_0 rfl (lv_at hl 0 rfl) ?_
  refine lv_if_lt (tgt := 14) hx hb dX2_isSort_1 (by decide) (fun c1 => ?_) (fun c1 => ?_)
  · refine lv_iconst (v := 0) hx hb dX2_isSort_14 (by decide) ?_
    refine we_z hx hb hr hlocks hw (Or.inl rfl) ?_ dX2_isSort_15
    exact ⟨by rw [if_neg (fun h => absurd c1 (Int32.not_lt.mpr h.1))], rfl⟩
  · refine lv_iload_n hx hb dX2_isSort_4 rfl (lv_at hl 0 rfl) ?_
    refine lv_bipush (v := 6) hx hb dX2_isSort_5 (by decide) ?_
    refine lv_icmp_gt (tgt := 14) hx hb dX2_isSort_7 (by decide) (fun c7 => ?_) (fun c7 => ?_)
    · refine lv_iconst (v := 0) hx hb dX2_isSort_14 (by decide) ?_
      refine we_z hx hb hr hlocks hw (Or.inl rfl) ?_ dX2_isSort_15
      exact ⟨by rw [if_neg (fun h => absurd h.2 (Int32.not_le.mpr c7))], rfl⟩
    · refine lv_iconst (v := 1) hx hb dX2_isSort_10 (by decide) ?_
      refine lv_goto (tgt := 15) hx hb dX2_isSort_11 (by decide) ?_
      refine we_z hx hb hr hlocks hw (Or.inr rfl) ?_ dX2_isSort_15
      exact ⟨by rw [if_pos ⟨Int32.not_lt.mp c1, Int32.not_lt.mp c7⟩], rfl⟩

set_option maxHeartbeats 4000000 in
set_option maxRecDepth 100000 in
/-- X3_isKind -/
theorem kX3_isKind (l : Launch) (dC : Nat → ClassId) (dI : Nat → Nat → Nat) (q : ClassId × ClassId × ClassId × ClassId) (ad : Nat → Nat) (en : Nat → va_E) (n sz : Nat) (v : Int32) :
    Met l yX3_isKind wsX3_isKind ({ frames := 0, cells := 0, slots := 0, locals := 0 }) (wPc (dC, dI) vwCl (wT q) ad en n sz [.int v]) (va_Qi (fun (r : Int32) (en' : Nat → va_E) => r = (if 0 ≤ v ∧ v < 8 then 1 else 0) ∧ en' = en) (wB (dC, dI) vwCl (wT q) ad n (wA ad n sz)) (wA ad n sz)) 0 0 (wA ad n sz) := by
  refine Met.ofW (cc := cX3_isKind) (maxL := 1) (ret := (some .boolean)) (by decide) rfl ?_
  intro p e s m args below meth c s₁ B hml hv
  obtain ⟨rfl, hsz, hP, hK, hD0, hE0⟩ := hv
  have hx := B.exec
  have hb := B.bytes
  have hr := B.returns
  have hts := atoms_spec (ws := wsX3_isKind) B.pre
  have hown : s.vm.findClass RX3 = some m.cls := findClass_of_methodNamed B.named
  have hlocks := B.notSynchronized
  subst hsz
  have hw := wk_of hP hK hD0 hE0
  generalize wA ad n s.heap.size = AA at hw ⊢
  have hl := lv_entry ([.int v]) (n := 1) (Nat.le_of_ble_eq_true rfl)
  rw [lg_entry_eq]
  generalize (lg_sl ([.int v]) ++ List.replicate (1 - (lg_sl ([.int v])).length) Slot.unset).toArray = ls at hl ⊢
  have hl : lv_has ls 1 [(0, .int v)] := hl
  refine lv_iload_n hx hb dX3_isKind_0 rfl (lv_at hl 0 rfl) ?_
  refine lv_if_lt (tgt := 14) hx hb dX3_isKind_1 (by decide) (fun c1 => ?_) (fun c1 => ?_)
  · refine lv_iconst (v := 0) hx hb dX3_isKind_14 (by decide) ?_
    refine we_z hx hb hr hlocks hw (Or.inl rfl) ?_ dX3_isKind_15
    exact ⟨by rw [if_neg (fun h => absurd c1 (Int32.not_lt.mpr h.1))], rfl⟩
  · refine lv_iload_n hx hb dX3_isKind_4 rfl (lv_at hl 0 rfl) ?_
    refine lv_bipush (v := 8) hx hb dX3_isKind_5 (by decide) ?_
    refine lv_icmp_ge (tgt := 14) hx hb dX3_isKind_7 (by decide) (fun c7 => ?_) (fun c7 => ?_)
    · refine lv_iconst (v := 0) hx hb dX3_isKind_14 (by decide) ?_
      refine we_z hx hb hr hlocks hw (Or.inl rfl) ?_ dX3_isKind_15
      exact ⟨by rw [if_neg (fun h => absurd h.2 (Int32.not_lt.mpr c7))], rfl⟩
    · refine lv_iconst (v := 1) hx hb dX3_isKind_10 (by decide) ?_
      refine lv_goto (tgt := 15) hx hb dX3_isKind_11 (by decide) ?_
      refine we_z hx hb hr hlocks hw (Or.inr rfl) ?_ dX3_isKind_15
      exact ⟨by rw [if_pos ⟨Int32.not_lt.mp c1, Int32.not_le.mp c7⟩], rfl⟩

set_option maxHeartbeats 4000000 in
set_option maxRecDepth 100000 in
/-- X3_isCall -/
theorem kX3_isCall (l : Launch) (dC : Nat → ClassId) (dI : Nat → Nat → Nat) (q : ClassId × ClassId × ClassId × ClassId) (ad : Nat → Nat) (en : Nat → va_E) (n sz : Nat) (v : Int32) :
    Met l yX3_isCall wsX3_isCall ({ frames := 0, cells := 0, slots := 0, locals := 0 }) (wPc (dC, dI) vwCl (wT q) ad en n sz [.int v]) (va_Qi (fun (r : Int32) (en' : Nat → va_E) => r = (if 0 ≤ v ∧ v < 10 then 1 else 0) ∧ en' = en) (wB (dC, dI) vwCl (wT q) ad n (wA ad n sz)) (wA ad n sz)) 0 0 (wA ad n sz) := by
  refine Met.ofW (cc := cX3_isCall) (maxL := 1) (ret := (some .boolean)) (by decide) rfl ?_
  intro p e s m args below meth c s₁ B hml hv
  obtain ⟨rfl, hsz, hP, hK, hD0, hE0⟩ := hv
  have hx := B.exec
  have hb := B.bytes
  have hr := B.returns
  have hts := atoms_spec (ws := wsX3_isCall) B.pre
  have hown : s.vm.findClass RX3 = some m.cls := findClass_of_methodNamed B.named
  have hlocks := B.notSynchronized
  subst hsz
  have hw := wk_of hP hK hD0 hE0
  generalize wA ad n s.heap.size = AA at hw ⊢
  have hl := lv_entry ([.int v]) (n := 1) (Nat.le_of_ble_eq_true rfl)
  rw [lg_entry_eq]
  generalize (lg_sl ([.int v]) ++ List.replicate (1 - (lg_sl ([.int v])).length) Slot.unset).toArray = ls at hl ⊢
  have hl : lv_has ls 1 [(0, .int v)] := hl
  refine lv_iload_n hx hb dX3_isCall_0 rfl (lv_at hl 0 rfl) ?_
  refine lv_if_lt (tgt := 14) hx hb dX3_isCall_1 (by decide) (fun c1 => ?_) (fun c1 => ?_)
  · refine lv_iconst (v := 0) hx hb dX3_isCall_14 (by decide) ?_
    refine we_z hx hb hr hlocks hw (Or.inl rfl) ?_ dX3_isCall_15
    exact ⟨by rw [if_neg (fun h => absurd c1 (Int32.not_lt.mpr h.1))], rfl⟩
  · refine lv_iload_n hx hb dX3_isCall_4 rfl (lv_at hl 0 rfl) ?_
    refine lv_bipush (v := 10) hx hb dX3_isCall_5 (by decide) ?_
    refine lv_icmp_ge (tgt := 14) hx hb dX3_isCall_7 (by decide) (fun c7 => ?_) (fun c7 => ?_)
    · refine lv_iconst (v := 0) hx hb dX3_isCall_14 (by decide) ?_
      refine we_z hx hb hr hlocks hw (Or.inl rfl) ?_ dX3_isCall_15
      exact ⟨by rw [if_neg (fun h => absurd h.2 (Int32.not_lt.mpr c7))], rfl⟩
    · refine lv_iconst (v := 1) hx hb dX3_isCall_10 (by decide) ?_
      refine lv_goto (tgt := 15) hx hb dX3_isCall_11 (by decide) ?_
      refine we_z hx hb hr hlocks hw (Or.inr rfl) ?_ dX3_isCall_15
      exact ⟨by rw [if_pos ⟨Int32.not_lt.mp c1, Int32.not_le.mp c7⟩], rfl⟩

set_option maxHeartbeats 4000000 in
set_option maxRecDepth 100000 in
/-- isToldToFailAt -/
theorem kX1_isToldToFailAt (l : Launch) (dC : Nat → ClassId) (dI : Nat → Nat → Nat) (q : ClassId × ClassId × ClassId × ClassId) (ad : Nat → Nat) (en : Nat → va_E) (n sz : Nat) (b : Nat) (hbn : b + 2 < n) (P : Pst) (hH : PlanAt q ad en b P) (i : Int32) :
    Met l yX1_isToldToFailAt wsX1_isToldToFailAt ({ frames := 0, cells := 0, slots := 0, locals := 0 }) (wPc (dC, dI) vwCl (wT q) ad en n sz [.ref (ad b), .int i]) (va_Qi (fun (r : Int32) (en' : Nat → va_E) => r = (if P.2.2.2.2.1 = i then 1 else 0) ∧ en' = en) (wB (dC, dI) vwCl (wT q) ad n (wA ad n sz)) (wA ad n sz)) 0 0 (wA ad n sz) := by
  refine Met.ofW (cc := cX1_isToldToFailAt) (maxL := 2) (ret := (some .boolean)) (by decide) rfl ?_
  intro p e s m args below meth c s₁ B hml hv
  obtain ⟨rfl, hsz, hP, hK, hD0, hE0⟩ := hv
  have hx := B.exec
  have hb := B.bytes
  have hr := B.returns
  have hts := atoms_spec (ws := wsX1_isToldToFailAt) B.pre
  have hown : s.vm.findClass RX1 = some m.cls := findClass_of_methodNamed B.named
  have hlocks := B.notSynchronized
  have iRX1 : ∀ w ∈ u_ws RX1 TX1 6, w ∈ wsX1_isToldToFailAt := by decide +kernel
  subst hsz
  have hw := wk_of hP hK hD0 hE0
  generalize wA ad n s.heap.size = AA at hw ⊢
  have hl := lv_entry ([.ref (ad b), .int i]) (n := 2) (Nat.le_of_ble_eq_true rfl)
  rw [lg_entry_eq]
  generalize (lg_sl ([.ref (ad b), .int i]) ++ List.replicate (2 - (lg_sl ([.ref (ad b), .int i])).length) Slot.unset).toArray = ls at hl ⊢
  have hl : lv_has ls 2 [(0, .ref (ad b)), (1, .int i)] := hl
  obtain ⟨sf, kf, h0, h1, h2, h3⟩ := hH
  refine lv_aload_n hx hb dX1_isToldToFailAt_0 rfl (lv_at hl 0 rfl) ?_
  refine wr_get (ci := 2) (C := RX1) (T := TX1) (N := 6) hx hb hts iRX1 hown hw b (by omega) h0 rfl 4 (by decide) (hts (.fieldLink RX1 22 "LibraryDesk$Plan" "toldAct" "I") (by decide +kernel)) (fun _ h9 => h9) rfl dX1_isToldToFailAt_1 ?_
  refine lv_iload_n hx hb dX1_isToldToFailAt_4 rfl (lv_at hl 1 rfl) ?_
  refine lv_icmp_ne (tgt := 12) hx hb dX1_isToldToFailAt_5 (by decide) (fun c5 => ?_) (fun c5 => ?_)
  · refine lv_iconst (v := 0) hx hb dX1_isToldToFailAt_12 (by decide) ?_
    refine we_z hx hb hr hlocks hw (Or.inl rfl) ?_ dX1_isToldToFailAt_13
    exact ⟨by rw [if_neg c5], rfl⟩
  · refine lv_iconst (v := 1) hx hb dX1_isToldToFailAt_8 (by decide) ?_
    refine lv_goto (tgt := 13) hx hb dX1_isToldToFailAt_9 (by decide) ?_
    refine we_z hx hb hr hlocks hw (Or.inr rfl) ?_ dX1_isToldToFailAt_13
    exact ⟨by rw [if_pos c5], rfl⟩

set_option maxHeartbeats 4000000 in
set_option maxRecDepth 100000 in
/-- tellToFail -/
theorem kX1_tellToFail (l : Launch) (dC : Nat → ClassId) (dI : Nat → Nat → Nat) (q : ClassId × ClassId × ClassId × ClassId) (ad : Nat → Nat) (en : Nat → va_E) (n sz : Nat) (b : Nat) (hbn : b + 2 < n) (P : Pst) (hH : PlanAt q ad en b P) (i x : Int32) :
    Met l yX1_tellToFail wsX1_tellToFail ({ frames := 0, cells := 0, slots := 0, locals := 0 }) (wPc (dC, dI) vwCl (wT q) ad en n sz [.ref (ad b), .int i, .int x]) (va_Qv (fun (en' : Nat → va_E) => PlanAt q ad en' b (P.1, P.2.1, P.2.2.1, P.2.2.2.1, i, x) ∧ ∀ j, (j < b ∨ b + 3 ≤ j) → en' j = en j) (wB (dC, dI) vwCl (wT q) ad n (wA ad n sz)) (wA ad n sz)) 0 0 (wA ad n sz) := by
  refine Met.ofW (cc := cX1_tellToFail) (maxL := 3) (ret := none) (by decide) rfl ?_
  intro p e s m args below meth c s₁ B hml hv
  obtain ⟨rfl, hsz, hP, hK, hD0, hE0⟩ := hv
  have hx := B.exec
  have hb := B.bytes
  have hr := B.returns
  have hts := atoms_spec (ws := wsX1_tellToFail) B.pre
  have hown : s.vm.findClass RX1 = some m.cls := findClass_of_methodNamed B.named
  have hlocks := B.notSynchronized
  have iRX1 : ∀ w ∈ u_ws RX1 TX1 6, w ∈ wsX1_tellToFail := by decide +kernel
  subst hsz
  have hw := wk_of hP hK hD0 hE0
  generalize wA ad n s.heap.size = AA at hw ⊢
  have hl := lv_entry ([.ref (ad b), .int i, .int x]) (n := 3) (Nat.le_of_ble_eq_true rfl)
  rw [lg_entry_eq]
  generalize (lg_sl ([.ref (ad b), .int i, .int x]) ++ List.replicate (3 - (lg_sl ([.ref (ad b), .int i, .int x])).length) Slot.unset).toArray = ls at hl ⊢
  have hl : lv_has ls 3 [(0, .ref (ad b)), (1, .int i), (2, .int x)] := hl
  obtain ⟨sf, kf, h0, h1, h2, h3⟩ := hH
  refine lv_aload_n hx hb dX1_tellToFail_0 rfl (lv_at hl 0 rfl) ?_
  refine lv_iload_n hx hb dX1_tellToFail_1 rfl (lv_at hl 1 rfl) ?_
  refine wr_put (ci := 2) (v := .int i) (ty := .int) (C := RX1) (T := TX1) (N := 6) hx hb hts iRX1 tyX1 tyX1_ok nmX1 hown hw b (by omega) h0 rfl 4 (by decide) (hts (.fieldLink RX1 22 "LibraryDesk$Plan" "toldAct" "I") (by decide +kernel)) (fun _ h9 => h9) rfl (by decide +kernel) rfl rfl (Nat.le_of_ble_eq_true rfl) dX1_tellToFail_2 (fun en2 H locs hE1 hw => ?_)
  have he3 : en2 b = .inr (2, [.int P.1, .int (nI P.2.1), .ref (ad (b + 1)), .ref (ad (b + 2)), .int i, .int P.2.2.2.2.2]) := w_self hE1
  have he4 : en2 (b + 1) = .inl (q.1, 6, .inl sf) := w_ne hE1 (by omega) h1
  have he5 : en2 (b + 2) = .inl (q.1, 6, .inl kf) := w_ne hE1 (by omega) h2
  refine lv_aload_n hx hb dX1_tellToFail_5 rfl (lv_at hl 0 rfl) ?_
  refine lv_iload_n hx hb dX1_tellToFail_6 rfl (lv_at hl 2 rfl) ?_
  refine wr_put (ci := 2) (v := .int x) (ty := .int) (C := RX1) (T := TX1) (N := 6) hx hb hts iRX1 tyX1 tyX1_ok nmX1 hown hw b (by omega) he3 rfl 5 (by decide) (hts (.fieldLink RX1 28 "LibraryDesk$Plan" "toldWith" "I") (by decide +kernel)) (fun _ h9 => h9) rfl (by decide +kernel) rfl rfl (Nat.le_of_ble_eq_true rfl) dX1_tellToFail_7 (fun en7 H locs hE6 hw => ?_)
  have he8 : en7 b = .inr (2, [.int P.1, .int (nI P.2.1), .ref (ad (b + 1)), .ref (ad (b + 2)), .int i, .int x]) := w_self hE6
  have he9 : en7 (b + 1) = .inl (q.1, 6, .inl sf) := w_ne hE6 (by omega) he4
  have he10 : en7 (b + 2) = .inl (q.1, 6, .inl kf) := w_ne hE6 (by omega) he5
  refine we_v hx hb hr hlocks hw ?_ dX1_tellToFail_10
  exact ⟨⟨sf, kf, he8, he9, he10, h3⟩, fun j hj => (w_fr hE6 (by omega)).trans (w_fr hE1 (by omega))⟩

set_option maxHeartbeats 4000000 in
set_option maxRecDepth 100000 in
/-- forgetTold -/
theorem kX1_forgetTold (l : Launch) (dC : Nat → ClassId) (dI : Nat → Nat → Nat) (q : ClassId × ClassId × ClassId × ClassId) (ad : Nat → Nat) (en : Nat → va_E) (n sz : Nat) (b : Nat) (hbn : b + 2 < n) (P : Pst) (hH : PlanAt q ad en b P) :
    Met l yX1_forgetTold wsX1_forgetTold ({ frames := 0, cells := 0, slots := 0, locals := 0 }) (wPc (dC, dI) vwCl (wT q) ad en n sz [.ref (ad b)]) (va_Qv (fun (en' : Nat → va_E) => PlanAt q ad en' b (P.1, P.2.1, P.2.2.1, P.2.2.2.1, -1, P.2.2.2.2.2) ∧ ∀ j, (j < b ∨ b + 3 ≤ j) → en' j = en j) (wB (dC, dI) vwCl (wT q) ad n (wA ad n sz)) (wA ad n sz)) 0 0 (wA ad n sz) := by
  refine Met.ofW (cc := cX1_forgetTold) (maxL := 1) (ret := none) (by decide) rfl ?_
  intro p e s m args below meth c s₁ B hml hv
  obtain ⟨rfl, hsz, hP, hK, hD0, hE0⟩ := hv
  have hx := B.exec
  have hb := B.bytes
  have hr := B.returns
  have hts := atoms_spec (ws := wsX1_forgetTold) B.pre
  have hown : s.vm.findClass RX1 = some m.cls := findClass_of_methodNamed B.named
  have hlocks := B.notSynchronized
  have iRX1 : ∀ w ∈ u_ws RX1 TX1 6, w ∈ wsX1_forgetTold := by decide +kernel
  subst hsz
  have hw := wk_of hP hK hD0 hE0
  generalize wA ad n s.heap.size = AA at hw ⊢
  have hl := lv_entry ([.ref (ad b)]) (n := 1) (Nat.le_of_ble_eq_true rfl)
  rw [lg_entry_eq]
  generalize (lg_sl ([.ref (ad b)]) ++ List.replicate (1 - (lg_sl ([.ref (ad b)])).length) Slot.unset).toArray = ls at hl ⊢
  have hl : lv_has ls 1 [(0, .ref (ad b))] := hl
  obtain ⟨sf, kf, h0, h1, h2, h3⟩ := hH
  refine lv_aload_n hx hb dX1_forgetTold_0 rfl (lv_at hl 0 rfl) ?_
  refine lv_iconst (v := (-1)) hx hb dX1_forgetTold_1 (by decide) ?_
  refine wr_put (ci := 2) (v := .int (-1)) (ty := .int) (C := RX1) (T := TX1) (N := 6) hx hb hts iRX1 tyX1 tyX1_ok nmX1 hown hw b (by omega) h0 rfl 4 (by decide) (hts (.fieldLink RX1 22 "LibraryDesk$Plan" "toldAct" "I") (by decide +kernel)) (fun _ h9 => h9) rfl (by decide +kernel) rfl rfl (Nat.le_of_ble_eq_true rfl) dX1_forgetTold_2 (fun en2 H locs hE1 hw => ?_)
  have he3 : en2 b = .inr (2, [.int P.1, .int (nI P.2.1), .ref (ad (b + 1)), .ref (ad (b + 2)), .int (-1), .int P.2.2.2.2.2]) := w_self hE1
  have he4 : en2 (b + 1) = .inl (q.1, 6, .inl sf) := w_ne hE1 (by omega) h1
  have he5 : en2 (b + 2) = .inl (q.1, 6, .inl kf) := w_ne hE1 (by omega) h2
  refine we_v hx hb hr hlocks hw ?_ dX1_forgetTold_5
  exact ⟨⟨sf, kf, he3, he4, he5, h3⟩, fun j hj => w_fr hE1 (by omega)⟩

set_option maxHeartbeats 4000000 in
set_option maxRecDepth 100000 in
/-- addAct -/
theorem kX1_addAct (l : Launch) (dC : Nat → ClassId) (dI : Nat → Nat → Nat) (q : ClassId × ClassId × ClassId × ClassId) (ad : Nat → Nat) (en : Nat → va_E) (n sz : Nat) (b : Nat) (hbn : b + 2 < n) (P : Pst) (hH : PlanAt q ad en b P) (hP6 : P.2.1 ≤ 6) (sv kv : Int32) :
    Met l yX1_addAct wsX1_addAct ({ frames := 0, cells := 0, slots := 0, locals := 0 }) (wPc (dC, dI) vwCl (wT q) ad en n sz [.ref (ad b), .int sv, .int kv]) (va_Qi (fun (r : Int32) (en' : Nat → va_E) => r = (if P.2.1 < 6 then 1 else 0) ∧ PlanAt q ad en' b (pAdd sv kv P) ∧ ∀ j, (j < b ∨ b + 3 ≤ j) → en' j = en j) (wB (dC, dI) vwCl (wT q) ad n (wA ad n sz)) (wA ad n sz)) 0 0 (wA ad n sz) := by
  refine Met.ofW (cc := cX1_addAct) (maxL := 3) (ret := (some .boolean)) (by decide) rfl ?_
  intro p e s m args below meth c s₁ B hml hv
  obtain ⟨rfl, hsz, hP, hK, hD0, hE0⟩ := hv
  have hx := B.exec
  have hb := B.bytes
  have hr := B.returns
  have hts := atoms_spec (ws := wsX1_addAct) B.pre
  have hown : s.vm.findClass RX1 = some m.cls := findClass_of_methodNamed B.named
  have hlocks := B.notSynchronized
  have iRX1 : ∀ w ∈ u_ws RX1 TX1 6, w ∈ wsX1_addAct := by decide +kernel
  subst hsz
  have hw := wk_of hP hK hD0 hE0
  generalize wA ad n s.heap.size = AA at hw ⊢
  have hl := lv_entry ([.ref (ad b), .int sv, .int kv]) (n := 3) (Nat.le_of_ble_eq_true rfl)
  rw [lg_entry_eq]
  generalize (lg_sl ([.ref (ad b), .int sv, .int kv]) ++ List.replicate (3 - (lg_sl ([.ref (ad b), .int sv, .int kv])).length) Slot.unset).toArray = ls at hl ⊢
  have hl : lv_has ls 3 [(0, .ref (ad b)), (1, .int sv), (2, .int kv)] := hl
  obtain ⟨sf, kf, h0, h1, h2, h3⟩ := hH
  refine lv_aload_n hx hb dX1_addAct_0 rfl (lv_at hl 0 rfl) ?_
  refine wr_get (ci := 2) (C := RX1) (T := TX1) (N := 6) hx hb hts iRX1 hown hw b (by omega) h0 rfl 1 (by decide) (hts (.fieldLink RX1 25 "LibraryDesk$Plan" "actCount" "I") (by decide +kernel)) (fun _ h9 => h9) rfl dX1_addAct_1 ?_
  refine lv_bipush (v := 6) hx hb dX1_addAct_4 (by decide) ?_
  refine lv_icmp_lt (tgt := 11) hx hb dX1_addAct_6 (by decide) (fun c6 => ?_) (fun c6 => ?_)
  · have hc6 : P.2.1 < 6 := (nI_ltI (by omega) (by omega)).mp c6
    refine lv_aload_n hx hb dX1_addAct_11 rfl (lv_at hl 0 rfl) ?_
    refine wr_get (ci := 2) (C := RX1) (T := TX1) (N := 6) hx hb hts iRX1 hown hw b (by omega) h0 rfl 2 (by decide) (hts (.fieldLink RX1 15 "LibraryDesk$Plan" "sorts" "[I") (by decide +kernel)) (fun _ h9 => h9) rfl dX1_addAct_12 ?_
    refine lv_aload_n hx hb dX1_addAct_15 rfl (lv_at hl 0 rfl) ?_
    refine wr_get (ci := 2) (C := RX1) (T := TX1) (N := 6) hx hb hts iRX1 hown hw b (by omega) h0 rfl 1 (by decide) (hts (.fieldLink RX1 25 "LibraryDesk$Plan" "actCount" "I") (by decide +kernel)) (fun _ h9 => h9) rfl dX1_addAct_16 ?_
    refine lv_iload_n hx hb dX1_addAct_19 rfl (lv_at hl 1 rfl) ?_
    refine wr_iast (j := P.2.1) hx hb hw (b + 1) (by omega) 0 h1 rfl (vp_in_nI (by omega) (by decide)) (nI_clamp (by omega)) dX1_addAct_20 (fun en2 H locs hE1 hw => ?_)
    have he3 : en2 b = .inr (2, [.int P.1, .int (nI P.2.1), .ref (ad (b + 1)), .ref (ad (b + 2)), .int P.2.2.2.2.1, .int P.2.2.2.2.2]) := w_ne hE1 (by omega) h0
    have he4 : en2 (b + 1) = .inl (q.1, 6, .inl (upd sf P.2.1 sv)) := w_self hE1
    have he5 : en2 (b + 2) = .inl (q.1, 6, .inl kf) := w_ne hE1 (by omega) h2
    refine lv_aload_n hx hb dX1_addAct_21 rfl (lv_at hl 0 rfl) ?_
    refine wr_get (ci := 2) (C := RX1) (T := TX1) (N := 6) hx hb hts iRX1 hown hw b (by omega) he3 rfl 3 (by decide) (hts (.fieldLink RX1 19 "LibraryDesk$Plan" "kinds" "[I") (by decide +kernel)) (fun _ h9 => h9) rfl dX1_addAct_22 ?_
    refine lv_aload_n hx hb dX1_addAct_25 rfl (lv_at hl 0 rfl) ?_
    refine wr_get (ci := 2) (C := RX1) (T := TX1) (N := 6) hx hb hts iRX1 hown hw b (by omega) he3 rfl 1 (by decide) (hts (.fieldLink RX1 25 "LibraryDesk$Plan" "actCount" "I") (by decide +kernel)) (fun _ h9 => h9) rfl dX1_addAct_26 ?_
    refine lv_iload_n hx hb dX1_addAct_29 rfl (lv_at hl 2 rfl) ?_
    refine wr_iast (j := P.2.1) hx hb hw (b + 2) (by omega) 0 he5 rfl (vp_in_nI (by omega) (by decide)) (nI_clamp (by omega)) dX1_addAct_30 (fun en7 H locs hE6 hw => ?_)
    have he8 : en7 b = .inr (2, [.int P.1, .int (nI P.2.1), .ref (ad (b + 1)), .ref (ad (b + 2)), .int P.2.2.2.2.1, .int P.2.2.2.2.2]) := w_ne hE6 (by omega) he3
    have he9 : en7 (b + 1) = .inl (q.1, 6, .inl (upd sf P.2.1 sv)) := w_ne hE6 (by omega) he4
    have he10 : en7 (b + 2) = .inl (q.1, 6, .inl (upd kf P.2.1 kv)) := w_self hE6
    refine lv_aload_n hx hb dX1_addAct_31 rfl (lv_at hl 0 rfl) ?_
    refine lv_dup hx hb dX1_addAct_32 rfl ?_
    refine wr_get (ci := 2) (C := RX1) (T := TX1) (N := 6) hx hb hts iRX1 hown hw b (by omega) he8 rfl 1 (by decide) (hts (.fieldLink RX1 25 "LibraryDesk$Plan" "actCount" "I") (by decide +kernel)) (fun _ h9 => h9) rfl dX1_addAct_33 ?_
    refine lv_iconst (v := 1) hx hb dX1_addAct_36 (by decide) ?_
    refine lv_iadd hx hb dX1_addAct_37 ?_
    refine lv_topi (fun x11 ex11 => ?_)
    have ex11n : x11 = nI (P.2.1 + 1) := ex11.trans (nI_1 _)
    clear ex11
    subst ex11n
    refine wr_put (ci := 2) (v := .int (nI (P.2.1 + 1))) (ty := .int) (C := RX1) (T := TX1) (N := 6) hx hb hts iRX1 tyX1 tyX1_ok nmX1 hown hw b (by omega) he8 rfl 1 (by decide) (hts (.fieldLink RX1 25 "LibraryDesk$Plan" "actCount" "I") (by decide +kernel)) (fun _ h9 => h9) rfl (by decide +kernel) rfl rfl (Nat.le_of_ble_eq_true rfl) dX1_addAct_38 (fun en13 H locs hE12 hw => ?_)
    have he14 : en13 b = .inr (2, [.int P.1, .int (nI (P.2.1 + 1)), .ref (ad (b + 1)), .ref (ad (b + 2)), .int P.2.2.2.2.1, .int P.2.2.2.2.2]) := w_self hE12
    have he15 : en13 (b + 1) = .inl (q.1, 6, .inl (upd sf P.2.1 sv)) := w_ne hE12 (by omega) he9
    have he16 : en13 (b + 2) = .inl (q.1, 6, .inl (upd kf P.2.1 kv)) := w_ne hE12 (by omega) he10
    refine lv_iconst (v := 1) hx hb dX1_addAct_41 (by decide) ?_
    refine we_z hx hb hr hlocks hw (Or.inr rfl) ?_ dX1_addAct_42
    refine ⟨by rw [if_pos hc6], ?_, fun j hj => (w_fr hE12 (by omega)).trans ((w_fr hE6 (by omega)).trans (w_fr hE1 (by omega)))⟩
    unfold pAdd
    rw [if_pos hc6]
    refine ⟨_, _, he14, he15, he16, fun i hi => ?_⟩
    by_cases hiP : i = P.2.1
    · subst hiP
      exact ⟨by show upd sf _ sv _ = upd P.2.2.1 _ sv _; rw [pk_us, pk_us], by show upd kf _ kv _ = upd P.2.2.2.1 _ kv _; rw [pk_us, pk_us]⟩
    · have hi2 : i < P.2.1 + 1 := hi
      have h4 := h3 i (by omega)
      exact ⟨by show upd sf _ sv _ = upd P.2.2.1 _ sv _; rw [pk_un hiP, pk_un hiP]; exact h4.1, by show upd kf _ kv _ = upd P.2.2.2.1 _ kv _; rw [pk_un hiP, pk_un hiP]; exact h4.2⟩
  · have hc6 : ¬ P.2.1 < 6 := fun h => c6 ((nI_ltI (b := 6) (by omega) (by omega)).mpr h)
    refine lv_iconst (v := 0) hx hb dX1_addAct_9 (by decide) ?_
    refine we_z hx hb hr hlocks hw (Or.inl rfl) ?_ dX1_addAct_10
    refine ⟨by rw [if_neg hc6], ?_, fun j hj => rfl⟩
    unfold pAdd
    rw [if_neg hc6]
    exact ⟨sf, kf, h0, h1, h2, h3⟩
end
section
/-! Pure rows: what a step of the class's rows does to the mathematical value. -/
theorem z01_f {p : Prop} [Decidable p] {r : Int32} (h : r = if p then 1 else 0) (c : r = 0) : ¬ p := by
  intro hp
  rw [if_pos hp] at h
  rw [h] at c
  exact absurd c (by decide)
theorem z01_t {p : Prop} [Decidable p] {r : Int32} (h : r = if p then 1 else 0) (c : ¬ r = 0) : p := by
  by_cases hp : p
  · exact hp
  · rw [if_neg hp] at h
    exact absurd h c
theorem z01_r {p : Prop} [Decidable p] {r : Int32} (h : r = if p then 1 else 0) : r = 0 ∨ r = 1 := by
  by_cases hp : p
  · rw [if_pos hp] at h; exact Or.inr h
  · rw [if_neg hp] at h; exact Or.inl h
theorem RC_add {mf : Nat → Int32} {hf tf vf : Nat → Int64} {A : Ast} (h : RC mf hf tf vf A) (hc : aCn A < 20) (v : Int64) : RC mf hf tf (vp_updL vf (aCn A) v) (aAdd v A) := by
  unfold aAdd
  rw [if_pos hc]
  refine ⟨h.1, fun i hi => ?_⟩
  show vp_updL vf (aCn A) v i = vp_updL (aRw A) (aCn A) v i
  have hi : i < aCn A + 1 := hi
  by_cases e : i = aCn A
  · rw [e, pk_uLs, pk_uLs]
  · rw [pk_uLn e, pk_uLn e]
    exact h.2 i (by omega)
theorem aCn_add {A : Ast} (hc : aCn A < 20) (v : Int64) : aCn (aAdd v A) = aCn A + 1 := by
  unfold aAdd
  rw [if_pos hc]
theorem aAdd_no {A : Ast} (hc : ¬ aCn A < 20) (v : Int64) : aAdd v A = A := by
  unfold aAdd
  rw [if_neg hc]
theorem Aok_add {A : Ast} (h : Aok A) (v : Int64) : Aok (aAdd v A) := by
  unfold aAdd
  split
  · exact ⟨h.1, by show aCn A + 1 ≤ 20; omega⟩
  · exact h
theorem aMake_no {A : Ast} {k : Nat} (hc : ¬ aMd A k < 40) : aMake k A = A := by
  unfold aMake
  rw [if_neg hc]
theorem aCn_make (k : Nat) (A : Ast) : aCn (aMake k A) = aCn A := by
  unfold aMake
  split <;> rfl
theorem Aok_make {A : Ast} (h : Aok A) (k : Nat) : Aok (aMake k A) := by
  unfold aMake
  split
  · rename_i hc
    refine ⟨fun i hi => ?_, h.2⟩
    show (if i = k then aMd A k + 1 else aMd A i) ≤ 40 ∧ ∀ j, (if i = k ∧ j = aMd A k + 1 then true else aHr A i j) = true → 1 ≤ j ∧ j ≤ (if i = k then aMd A k + 1 else aMd A i)
    have hi' := h.1 i hi
    by_cases e : i = k
    · subst e
      rw [if_pos rfl]
      refine ⟨by omega, fun j hj => ?_⟩
      by_cases ej : j = aMd A i + 1
      · omega
      · rw [if_neg (fun z => ej z.2)] at hj
        have := hi'.2 j hj
        omega
    · rw [if_neg e]
      refine ⟨hi'.1, fun j hj => ?_⟩
      rw [if_neg (fun z => e z.1)] at hj
      exact hi'.2 j hj
  · exact h
theorem RC_make {mf : Nat → Int32} {hf tf vf : Nat → Int64} {A : Ast} (h : RC mf hf tf vf A) {k : Nat} (hk : k < 8) (hc : aMd A k < 40) : RC (upd mf k (nI (aMd A k + 1))) (vp_updL hf k (hf k ||| ((1 : Int64) <<< ((nI (aMd A k + 1)).toInt64 &&& 63)))) tf vf (aMake k A) := by
  unfold aMake
  rw [if_pos hc]
  refine ⟨fun i hi => ?_, h.2⟩
  show upd mf k (nI (aMd A k + 1)) i = nI (if i = k then aMd A k + 1 else aMd A i) ∧ tf i = aTl A i ∧ ∀ j, j < 64 → bL (vp_updL hf k (hf k ||| ((1 : Int64) <<< ((nI (aMd A k + 1)).toInt64 &&& 63))) i) j = (if i = k ∧ j = aMd A k + 1 then true else aHr A i j)
  have hi' := h.1 i hi
  by_cases e : i = k
  · subst e
    rw [pk_us, if_pos rfl, pk_uLs]
    refine ⟨rfl, hi'.2.1, fun j hj => ?_⟩
    rw [bL_or _ hj (by omega), hi'.2.2 j hj]
    by_cases ej : j = aMd A i + 1
    · rw [if_pos ⟨rfl, ej⟩, ej]; simp
    · rw [if_neg (fun z => ej z.2)]; simp [ej]
  · rw [pk_un e, if_neg e, pk_uLn e]
    refine ⟨hi'.1, hi'.2.1, fun j hj => ?_⟩
    rw [if_neg (fun z => e z.1)]
    exact hi'.2.2 j hj
theorem aIs_nI {A : Ast} {k z : Nat} (hk : k < 8) (h1 : 1 ≤ z) (h2 : z ≤ 40) : aIs (nI k) (nI z) A = aHr A k z := by
  unfold aIs
  rw [nI_clamp (by omega), nI_clamp (by omega)]
  have h : (0 ≤ nI k ∧ nI k < 8 ∧ 1 ≤ nI z ∧ nI z ≤ 40) := ⟨nI_pos' (by omega), nI_lt (b := 8) hk (by omega), nI_le (a := 1) h1 (by omega), nI_le (b := 40) h2 (by omega)⟩
  simp [h]
theorem aIs_k {A : Ast} {kd z : Int32} (h : ¬ (0 ≤ kd ∧ kd < 8)) : aIs kd z A = false := by
  unfold aIs
  have h : ¬ (0 ≤ kd ∧ kd < 8 ∧ 1 ≤ z ∧ z ≤ 40) := fun w => h ⟨w.1, w.2.1⟩
  simp [h]
theorem aIs_z {A : Ast} {kd z : Int32} (h : ¬ (1 ≤ z ∧ z ≤ 40)) : aIs kd z A = false := by
  unfold aIs
  have h : ¬ (0 ≤ kd ∧ kd < 8 ∧ 1 ≤ z ∧ z ≤ 40) := fun w => h w.2.2
  simp [h]
theorem aIs_in {A : Ast} {kd z : Int32} (h : aIs kd z A = true) : ∃ k y : Nat, k < 8 ∧ 1 ≤ y ∧ y ≤ 40 ∧ kd = nI k ∧ z = nI y ∧ aHr A k y = true := by
  unfold aIs at h
  rw [Bool.and_eq_true, decide_eq_true_eq] at h
  obtain ⟨⟨h1, h2, h3, h4⟩, h5⟩ := h
  rcases kd_cases kd (n := 8) (by decide) with ⟨k, hk, rfl⟩ | hn
  · rcases kd_cases z (n := 41) (by decide) with ⟨y, hy, rfl⟩ | hn
    · have hy1 : 1 ≤ y := (nI_leI (a := 1) (by omega) (by omega)).mp h3
      rw [nI_clamp (by omega), nI_clamp (by omega)] at h5
      exact ⟨k, y, hk, hy1, by omega, rfl, rfl, h5⟩
    · exact absurd ⟨Int32.le_trans (by decide) h3, Int32.lt_of_le_of_lt h4 (by decide)⟩ hn
  · exact absurd ⟨h1, h2⟩ hn
theorem aCn_dropI (kd z : Int32) (A : Ast) : aCn (aDropI kd z A) = aCn A := by
  unfold aDropI aDrop
  split <;> rfl
theorem Aok_drop {A : Ast} (h : Aok A) (k z : Nat) : Aok (aDrop k z A) := by
  refine ⟨fun i hi => ⟨(h.1 i hi).1, fun j hj => ?_⟩, h.2⟩
  have hj : (if i = k ∧ j = z then false else aHr A i j) = true := hj
  by_cases e : i = k ∧ j = z
  · rw [if_pos e] at hj; cases hj
  · rw [if_neg e] at hj; exact (h.1 i hi).2 j hj
theorem Aok_dropI {A : Ast} (h : Aok A) (kd z : Int32) : Aok (aDropI kd z A) := by
  unfold aDropI
  split
  · exact Aok_drop h _ _
  · exact h
theorem aDropI_no {A : Ast} {kd z : Int32} (h : ¬ aIs kd z A = true) : aDropI kd z A = A := by
  unfold aDropI
  rw [if_neg h]
theorem RC_drop {mf : Nat → Int32} {hf tf vf : Nat → Int64} {A : Ast} (h : RC mf hf tf vf A) {k z : Nat} (hk : k < 8) (hz : z < 64) : RC mf (vp_updL hf k (hf k &&& (((1 : Int64) <<< ((nI z).toInt64 &&& 63)) ^^^ (-1)))) tf vf (aDrop k z A) := by
  refine ⟨fun i hi => ?_, h.2⟩
  show mf i = nI (aMd A i) ∧ tf i = aTl A i ∧ ∀ j, j < 64 → bL (vp_updL hf k (hf k &&& (((1 : Int64) <<< ((nI z).toInt64 &&& 63)) ^^^ (-1))) i) j = (if i = k ∧ j = z then false else aHr A i j)
  have hi' := h.1 i hi
  refine ⟨hi'.1, hi'.2.1, fun j hj => ?_⟩
  by_cases e : i = k
  · subst e
    rw [pk_uLs, bL_andn _ hj hz, hi'.2.2 j hj]
    by_cases ej : j = z
    · rw [if_pos ⟨rfl, ej⟩, ej]; simp
    · rw [if_neg (fun w => ej w.2)]; simp [ej]
  · rw [pk_uLn e, if_neg (fun w => e w.1)]
    exact hi'.2.2 j hj
theorem aDropI_nI {A : Ast} {k z : Nat} (hk : k < 8) (h1 : 1 ≤ z) (h2 : z ≤ 40) (h : aHr A k z = true) : aDropI (nI k) (nI z) A = aDrop k z A := by
  unfold aDropI
  rw [if_pos (by rw [aIs_nI hk h1 h2]; exact h), nI_clamp (by omega), nI_clamp (by omega)]
theorem RC_grow {mf : Nat → Int32} {hf tf vf : Nat → Int64} {A : Ast} (h : RC mf hf tf vf A) {k : Nat} (hk : k < 8) (x : Int64) : RC mf hf (vp_updL tf k (tf k + x)) vf (aGrow k x A) := by
  refine ⟨fun i hi => ?_, h.2⟩
  show mf i = nI (aMd A i) ∧ vp_updL tf k (tf k + x) i = (if i = k then aTl A k + x else aTl A i) ∧ ∀ j, j < 64 → bL (hf i) j = aHr A i j
  have hi' := h.1 i hi
  refine ⟨hi'.1, ?_, hi'.2.2⟩
  by_cases e : i = k
  · subst e
    rw [pk_uLs, if_pos rfl, hi'.2.1]
  · rw [pk_uLn e, if_neg e]; exact hi'.2.1
theorem aCn_take {A : Ast} (hc : 0 < aCn A) (k : Nat) : aCn (aTake k A) = aCn A - 1 := by
  unfold aTake
  rw [if_pos hc]
theorem aTake_no {A : Ast} (hc : ¬ 0 < aCn A) (k : Nat) : aTake k A = A := by
  unfold aTake
  rw [if_neg hc]
theorem Aok_take {A : Ast} (h : Aok A) (k : Nat) : Aok (aTake k A) := by
  unfold aTake
  split
  · have := h.2
    exact ⟨h.1, by show aCn A - 1 ≤ 20; omega⟩
  · exact h
theorem Aok_grow {A : Ast} (h : Aok A) (k : Nat) (x : Int64) : Aok (aGrow k x A) := h
theorem RC_take {mf : Nat → Int32} {hf tf vf wf : Nat → Int64} {A : Ast} (h : RC mf hf tf vf A) (hc : 0 < aCn A) {k : Nat} (hk : k < 8) (hv : ∀ i, i < aCn A - 1 → wf i = vf (i + 1)) : RC mf hf (vp_updL tf k (tf k + vf 0)) wf (aTake k A) := by
  unfold aTake
  rw [if_pos hc]
  refine ⟨fun i hi => ?_, fun i hi => ?_⟩
  · show mf i = nI (aMd A i) ∧ vp_updL tf k (tf k + vf 0) i = (if i = k then aTl A k + aRw A 0 else aTl A i) ∧ ∀ j, j < 64 → bL (hf i) j = aHr A i j
    have hi' := h.1 i hi
    refine ⟨hi'.1, ?_, hi'.2.2⟩
    by_cases e : i = k
    · subst e
      rw [pk_uLs, if_pos rfl, hi'.2.1, h.2 0 hc]
    · rw [pk_uLn e, if_neg e]; exact hi'.2.1
  · show wf i = aRw A (i + 1)
    have hi : i < aCn A - 1 := hi
    rw [hv i hi, h.2 (i + 1) (by omega)]
/-! the greatest, and how many -/
theorem gr_le (f : Nat → Bool) : ∀ n, gr f n ≤ n
  | 0 => Nat.le_refl 0
  | n + 1 => by
    unfold gr
    split
    · exact Nat.le_refl _
    · exact Nat.le_succ_of_le (gr_le f n)
theorem gr_is (f : Nat → Bool) : ∀ n, 0 < gr f n → f (gr f n) = true
  | 0 => fun h => absurd h (Nat.lt_irrefl 0)
  | n + 1 => by
    unfold gr
    split
    · intro _; assumption
    · exact gr_is f n
theorem gr_up (f : Nat → Bool) (m : Nat) : ∀ n, m ≤ n → (∀ j, m < j → j ≤ n → f j = false) → gr f n = gr f m
  | 0, h, _ => by have : m = 0 := by omega
                  rw [this]
  | n + 1, h, hf => by
    by_cases e : m = n + 1
    · rw [e]
    · show (if f (n + 1) = true then n + 1 else gr f n) = gr f m
      rw [if_neg (by rw [hf (n + 1) (by omega) (Nat.le_refl _)]; decide)]
      exact gr_up f m n (by omega) (fun j h1 h2 => hf j h1 (by omega))
theorem cn_up (f : Nat → Bool) (m : Nat) : ∀ n, m ≤ n → (∀ j, m < j → j ≤ n → f j = false) → cn f n = cn f m
  | 0, h, _ => by have : m = 0 := by omega
                  rw [this]
  | n + 1, h, hf => by
    by_cases e : m = n + 1
    · rw [e]
    · show cn f n + (if f (n + 1) = true then 1 else 0) = cn f m
      rw [if_neg (by rw [hf (n + 1) (by omega) (Nat.le_refl _)]; decide), Nat.add_zero]
      exact cn_up f m n (by omega) (fun j h1 h2 => hf j h1 (by omega))
theorem cn_congr {f g : Nat → Bool} : ∀ n, (∀ j, 1 ≤ j → j ≤ n → f j = g j) → cn f n = cn g n
  | 0, _ => rfl
  | n + 1, h => by
    show cn f n + (if f (n + 1) = true then 1 else 0) = cn g n + (if g (n + 1) = true then 1 else 0)
    rw [cn_congr n (fun j h1 h2 => h j h1 (by omega)), h (n + 1) (by omega) (Nat.le_refl _)]
theorem cn_le (f : Nat → Bool) : ∀ n, cn f n ≤ n
  | 0 => Nat.le_refl 0
  | n + 1 => by
    show cn f n + (if f (n + 1) = true then 1 else 0) ≤ n + 1
    have := cn_le f n
    split <;> omega
def b2n (b : Bool) : Nat := if b = true then 1 else 0
theorem pcN_last : ∀ k x, pcN (k + 1) x = pcN k x + b2n (x.testBit k)
  | 0, x => by
    show x % 2 + 0 = 0 + b2n (x.testBit 0)
    rw [Nat.testBit_zero]
    unfold b2n
    by_cases h : x % 2 = 1
    · simp [h]
    · have : x % 2 = 0 := by omega
      simp [this]
  | k + 1, x => by
    show x % 2 + pcN (k + 1) (x / 2) = (x % 2 + pcN k (x / 2)) + b2n (x.testBit (k + 1))
    rw [pcN_last k (x / 2), Nat.testBit_succ]
    omega
theorem pcN_cn (x : Nat) : ∀ k, pcN (k + 1) x = b2n (x.testBit 0) + cn (fun j => x.testBit j) k
  | 0 => by rw [pcN_last]; show 0 + _ = _; unfold cn; omega
  | k + 1 => by
    rw [pcN_last, pcN_cn x k]
    show _ = b2n (x.testBit 0) + (cn (fun j => x.testBit j) k + (if x.testBit (k + 1) = true then 1 else 0))
    unfold b2n
    omega
theorem count_bits {x : Int64} {f : Nat → Bool} (h : ∀ j, j < 64 → bL x j = f j) (h0 : ∀ j, f j = true → 1 ≤ j ∧ j ≤ 40) : pcN 64 (x.toUInt64.toNat) = cn f 40 := by
  have hb : ∀ j, (x.toUInt64.toNat).testBit j = bL x j := fun j => rfl
  rw [pcN_cn _ 63]
  have z : b2n ((x.toUInt64.toNat).testBit 0) = 0 := by
    rw [hb, h 0 (by decide)]
    unfold b2n
    split
    · rename_i h9
      have := h0 0 h9
      omega
    · rfl
  rw [z, Nat.zero_add, cn_congr (g := f) 63 (fun j h1 h2 => by rw [hb]; exact h j (by omega))]
  refine cn_up f 40 63 (by decide) (fun j h1 h2 => ?_)
  cases hj : f j with
  | false => rfl
  | true => have := h0 j hj; omega
end
section
/-! Long.bitCount's walk, as numbers -/
def uV (x : Int64) : Nat := x.toUInt64.toNat
theorem uV_lt (x : Int64) : uV x < 18446744073709551616 := x.toUInt64.toNat_lt
theorem uV_and (x y : Int64) : uV (x &&& y) = uV x &&& uV y := by
  show (x.toUInt64 &&& y.toUInt64).toNat = _
  exact UInt64.toNat_and _ _
theorem uV_add (x y : Int64) : uV (x + y) = (uV x + uV y) % 18446744073709551616 := by
  show (x.toUInt64 + y.toUInt64).toNat = _
  exact UInt64.toNat_add _ _
theorem uV_sub {x y : Int64} (h : uV y ≤ uV x) : uV (x - y) = uV x - uV y := by
  show (x.toUInt64 - y.toUInt64).toNat = _
  exact UInt64.toNat_sub_of_le _ _ h
theorem uV_shr (x : Int64) (s : UInt64) {k : Nat} (hs : s.toNat % 64 = k) : uV (x.toUInt64 >>> s).toInt64 = uV x / 2 ^ k := by
  show (x.toUInt64 >>> s).toNat = _
  rw [UInt64.toNat_shiftRight, hs, Nat.shiftRight_eq_div_pow]
  rfl
theorem bM_85 : bM 85 8 = 6148914691236517205 := by decide +kernel
theorem bM_51 : bM 51 8 = 3689348814741910323 := by decide +kernel
theorem bM_15 : bM 15 8 = 1085102592571150095 := by decide +kernel
theorem bc_low (x : Int64) : x.toInt32 &&& 127 = nI (uV x % 128) := by
  rw [pk_and x.toInt32 (m := 127) 7 (by decide)]
  congr 1
  have e : x.toInt32.toBitVec.toNat = uV x % 2 ^ 32 := by
    show (x.toBitVec.signExtend 32).toNat = _
    rw [BitVec.signExtend_eq_setWidth_of_le _ (by decide), BitVec.toNat_setWidth]
    rfl
  rw [e]
  omega
theorem bc_all {x x1 x2 x3 x4 x5 x6 x7 x8 x9 x10 x11 x12 x13 x14 x15 x16 : Int64} {x17 x18 : Int32}
    (e1 : x1 = (x.toUInt64 >>> ((1 : Int32).toInt64.toUInt64 &&& Int64.toUInt64 63)).toInt64) (e2 : x2 = x1 &&& 6148914691236517205) (e3 : x3 = x - x2)
    (e4 : x4 = x3 &&& 3689348814741910323) (e5 : x5 = (x3.toUInt64 >>> ((2 : Int32).toInt64.toUInt64 &&& Int64.toUInt64 63)).toInt64) (e6 : x6 = x5 &&& 3689348814741910323) (e7 : x7 = x4 + x6)
    (e8 : x8 = (x7.toUInt64 >>> ((4 : Int32).toInt64.toUInt64 &&& Int64.toUInt64 63)).toInt64) (e9 : x9 = x7 + x8) (e10 : x10 = x9 &&& 1085102592571150095)
    (e11 : x11 = (x10.toUInt64 >>> ((8 : Int32).toInt64.toUInt64 &&& Int64.toUInt64 63)).toInt64) (e12 : x12 = x10 + x11)
    (e13 : x13 = (x12.toUInt64 >>> ((16 : Int32).toInt64.toUInt64 &&& Int64.toUInt64 63)).toInt64) (e14 : x14 = x12 + x13)
    (e15 : x15 = (x14.toUInt64 >>> ((32 : Int32).toInt64.toUInt64 &&& Int64.toUInt64 63)).toInt64) (e16 : x16 = x14 + x15) (e17 : x17 = x16.toInt32) (e18 : x18 = x17 &&& 127) : x18 = nI (pcN 64 (x.toUInt64.toNat)) := by
  have c5 : uV (6148914691236517205 : Int64) = bM 85 8 := by rw [bM_85]; rfl
  have c3 : uV (3689348814741910323 : Int64) = bM 51 8 := by rw [bM_51]; rfl
  have cf : uV (1085102592571150095 : Int64) = bM 15 8 := by rw [bM_15]; rfl
  have u2 : uV x2 = (uV x / 2) &&& bM 85 8 := by rw [e2, uV_and, c5, e1, uV_shr x _ (k := 1) (by decide)]
  have l2 : uV x2 ≤ uV x := by
    rw [u2]
    exact Nat.le_trans Nat.and_le_left (Nat.div_le_self _ _)
  have u3 : uV x3 = bf1 (bM 85 8) (uV x) := by rw [e3, uV_sub l2, u2]; rfl
  have u4 : uV x4 = uV x3 &&& bM 51 8 := by rw [e4, uV_and, c3]
  have u6 : uV x6 = (uV x3 / 4) &&& bM 51 8 := by rw [e6, uV_and, c3, e5, uV_shr x3 _ (k := 2) (by decide)]
  have l4 : uV x4 ≤ 3689348814741910323 := by rw [u4, bM_51]; exact Nat.and_le_right
  have l6 : uV x6 ≤ 3689348814741910323 := by rw [u6, bM_51]; exact Nat.and_le_right
  have u7 : uV x7 = bf2 (bM 51 8) (uV x3) := by
    rw [e7, uV_add, Nat.mod_eq_of_lt (by omega), u4, u6]; rfl
  have l7 : uV x7 ≤ 7378697629483820646 := by rw [e7, uV_add, Nat.mod_eq_of_lt (by omega)]; omega
  have u8 : uV x8 = uV x7 / 16 := by rw [e8, uV_shr x7 _ (k := 4) (by decide)]
  have u9 : uV x9 = uV x7 + uV x7 / 16 := by
    rw [e9, uV_add, u8, Nat.mod_eq_of_lt (by omega)]
  have u10 : uV x10 = bG 8 (uV x) := by
    rw [e10, uV_and, cf, u9, u7, u3]; rfl
  have l10 : uV x10 ≤ 1085102592571150095 := by rw [e10, uV_and, cf, bM_15]; exact Nat.and_le_right
  have u11 : uV x11 = uV x10 / 256 := by rw [e11, uV_shr x10 _ (k := 8) (by decide)]
  have u12 : uV x12 = uV x10 + uV x10 / 256 := by rw [e12, uV_add, u11, Nat.mod_eq_of_lt (by omega)]
  have u13 : uV x13 = uV x12 / 65536 := by rw [e13, uV_shr x12 _ (k := 16) (by decide)]
  obtain ⟨b3, b2, b1, hr⟩ := b_fold (uV x) (uV x10) (uV x12) (uV x12 + uV x12 / 65536) (uV x12 + uV x12 / 65536 + (uV x12 + uV x12 / 65536) / 4294967296) u10 u12 rfl rfl
  have u14 : uV x14 = uV x12 + uV x12 / 65536 := by rw [e14, uV_add, u13, Nat.mod_eq_of_lt b2]
  have u15 : uV x15 = uV x14 / 4294967296 := by rw [e15, uV_shr x14 _ (k := 32) (by decide)]
  have u16 : uV x16 = uV x12 + uV x12 / 65536 + (uV x12 + uV x12 / 65536) / 4294967296 := by rw [e16, uV_add, u15, u14, Nat.mod_eq_of_lt b3]
  rw [e18, e17, bc_low, u16, hr]
  rfl
theorem nI_pred_add (z : Nat) : nI (z + 1) + Int32.ofInt (-1) = nI z := pk_m1 z
end
section
set_option maxHeartbeats 4000000 in
set_option maxRecDepth 100000 in
/-- Long.bitCount -/
theorem kJ13_bitCount_95d88 (l : Launch) (dC : Nat → ClassId) (dI : Nat → Nat → Nat) (q : ClassId × ClassId × ClassId × ClassId) (ad : Nat → Nat) (en : Nat → va_E) (n sz : Nat) (x : Int64) :
    Met l yJ13_bitCount_95d88 wsJ13_bitCount_95d88 ({ frames := 0, cells := 0, slots := 0, locals := 0 }) (wPc (dC, dI) vwCl (wT q) ad en n sz [.long x]) (va_Qi (fun (r : Int32) (en' : Nat → va_E) => r = nI (pcN 64 (x.toUInt64.toNat)) ∧ en' = en) (wB (dC, dI) vwCl (wT q) ad n (wA ad n sz)) (wA ad n sz)) 0 0 (wA ad n sz) := by
  refine Met.ofW (cc := cJ13_bitCount_95d88) (maxL := 2) (ret := (some .int)) (by decide) rfl ?_
  intro p e s m args below meth c s₁ B hml hv
  obtain ⟨rfl, hsz, hP, hK, hD0, hE0⟩ := hv
  have hx := B.exec
  have hb := B.bytes
  have hr := B.returns
  have hts := atoms_spec (ws := wsJ13_bitCount_95d88) B.pre
  have hown : s.vm.findClass RJ13 = some m.cls := findClass_of_methodNamed B.named
  have hlocks := B.notSynchronized
  subst hsz
  have hw := wk_of hP hK hD0 hE0
  generalize wA ad n s.heap.size = AA at hw ⊢
  have hl := lv_entry ([.long x]) (n := 2) (Nat.le_of_ble_eq_true rfl)
  rw [lg_entry_eq]
  generalize (lg_sl ([.long x]) ++ List.replicate (2 - (lg_sl ([.long x])).length) Slot.unset).toArray = ls at hl ⊢
  have hl : lv_has ls 2 [(0, .long x)] := hl
  refine lv_lload_n hx hb dJ13_bitCount_95d88_0 rfl (lv_at hl 0 rfl) ?_
  refine lv_lload_n hx hb dJ13_bitCount_95d88_1 rfl (lv_at hl 0 rfl) ?_
  refine lv_iconst (v := 1) hx hb dJ13_bitCount_95d88_2 (by decide) ?_
  refine lv_lushr hx hb dJ13_bitCount_95d88_3 rfl ?_
  refine lv_topl (fun x1 ex1 => ?_)
  refine lv_ldc2 (v := 6148914691236517205) hx hb hown (hts (.constantLong RJ13 314 (6148914691236517205)) (by decide +kernel)) dJ13_bitCount_95d88_4 ?_
  refine lv_land hx hb dJ13_bitCount_95d88_7 ?_
  refine lv_topl (fun x2 ex2 => ?_)
  refine lv_lsub hx hb dJ13_bitCount_95d88_8 ?_
  refine lv_topl (fun x3 ex3 => ?_)
  refine lv_lstore_n (lv' := [(0, .long x3)]) hx hb dJ13_bitCount_95d88_9 rfl hl (by decide) rfl (fun ls hl => ?_)
  refine lv_lload_n hx hb dJ13_bitCount_95d88_10 rfl (lv_at hl 0 rfl) ?_
  refine lv_ldc2 (v := 3689348814741910323) hx hb hown (hts (.constantLong RJ13 316 (3689348814741910323)) (by decide +kernel)) dJ13_bitCount_95d88_11 ?_
  refine lv_land hx hb dJ13_bitCount_95d88_14 ?_
  refine lv_topl (fun x4 ex4 => ?_)
  refine lv_lload_n hx hb dJ13_bitCount_95d88_15 rfl (lv_at hl 0 rfl) ?_
  refine lv_iconst (v := 2) hx hb dJ13_bitCount_95d88_16 (by decide) ?_
  refine lv_lushr hx hb dJ13_bitCount_95d88_17 rfl ?_
  refine lv_topl (fun x5 ex5 => ?_)
  refine lv_ldc2 (v := 3689348814741910323) hx hb hown (hts (.constantLong RJ13 316 (3689348814741910323)) (by decide +kernel)) dJ13_bitCount_95d88_18 ?_
  refine lv_land hx hb dJ13_bitCount_95d88_21 ?_
  refine lv_topl (fun x6 ex6 => ?_)
  refine lv_ladd hx hb dJ13_bitCount_95d88_22 ?_
  refine lv_topl (fun x7 ex7 => ?_)
  refine lv_lstore_n (lv' := [(0, .long x7)]) hx hb dJ13_bitCount_95d88_23 rfl hl (by decide) rfl (fun ls hl => ?_)
  refine lv_lload_n hx hb dJ13_bitCount_95d88_24 rfl (lv_at hl 0 rfl) ?_
  refine lv_lload_n hx hb dJ13_bitCount_95d88_25 rfl (lv_at hl 0 rfl) ?_
  refine lv_iconst (v := 4) hx hb dJ13_bitCount_95d88_26 (by decide) ?_
  refine lv_lushr hx hb dJ13_bitCount_95d88_27 rfl ?_
  refine lv_topl (fun x8 ex8 => ?_)
  refine lv_ladd hx hb dJ13_bitCount_95d88_28 ?_
  refine lv_topl (fun x9 ex9 => ?_)
  refine lv_ldc2 (v := 1085102592571150095) hx hb hown (hts (.constantLong RJ13 318 (1085102592571150095)) (by decide +kernel)) dJ13_bitCount_95d88_29 ?_
  refine lv_land hx hb dJ13_bitCount_95d88_32 ?_
  refine lv_topl (fun x10 ex10 => ?_)
  refine lv_lstore_n (lv' := [(0, .long x10)]) hx hb dJ13_bitCount_95d88_33 rfl hl (by decide) rfl (fun ls hl => ?_)
  refine lv_lload_n hx hb dJ13_bitCount_95d88_34 rfl (lv_at hl 0 rfl) ?_
  refine lv_lload_n hx hb dJ13_bitCount_95d88_35 rfl (lv_at hl 0 rfl) ?_
  refine lv_bipush (v := 8) hx hb dJ13_bitCount_95d88_36 (by decide) ?_
  refine lv_lushr hx hb dJ13_bitCount_95d88_38 rfl ?_
  refine lv_topl (fun x11 ex11 => ?_)
  refine lv_ladd hx hb dJ13_bitCount_95d88_39 ?_
  refine lv_topl (fun x12 ex12 => ?_)
  refine lv_lstore_n (lv' := [(0, .long x12)]) hx hb dJ13_bitCount_95d88_40 rfl hl (by decide) rfl (fun ls hl => ?_)
  refine lv_lload_n hx hb dJ13_bitCount_95d88_41 rfl (lv_at hl 0 rfl) ?_
  refine lv_lload_n hx hb dJ13_bitCount_95d88_42 rfl (lv_at hl 0 rfl) ?_
  refine lv_bipush (v := 16) hx hb dJ13_bitCount_95d88_43 (by decide) ?_
  refine lv_lushr hx hb dJ13_bitCount_95d88_45 rfl ?_
  refine lv_topl (fun x13 ex13 => ?_)
  refine lv_ladd hx hb dJ13_bitCount_95d88_46 ?_
  refine lv_topl (fun x14 ex14 => ?_)
  refine lv_lstore_n (lv' := [(0, .long x14)]) hx hb dJ13_bitCount_95d88_47 rfl hl (by decide) rfl (fun ls hl => ?_)
  refine lv_lload_n hx hb dJ13_bitCount_95d88_48 rfl (lv_at hl 0 rfl) ?_
  refine lv_lload_n hx hb dJ13_bitCount_95d88_49 rfl (lv_at hl 0 rfl) ?_
  refine lv_bipush (v := 32) hx hb dJ13_bitCount_95d88_50 (by decide) ?_
  refine lv_lushr hx hb dJ13_bitCount_95d88_52 rfl ?_
  refine lv_topl (fun x15 ex15 => ?_)
  refine lv_ladd hx hb dJ13_bitCount_95d88_53 ?_
  refine lv_topl (fun x16 ex16 => ?_)
  refine lv_lstore_n (lv' := [(0, .long x16)]) hx hb dJ13_bitCount_95d88_54 rfl hl (by decide) rfl (fun ls hl => ?_)
  refine lv_lload_n hx hb dJ13_bitCount_95d88_55 rfl (lv_at hl 0 rfl) ?_
  refine lv_l2i hx hb dJ13_bitCount_95d88_56 rfl ?_
  refine lv_topi (fun x17 ex17 => ?_)
  refine lv_bipush (v := 127) hx hb dJ13_bitCount_95d88_57 (by decide) ?_
  refine lv_iand hx hb dJ13_bitCount_95d88_59 ?_
  refine lv_topi (fun x18 ex18 => ?_)
  refine we_i hx hb hr hlocks hw ?_ dJ13_bitCount_95d88_60
  exact ⟨bc_all ex1 ex2 ex3 ex4 ex5 ex6 ex7 ex8 ex9 ex10 ex11 ex12 ex13 ex14 ex15 ex16 ex17 ex18, rfl⟩

set_option maxHeartbeats 4000000 in
set_option maxRecDepth 100000 in
/-- addValue -/
theorem kX0_addValue (l : Launch) (dC : Nat → ClassId) (dI : Nat → Nat → Nat) (q : ClassId × ClassId × ClassId × ClassId) (ad : Nat → Nat) (en : Nat → va_E) (n sz : Nat) (b : Nat) (hbn : b + 4 < n) (A : Ast) (hok : Aok A) (hH : HoldAt q ad en b A) (v : Int64) :
    Met l yX0_addValue wsX0_addValue ({ frames := 0, cells := 0, slots := 0, locals := 0 }) (wPc (dC, dI) vwCl (wT q) ad en n sz [.ref (ad b), .long v]) (va_Qi (fun (r : Int32) (en' : Nat → va_E) => r = (if aCn A < 20 then 1 else 0) ∧ HoldAt q ad en' b (aAdd v A) ∧ ∀ j, (j < b ∨ b + 5 ≤ j) → en' j = en j) (wB (dC, dI) vwCl (wT q) ad n (wA ad n sz)) (wA ad n sz)) 0 0 (wA ad n sz) := by
  refine Met.ofW (cc := cX0_addValue) (maxL := 3) (ret := (some .boolean)) (by decide) rfl ?_
  intro p e s m args below meth c s₁ B hml hv
  obtain ⟨rfl, hsz, hP, hK, hD0, hE0⟩ := hv
  have hx := B.exec
  have hb := B.bytes
  have hr := B.returns
  have hts := atoms_spec (ws := wsX0_addValue) B.pre
  have hown : s.vm.findClass RX0 = some m.cls := findClass_of_methodNamed B.named
  have hlocks := B.notSynchronized
  have iRX0 : ∀ w ∈ u_ws RX0 TX0 5, w ∈ wsX0_addValue := by decide +kernel
  subst hsz
  have hw := wk_of hP hK hD0 hE0
  generalize wA ad n s.heap.size = AA at hw ⊢
  have hl := lv_entry ([.ref (ad b), .long v]) (n := 3) (Nat.le_of_ble_eq_true rfl)
  rw [lg_entry_eq]
  generalize (lg_sl ([.ref (ad b), .long v]) ++ List.replicate (3 - (lg_sl ([.ref (ad b), .long v])).length) Slot.unset).toArray = ls at hl ⊢
  have hl : lv_has ls 3 [(0, .ref (ad b)), (1, .long v)] := hl
  obtain ⟨mf, hf, tf, vf, h0, h1, h2, h3, h4, hR⟩ := hH
  have hcn := hok.2
  refine lv_aload_n hx hb dX0_addValue_0 rfl (lv_at hl 0 rfl) ?_
  refine wr_get (ci := 1) (C := RX0) (T := TX0) (N := 5) hx hb hts iRX0 hown hw b (by omega) h0 rfl 4 (by decide) (hts (.fieldLink RX0 31 "LibraryDesk$Holdings" "valueCount" "I") (by decide +kernel)) (fun _ h9 => h9) rfl dX0_addValue_1 ?_
  refine lv_bipush (v := 20) hx hb dX0_addValue_4 (by decide) ?_
  refine lv_icmp_lt (tgt := 11) hx hb dX0_addValue_6 (by decide) (fun c6 => ?_) (fun c6 => ?_)
  · have hc6 : aCn A < 20 := (nI_ltI (by omega) (by omega)).mp c6
    refine lv_aload_n hx hb dX0_addValue_11 rfl (lv_at hl 0 rfl) ?_
    refine wr_get (ci := 1) (C := RX0) (T := TX0) (N := 5) hx hb hts iRX0 hown hw b (by omega) h0 rfl 3 (by decide) (hts (.fieldLink RX0 22 "LibraryDesk$Holdings" "values" "[J") (by decide +kernel)) (fun _ h9 => h9) rfl dX0_addValue_12 ?_
    refine lv_aload_n hx hb dX0_addValue_15 rfl (lv_at hl 0 rfl) ?_
    refine wr_get (ci := 1) (C := RX0) (T := TX0) (N := 5) hx hb hts iRX0 hown hw b (by omega) h0 rfl 4 (by decide) (hts (.fieldLink RX0 31 "LibraryDesk$Holdings" "valueCount" "I") (by decide +kernel)) (fun _ h9 => h9) rfl dX0_addValue_16 ?_
    refine lv_lload_n hx hb dX0_addValue_19 rfl (lv_at hl 1 rfl) ?_
    refine wr_last (j := (aCn A)) hx hb hw (b + 4) (by omega) 1 h4 rfl (vp_in_nI (by omega) (by decide)) (nI_clamp (by omega)) dX0_addValue_20 (fun en2 H locs hE1 hw => ?_)
    have he3 : en2 b = .inr (1, [.ref (ad (b + 1)), .ref (ad (b + 2)), .ref (ad (b + 3)), .ref (ad (b + 4)), .int (nI (aCn A))]) := w_ne hE1 (by omega) h0
    have he4 : en2 (b + 1) = .inl (q.1, 8, .inl mf) := w_ne hE1 (by omega) h1
    have he5 : en2 (b + 2) = .inl (q.2.1, 8, .inr (.inl hf)) := w_ne hE1 (by omega) h2
    have he6 : en2 (b + 3) = .inl (q.2.1, 8, .inr (.inl tf)) := w_ne hE1 (by omega) h3
    have he7 : en2 (b + 4) = .inl (q.2.1, 20, .inr (.inl (vp_updL vf ((aCn A)) v))) := w_self hE1
    refine lv_aload_n hx hb dX0_addValue_21 rfl (lv_at hl 0 rfl) ?_
    refine lv_dup hx hb dX0_addValue_22 rfl ?_
    refine wr_get (ci := 1) (C := RX0) (T := TX0) (N := 5) hx hb hts iRX0 hown hw b (by omega) he3 rfl 4 (by decide) (hts (.fieldLink RX0 31 "LibraryDesk$Holdings" "valueCount" "I") (by decide +kernel)) (fun _ h9 => h9) rfl dX0_addValue_23 ?_
    refine lv_iconst (v := 1) hx hb dX0_addValue_26 (by decide) ?_
    refine lv_iadd hx hb dX0_addValue_27 ?_
    refine lv_topi (fun x8 ex8 => ?_)
    have ex8n : x8 = nI (aCn A + 1) := ex8.trans (nI_1 _)
    clear ex8
    subst ex8n
    refine wr_put (ci := 1) (v := .int (nI (aCn A + 1))) (ty := .int) (C := RX0) (T := TX0) (N := 5) hx hb hts iRX0 tyX0 tyX0_ok nmX0 hown hw b (by omega) he3 rfl 4 (by decide) (hts (.fieldLink RX0 31 "LibraryDesk$Holdings" "valueCount" "I") (by decide +kernel)) (fun _ h9 => h9) rfl (by decide +kernel) rfl rfl (Nat.le_of_ble_eq_true rfl) dX0_addValue_28 (fun en10 H locs hE9 hw => ?_)
    have he11 : en10 b = .inr (1, [.ref (ad (b + 1)), .ref (ad (b + 2)), .ref (ad (b + 3)), .ref (ad (b + 4)), .int (nI (aCn A + 1))]) := w_self hE9
    have he12 : en10 (b + 1) = .inl (q.1, 8, .inl mf) := w_ne hE9 (by omega) he4
    have he13 : en10 (b + 2) = .inl (q.2.1, 8, .inr (.inl hf)) := w_ne hE9 (by omega) he5
    have he14 : en10 (b + 3) = .inl (q.2.1, 8, .inr (.inl tf)) := w_ne hE9 (by omega) he6
    have he15 : en10 (b + 4) = .inl (q.2.1, 20, .inr (.inl (vp_updL vf ((aCn A)) v))) := w_ne hE9 (by omega) he7
    refine lv_iconst (v := 1) hx hb dX0_addValue_31 (by decide) ?_
    refine we_z hx hb hr hlocks hw (Or.inr rfl) ?_ dX0_addValue_32
    refine ⟨by rw [if_pos hc6], ⟨_, _, _, _, ?_, he12, he13, he14, he15, RC_add hR hc6 v⟩, fun j hj => (w_fr hE9 (by omega)).trans (w_fr hE1 (by omega))⟩
    rw [aCn_add hc6]
    exact he11
  · have hc6 : ¬ aCn A < 20 := fun h => c6 ((nI_ltI (b := 20) (by omega) (by omega)).mpr h)
    refine lv_iconst (v := 0) hx hb dX0_addValue_9 (by decide) ?_
    refine we_z hx hb hr hlocks hw (Or.inl rfl) ?_ dX0_addValue_10
    refine ⟨by rw [if_neg hc6], ?_, fun j hj => rfl⟩
    rw [aAdd_no hc6]
    exact ⟨mf, hf, tf, vf, h0, h1, h2, h3, h4, hR⟩

set_option maxHeartbeats 4000000 in
set_option maxRecDepth 100000 in
/-- makeNumber -/
theorem kX0_makeNumber (l : Launch) (dC : Nat → ClassId) (dI : Nat → Nat → Nat) (q : ClassId × ClassId × ClassId × ClassId) (ad : Nat → Nat) (en : Nat → va_E) (n sz : Nat) (b : Nat) (hbn : b + 4 < n) (A : Ast) (hok : Aok A) (hH : HoldAt q ad en b A) (k : Nat) (hk : k < 8) :
    Met l yX0_makeNumber wsX0_makeNumber ({ frames := 0, cells := 0, slots := 0, locals := 0 }) (wPc (dC, dI) vwCl (wT q) ad en n sz [.ref (ad b), .int (nI k)]) (va_Qi (fun (r : Int32) (en' : Nat → va_E) => r = (if aMd A k < 40 then 1 else 0) ∧ HoldAt q ad en' b (aMake k A) ∧ ∀ j, (j < b ∨ b + 5 ≤ j) → en' j = en j) (wB (dC, dI) vwCl (wT q) ad n (wA ad n sz)) (wA ad n sz)) 0 0 (wA ad n sz) := by
  refine Met.ofW (cc := cX0_makeNumber) (maxL := 2) (ret := (some .boolean)) (by decide) rfl ?_
  intro p e s m args below meth c s₁ B hml hv
  obtain ⟨rfl, hsz, hP, hK, hD0, hE0⟩ := hv
  have hx := B.exec
  have hb := B.bytes
  have hr := B.returns
  have hts := atoms_spec (ws := wsX0_makeNumber) B.pre
  have hown : s.vm.findClass RX0 = some m.cls := findClass_of_methodNamed B.named
  have hlocks := B.notSynchronized
  have iRX0 : ∀ w ∈ u_ws RX0 TX0 5, w ∈ wsX0_makeNumber := by decide +kernel
  subst hsz
  have hw := wk_of hP hK hD0 hE0
  generalize wA ad n s.heap.size = AA at hw ⊢
  have hl := lv_entry ([.ref (ad b), .int (nI k)]) (n := 2) (Nat.le_of_ble_eq_true rfl)
  rw [lg_entry_eq]
  generalize (lg_sl ([.ref (ad b), .int (nI k)]) ++ List.replicate (2 - (lg_sl ([.ref (ad b), .int (nI k)])).length) Slot.unset).toArray = ls at hl ⊢
  have hl : lv_has ls 2 [(0, .ref (ad b)), (1, .int (nI k))] := hl
  obtain ⟨mf, hf, tf, vf, h0, h1, h2, h3, h4, hR⟩ := hH
  have hcn := hok.2
  have hm40 := (hok.1 k hk).1
  refine lv_aload_n hx hb dX0_makeNumber_0 rfl (lv_at hl 0 rfl) ?_
  refine wr_get (ci := 1) (C := RX0) (T := TX0) (N := 5) hx hb hts iRX0 hown hw b (by omega) h0 rfl 0 (by decide) (hts (.fieldLink RX0 9 "LibraryDesk$Holdings" "made" "[I") (by decide +kernel)) (fun _ h9 => h9) rfl dX0_makeNumber_1 ?_
  refine lv_iload_n hx hb dX0_makeNumber_4 rfl (lv_at hl 1 rfl) ?_
  refine wr_iald (v := nI (aMd A k)) hx hb hw (b + 1) (by omega) 0 h1 rfl (vp_in_nI (by omega) (by decide)) (by rw [(nI_clamp (by omega))]; exact (hR.1 k hk).1) dX0_makeNumber_5 ?_
  refine lv_bipush (v := 40) hx hb dX0_makeNumber_6 (by decide) ?_
  refine lv_icmp_lt (tgt := 13) hx hb dX0_makeNumber_8 (by decide) (fun c8 => ?_) (fun c8 => ?_)
  · have hc6 : aMd A k < 40 := (nI_ltI (by omega) (by omega)).mp c8
    refine lv_aload_n hx hb dX0_makeNumber_13 rfl (lv_at hl 0 rfl) ?_
    refine wr_get (ci := 1) (C := RX0) (T := TX0) (N := 5) hx hb hts iRX0 hown hw b (by omega) h0 rfl 0 (by decide) (hts (.fieldLink RX0 9 "LibraryDesk$Holdings" "made" "[I") (by decide +kernel)) (fun _ h9 => h9) rfl dX0_makeNumber_14 ?_
    refine lv_iload_n hx hb dX0_makeNumber_17 rfl (lv_at hl 1 rfl) ?_
    refine lv_dup2_11 hx hb dX0_makeNumber_18 rfl rfl ?_
    refine wr_iald (v := nI (aMd A k)) hx hb hw (b + 1) (by omega) 0 h1 rfl (vp_in_nI (by omega) (by decide)) (by rw [(nI_clamp (by omega))]; exact (hR.1 k hk).1) dX0_makeNumber_19 ?_
    refine lv_iconst (v := 1) hx hb dX0_makeNumber_20 (by decide) ?_
    refine lv_iadd hx hb dX0_makeNumber_21 ?_
    refine lv_topi (fun x1 ex1 => ?_)
    have ex1n : x1 = nI (aMd A k + 1) := ex1.trans (nI_1 _)
    clear ex1
    subst ex1n
    refine wr_iast (j := k) hx hb hw (b + 1) (by omega) 0 h1 rfl (vp_in_nI (by omega) (by decide)) (nI_clamp (by omega)) dX0_makeNumber_22 (fun en3 H locs hE2 hw => ?_)
    have he4 : en3 b = .inr (1, [.ref (ad (b + 1)), .ref (ad (b + 2)), .ref (ad (b + 3)), .ref (ad (b + 4)), .int (nI (aCn A))]) := w_ne hE2 (by omega) h0
    have he5 : en3 (b + 1) = .inl (q.1, 8, .inl (upd mf k (nI (aMd A k + 1)))) := w_self hE2
    have he6 : en3 (b + 2) = .inl (q.2.1, 8, .inr (.inl hf)) := w_ne hE2 (by omega) h2
    have he7 : en3 (b + 3) = .inl (q.2.1, 8, .inr (.inl tf)) := w_ne hE2 (by omega) h3
    have he8 : en3 (b + 4) = .inl (q.2.1, 20, .inr (.inl vf)) := w_ne hE2 (by omega) h4
    refine lv_aload_n hx hb dX0_makeNumber_23 rfl (lv_at hl 0 rfl) ?_
    refine wr_get (ci := 1) (C := RX0) (T := TX0) (N := 5) hx hb hts iRX0 hown hw b (by omega) he4 rfl 1 (by decide) (hts (.fieldLink RX0 15 "LibraryDesk$Holdings" "hereBits" "[J") (by decide +kernel)) (fun _ h9 => h9) rfl dX0_makeNumber_24 ?_
    refine lv_iload_n hx hb dX0_makeNumber_27 rfl (lv_at hl 1 rfl) ?_
    refine lv_dup2_11 hx hb dX0_makeNumber_28 rfl rfl ?_
    refine wr_lald (v := hf k) hx hb hw (b + 2) (by omega) 1 he6 rfl (vp_in_nI (by omega) (by decide)) (by rw [(nI_clamp (by omega))]) dX0_makeNumber_29 ?_
    refine lv_lconst (v := 1) hx hb dX0_makeNumber_30 (by decide) ?_
    refine lv_aload_n hx hb dX0_makeNumber_31 rfl (lv_at hl 0 rfl) ?_
    refine wr_get (ci := 1) (C := RX0) (T := TX0) (N := 5) hx hb hts iRX0 hown hw b (by omega) he4 rfl 0 (by decide) (hts (.fieldLink RX0 9 "LibraryDesk$Holdings" "made" "[I") (by decide +kernel)) (fun _ h9 => h9) rfl dX0_makeNumber_32 ?_
    refine lv_iload_n hx hb dX0_makeNumber_35 rfl (lv_at hl 1 rfl) ?_
    refine wr_iald (v := nI (aMd A k + 1)) hx hb hw (b + 1) (by omega) 0 he5 rfl (vp_in_nI (by omega) (by decide)) (by rw [(nI_clamp (by omega))]; exact pk_us) dX0_makeNumber_36 ?_
    refine lv_lshl hx hb dX0_makeNumber_37 rfl ?_
    refine lv_topl (fun x9 ex9 => ?_)
    have ex9n : x9 = (1 : Int64) <<< ((nI (aMd A k + 1)).toInt64 &&& 63) := ex9.trans (rfl)
    clear ex9
    subst ex9n
    refine lv_lor hx hb dX0_makeNumber_38 ?_
    refine lv_topl (fun x10 ex10 => ?_)
    have ex10n : x10 = hf k ||| ((1 : Int64) <<< ((nI (aMd A k + 1)).toInt64 &&& 63)) := ex10.trans (rfl)
    clear ex10
    subst ex10n
    refine wr_last (j := k) hx hb hw (b + 2) (by omega) 1 he6 rfl (vp_in_nI (by omega) (by decide)) (nI_clamp (by omega)) dX0_makeNumber_39 (fun en12 H locs hE11 hw => ?_)
    have he13 : en12 b = .inr (1, [.ref (ad (b + 1)), .ref (ad (b + 2)), .ref (ad (b + 3)), .ref (ad (b + 4)), .int (nI (aCn A))]) := w_ne hE11 (by omega) he4
    have he14 : en12 (b + 1) = .inl (q.1, 8, .inl (upd mf k (nI (aMd A k + 1)))) := w_ne hE11 (by omega) he5
    have he15 : en12 (b + 2) = .inl (q.2.1, 8, .inr (.inl (vp_updL hf k (hf k ||| ((1 : Int64) <<< ((nI (aMd A k + 1)).toInt64 &&& 63)))))) := w_self hE11
    have he16 : en12 (b + 3) = .inl (q.2.1, 8, .inr (.inl tf)) := w_ne hE11 (by omega) he7
    have he17 : en12 (b + 4) = .inl (q.2.1, 20, .inr (.inl vf)) := w_ne hE11 (by omega) he8
    refine lv_iconst (v := 1) hx hb dX0_makeNumber_40 (by decide) ?_
    refine we_z hx hb hr hlocks hw (Or.inr rfl) ?_ dX0_makeNumber_41
    refine ⟨by rw [if_pos hc6], ⟨_, _, _, _, ?_, he14, he15, he16, he17, RC_make hR hk hc6⟩, fun j hj => (w_fr hE11 (by omega)).trans (w_fr hE2 (by omega))⟩
    rw [aCn_make]
    exact he13
  · have hc6 : ¬ aMd A k < 40 := fun h => c8 ((nI_ltI (b := 40) (by omega) (by omega)).mpr h)
    refine lv_iconst (v := 0) hx hb dX0_makeNumber_11 (by decide) ?_
    refine we_z hx hb hr hlocks hw (Or.inl rfl) ?_ dX0_makeNumber_12
    refine ⟨by rw [if_neg hc6], ?_, fun j hj => rfl⟩
    rw [aMake_no hc6]
    exact ⟨mf, hf, tf, vf, h0, h1, h2, h3, h4, hR⟩

set_option maxHeartbeats 4000000 in
set_option maxRecDepth 100000 in
theorem kX0_isHere (l : Launch) (dC : Nat → ClassId) (dI : Nat → Nat → Nat) (q : ClassId × ClassId × ClassId × ClassId) (ad : Nat → Nat) (en : Nat → va_E) (n sz : Nat) (b : Nat) (hbn : b + 4 < n) (A : Ast) (hok : Aok A) (hH : HoldAt q ad en b A) (kd z : Int32) :
    Met l yX0_isHere wsX0_isHere ({ frames := 1, cells := 0, slots := 0, locals := 20 }) (wPc (dC, dI) vwCl (wT q) ad en n sz [.ref (ad b), .int kd, .int z]) (va_Qi (fun (r : Int32) (en' : Nat → va_E) => r = (if aIs kd z A = true then 1 else 0) ∧ en' = en) (wB (dC, dI) vwCl (wT q) ad n (wA ad n sz)) (wA ad n sz)) 0 0 (wA ad n sz) := by
  refine Met.ofW (cc := cX0_isHere) (maxL := 3) (ret := (some .boolean)) (by decide) rfl ?_
  intro p e s m args below meth c s₁ B hml hv
  obtain ⟨rfl, hsz, hP, hK, hD0, hE0⟩ := hv
  have hx := B.exec
  have hb := B.bytes
  have hr := B.returns
  have hts := atoms_spec (ws := wsX0_isHere) B.pre
  have hown : s.vm.findClass RX0 = some m.cls := findClass_of_methodNamed B.named
  have hlocks := B.notSynchronized
  have iRX0 : ∀ w ∈ u_ws RX0 TX0 5, w ∈ wsX0_isHere := by decide +kernel
  subst hsz
  have hw := wk_of hP hK hD0 hE0
  generalize wA ad n s.heap.size = AA at hw ⊢
  have hl := lv_entry ([.ref (ad b), .int kd, .int z]) (n := 3) (Nat.le_of_ble_eq_true rfl)
  rw [lg_entry_eq]
  generalize (lg_sl ([.ref (ad b), .int kd, .int z]) ++ List.replicate (3 - (lg_sl ([.ref (ad b), .int kd, .int z])).length) Slot.unset).toArray = ls at hl ⊢
  have hl : lv_has ls 3 [(0, .ref (ad b)), (1, .int kd), (2, .int z)] := hl
  obtain ⟨mf, hf, tf, vf, h0, h1, h2, h3, h4, hR⟩ := hH
  have hcn := hok.2
  refine lv_iload_n hx hb dX0_isHere_0 rfl (lv_at hl 1 rfl) ?_
  refine wc_i hw (va_runSN (As := [.int kd]) (rest := []) ⟨hx, hb, hml, hown, hts⟩ (kX2_isKind l dC dI q ad en n _ kd) ⟨va_cnB 1 hts gX0_isHere_X2_isKind_n35 rfl rfl rfl hw.2.2.2.2.2.1 (hts (.initialized RX2) (by decide +kernel)) (by decide +kernel) ⟨Nat.le_of_ble_eq_true rfl, Nat.le_of_ble_eq_true rfl⟩, hts (.static yX2_isKind) (by decide +kernel), trivial⟩ (wk_preS hw) rfl rfl hl.1 rfl (lv_room (Nat.le_of_ble_eq_true rfl)) dX0_isHere_1 ⟨Nat.le_refl _, Nat.le_refl _⟩) (fun r1 en3 H locs hp2 hw => ?_)
  obtain ⟨hr4, hn5⟩ := hp2
  rw [hn5] at hw
  clear hn5
  refine lv_if_eq (tgt := 37) hx hb dX0_isHere_4 (by decide) (fun c4 => ?_) (fun c4 => ?_)
  · have hk0 := z01_f hr4 c4
    refine lv_iconst (v := 0) hx hb dX0_isHere_37 (by decide) ?_
    refine we_z hx hb hr hlocks hw (Or.inl rfl) ?_ dX0_isHere_38
    exact ⟨by rw [if_neg (by rw [aIs_k hk0]; decide)], rfl⟩
  · have hk0 := z01_t hr4 c4
    obtain ⟨k, hk, hkd⟩ : ∃ k, k < 8 ∧ kd = nI k := (kd_cases kd (by decide)).resolve_right (fun h => h hk0)
    subst hkd
    refine lv_iload_n hx hb dX0_isHere_7 rfl (lv_at hl 2 rfl) ?_
    refine lv_iconst (v := 1) hx hb dX0_isHere_8 (by decide) ?_
    refine lv_icmp_lt (tgt := 37) hx hb dX0_isHere_9 (by decide) (fun c9 => ?_) (fun c9 => ?_)
    · refine lv_iconst (v := 0) hx hb dX0_isHere_37 (by decide) ?_
      refine we_z hx hb hr hlocks hw (Or.inl rfl) ?_ dX0_isHere_38
      exact ⟨by rw [if_neg (by rw [aIs_z (fun h => absurd c9 (Int32.not_lt.mpr h.1))]; decide)], rfl⟩
    · refine lv_iload_n hx hb dX0_isHere_12 rfl (lv_at hl 2 rfl) ?_
      refine lv_bipush (v := 40) hx hb dX0_isHere_13 (by decide) ?_
      refine lv_icmp_gt (tgt := 37) hx hb dX0_isHere_15 (by decide) (fun c15 => ?_) (fun c15 => ?_)
      · refine lv_iconst (v := 0) hx hb dX0_isHere_37 (by decide) ?_
        refine we_z hx hb hr hlocks hw (Or.inl rfl) ?_ dX0_isHere_38
        exact ⟨by rw [if_neg (by rw [aIs_z (fun h => absurd c15 (Int32.not_lt.mpr h.2))]; decide)], rfl⟩
      · obtain ⟨y, hy, hyz⟩ : ∃ y, y < 41 ∧ z = nI y := (kd_cases z (by decide)).resolve_right (fun h => h ⟨Int32.le_trans (by decide) (Int32.not_lt.mp c9), Int32.lt_of_le_of_lt (Int32.not_lt.mp c15) (by decide)⟩)
        subst hyz
        have hy1 : 1 ≤ y := (nI_leI (a := 1) (by omega) (by omega)).mp (Int32.not_lt.mp c9)
        have hy40 : y ≤ 40 := by omega
        refine lv_aload_n hx hb dX0_isHere_18 rfl (lv_at hl 0 rfl) ?_
        refine wr_get (ci := 1) (C := RX0) (T := TX0) (N := 5) hx hb hts iRX0 hown hw b (by omega) h0 rfl 1 (by decide) (hts (.fieldLink RX0 15 "LibraryDesk$Holdings" "hereBits" "[J") (by decide +kernel)) (fun _ h9 => h9) rfl dX0_isHere_19 ?_
        refine lv_iload_n hx hb dX0_isHere_22 rfl (lv_at hl 1 rfl) ?_
        refine wr_lald (v := hf k) hx hb hw (b + 2) (by omega) 1 h2 rfl (vp_in_nI (by omega) (by decide)) (by rw [(nI_clamp (by omega))]) dX0_isHere_23 ?_
        refine lv_lconst (v := 1) hx hb dX0_isHere_24 (by decide) ?_
        refine lv_iload_n hx hb dX0_isHere_25 rfl (lv_at hl 2 rfl) ?_
        refine lv_lshl hx hb dX0_isHere_26 rfl ?_
        refine lv_topl (fun x6 ex6 => ?_)
        have ex6n : x6 = (1 : Int64) <<< ((nI y).toInt64 &&& 63) := ex6.trans (rfl)
        clear ex6
        subst ex6n
        refine lv_land hx hb dX0_isHere_27 ?_
        refine lv_topl (fun x7 ex7 => ?_)
        have ex7n : x7 = hf k &&& ((1 : Int64) <<< ((nI y).toInt64 &&& 63)) := ex7.trans (rfl)
        clear ex7
        subst ex7n
        refine lv_lconst (v := 0) hx hb dX0_isHere_28 (by decide) ?_
        refine W.lcmp hx hb dX0_isHere_29 ?_
        refine lv_if_eq (tgt := 37) hx hb dX0_isHere_30 (by decide) (fun c30 => ?_) (fun c30 => ?_)
        · refine lv_iconst (v := 0) hx hb dX0_isHere_37 (by decide) ?_
          refine we_z hx hb hr hlocks hw (Or.inl rfl) ?_ dX0_isHere_38
          have e1 := (bL_test (hf k) (j := y) (by omega)).mp ((lg_cmp_eq _ _).mp c30)
          rw [(hR.1 k hk).2.2 y (by omega)] at e1
          exact ⟨by rw [aIs_nI hk hy1 hy40, e1]; rfl, rfl⟩
        · refine lv_iconst (v := 1) hx hb dX0_isHere_33 (by decide) ?_
          refine lv_goto (tgt := 38) hx hb dX0_isHere_34 (by decide) ?_
          refine we_z hx hb hr hlocks hw (Or.inr rfl) ?_ dX0_isHere_38
          have e1 : ¬ bL (hf k) y = false := fun h => c30 ((lg_cmp_eq _ _).mpr ((bL_test (hf k) (j := y) (by omega)).mpr h))
          rw [(hR.1 k hk).2.2 y (by omega)] at e1
          exact ⟨by rw [aIs_nI hk hy1 hy40, if_pos (by simpa using e1)], rfl⟩

set_option maxHeartbeats 4000000 in
set_option maxRecDepth 100000 in
theorem kX0_dropNumber (l : Launch) (dC : Nat → ClassId) (dI : Nat → Nat → Nat) (q : ClassId × ClassId × ClassId × ClassId) (ad : Nat → Nat) (en : Nat → va_E) (n sz : Nat) (b : Nat) (hbn : b + 4 < n) (A : Ast) (hok : Aok A) (hH : HoldAt q ad en b A) (kd z : Int32) :
    Met l yX0_dropNumber wsX0_dropNumber ({ frames := 2, cells := 0, slots := 0, locals := 42 }) (wPc (dC, dI) vwCl (wT q) ad en n sz [.ref (ad b), .int kd, .int z]) (va_Qi (fun (r : Int32) (en' : Nat → va_E) => r = (if aIs kd z A = true then 1 else 0) ∧ HoldAt q ad en' b (aDropI kd z A) ∧ ∀ j, (j < b ∨ b + 5 ≤ j) → en' j = en j) (wB (dC, dI) vwCl (wT q) ad n (wA ad n sz)) (wA ad n sz)) 0 0 (wA ad n sz) := by
  refine Met.ofW (cc := cX0_dropNumber) (maxL := 3) (ret := (some .boolean)) (by decide) rfl ?_
  intro p e s m args below meth c s₁ B hml hv
  obtain ⟨rfl, hsz, hP, hK, hD0, hE0⟩ := hv
  have hx := B.exec
  have hb := B.bytes
  have hr := B.returns
  have hts := atoms_spec (ws := wsX0_dropNumber) B.pre
  have hown : s.vm.findClass RX0 = some m.cls := findClass_of_methodNamed B.named
  have hlocks := B.notSynchronized
  have iRX0 : ∀ w ∈ u_ws RX0 TX0 5, w ∈ wsX0_dropNumber := by decide +kernel
  subst hsz
  have hw := wk_of hP hK hD0 hE0
  generalize wA ad n s.heap.size = AA at hw ⊢
  have hl := lv_entry ([.ref (ad b), .int kd, .int z]) (n := 3) (Nat.le_of_ble_eq_true rfl)
  rw [lg_entry_eq]
  generalize (lg_sl ([.ref (ad b), .int kd, .int z]) ++ List.replicate (3 - (lg_sl ([.ref (ad b), .int kd, .int z])).length) Slot.unset).toArray = ls at hl ⊢
  have hl : lv_has ls 3 [(0, .ref (ad b)), (1, .int kd), (2, .int z)] := hl
  have hH1 := hH
  obtain ⟨mf, hf, tf, vf, h0, h1, h2, h3, h4, hR⟩ := hH
  have hcn := hok.2
  refine lv_aload_n hx hb dX0_dropNumber_0 rfl (lv_at hl 0 rfl) ?_
  refine lv_iload_n hx hb dX0_dropNumber_1 rfl (lv_at hl 1 rfl) ?_
  refine lv_iload_n hx hb dX0_dropNumber_2 rfl (lv_at hl 2 rfl) ?_
  refine wc_i hw (va_runV (As := [.int kd, .int z]) (rest := []) ⟨hx, hb, hml, hown, hts⟩ (kX0_isHere l dC dI q ad en n _ b hbn A hok hH1 kd z) (cwV 2 hts gX0_dropNumber_X0_isHere rfl rfl rfl (by decide +kernel) ⟨Nat.le_of_ble_eq_true rfl, Nat.le_of_ble_eq_true rfl⟩) (wk_preV hw (by omega) h0 rfl) rfl rfl hl.1 rfl (lv_room (Nat.le_of_ble_eq_true rfl)) dX0_dropNumber_3 ⟨Nat.le_refl _, Nat.le_refl _⟩) (fun r1 en3 H locs hp2 hw => ?_)
  obtain ⟨hr4, hn5⟩ := hp2
  rw [hn5] at hw
  clear hn5
  refine lv_if_ne (tgt := 11) hx hb dX0_dropNumber_6 (by decide) (fun c6 => ?_) (fun c6 => ?_)
  · have hi := z01_t hr4 c6
    obtain ⟨k, y, hk, hy1, hy40, hkd, hyz, hhr⟩ := aIs_in hi
    subst hkd
    subst hyz
    refine lv_aload_n hx hb dX0_dropNumber_11 rfl (lv_at hl 0 rfl) ?_
    refine wr_get (ci := 1) (C := RX0) (T := TX0) (N := 5) hx hb hts iRX0 hown hw b (by omega) h0 rfl 1 (by decide) (hts (.fieldLink RX0 15 "LibraryDesk$Holdings" "hereBits" "[J") (by decide +kernel)) (fun _ h9 => h9) rfl dX0_dropNumber_12 ?_
    refine lv_iload_n hx hb dX0_dropNumber_15 rfl (lv_at hl 1 rfl) ?_
    refine lv_dup2_11 hx hb dX0_dropNumber_16 rfl rfl ?_
    refine wr_lald (v := hf k) hx hb hw (b + 2) (by omega) 1 h2 rfl (vp_in_nI (by omega) (by decide)) (by rw [(nI_clamp (by omega))]) dX0_dropNumber_17 ?_
    refine lv_lconst (v := 1) hx hb dX0_dropNumber_18 (by decide) ?_
    refine lv_iload_n hx hb dX0_dropNumber_19 rfl (lv_at hl 2 rfl) ?_
    refine lv_lshl hx hb dX0_dropNumber_20 rfl ?_
    refine lv_topl (fun x6 ex6 => ?_)
    have ex6n : x6 = (1 : Int64) <<< ((nI y).toInt64 &&& 63) := ex6.trans (rfl)
    clear ex6
    subst ex6n
    refine lv_ldc2 (v := (-1)) hx hb hown (hts (.constantLong RX0 43 (-1)) (by decide +kernel)) dX0_dropNumber_21 ?_
    refine lv_lxor hx hb dX0_dropNumber_24 ?_
    refine lv_topl (fun x7 ex7 => ?_)
    have ex7n : x7 = ((1 : Int64) <<< ((nI y).toInt64 &&& 63)) ^^^ (-1) := ex7.trans (rfl)
    clear ex7
    subst ex7n
    refine lv_land hx hb dX0_dropNumber_25 ?_
    refine lv_topl (fun x8 ex8 => ?_)
    have ex8n : x8 = hf k &&& (((1 : Int64) <<< ((nI y).toInt64 &&& 63)) ^^^ (-1)) := ex8.trans (rfl)
    clear ex8
    subst ex8n
    refine wr_last (j := k) hx hb hw (b + 2) (by omega) 1 h2 rfl (vp_in_nI (by omega) (by decide)) (nI_clamp (by omega)) dX0_dropNumber_26 (fun en10 H locs hE9 hw => ?_)
    have he11 : en10 b = .inr (1, [.ref (ad (b + 1)), .ref (ad (b + 2)), .ref (ad (b + 3)), .ref (ad (b + 4)), .int (nI (aCn A))]) := w_ne hE9 (by omega) h0
    have he12 : en10 (b + 1) = .inl (q.1, 8, .inl mf) := w_ne hE9 (by omega) h1
    have he13 : en10 (b + 2) = .inl (q.2.1, 8, .inr (.inl (vp_updL hf k (hf k &&& (((1 : Int64) <<< ((nI y).toInt64 &&& 63)) ^^^ (-1)))))) := w_self hE9
    have he14 : en10 (b + 3) = .inl (q.2.1, 8, .inr (.inl tf)) := w_ne hE9 (by omega) h3
    have he15 : en10 (b + 4) = .inl (q.2.1, 20, .inr (.inl vf)) := w_ne hE9 (by omega) h4
    refine lv_iconst (v := 1) hx hb dX0_dropNumber_27 (by decide) ?_
    refine we_z hx hb hr hlocks hw (Or.inr rfl) ?_ dX0_dropNumber_28
    refine ⟨by rw [if_pos hi], ?_, fun j hj => w_fr hE9 (by omega)⟩
    rw [aDropI_nI hk hy1 hy40 hhr]
    exact ⟨_, _, _, _, he11, he12, he13, he14, he15, RC_drop hR hk (by omega)⟩
  · have hi := z01_f hr4 c6
    refine lv_iconst (v := 0) hx hb dX0_dropNumber_9 (by decide) ?_
    refine we_z hx hb hr hlocks hw (Or.inl rfl) ?_ dX0_dropNumber_10
    refine ⟨by rw [if_neg hi], ?_, fun j hj => rfl⟩
    rw [aDropI_no hi]
    exact hH1

set_option maxHeartbeats 4000000 in
set_option maxRecDepth 100000 in
theorem kX0_countHere (l : Launch) (dC : Nat → ClassId) (dI : Nat → Nat → Nat) (q : ClassId × ClassId × ClassId × ClassId) (ad : Nat → Nat) (en : Nat → va_E) (n sz : Nat) (b : Nat) (hbn : b + 4 < n) (A : Ast) (hok : Aok A) (hH : HoldAt q ad en b A) (k : Nat) (hk : k < 8) :
    Met l yX0_countHere wsX0_countHere ({ frames := 1, cells := 0, slots := 0, locals := 21 }) (wPc (dC, dI) vwCl (wT q) ad en n sz [.ref (ad b), .int (nI k)]) (va_Qi (fun (r : Int32) (en' : Nat → va_E) => r = nI (cn (aHr A k) 40) ∧ en' = en) (wB (dC, dI) vwCl (wT q) ad n (wA ad n sz)) (wA ad n sz)) 0 0 (wA ad n sz) := by
  refine Met.ofW (cc := cX0_countHere) (maxL := 2) (ret := (some .int)) (by decide) rfl ?_
  intro p e s m args below meth c s₁ B hml hv
  obtain ⟨rfl, hsz, hP, hK, hD0, hE0⟩ := hv
  have hx := B.exec
  have hb := B.bytes
  have hr := B.returns
  have hts := atoms_spec (ws := wsX0_countHere) B.pre
  have hown : s.vm.findClass RX0 = some m.cls := findClass_of_methodNamed B.named
  have hlocks := B.notSynchronized
  have iRX0 : ∀ w ∈ u_ws RX0 TX0 5, w ∈ wsX0_countHere := by decide +kernel
  subst hsz
  have hw := wk_of hP hK hD0 hE0
  generalize wA ad n s.heap.size = AA at hw ⊢
  have hl := lv_entry ([.ref (ad b), .int (nI k)]) (n := 2) (Nat.le_of_ble_eq_true rfl)
  rw [lg_entry_eq]
  generalize (lg_sl ([.ref (ad b), .int (nI k)]) ++ List.replicate (2 - (lg_sl ([.ref (ad b), .int (nI k)])).length) Slot.unset).toArray = ls at hl ⊢
  have hl : lv_has ls 2 [(0, .ref (ad b)), (1, .int (nI k))] := hl
  obtain ⟨mf, hf, tf, vf, h0, h1, h2, h3, h4, hR⟩ := hH
  have hcn := hok.2
  refine lv_aload_n hx hb dX0_countHere_0 rfl (lv_at hl 0 rfl) ?_
  refine wr_get (ci := 1) (C := RX0) (T := TX0) (N := 5) hx hb hts iRX0 hown hw b (by omega) h0 rfl 1 (by decide) (hts (.fieldLink RX0 15 "LibraryDesk$Holdings" "hereBits" "[J") (by decide +kernel)) (fun _ h9 => h9) rfl dX0_countHere_1 ?_
  refine lv_iload_n hx hb dX0_countHere_4 rfl (lv_at hl 1 rfl) ?_
  refine wr_lald (v := hf k) hx hb hw (b + 2) (by omega) 1 h2 rfl (vp_in_nI (by omega) (by decide)) (by rw [(nI_clamp (by omega))]) dX0_countHere_5 ?_
  refine wc_i hw (va_runS (As := [.long (hf k)]) (rest := []) ⟨hx, hb, hml, hown, hts⟩ (kJ13_bitCount_95d88 l dC dI q ad en n _ (hf k)) (va_cwS 1 hts gX0_countHere_J13_bitCount_95d88 rfl rfl rfl (by decide +kernel) ⟨Nat.le_of_ble_eq_true rfl, Nat.le_of_ble_eq_true rfl⟩) (wk_preS hw) rfl rfl hl.1 rfl (lv_room (Nat.le_of_ble_eq_true rfl)) dX0_countHere_6 ⟨Nat.le_refl _, Nat.le_refl _⟩) (fun r1 en3 H locs hp2 hw => ?_)
  obtain ⟨hr4, hn5⟩ := hp2
  rw [hn5] at hw
  clear hn5
  refine we_i hx hb hr hlocks hw ?_ dX0_countHere_9
  have hm40 := hok.1 k hk
  refine ⟨?_, rfl⟩
  rw [hr4, count_bits (hR.1 k hk).2.2 (fun j hj => ⟨(hm40.2 j hj).1, Nat.le_trans (hm40.2 j hj).2 hm40.1⟩)]

set_option maxHeartbeats 4000000 in
set_option maxRecDepth 100000 in
theorem kX0_greatestHere (l : Launch) (dC : Nat → ClassId) (dI : Nat → Nat → Nat) (q : ClassId × ClassId × ClassId × ClassId) (ad : Nat → Nat) (en : Nat → va_E) (n sz : Nat) (b : Nat) (hbn : b + 4 < n) (A : Ast) (hok : Aok A) (hH : HoldAt q ad en b A) (k : Nat) (hk : k < 8) :
    Met l yX0_greatestHere wsX0_greatestHere ({ frames := 2, cells := 0, slots := 0, locals := 42 }) (wPc (dC, dI) vwCl (wT q) ad en n sz [.ref (ad b), .int (nI k)]) (va_Qi (fun (r : Int32) (en' : Nat → va_E) => r = (if gr (aHr A k) 40 = 0 then -1 else nI (gr (aHr A k) 40)) ∧ en' = en) (wB (dC, dI) vwCl (wT q) ad n (wA ad n sz)) (wA ad n sz)) 0 0 (wA ad n sz) := by
  refine Met.ofW (cc := cX0_greatestHere) (maxL := 3) (ret := (some .int)) (by decide) rfl ?_
  intro p e s m args below meth c s₁ B hml hv
  obtain ⟨rfl, hsz, hP, hK, hD0, hE0⟩ := hv
  have hx := B.exec
  have hb := B.bytes
  have hr := B.returns
  have hts := atoms_spec (ws := wsX0_greatestHere) B.pre
  have hown : s.vm.findClass RX0 = some m.cls := findClass_of_methodNamed B.named
  have hlocks := B.notSynchronized
  have iRX0 : ∀ w ∈ u_ws RX0 TX0 5, w ∈ wsX0_greatestHere := by decide +kernel
  subst hsz
  have hw := wk_of hP hK hD0 hE0
  generalize wA ad n s.heap.size = AA at hw ⊢
  have hl := lv_entry ([.ref (ad b), .int (nI k)]) (n := 3) (Nat.le_of_ble_eq_true rfl)
  rw [lg_entry_eq]
  generalize (lg_sl ([.ref (ad b), .int (nI k)]) ++ List.replicate (3 - (lg_sl ([.ref (ad b), .int (nI k)])).length) Slot.unset).toArray = ls at hl ⊢
  have hl : lv_has ls 3 [(0, .ref (ad b)), (1, .int (nI k))] := hl
  have hH1 := hH
  obtain ⟨mf, hf, tf, vf, h0, h1, h2, h3, h4, hR⟩ := hH
  have hcn := hok.2
  have hm40 := hok.1 k hk
  have hg_no : ∀ j, aMd A k < j → aHr A k j = false := fun j h1 => by
    cases hj : aHr A k j with
    | false => rfl
    | true => have := (hm40.2 j hj).2; omega
  refine lv_aload_n hx hb dX0_greatestHere_0 rfl (lv_at hl 0 rfl) ?_
  refine wr_get (ci := 1) (C := RX0) (T := TX0) (N := 5) hx hb hts iRX0 hown hw b (by omega) h0 rfl 0 (by decide) (hts (.fieldLink RX0 9 "LibraryDesk$Holdings" "made" "[I") (by decide +kernel)) (fun _ h9 => h9) rfl dX0_greatestHere_1 ?_
  refine lv_iload_n hx hb dX0_greatestHere_4 rfl (lv_at hl 1 rfl) ?_
  refine wr_iald (v := nI (aMd A k)) hx hb hw (b + 1) (by omega) 0 h1 rfl (vp_in_nI (by omega) (by decide)) (by rw [(nI_clamp (by omega))]; exact (hR.1 k hk).1) dX0_greatestHere_5 ?_
  refine lv_istore_n (lv' := [(2, .int (nI (aMd A k))), (0, .ref (ad b)), (1, .int (nI k))]) hx hb dX0_greatestHere_6 rfl hl (by decide) rfl (fun ls hl => ?_)
  have key : ∀ z : Nat, z ≤ aMd A k → (∀ j, z < j → j ≤ 40 → aHr A k j = false) → ∀ (H : Heap) (locs : List Loc), wk (dC, dI) vwCl (wT q) ad en n AA s H locs → ∀ ls : Array Slot, lv_has ls 3 [(2, .int (nI z)), (0, .ref (ad b)), (1, .int (nI k))] → W p l e (headSpec wsX0_greatestHere ({ frames := 2, cells := 0, slots := 0, locals := 42 })).room s m ([.ref (ad b), .int (nI k)].toArray) below meth c H locs 0 0 (MQ below (va_Qi (fun (r : Int32) (en' : Nat → va_E) => r = (if gr (aHr A k) 40 = 0 then -1 else nI (gr (aHr A k) 40)) ∧ en' = en) (wB (dC, dI) vwCl (wT q) ad n AA) AA) ([.ref (ad b), .int (nI k)].toArray) s 0 0 AA) (F0 m 7 ls []) := by
    intro z
    induction z with
    | zero =>
      intro hz hno H locs hw ls hl
      refine lv_iload_n hx hb dX0_greatestHere_7 rfl (lv_at hl 0 rfl) ?_
      refine lv_iconst (v := 1) hx hb dX0_greatestHere_8 (by decide) ?_
      refine lv_icmp_lt (tgt := 29) hx hb dX0_greatestHere_9 (by decide) (fun c9 => ?_) (fun c9 => ?_)
      · refine lv_iconst (v := (-1)) hx hb dX0_greatestHere_29 (by decide) ?_
        refine we_i hx hb hr hlocks hw ?_ dX0_greatestHere_30
        have e0 : gr (aHr A k) 40 = 0 := gr_up _ 0 40 (by decide) (fun j h1 h2 => hno j h1 h2)
        exact ⟨by rw [if_pos e0], rfl⟩
      · exact absurd (show nI 0 < 1 by decide) c9
    | succ z ih =>
      intro hz hno H locs hw ls hl
      refine lv_iload_n hx hb dX0_greatestHere_7 rfl (lv_at hl 0 rfl) ?_
      refine lv_iconst (v := 1) hx hb dX0_greatestHere_8 (by decide) ?_
      refine lv_icmp_lt (tgt := 29) hx hb dX0_greatestHere_9 (by decide) (fun c9 => ?_) (fun c9 => ?_)
      · exact absurd c9 (Int32.not_lt.mpr (nI_le (a := 1) (by omega) (by omega)))
      · refine lv_aload_n hx hb dX0_greatestHere_12 rfl (lv_at hl 1 rfl) ?_
        refine lv_iload_n hx hb dX0_greatestHere_13 rfl (lv_at hl 2 rfl) ?_
        refine lv_iload_n hx hb dX0_greatestHere_14 rfl (lv_at hl 0 rfl) ?_
        refine wc_i hw (va_runV (As := [.int (nI k), .int (nI (z + 1))]) (rest := []) ⟨hx, hb, hml, hown, hts⟩ (kX0_isHere l dC dI q ad en n _ b hbn A hok hH1 (nI k) (nI (z + 1))) (cwV 2 hts gX0_greatestHere_X0_isHere rfl rfl rfl (by decide +kernel) ⟨Nat.le_of_ble_eq_true rfl, Nat.le_of_ble_eq_true rfl⟩) (wk_preV hw (by omega) h0 rfl) rfl rfl hl.1 rfl (lv_room (Nat.le_of_ble_eq_true rfl)) dX0_greatestHere_15 ⟨Nat.le_refl _, Nat.le_refl _⟩) (fun r1 en3 H locs hp2 hw => ?_)
        obtain ⟨hr4, hn5⟩ := hp2
        rw [hn5] at hw
        clear hn5
        refine lv_if_eq (tgt := 23) hx hb dX0_greatestHere_18 (by decide) (fun c18 => ?_) (fun c18 => ?_)
        · have hi := z01_f hr4 c18
          rw [aIs_nI hk (by omega) (by omega)] at hi
          have hfz : aHr A k (z + 1) = false := by simpa using hi
          refine lv_iinc (v := nI z) (lv' := [(2, .int (nI z)), (0, .ref (ad b)), (1, .int (nI k))]) hx hb dX0_greatestHere_23 hl (k := 0) rfl (nI_pred_add z) (by decide) rfl (fun ls hl => ?_)
          refine lv_goto (tgt := 7) hx hb dX0_greatestHere_26 (by decide) ?_
          exact ih (by omega) (fun j h1 h2 => by
            by_cases e : j = z + 1
            · rw [e]; exact hfz
            · exact hno j (by omega) h2) _ _ hw ls (lv_sub hl [0, 1, 2] rfl)
        · have hi := z01_t hr4 c18
          rw [aIs_nI hk (by omega) (by omega)] at hi
          refine lv_iload_n hx hb dX0_greatestHere_21 rfl (lv_at hl 0 rfl) ?_
          refine we_i hx hb hr hlocks hw ?_ dX0_greatestHere_22
          have e0 : gr (aHr A k) 40 = z + 1 := by
            rw [gr_up _ (z + 1) 40 (by omega) (fun j h1 h2 => hno j h1 h2)]
            unfold gr
            rw [if_pos hi]
          exact ⟨by rw [if_neg (by omega), e0], rfl⟩
  exact key (aMd A k) (Nat.le_refl _) (fun j h1 h2 => hg_no j h1) _ _ hw ls (lv_sub hl [0, 1, 2] rfl)
end
section
theorem cpy_lo {α : Type} (f g : Nat → α) {n j : Nat} (h : j < n) : va_cpy f g 0 0 n j = f j := by
  rw [pk_cpy_in (Nat.zero_le _) (by omega)]
  congr 1
  omega
theorem RC_copy {mf mz : Nat → Int32} {hf tf vf hz tz vz : Nat → Int64} {A : Ast} (h : RC mf hf tf vf A) (hc : aCn A ≤ 20) : RC (va_cpy mf mz 0 0 8) (va_cpy hf hz 0 0 8) (va_cpy tf tz 0 0 8) (va_cpy vf vz 0 0 20) A := by
  refine ⟨fun i hi => ?_, fun i hi => ?_⟩
  · rw [cpy_lo _ _ hi, cpy_lo _ _ hi, cpy_lo _ _ hi]
    exact h.1 i hi
  · rw [cpy_lo _ _ (by omega)]
    exact h.2 i hi
set_option maxHeartbeats 4000000 in
set_option maxRecDepth 100000 in
theorem kX0_moveFirstValueTo (l : Launch) (dC : Nat → ClassId) (dI : Nat → Nat → Nat) (q : ClassId × ClassId × ClassId × ClassId) (ad : Nat → Nat) (en : Nat → va_E) (n sz : Nat) (b : Nat) (hbn : b + 4 < n) (A : Ast) (hok : Aok A) (hH : HoldAt q ad en b A) (k : Nat) (hk : k < 8) :
    Met l yX0_moveFirstValueTo wsX0_moveFirstValueTo ({ frames := 0, cells := 0, slots := 0, locals := 0 }) (wPc (dC, dI) vwCl (wT q) ad en n sz [.ref (ad b), .int (nI k)]) (va_Qi (fun (r : Int32) (en' : Nat → va_E) => r = (if 0 < aCn A then 1 else 0) ∧ HoldAt q ad en' b (aTake k A) ∧ ∀ j, (j < b ∨ b + 5 ≤ j) → en' j = en j) (wB (dC, dI) vwCl (wT q) ad n (wA ad n sz)) (wA ad n sz)) 0 0 (wA ad n sz) := by
  refine Met.ofW (cc := cX0_moveFirstValueTo) (maxL := 3) (ret := (some .boolean)) (by decide) rfl ?_
  intro p e s m args below meth c s₁ B hml hv
  obtain ⟨rfl, hsz, hP, hK, hD0, hE0⟩ := hv
  have hx := B.exec
  have hb := B.bytes
  have hr := B.returns
  have hts := atoms_spec (ws := wsX0_moveFirstValueTo) B.pre
  have hown : s.vm.findClass RX0 = some m.cls := findClass_of_methodNamed B.named
  have hlocks := B.notSynchronized
  have iRX0 : ∀ w ∈ u_ws RX0 TX0 5, w ∈ wsX0_moveFirstValueTo := by decide +kernel
  subst hsz
  have hw := wk_of hP hK hD0 hE0
  generalize wA ad n s.heap.size = AA at hw ⊢
  have hl := lv_entry ([.ref (ad b), .int (nI k)]) (n := 3) (Nat.le_of_ble_eq_true rfl)
  rw [lg_entry_eq]
  generalize (lg_sl ([.ref (ad b), .int (nI k)]) ++ List.replicate (3 - (lg_sl ([.ref (ad b), .int (nI k)])).length) Slot.unset).toArray = ls at hl ⊢
  have hl : lv_has ls 3 [(0, .ref (ad b)), (1, .int (nI k))] := hl
  obtain ⟨mf, hf, tf, vf, h0, h1, h2, h3, h4, hR⟩ := hH
  have hcn := hok.2
  refine lv_aload_n hx hb dX0_moveFirstValueTo_0 rfl (lv_at hl 0 rfl) ?_
  refine wr_get (ci := 1) (C := RX0) (T := TX0) (N := 5) hx hb hts iRX0 hown hw b (by omega) h0 rfl 4 (by decide) (hts (.fieldLink RX0 31 "LibraryDesk$Holdings" "valueCount" "I") (by decide +kernel)) (fun _ h9 => h9) rfl dX0_moveFirstValueTo_1 ?_
  refine lv_if_gt (tgt := 9) hx hb dX0_moveFirstValueTo_4 (by decide) (fun c4 => ?_) (fun c4 => ?_)
  · have hc : 0 < aCn A := (nI_ltI (a := 0) (by omega) (by omega)).mp c4
    refine lv_aload_n hx hb dX0_moveFirstValueTo_9 rfl (lv_at hl 0 rfl) ?_
    refine wr_get (ci := 1) (C := RX0) (T := TX0) (N := 5) hx hb hts iRX0 hown hw b (by omega) h0 rfl 2 (by decide) (hts (.fieldLink RX0 19 "LibraryDesk$Holdings" "tallies" "[J") (by decide +kernel)) (fun _ h9 => h9) rfl dX0_moveFirstValueTo_10 ?_
    refine lv_iload_n hx hb dX0_moveFirstValueTo_13 rfl (lv_at hl 1 rfl) ?_
    refine lv_dup2_11 hx hb dX0_moveFirstValueTo_14 rfl rfl ?_
    refine wr_lald (v := tf k) hx hb hw (b + 3) (by omega) 1 h3 rfl (vp_in_nI (by omega) (by decide)) (by rw [(nI_clamp (by omega))]) dX0_moveFirstValueTo_15 ?_
    refine lv_aload_n hx hb dX0_moveFirstValueTo_16 rfl (lv_at hl 0 rfl) ?_
    refine wr_get (ci := 1) (C := RX0) (T := TX0) (N := 5) hx hb hts iRX0 hown hw b (by omega) h0 rfl 3 (by decide) (hts (.fieldLink RX0 22 "LibraryDesk$Holdings" "values" "[J") (by decide +kernel)) (fun _ h9 => h9) rfl dX0_moveFirstValueTo_17 ?_
    refine lv_iconst (v := 0) hx hb dX0_moveFirstValueTo_20 (by decide) ?_
    refine wr_lald (v := vf 0) hx hb hw (b + 4) (by omega) 1 h4 rfl (vp_in_nI (n := 0) (by decide) (by decide)) (by rw [(show (0 : Int32).toNatClampNeg = 0 by decide)]) dX0_moveFirstValueTo_21 ?_
    refine lv_ladd hx hb dX0_moveFirstValueTo_22 ?_
    refine lv_topl (fun x1 ex1 => ?_)
    have ex1n : x1 = tf k + vf 0 := ex1.trans (rfl)
    clear ex1
    subst ex1n
    refine wr_last (j := k) hx hb hw (b + 3) (by omega) 1 h3 rfl (vp_in_nI (by omega) (by decide)) (nI_clamp (by omega)) dX0_moveFirstValueTo_23 (fun en3 H locs hE2 hw => ?_)
    have he4 : en3 b = .inr (1, [.ref (ad (b + 1)), .ref (ad (b + 2)), .ref (ad (b + 3)), .ref (ad (b + 4)), .int (nI (aCn A))]) := w_ne hE2 (by omega) h0
    have he5 : en3 (b + 1) = .inl (q.1, 8, .inl mf) := w_ne hE2 (by omega) h1
    have he6 : en3 (b + 2) = .inl (q.2.1, 8, .inr (.inl hf)) := w_ne hE2 (by omega) h2
    have he7 : en3 (b + 3) = .inl (q.2.1, 8, .inr (.inl (vp_updL tf k (tf k + vf 0)))) := w_self hE2
    have he8 : en3 (b + 4) = .inl (q.2.1, 20, .inr (.inl vf)) := w_ne hE2 (by omega) h4
    refine lv_aload_n hx hb dX0_moveFirstValueTo_24 rfl (lv_at hl 0 rfl) ?_
    refine lv_dup hx hb dX0_moveFirstValueTo_25 rfl ?_
    refine wr_get (ci := 1) (C := RX0) (T := TX0) (N := 5) hx hb hts iRX0 hown hw b (by omega) he4 rfl 4 (by decide) (hts (.fieldLink RX0 31 "LibraryDesk$Holdings" "valueCount" "I") (by decide +kernel)) (fun _ h9 => h9) rfl dX0_moveFirstValueTo_26 ?_
    refine lv_iconst (v := 1) hx hb dX0_moveFirstValueTo_29 (by decide) ?_
    refine lv_isub hx hb dX0_moveFirstValueTo_30 ?_
    refine lv_topi (fun x9 ex9 => ?_)
    have ex9n : x9 = nI (aCn A - 1) := ex9.trans (pk_sub (b := 1) (by omega))
    clear ex9
    subst ex9n
    refine wr_put (ci := 1) (v := .int (nI (aCn A - 1))) (ty := .int) (C := RX0) (T := TX0) (N := 5) hx hb hts iRX0 tyX0 tyX0_ok nmX0 hown hw b (by omega) he4 rfl 4 (by decide) (hts (.fieldLink RX0 31 "LibraryDesk$Holdings" "valueCount" "I") (by decide +kernel)) (fun _ h9 => h9) rfl (by decide +kernel) rfl rfl (Nat.le_of_ble_eq_true rfl) dX0_moveFirstValueTo_31 (fun en11 H locs hE10 hw => ?_)
    have he12 : en11 b = .inr (1, [.ref (ad (b + 1)), .ref (ad (b + 2)), .ref (ad (b + 3)), .ref (ad (b + 4)), .int (nI (aCn A - 1))]) := w_self hE10
    have he13 : en11 (b + 1) = .inl (q.1, 8, .inl mf) := w_ne hE10 (by omega) he5
    have he14 : en11 (b + 2) = .inl (q.2.1, 8, .inr (.inl hf)) := w_ne hE10 (by omega) he6
    have he15 : en11 (b + 3) = .inl (q.2.1, 8, .inr (.inl (vp_updL tf k (tf k + vf 0)))) := w_ne hE10 (by omega) he7
    have he16 : en11 (b + 4) = .inl (q.2.1, 20, .inr (.inl vf)) := w_ne hE10 (by omega) he8
    refine lv_iconst (v := 0) hx hb dX0_moveFirstValueTo_34 (by decide) ?_
    refine lv_istore_n (lv' := [(2, .int 0), (0, .ref (ad b)), (1, .int (nI k))]) hx hb dX0_moveFirstValueTo_35 rfl hl (by decide) rfl (fun ls hl => ?_)
    have key : ∀ (d i : Nat), i + d = aCn A - 1 → ∀ (wf : Nat → Int64) (en1 : Nat → va_E), (∀ j, j < i → wf j = vf (j + 1)) → (∀ j, i ≤ j → wf j = vf j) → en1 b = .inr (1, [.ref (ad (b + 1)), .ref (ad (b + 2)), .ref (ad (b + 3)), .ref (ad (b + 4)), .int (nI (aCn A - 1))]) → en1 (b + 1) = .inl (q.1, 8, .inl mf) → en1 (b + 2) = .inl (q.2.1, 8, .inr (.inl hf)) → en1 (b + 3) = .inl (q.2.1, 8, .inr (.inl (vp_updL tf k (tf k + vf 0)))) → en1 (b + 4) = .inl (q.2.1, 20, .inr (.inl wf)) → (∀ j, (j < b ∨ b + 5 ≤ j) → en1 j = en j) → ∀ (H : Heap) (locs : List Loc), wk (dC, dI) vwCl (wT q) ad en1 n AA s H locs → ∀ ls : Array Slot, lv_has ls 3 [(2, .int (nI i)), (0, .ref (ad b)), (1, .int (nI k))] → W p l e (headSpec wsX0_moveFirstValueTo ({ frames := 0, cells := 0, slots := 0, locals := 0 })).room s m ([.ref (ad b), .int (nI k)].toArray) below meth c H locs 0 0 (MQ below (va_Qi (fun (r : Int32) (en' : Nat → va_E) => r = (if 0 < aCn A then 1 else 0) ∧ HoldAt q ad en' b (aTake k A) ∧ ∀ j, (j < b ∨ b + 5 ≤ j) → en' j = en j) (wB (dC, dI) vwCl (wT q) ad n AA) AA) ([.ref (ad b), .int (nI k)].toArray) s 0 0 AA) (F0 m 36 ls []) := by
      intro d
      induction d with
      | zero =>
        intro i hi wf en1 hw1 hw2 g0 g1 g2 g3 g4 hfr H locs hw ls hl
        refine lv_iload_n hx hb dX0_moveFirstValueTo_36 rfl (lv_at hl 0 rfl) ?_
        refine lv_aload_n hx hb dX0_moveFirstValueTo_37 rfl (lv_at hl 1 rfl) ?_
        refine wr_get (ci := 1) (C := RX0) (T := TX0) (N := 5) hx hb hts iRX0 hown hw b (by omega) g0 rfl 4 (by decide) (hts (.fieldLink RX0 31 "LibraryDesk$Holdings" "valueCount" "I") (by decide +kernel)) (fun _ h9 => h9) rfl dX0_moveFirstValueTo_38 ?_
        refine lv_icmp_ge (tgt := 64) hx hb dX0_moveFirstValueTo_41 (by decide) (fun c41 => ?_) (fun c41 => ?_)
        · refine lv_iconst (v := 1) hx hb dX0_moveFirstValueTo_64 (by decide) ?_
          refine we_z hx hb hr hlocks hw (Or.inr rfl) ?_ dX0_moveFirstValueTo_65
          refine ⟨by rw [if_pos hc], ⟨_, _, _, _, ?_, g1, g2, g3, g4, RC_take hR hc hk (fun j hj => hw1 j (by omega))⟩, fun j hj => hfr j hj⟩
          rw [aCn_take hc]
          exact g0
        · exact absurd (nI_le (by omega) (by omega)) c41
      | succ d ih =>
        intro i hi wf en1 hw1 hw2 g0 g1 g2 g3 g4 hfr H locs hw ls hl
        refine lv_iload_n hx hb dX0_moveFirstValueTo_36 rfl (lv_at hl 0 rfl) ?_
        refine lv_aload_n hx hb dX0_moveFirstValueTo_37 rfl (lv_at hl 1 rfl) ?_
        refine wr_get (ci := 1) (C := RX0) (T := TX0) (N := 5) hx hb hts iRX0 hown hw b (by omega) g0 rfl 4 (by decide) (hts (.fieldLink RX0 31 "LibraryDesk$Holdings" "valueCount" "I") (by decide +kernel)) (fun _ h9 => h9) rfl dX0_moveFirstValueTo_38 ?_
        refine lv_icmp_ge (tgt := 64) hx hb dX0_moveFirstValueTo_41 (by decide) (fun c41 => ?_) (fun c41 => ?_)
        · exact absurd ((nI_leI (by omega) (by omega)).mp c41) (by omega)
        · refine lv_aload_n hx hb dX0_moveFirstValueTo_44 rfl (lv_at hl 1 rfl) ?_
          refine wr_get (ci := 1) (C := RX0) (T := TX0) (N := 5) hx hb hts iRX0 hown hw b (by omega) g0 rfl 3 (by decide) (hts (.fieldLink RX0 22 "LibraryDesk$Holdings" "values" "[J") (by decide +kernel)) (fun _ h9 => h9) rfl dX0_moveFirstValueTo_45 ?_
          refine lv_iload_n hx hb dX0_moveFirstValueTo_48 rfl (lv_at hl 0 rfl) ?_
          refine lv_aload_n hx hb dX0_moveFirstValueTo_49 rfl (lv_at hl 1 rfl) ?_
          refine wr_get (ci := 1) (C := RX0) (T := TX0) (N := 5) hx hb hts iRX0 hown hw b (by omega) g0 rfl 3 (by decide) (hts (.fieldLink RX0 22 "LibraryDesk$Holdings" "values" "[J") (by decide +kernel)) (fun _ h9 => h9) rfl dX0_moveFirstValueTo_50 ?_
          refine lv_iload_n hx hb dX0_moveFirstValueTo_53 rfl (lv_at hl 0 rfl) ?_
          refine lv_iconst (v := 1) hx hb dX0_moveFirstValueTo_54 (by decide) ?_
          refine lv_iadd hx hb dX0_moveFirstValueTo_55 ?_
          refine lv_topi (fun x17 ex17 => ?_)
          have ex17n : x17 = nI (i + 1) := ex17.trans (nI_1 i)
          clear ex17
          subst ex17n
          refine wr_lald (v := wf ((i + 1))) hx hb hw (b + 4) (by omega) 1 g4 rfl (vp_in_nI (by omega) (by decide)) (by rw [(nI_clamp (by omega))]) dX0_moveFirstValueTo_56 ?_
          refine wr_last (j := i) hx hb hw (b + 4) (by omega) 1 g4 rfl (vp_in_nI (by omega) (by decide)) (nI_clamp (by omega)) dX0_moveFirstValueTo_57 (fun en19 H locs hE18 hw => ?_)
          have he20 : en19 b = .inr (1, [.ref (ad (b + 1)), .ref (ad (b + 2)), .ref (ad (b + 3)), .ref (ad (b + 4)), .int (nI (aCn A - 1))]) := w_ne hE18 (by omega) g0
          have he21 : en19 (b + 1) = .inl (q.1, 8, .inl mf) := w_ne hE18 (by omega) g1
          have he22 : en19 (b + 2) = .inl (q.2.1, 8, .inr (.inl hf)) := w_ne hE18 (by omega) g2
          have he23 : en19 (b + 3) = .inl (q.2.1, 8, .inr (.inl (vp_updL tf k (tf k + vf 0)))) := w_ne hE18 (by omega) g3
          have he24 : en19 (b + 4) = .inl (q.2.1, 20, .inr (.inl (vp_updL wf i (wf ((i + 1)))))) := w_self hE18
          refine lv_iinc (v := nI (i + 1)) (lv' := [(2, .int (nI (i + 1))), (0, .ref (ad b)), (1, .int (nI k))]) hx hb dX0_moveFirstValueTo_58 hl (k := 0) rfl (nI_1 i) (by decide) rfl (fun ls hl => ?_)
          refine lv_goto (tgt := 36) hx hb dX0_moveFirstValueTo_61 (by decide) ?_
          refine ih (i + 1) (by omega) _ _ (fun j hj => ?_) (fun j hj => ?_) he20 he21 he22 he23 he24 (fun j hj => (w_fr hE18 (by omega)).trans (hfr j hj)) _ _ hw ls (lv_sub hl [0, 1, 2] rfl)
          · by_cases e : j = i
            · rw [e, pk_uLs]; exact hw2 _ (by omega)
            · rw [pk_uLn e]; exact hw1 j (by omega)
          · rw [pk_uLn (by omega)]; exact hw2 j (by omega)
    exact key (aCn A - 1) 0 (by omega) vf _ (fun j h => absurd h (Nat.not_lt_zero j)) (fun j _ => rfl) he12 he13 he14 he15 he16 (fun j hj => (w_fr hE10 (by omega)).trans (w_fr hE2 (by omega))) _ _ hw ls (lv_sub hl [0, 1, 2] rfl)
  · have hc : ¬ 0 < aCn A := fun h => c4 ((nI_ltI (a := 0) (by omega) (by omega)).mpr h)
    refine lv_iconst (v := 0) hx hb dX0_moveFirstValueTo_7 (by decide) ?_
    refine we_z hx hb hr hlocks hw (Or.inl rfl) ?_ dX0_moveFirstValueTo_8
    refine ⟨by rw [if_neg hc], ?_, fun j hj => rfl⟩
    rw [aTake_no hc]
    exact ⟨mf, hf, tf, vf, h0, h1, h2, h3, h4, hR⟩

set_option maxHeartbeats 4000000 in
set_option maxRecDepth 100000 in
theorem kX0_copyFrom (l : Launch) (dC : Nat → ClassId) (dI : Nat → Nat → Nat) (q : ClassId × ClassId × ClassId × ClassId) (ad : Nat → Nat) (en : Nat → va_E) (n sz : Nat) (b b2 : Nat) (hbn : b + 4 < n) (hbn2 : b2 + 4 < n) (hap : b + 5 ≤ b2 ∨ b2 + 5 ≤ b) (Z A : Ast) (hok : Aok A) (hZ : HoldAt q ad en b Z) (hH : HoldAt q ad en b2 A) :
    Met l yX0_copyFrom wsX0_copyFrom ({ frames := 1, cells := 0, slots := 0, locals := 40 }) (wPc (dC, dI) vwCl (wT q) ad en n sz [.ref (ad b), .ref (ad b2)]) (va_Qv (fun (en' : Nat → va_E) => HoldAt q ad en' b A ∧ ∀ j, (j < b ∨ b + 5 ≤ j) → en' j = en j) (wB (dC, dI) vwCl (wT q) ad n (wA ad n sz)) (wA ad n sz)) 0 0 (wA ad n sz) := by
  refine Met.ofW (cc := cX0_copyFrom) (maxL := 2) (ret := none) (by decide) rfl ?_
  intro p e s m args below meth c s₁ B hml hv
  obtain ⟨rfl, hsz, hP, hK, hD0, hE0⟩ := hv
  have hx := B.exec
  have hb := B.bytes
  have hr := B.returns
  have hts := atoms_spec (ws := wsX0_copyFrom) B.pre
  have hown : s.vm.findClass RX0 = some m.cls := findClass_of_methodNamed B.named
  have hlocks := B.notSynchronized
  have iRX0 : ∀ w ∈ u_ws RX0 TX0 5, w ∈ wsX0_copyFrom := by decide +kernel
  subst hsz
  have hw := wk_of hP hK hD0 hE0
  generalize wA ad n s.heap.size = AA at hw ⊢
  have hl := lv_entry ([.ref (ad b), .ref (ad b2)]) (n := 2) (Nat.le_of_ble_eq_true rfl)
  rw [lg_entry_eq]
  generalize (lg_sl ([.ref (ad b), .ref (ad b2)]) ++ List.replicate (2 - (lg_sl ([.ref (ad b), .ref (ad b2)])).length) Slot.unset).toArray = ls at hl ⊢
  have hl : lv_has ls 2 [(0, .ref (ad b)), (1, .ref (ad b2))] := hl
  obtain ⟨mz, hz, tz, vz, h0, h1, h2, h3, h4, -⟩ := hZ
  obtain ⟨mf, hf, tf, vf, g0, g1, g2, g3, g4, hR⟩ := hH
  have hcn := hok.2
  refine lv_aload_n hx hb dX0_copyFrom_0 rfl (lv_at hl 1 rfl) ?_
  refine wr_get (ci := 1) (C := RX0) (T := TX0) (N := 5) hx hb hts iRX0 hown hw b2 (by omega) g0 rfl 0 (by decide) (hts (.fieldLink RX0 9 "LibraryDesk$Holdings" "made" "[I") (by decide +kernel)) (fun _ h9 => h9) rfl dX0_copyFrom_1 ?_
  refine lv_iconst (v := 0) hx hb dX0_copyFrom_4 (by decide) ?_
  refine lv_aload_n hx hb dX0_copyFrom_5 rfl (lv_at hl 0 rfl) ?_
  refine wr_get (ci := 1) (C := RX0) (T := TX0) (N := 5) hx hb hts iRX0 hown hw b (by omega) h0 rfl 0 (by decide) (hts (.fieldLink RX0 9 "LibraryDesk$Holdings" "made" "[I") (by decide +kernel)) (fun _ h9 => h9) rfl dX0_copyFrom_6 ?_
  refine lv_iconst (v := 0) hx hb dX0_copyFrom_9 (by decide) ?_
  refine lv_bipush (v := 8) hx hb dX0_copyFrom_10 (by decide) ?_
  refine wr_copyi (N := 8) hx hb (by rw [hml]; exact hl.1.symm) hown (hts (.methodLink RX0 25 arraycopyName) (by decide +kernel)) (hts (.native arraycopyName) (by decide +kernel)) (hts (.static arraycopyName) (by decide +kernel)) (hts (.initialized "java/lang/System") (by decide +kernel)) hw (b2 + 1) (by omega) (b + 1) (by omega) 0 g1 h1 rfl (by decide) (by decide) (by decide) (Nat.le_of_ble_eq_true rfl) (by decide +kernel) dX0_copyFrom_12 (fun en2 H locs hE1 hw => ?_)
  have he3 : en2 b = .inr (1, [.ref (ad (b + 1)), .ref (ad (b + 2)), .ref (ad (b + 3)), .ref (ad (b + 4)), .int (nI (aCn Z))]) := w_ne hE1 (by omega) h0
  have he4 : en2 (b + 1) = .inl (q.1, 8, .inl (va_cpy mf mz 0 0 8)) := w_self hE1
  have he5 : en2 (b + 2) = .inl (q.2.1, 8, .inr (.inl hz)) := w_ne hE1 (by omega) h2
  have he6 : en2 (b + 3) = .inl (q.2.1, 8, .inr (.inl tz)) := w_ne hE1 (by omega) h3
  have he7 : en2 (b + 4) = .inl (q.2.1, 20, .inr (.inl vz)) := w_ne hE1 (by omega) h4
  have he8 : en2 b2 = .inr (1, [.ref (ad (b2 + 1)), .ref (ad (b2 + 2)), .ref (ad (b2 + 3)), .ref (ad (b2 + 4)), .int (nI (aCn A))]) := w_ne hE1 (by omega) g0
  have he9 : en2 (b2 + 1) = .inl (q.1, 8, .inl mf) := w_ne hE1 (by omega) g1
  have he10 : en2 (b2 + 2) = .inl (q.2.1, 8, .inr (.inl hf)) := w_ne hE1 (by omega) g2
  have he11 : en2 (b2 + 3) = .inl (q.2.1, 8, .inr (.inl tf)) := w_ne hE1 (by omega) g3
  have he12 : en2 (b2 + 4) = .inl (q.2.1, 20, .inr (.inl vf)) := w_ne hE1 (by omega) g4
  refine lv_aload_n hx hb dX0_copyFrom_15 rfl (lv_at hl 1 rfl) ?_
  refine wr_get (ci := 1) (C := RX0) (T := TX0) (N := 5) hx hb hts iRX0 hown hw b2 (by omega) he8 rfl 1 (by decide) (hts (.fieldLink RX0 15 "LibraryDesk$Holdings" "hereBits" "[J") (by decide +kernel)) (fun _ h9 => h9) rfl dX0_copyFrom_16 ?_
  refine lv_iconst (v := 0) hx hb dX0_copyFrom_19 (by decide) ?_
  refine lv_aload_n hx hb dX0_copyFrom_20 rfl (lv_at hl 0 rfl) ?_
  refine wr_get (ci := 1) (C := RX0) (T := TX0) (N := 5) hx hb hts iRX0 hown hw b (by omega) he3 rfl 1 (by decide) (hts (.fieldLink RX0 15 "LibraryDesk$Holdings" "hereBits" "[J") (by decide +kernel)) (fun _ h9 => h9) rfl dX0_copyFrom_21 ?_
  refine lv_iconst (v := 0) hx hb dX0_copyFrom_24 (by decide) ?_
  refine lv_bipush (v := 8) hx hb dX0_copyFrom_25 (by decide) ?_
  refine wr_copyl (N := 8) hx hb (by rw [hml]; exact hl.1.symm) hown (hts (.methodLink RX0 25 arraycopyName) (by decide +kernel)) (hts (.native arraycopyName) (by decide +kernel)) (hts (.static arraycopyName) (by decide +kernel)) (hts (.initialized "java/lang/System") (by decide +kernel)) hw (b2 + 2) (by omega) (b + 2) (by omega) 1 he10 he5 rfl (by decide) (by decide) (by decide) (Nat.le_of_ble_eq_true rfl) (by decide +kernel) dX0_copyFrom_27 (fun en14 H locs hE13 hw => ?_)
  have he15 : en14 b = .inr (1, [.ref (ad (b + 1)), .ref (ad (b + 2)), .ref (ad (b + 3)), .ref (ad (b + 4)), .int (nI (aCn Z))]) := w_ne hE13 (by omega) he3
  have he16 : en14 (b + 1) = .inl (q.1, 8, .inl (va_cpy mf mz 0 0 8)) := w_ne hE13 (by omega) he4
  have he17 : en14 (b + 2) = .inl (q.2.1, 8, .inr (.inl (va_cpy hf hz 0 0 8))) := w_self hE13
  have he18 : en14 (b + 3) = .inl (q.2.1, 8, .inr (.inl tz)) := w_ne hE13 (by omega) he6
  have he19 : en14 (b + 4) = .inl (q.2.1, 20, .inr (.inl vz)) := w_ne hE13 (by omega) he7
  have he20 : en14 b2 = .inr (1, [.ref (ad (b2 + 1)), .ref (ad (b2 + 2)), .ref (ad (b2 + 3)), .ref (ad (b2 + 4)), .int (nI (aCn A))]) := w_ne hE13 (by omega) he8
  have he21 : en14 (b2 + 1) = .inl (q.1, 8, .inl mf) := w_ne hE13 (by omega) he9
  have he22 : en14 (b2 + 2) = .inl (q.2.1, 8, .inr (.inl hf)) := w_ne hE13 (by omega) he10
  have he23 : en14 (b2 + 3) = .inl (q.2.1, 8, .inr (.inl tf)) := w_ne hE13 (by omega) he11
  have he24 : en14 (b2 + 4) = .inl (q.2.1, 20, .inr (.inl vf)) := w_ne hE13 (by omega) he12
  refine lv_aload_n hx hb dX0_copyFrom_30 rfl (lv_at hl 1 rfl) ?_
  refine wr_get (ci := 1) (C := RX0) (T := TX0) (N := 5) hx hb hts iRX0 hown hw b2 (by omega) he20 rfl 2 (by decide) (hts (.fieldLink RX0 19 "LibraryDesk$Holdings" "tallies" "[J") (by decide +kernel)) (fun _ h9 => h9) rfl dX0_copyFrom_31 ?_
  refine lv_iconst (v := 0) hx hb dX0_copyFrom_34 (by decide) ?_
  refine lv_aload_n hx hb dX0_copyFrom_35 rfl (lv_at hl 0 rfl) ?_
  refine wr_get (ci := 1) (C := RX0) (T := TX0) (N := 5) hx hb hts iRX0 hown hw b (by omega) he15 rfl 2 (by decide) (hts (.fieldLink RX0 19 "LibraryDesk$Holdings" "tallies" "[J") (by decide +kernel)) (fun _ h9 => h9) rfl dX0_copyFrom_36 ?_
  refine lv_iconst (v := 0) hx hb dX0_copyFrom_39 (by decide) ?_
  refine lv_bipush (v := 8) hx hb dX0_copyFrom_40 (by decide) ?_
  refine wr_copyl (N := 8) hx hb (by rw [hml]; exact hl.1.symm) hown (hts (.methodLink RX0 25 arraycopyName) (by decide +kernel)) (hts (.native arraycopyName) (by decide +kernel)) (hts (.static arraycopyName) (by decide +kernel)) (hts (.initialized "java/lang/System") (by decide +kernel)) hw (b2 + 3) (by omega) (b + 3) (by omega) 1 he23 he18 rfl (by decide) (by decide) (by decide) (Nat.le_of_ble_eq_true rfl) (by decide +kernel) dX0_copyFrom_42 (fun en26 H locs hE25 hw => ?_)
  have he27 : en26 b = .inr (1, [.ref (ad (b + 1)), .ref (ad (b + 2)), .ref (ad (b + 3)), .ref (ad (b + 4)), .int (nI (aCn Z))]) := w_ne hE25 (by omega) he15
  have he28 : en26 (b + 1) = .inl (q.1, 8, .inl (va_cpy mf mz 0 0 8)) := w_ne hE25 (by omega) he16
  have he29 : en26 (b + 2) = .inl (q.2.1, 8, .inr (.inl (va_cpy hf hz 0 0 8))) := w_ne hE25 (by omega) he17
  have he30 : en26 (b + 3) = .inl (q.2.1, 8, .inr (.inl (va_cpy tf tz 0 0 8))) := w_self hE25
  have he31 : en26 (b + 4) = .inl (q.2.1, 20, .inr (.inl vz)) := w_ne hE25 (by omega) he19
  have he32 : en26 b2 = .inr (1, [.ref (ad (b2 + 1)), .ref (ad (b2 + 2)), .ref (ad (b2 + 3)), .ref (ad (b2 + 4)), .int (nI (aCn A))]) := w_ne hE25 (by omega) he20
  have he33 : en26 (b2 + 1) = .inl (q.1, 8, .inl mf) := w_ne hE25 (by omega) he21
  have he34 : en26 (b2 + 2) = .inl (q.2.1, 8, .inr (.inl hf)) := w_ne hE25 (by omega) he22
  have he35 : en26 (b2 + 3) = .inl (q.2.1, 8, .inr (.inl tf)) := w_ne hE25 (by omega) he23
  have he36 : en26 (b2 + 4) = .inl (q.2.1, 20, .inr (.inl vf)) := w_ne hE25 (by omega) he24
  refine lv_aload_n hx hb dX0_copyFrom_45 rfl (lv_at hl 1 rfl) ?_
  refine wr_get (ci := 1) (C := RX0) (T := TX0) (N := 5) hx hb hts iRX0 hown hw b2 (by omega) he32 rfl 3 (by decide) (hts (.fieldLink RX0 22 "LibraryDesk$Holdings" "values" "[J") (by decide +kernel)) (fun _ h9 => h9) rfl dX0_copyFrom_46 ?_
  refine lv_iconst (v := 0) hx hb dX0_copyFrom_49 (by decide) ?_
  refine lv_aload_n hx hb dX0_copyFrom_50 rfl (lv_at hl 0 rfl) ?_
  refine wr_get (ci := 1) (C := RX0) (T := TX0) (N := 5) hx hb hts iRX0 hown hw b (by omega) he27 rfl 3 (by decide) (hts (.fieldLink RX0 22 "LibraryDesk$Holdings" "values" "[J") (by decide +kernel)) (fun _ h9 => h9) rfl dX0_copyFrom_51 ?_
  refine lv_iconst (v := 0) hx hb dX0_copyFrom_54 (by decide) ?_
  refine lv_bipush (v := 20) hx hb dX0_copyFrom_55 (by decide) ?_
  refine wr_copyl (N := 20) hx hb (by rw [hml]; exact hl.1.symm) hown (hts (.methodLink RX0 25 arraycopyName) (by decide +kernel)) (hts (.native arraycopyName) (by decide +kernel)) (hts (.static arraycopyName) (by decide +kernel)) (hts (.initialized "java/lang/System") (by decide +kernel)) hw (b2 + 4) (by omega) (b + 4) (by omega) 1 he36 he31 rfl (by decide) (by decide) (by decide) (Nat.le_of_ble_eq_true rfl) (by decide +kernel) dX0_copyFrom_57 (fun en38 H locs hE37 hw => ?_)
  have he39 : en38 b = .inr (1, [.ref (ad (b + 1)), .ref (ad (b + 2)), .ref (ad (b + 3)), .ref (ad (b + 4)), .int (nI (aCn Z))]) := w_ne hE37 (by omega) he27
  have he40 : en38 (b + 1) = .inl (q.1, 8, .inl (va_cpy mf mz 0 0 8)) := w_ne hE37 (by omega) he28
  have he41 : en38 (b + 2) = .inl (q.2.1, 8, .inr (.inl (va_cpy hf hz 0 0 8))) := w_ne hE37 (by omega) he29
  have he42 : en38 (b + 3) = .inl (q.2.1, 8, .inr (.inl (va_cpy tf tz 0 0 8))) := w_ne hE37 (by omega) he30
  have he43 : en38 (b + 4) = .inl (q.2.1, 20, .inr (.inl (va_cpy vf vz 0 0 20))) := w_self hE37
  have he44 : en38 b2 = .inr (1, [.ref (ad (b2 + 1)), .ref (ad (b2 + 2)), .ref (ad (b2 + 3)), .ref (ad (b2 + 4)), .int (nI (aCn A))]) := w_ne hE37 (by omega) he32
  have he45 : en38 (b2 + 1) = .inl (q.1, 8, .inl mf) := w_ne hE37 (by omega) he33
  have he46 : en38 (b2 + 2) = .inl (q.2.1, 8, .inr (.inl hf)) := w_ne hE37 (by omega) he34
  have he47 : en38 (b2 + 3) = .inl (q.2.1, 8, .inr (.inl tf)) := w_ne hE37 (by omega) he35
  have he48 : en38 (b2 + 4) = .inl (q.2.1, 20, .inr (.inl vf)) := w_ne hE37 (by omega) he36
  refine lv_aload_n hx hb dX0_copyFrom_60 rfl (lv_at hl 0 rfl) ?_
  refine lv_aload_n hx hb dX0_copyFrom_61 rfl (lv_at hl 1 rfl) ?_
  refine wr_get (ci := 1) (C := RX0) (T := TX0) (N := 5) hx hb hts iRX0 hown hw b2 (by omega) he44 rfl 4 (by decide) (hts (.fieldLink RX0 31 "LibraryDesk$Holdings" "valueCount" "I") (by decide +kernel)) (fun _ h9 => h9) rfl dX0_copyFrom_62 ?_
  refine wr_put (ci := 1) (v := .int (nI (aCn A))) (ty := .int) (C := RX0) (T := TX0) (N := 5) hx hb hts iRX0 tyX0 tyX0_ok nmX0 hown hw b (by omega) he39 rfl 4 (by decide) (hts (.fieldLink RX0 31 "LibraryDesk$Holdings" "valueCount" "I") (by decide +kernel)) (fun _ h9 => h9) rfl (by decide +kernel) rfl rfl (Nat.le_of_ble_eq_true rfl) dX0_copyFrom_65 (fun en50 H locs hE49 hw => ?_)
  have he51 : en50 b = .inr (1, [.ref (ad (b + 1)), .ref (ad (b + 2)), .ref (ad (b + 3)), .ref (ad (b + 4)), .int (nI (aCn A))]) := w_self hE49
  have he52 : en50 (b + 1) = .inl (q.1, 8, .inl (va_cpy mf mz 0 0 8)) := w_ne hE49 (by omega) he40
  have he53 : en50 (b + 2) = .inl (q.2.1, 8, .inr (.inl (va_cpy hf hz 0 0 8))) := w_ne hE49 (by omega) he41
  have he54 : en50 (b + 3) = .inl (q.2.1, 8, .inr (.inl (va_cpy tf tz 0 0 8))) := w_ne hE49 (by omega) he42
  have he55 : en50 (b + 4) = .inl (q.2.1, 20, .inr (.inl (va_cpy vf vz 0 0 20))) := w_ne hE49 (by omega) he43
  have he56 : en50 b2 = .inr (1, [.ref (ad (b2 + 1)), .ref (ad (b2 + 2)), .ref (ad (b2 + 3)), .ref (ad (b2 + 4)), .int (nI (aCn A))]) := w_ne hE49 (by omega) he44
  have he57 : en50 (b2 + 1) = .inl (q.1, 8, .inl mf) := w_ne hE49 (by omega) he45
  have he58 : en50 (b2 + 2) = .inl (q.2.1, 8, .inr (.inl hf)) := w_ne hE49 (by omega) he46
  have he59 : en50 (b2 + 3) = .inl (q.2.1, 8, .inr (.inl tf)) := w_ne hE49 (by omega) he47
  have he60 : en50 (b2 + 4) = .inl (q.2.1, 20, .inr (.inl vf)) := w_ne hE49 (by omega) he48
  refine we_v hx hb hr hlocks hw ?_ dX0_copyFrom_68
  exact ⟨⟨_, _, _, _, he51, he52, he53, he54, he55, RC_copy hR hcn⟩, fun j hj => (w_fr hE49 (by omega)).trans ((w_fr hE37 (by omega)).trans ((w_fr hE25 (by omega)).trans ((w_fr hE13 (by omega)).trans (w_fr hE1 (by omega)))))⟩
end
section
/-! The desk: its object at place 0, the row of plans at 1, plan i at 2 + 3 i .. 4 + 3 i, the two Holdings at 32 .. 36 and 37 .. 41. -/
abbrev okC (c : Int32) : Prop := 0 ≤ c ∧ c < 10
abbrev okK (c : Int32) : Prop := 0 ≤ c ∧ c < 8
abbrev okS (c : Int32) : Prop := 0 ≤ c ∧ c ≤ 6
theorem okC_nI {k : Nat} (h : k < 10) : okC (nI k) := ⟨nI_pos' (by omega), nI_lt (b := 10) h (by decide)⟩
theorem okK_nI {k : Nat} (h : k < 8) : okK (nI k) := ⟨nI_pos' (by omega), nI_lt (b := 8) h (by decide)⟩
theorem okC_of {c : Int32} (h : okC c) : ∃ k, k < 10 ∧ c = nI k := (kd_cases c (by decide)).resolve_right (fun z => z h)
theorem okK_of {c : Int32} (h : okK c) : ∃ k, k < 8 ∧ c = nI k := (kd_cases c (by decide)).resolve_right (fun z => z h)
theorem PlanAt_fr {q : ClassId × ClassId × ClassId × ClassId} {ad : Nat → Nat} {en en1 : Nat → va_E} {b : Nat} {P : Pst} (h : PlanAt q ad en b P) (hf : ∀ j, b ≤ j → j < b + 3 → en1 j = en j) : PlanAt q ad en1 b P := by
  obtain ⟨sf, kf, h0, h1, h2, h3⟩ := h
  exact ⟨sf, kf, (hf _ (by omega) (by omega)).trans h0, (hf _ (by omega) (by omega)).trans h1, (hf _ (by omega) (by omega)).trans h2, h3⟩
theorem HoldAt_fr {q : ClassId × ClassId × ClassId × ClassId} {ad : Nat → Nat} {en en1 : Nat → va_E} {b : Nat} {A : Ast} (h : HoldAt q ad en b A) (hf : ∀ j, b ≤ j → j < b + 5 → en1 j = en j) : HoldAt q ad en1 b A := by
  obtain ⟨mf, vhf, tf, vf, h0, h1, h2, h3, h4, hR⟩ := h
  exact ⟨mf, vhf, tf, vf, (hf _ (by omega) (by omega)).trans h0, (hf _ (by omega) (by omega)).trans h1, (hf _ (by omega) (by omega)).trans h2, (hf _ (by omega) (by omega)).trans h3, (hf _ (by omega) (by omega)).trans h4, hR⟩
def DeskC (q : ClassId × ClassId × ClassId × ClassId) (ad : Nat → Nat) (en : Nat → va_E) (nb tb : Nat) (A Z : Ast) (pl : Nat → Pst) (cs : Nat → Int32) (ta : Int64) (tw tp : Int32) : Prop :=
  ((nb = 32 ∧ tb = 37) ∨ (nb = 37 ∧ tb = 32)) ∧ en 0 = .inr (3, [.ref (ad 1), .ref (ad nb), .ref (ad tb), .long ta, .int tw, .int tp, .int (cs 0), .int (cs 1), .int (cs 2), .int (cs 3), .int (cs 4), .int (cs 5), .int (cs 6)]) ∧ (∃ g : Nat → Option Nat, en 1 = .inl (q.2.2.2, 10, .inr (.inr (.inr (.inr g)))) ∧ ∀ i, i < 10 → g i = some (ad (2 + 3 * i))) ∧ (∀ i, i < 10 → PlanAt q ad en (2 + 3 * i) (pl i)) ∧ HoldAt q ad en nb A ∧ HoldAt q ad en tb Z
def DeskAt (q : ClassId × ClassId × ClassId × ClassId) (ad : Nat → Nat) (en : Nat → va_E) (A : Ast) (pl : Nat → Pst) (cs : Nat → Int32) : Prop :=
  ∃ (nb tb : Nat) (Z : Ast) (ta : Int64) (tw tp : Int32), DeskC q ad en nb tb A Z pl cs ta tw tp
section DK
variable {q : ClassId × ClassId × ClassId × ClassId} {ad : Nat → Nat} {en en1 : Nat → va_E} {nb tb : Nat} {A Z : Ast} {pl : Nat → Pst} {cs : Nat → Int32} {ta : Int64} {tw tp : Int32}
theorem DeskC_now {A' : Ast} (h : DeskC q ad en nb tb A Z pl cs ta tw tp) (hH : HoldAt q ad en1 nb A') (hf : ∀ j, (j < nb ∨ nb + 5 ≤ j) → en1 j = en j) : DeskC q ad en1 nb tb A' Z pl cs ta tw tp := by
  obtain ⟨hnt, h0, ⟨g, h1, hg⟩, hp, hn, ht⟩ := h
  exact ⟨hnt, (hf _ (by omega)).trans h0, ⟨g, (hf _ (by omega)).trans h1, hg⟩, fun i hi => PlanAt_fr (hp i hi) (fun j a b => hf j (by omega)), hH, HoldAt_fr ht (fun j a b => hf j (by omega))⟩
theorem DeskC_trial {Z' : Ast} (h : DeskC q ad en nb tb A Z pl cs ta tw tp) (hH : HoldAt q ad en1 tb Z') (hf : ∀ j, (j < tb ∨ tb + 5 ≤ j) → en1 j = en j) : DeskC q ad en1 nb tb A Z' pl cs ta tw tp := by
  obtain ⟨hnt, h0, ⟨g, h1, hg⟩, hp, hn, ht⟩ := h
  exact ⟨hnt, (hf _ (by omega)).trans h0, ⟨g, (hf _ (by omega)).trans h1, hg⟩, fun i hi => PlanAt_fr (hp i hi) (fun j a b => hf j (by omega)), HoldAt_fr hn (fun j a b => hf j (by omega)), hH⟩
theorem DeskC_plan {c : Nat} {P : Pst} (h : DeskC q ad en nb tb A Z pl cs ta tw tp) (hc : c < 10) (hP : PlanAt q ad en1 (2 + 3 * c) P) (hf : ∀ j, (j < 2 + 3 * c ∨ 2 + 3 * c + 3 ≤ j) → en1 j = en j) : DeskC q ad en1 nb tb A Z (va_up pl c P) cs ta tw tp := by
  obtain ⟨hnt, h0, ⟨g, h1, hg⟩, hp, hn, ht⟩ := h
  refine ⟨hnt, (hf _ (by omega)).trans h0, ⟨g, (hf _ (by omega)).trans h1, hg⟩, fun i hi => ?_, HoldAt_fr hn (fun j a b => hf j (by omega)), HoldAt_fr ht (fun j a b => hf j (by omega))⟩
  by_cases e : i = c
  · subst e; rw [va_up_self]; exact hP
  · rw [va_up_ne _ _ e]; exact PlanAt_fr (hp i hi) (fun j a b => hf j (by omega))
theorem DeskC_obj {nb' tb' : Nat} {cs' : Nat → Int32} {ta' : Int64} {tw' tp' : Int32} (h : DeskC q ad en nb tb A Z pl cs ta tw tp) (hb : nb' = nb ∧ tb' = tb) (h0' : en1 0 = .inr (3, [.ref (ad 1), .ref (ad nb'), .ref (ad tb'), .long ta', .int tw', .int tp', .int (cs' 0), .int (cs' 1), .int (cs' 2), .int (cs' 3), .int (cs' 4), .int (cs' 5), .int (cs' 6)])) (hf : ∀ j, j ≠ 0 → en1 j = en j) : DeskC q ad en1 nb' tb' A Z pl cs' ta' tw' tp' := by
  obtain ⟨rfl, rfl⟩ := hb
  obtain ⟨hnt, h0, ⟨g, h1, hg⟩, hp, hn, ht⟩ := h
  exact ⟨hnt, h0', ⟨g, (hf _ (by omega)).trans h1, hg⟩, fun i hi => PlanAt_fr (hp i hi) (fun j a b => hf j (by omega)), HoldAt_fr hn (fun j a b => hf j (by omega)), HoldAt_fr ht (fun j a b => hf j (by omega))⟩
theorem DeskC_swap (h : DeskC q ad en nb tb A Z pl cs ta tw tp) (h0' : en1 0 = .inr (3, [.ref (ad 1), .ref (ad tb), .ref (ad nb), .long ta, .int tw, .int tp, .int (cs 0), .int (cs 1), .int (cs 2), .int (cs 3), .int (cs 4), .int (cs 5), .int (cs 6)])) (hf : ∀ j, j ≠ 0 → en1 j = en j) : DeskC q ad en1 tb nb Z A pl cs ta tw tp := by
  obtain ⟨hnt, h0, ⟨g, h1, hg⟩, hp, hn, ht⟩ := h
  exact ⟨hnt.symm.imp And.symm And.symm, h0', ⟨g, (hf _ (by omega)).trans h1, hg⟩, fun i hi => PlanAt_fr (hp i hi) (fun j a b => hf j (by omega)), HoldAt_fr ht (fun j a b => hf j (by omega)), HoldAt_fr hn (fun j a b => hf j (by omega))⟩
end DK
/-! what the calls answer, and what they leave -/
def sWantsR (c kd : Int32) (pl : Nat → Pst) : Int32 := if okC c ∧ (kd = -1 ∨ okK kd) then (pl c.toNatClampNeg).1 else -2
def sWants (c kd : Int32) (pl : Nat → Pst) : Nat → Pst := if okC c ∧ (kd = -1 ∨ okK kd) then va_up pl c.toNatClampNeg (kd, (pl c.toNatClampNeg).2) else pl
def sActR (c so kd : Int32) (pl : Nat → Pst) : Int32 := if okC c ∧ okS so ∧ okK kd then (if (pl c.toNatClampNeg).2.1 < 6 then nI ((pl c.toNatClampNeg).2.1 + 1) else -1) else -1
def sAct (c so kd : Int32) (pl : Nat → Pst) : Nat → Pst := if okC c ∧ okS so ∧ okK kd then va_up pl c.toNatClampNeg (pAdd so kd (pl c.toNatClampNeg)) else pl
def pTell (i x : Int32) (P : Pst) : Pst := (P.1, P.2.1, P.2.2.1, P.2.2.2.1, i, x)
def sFailsR (c i x : Int32) : Int32 := if okC c ∧ (0 ≤ i ∧ i < 6) ∧ (1 ≤ x ∧ x ≤ 5) then 1 else 0
def sFails (c i x : Int32) (pl : Nat → Pst) : Nat → Pst := if okC c ∧ (0 ≤ i ∧ i < 6) ∧ (1 ≤ x ∧ x ≤ 5) then va_up pl c.toNatClampNeg (pTell i x (pl c.toNatClampNeg)) else pl
def sMakeR (kd : Int32) (A : Ast) : Int32 := if okK kd then (if aMd A kd.toNatClampNeg < 40 then nI (aMd A kd.toNatClampNeg + 1) else -1) else -1
def sMake (kd : Int32) (A : Ast) : Ast := if okK kd then aMake kd.toNatClampNeg A else A
def sNumR (kd : Int32) (A : Ast) : Int32 := if okK kd then nI (cn (aHr A kd.toNatClampNeg) 40) else -1
def sTalR (kd : Int32) (A : Ast) : Int64 := if okK kd then aTl A kd.toNatClampNeg else 0
def sToldR (x : Int32) (cs : Nat → Int32) : Int32 := if 0 ≤ x ∧ x < 7 then cs x.toNatClampNeg else -1
abbrev sRef (c z : Int32) (A : Ast) (pl : Nat → Pst) : Prop := ¬ okC c ∨ (¬ (pl c.toNatClampNeg).1 = -1 ∧ ¬ aIs (pl c.toNatClampNeg).1 z A = true)
/-- what always holds of a plan -/
def Pok (P : Pst) : Prop := P.2.1 ≤ 6 ∧ (∀ i, i < P.2.1 → okS (P.2.2.1 i) ∧ okK (P.2.2.2.1 i)) ∧ (P.2.2.2.2.1 = -1 ∨ ((0 ≤ P.2.2.2.2.1 ∧ P.2.2.2.2.1 < 6) ∧ (1 ≤ P.2.2.2.2.2 ∧ P.2.2.2.2.2 ≤ 5)))
/-- one act: what it fails with (0: it does not), what is then, the answer then -/
def aDo (P : Pst) (i : Nat) (z : Int32) (a : Int64) (A : Ast) (x : Int64) : Int32 × Ast × Int64 :=
  if P.2.2.1 i = 0 then (if aMd A (P.2.2.2.1 i).toNatClampNeg < 40 then 0 else 6, aMake (P.2.2.2.1 i).toNatClampNeg A, x)
  else if P.2.2.1 i = 1 then (if gr (aHr A (P.2.2.2.1 i).toNatClampNeg) 40 = 0 then (7, A, x) else (0, aDrop (P.2.2.2.1 i).toNatClampNeg (gr (aHr A (P.2.2.2.1 i).toNatClampNeg) 40) A, x))
  else if P.2.2.1 i = 2 then (0, aGrow (P.2.2.2.1 i).toNatClampNeg a A, x)
  else if P.2.2.1 i = 3 then (if 0 < aCn A then 0 else 8, aTake (P.2.2.2.1 i).toNatClampNeg A, x)
  else if P.2.2.1 i = 4 then (0, A, 31 * x + aTl A (P.2.2.2.1 i).toNatClampNeg)
  else if P.2.2.1 i = 5 then (0, A, 31 * x + (nI (cn (aHr A (P.2.2.2.1 i).toNatClampNeg) 40)).toInt64)
  else (if aIs P.1 z A = true then 0 else 7, aDropI P.1 z A, x)
/-- the acts from the i-th on: what it fails with, at which act, what is then, the answer then -/
def aRun (P : Pst) (z : Int32) (a : Int64) : Nat → Nat → Ast → Int64 → Int32 × Nat × Ast × Int64
  | 0, i, A, x => (0, i, A, x)
  | f + 1, i, A, x => if P.2.2.2.2.1 = nI i then (P.2.2.2.2.2, i, A, x) else if (aDo P i z a A x).1 = 0 then aRun P z a f (i + 1) (aDo P i z a A x).2.1 (aDo P i z a A x).2.2 else ((aDo P i z a A x).1, i, (aDo P i z a A x).2.1, (aDo P i z a A x).2.2)
def sRun (c z : Int32) (a : Int64) (A : Ast) (pl : Nat → Pst) : Int32 × Nat × Ast × Int64 := aRun (pl c.toNatClampNeg) z a (pl c.toNatClampNeg).2.1 0 A a
def pForget (p : Nat) (P : Pst) : Pst := if P.2.2.2.2.1 = nI p then (P.1, P.2.1, P.2.2.1, P.2.2.2.1, -1, P.2.2.2.2.2) else P
def sCallR (c z : Int32) (a : Int64) (A : Ast) (pl : Nat → Pst) : Int64 := if sRef c z A pl then -9223372036854775807 else if (sRun c z a A pl).1 = 0 then (sRun c z a A pl).2.2.2 else -9223372036854775806
def sCallA (c z : Int32) (a : Int64) (A : Ast) (pl : Nat → Pst) : Ast := if sRef c z A pl then A else if (sRun c z a A pl).1 = 0 then (sRun c z a A pl).2.2.1 else A
def sCallP (c z : Int32) (a : Int64) (A : Ast) (pl : Nat → Pst) : Nat → Pst := if sRef c z A pl then pl else if (sRun c z a A pl).1 = 0 then pl else va_up pl c.toNatClampNeg (pForget (sRun c z a A pl).2.1 (pl c.toNatClampNeg))
def sCallC (c z : Int32) (a : Int64) (A : Ast) (pl : Nat → Pst) (cs : Nat → Int32) : Nat → Int32 := if sRef c z A pl then upd cs 1 (cs 1 + 1) else if (sRun c z a A pl).1 = 0 then upd cs 0 (cs 0 + 1) else fun i => if i = 2 then cs 2 + 1 else if i = 3 then (sRun c z a A pl).1 else if i = 4 then nI (sRun c z a A pl).2.1 else if i = 5 then c else if i = 6 then z else cs i
theorem Aok_do {P : Pst} {i : Nat} {z : Int32} {a x : Int64} {A : Ast} (h : Aok A) : Aok (aDo P i z a A x).2.1 := by
  unfold aDo
  split
  · exact Aok_make h _
  · split
    · split
      · exact h
      · exact Aok_drop h _ _
    · split
      · exact Aok_grow h _ _
      · split
        · exact Aok_take h _
        · split
          · exact h
          · split
            · exact h
            · exact Aok_dropI h _ _
theorem Aok_run {P : Pst} {z : Int32} {a : Int64} : ∀ (f i : Nat) (A : Ast) (x : Int64), Aok A → Aok (aRun P z a f i A x).2.2.1
  | 0, i, A, x, h => h
  | f + 1, i, A, x, h => by
    unfold aRun
    split
    · exact h
    · split
      · exact Aok_run f (i + 1) _ _ (Aok_do h)
      · exact Aok_do h
end
section
theorem sWants_no {c kd : Int32} {pl : Nat → Pst} (h : ¬ (okC c ∧ (kd = -1 ∨ okK kd))) : sWantsR c kd pl = -2 ∧ sWants c kd pl = pl := by
  unfold sWantsR sWants
  rw [if_neg h, if_neg h]
  exact ⟨rfl, rfl⟩
theorem sWants_ok {c : Nat} {kd : Int32} {pl : Nat → Pst} (hc : c < 10) (h : kd = -1 ∨ okK kd) : sWantsR (nI c) kd pl = (pl c).1 ∧ sWants (nI c) kd pl = va_up pl c (kd, (pl c).2) := by
  have h2 : okC (nI c) ∧ (kd = -1 ∨ okK kd) := ⟨okC_nI hc, h⟩
  unfold sWantsR sWants
  rw [if_pos h2, if_pos h2, nI_clamp (by omega)]
  exact ⟨rfl, rfl⟩
theorem sAct_no {c so kd : Int32} {pl : Nat → Pst} (h : ¬ (okC c ∧ okS so ∧ okK kd)) : sActR c so kd pl = -1 ∧ sAct c so kd pl = pl := by
  unfold sActR sAct
  rw [if_neg h, if_neg h]
  exact ⟨rfl, rfl⟩
theorem sAct_ok {c : Nat} {so kd : Int32} {pl : Nat → Pst} (hc : c < 10) (h : okS so ∧ okK kd) : sActR (nI c) so kd pl = (if (pl c).2.1 < 6 then nI ((pl c).2.1 + 1) else -1) ∧ sAct (nI c) so kd pl = va_up pl c (pAdd so kd (pl c)) := by
  have h2 : okC (nI c) ∧ okS so ∧ okK kd := ⟨okC_nI hc, h⟩
  unfold sActR sAct
  rw [if_pos h2, if_pos h2, nI_clamp (by omega)]
  exact ⟨rfl, rfl⟩
theorem pAdd_cn {P : Pst} (h : P.2.1 < 6) (so kd : Int32) : (pAdd so kd P).2.1 = P.2.1 + 1 := by
  unfold pAdd
  rw [if_pos h]
theorem sFails_no {c i x : Int32} {pl : Nat → Pst} (h : ¬ (okC c ∧ (0 ≤ i ∧ i < 6) ∧ (1 ≤ x ∧ x ≤ 5))) : sFailsR c i x = 0 ∧ sFails c i x pl = pl := by
  unfold sFailsR sFails
  rw [if_neg h, if_neg h]
  exact ⟨rfl, rfl⟩
theorem sFails_ok {c : Nat} {i x : Int32} {pl : Nat → Pst} (hc : c < 10) (h : (0 ≤ i ∧ i < 6) ∧ (1 ≤ x ∧ x ≤ 5)) : sFailsR (nI c) i x = 1 ∧ sFails (nI c) i x pl = va_up pl c (pTell i x (pl c)) := by
  have h2 : okC (nI c) ∧ (0 ≤ i ∧ i < 6) ∧ (1 ≤ x ∧ x ≤ 5) := ⟨okC_nI hc, h⟩
  unfold sFailsR sFails
  rw [if_pos h2, if_pos h2, nI_clamp (by omega)]
  exact ⟨rfl, rfl⟩
theorem sMake_no {kd : Int32} {A : Ast} (h : ¬ okK kd) : sMakeR kd A = -1 ∧ sMake kd A = A := by
  unfold sMakeR sMake
  rw [if_neg h, if_neg h]
  exact ⟨rfl, rfl⟩
theorem sMake_ok {k : Nat} {A : Ast} (hk : k < 8) : sMakeR (nI k) A = (if aMd A k < 40 then nI (aMd A k + 1) else -1) ∧ sMake (nI k) A = aMake k A := by
  unfold sMakeR sMake
  rw [if_pos (okK_nI hk), if_pos (okK_nI hk), nI_clamp (by omega)]
  exact ⟨rfl, rfl⟩
theorem aMd_make {k : Nat} {A : Ast} (h : aMd A k < 40) : aMd (aMake k A) k = aMd A k + 1 := by
  unfold aMake
  rw [if_pos h]
  show (if k = k then aMd A k + 1 else aMd A k) = _
  rw [if_pos rfl]
theorem sNum_ok {k : Nat} {A : Ast} (hk : k < 8) : sNumR (nI k) A = nI (cn (aHr A k) 40) := by
  unfold sNumR
  rw [if_pos (okK_nI hk), nI_clamp (by omega)]
theorem sTal_ok {k : Nat} {A : Ast} (hk : k < 8) : sTalR (nI k) A = aTl A k := by
  unfold sTalR
  rw [if_pos (okK_nI hk), nI_clamp (by omega)]
set_option maxHeartbeats 4000000 in
set_option maxRecDepth 100000 in
theorem kX2_collect (l : Launch) (dC : Nat → ClassId) (dI : Nat → Nat → Nat) (q : ClassId × ClassId × ClassId × ClassId) (ad : Nat → Nat) (en : Nat → va_E) (n sz : Nat) (hn42 : 42 ≤ n) (A : Ast) (pl : Nat → Pst) (cs : Nat → Int32) (hok : Aok A) (hpok : ∀ i, i < 10 → Pok (pl i)) (hD : DeskAt q ad en A pl cs) (v : Int64) :
    Met l yX2_collect wsX2_collect ({ frames := 1, cells := 0, slots := 0, locals := 22 }) (wPc (dC, dI) vwCl (wT q) ad en n sz [.ref (ad 0), .long v]) (va_Qi (fun (r : Int32) (en' : Nat → va_E) => r = (if aCn A < 20 then nI (aCn A + 1) else -1) ∧ DeskAt q ad en' (aAdd v A) pl cs ∧ ∀ j, 42 ≤ j → en' j = en j) (wB (dC, dI) vwCl (wT q) ad n (wA ad n sz)) (wA ad n sz)) 0 0 (wA ad n sz) := by
  refine Met.ofW (cc := cX2_collect) (maxL := 3) (ret := (some .int)) (by decide) rfl ?_
  intro p e s m args below meth c s₁ B hml hv
  obtain ⟨rfl, hsz, hP, hK, hD0, hE0⟩ := hv
  have hx := B.exec
  have hb := B.bytes
  have hr := B.returns
  have hts := atoms_spec (ws := wsX2_collect) B.pre
  have hown : s.vm.findClass RX2 = some m.cls := findClass_of_methodNamed B.named
  have hlocks := B.notSynchronized
  have iRX2 : ∀ w ∈ u_ws RX2 TX2 13, w ∈ wsX2_collect := by decide +kernel
  have iRX0 : ∀ w ∈ u_ws RX0 TX0 5, w ∈ wsX2_collect := by decide +kernel
  subst hsz
  have hw := wk_of hP hK hD0 hE0
  generalize wA ad n s.heap.size = AA at hw ⊢
  have hl := lv_entry ([.ref (ad 0), .long v]) (n := 3) (Nat.le_of_ble_eq_true rfl)
  rw [lg_entry_eq]
  generalize (lg_sl ([.ref (ad 0), .long v]) ++ List.replicate (3 - (lg_sl ([.ref (ad 0), .long v])).length) Slot.unset).toArray = ls at hl ⊢
  have hl : lv_has ls 3 [(0, .ref (ad 0)), (1, .long v)] := hl
  obtain ⟨nb, tb, Z, ta, tw, tp, hC⟩ := hD
  obtain ⟨hntt1, dt1, ⟨gt1, et1, hgt1⟩, hpt1, hNt1, hTt1⟩ := id hC
  obtain ⟨mft1, vht1, tft1, vft1, n0t1, n1t1, n2t1, n3t1, n4t1, hRt1⟩ := id hNt1
  have hnt := hntt1
  refine lv_aload_n hx hb dX2_collect_0 rfl (lv_at hl 0 rfl) ?_
  refine wr_get (ci := 3) (C := RX2) (T := TX2) (N := 13) hx hb hts iRX2 hown hw 0 (by omega) dt1 rfl 1 (by decide) (hts (.fieldLink RX2 19 "LibraryDesk" "now" "LLibraryDesk$Holdings;") (by decide +kernel)) (fun _ h9 => h9) rfl dX2_collect_1 ?_
  refine lv_lload_n hx hb dX2_collect_4 rfl (lv_at hl 1 rfl) ?_
  refine wc_i hw (va_runV (As := [.long v]) (rest := []) ⟨hx, hb, hml, hown, hts⟩ (kX0_addValue l dC dI q ad en n _ nb (by omega) A hok hNt1 v) (cwV 1 hts gX2_collect_X0_addValue rfl rfl rfl (by decide +kernel) ⟨Nat.le_of_ble_eq_true rfl, Nat.le_of_ble_eq_true rfl⟩) (wk_preV hw (by omega) n0t1 rfl) rfl rfl hl.1 rfl (lv_room (Nat.le_of_ble_eq_true rfl)) dX2_collect_5 ⟨Nat.le_refl _, Nat.le_refl _⟩) (fun r2 en4 H locs hp3 hw => ?_)
  obtain ⟨hr1, hH1, hfr1⟩ := hp3
  have hC1 := DeskC_now hC hH1 hfr1
  obtain ⟨-, dt5, ⟨gt5, et5, hgt5⟩, hpt5, hNt5, hTt5⟩ := id hC1
  obtain ⟨mft5, vht5, tft5, vft5, n0t5, n1t5, n2t5, n3t5, n4t5, hRt5⟩ := id hNt5
  refine lv_if_eq (tgt := 21) hx hb dX2_collect_8 (by decide) (fun c8 => ?_) (fun c8 => ?_)
  · refine lv_iconst (v := (-1)) hx hb dX2_collect_21 (by decide) ?_
    refine we_i hx hb hr hlocks hw ?_ dX2_collect_22
    exact ⟨by rw [if_neg (z01_f hr1 c8)], ⟨nb, tb, Z, ta, tw, tp, hC1⟩, fun j hj => hfr1 j (by omega)⟩
  · refine lv_aload_n hx hb dX2_collect_11 rfl (lv_at hl 0 rfl) ?_
    refine wr_get (ci := 3) (C := RX2) (T := TX2) (N := 13) hx hb hts iRX2 hown hw 0 (by omega) dt5 rfl 1 (by decide) (hts (.fieldLink RX2 19 "LibraryDesk" "now" "LLibraryDesk$Holdings;") (by decide +kernel)) (fun _ h9 => h9) rfl dX2_collect_12 ?_
    refine wr_get (ci := 1) (C := RX0) (T := TX0) (N := 5) hx hb hts iRX0 hown hw nb (by omega) n0t5 rfl 4 (by decide) (hts (.fieldLink RX2 30 "LibraryDesk$Holdings" "valueCount" "I") (by decide +kernel)) (fun _ h9 => h9) rfl dX2_collect_15 ?_
    refine lv_goto (tgt := 22) hx hb dX2_collect_18 (by decide) ?_
    refine we_i hx hb hr hlocks hw ?_ dX2_collect_22
    have hc8 := z01_t hr1 c8
    exact ⟨by rw [if_pos hc8, aCn_add hc8], ⟨nb, tb, Z, ta, tw, tp, hC1⟩, fun j hj => hfr1 j (by omega)⟩

set_option maxHeartbeats 4000000 in
set_option maxRecDepth 100000 in
theorem kX2_wants (l : Launch) (dC : Nat → ClassId) (dI : Nat → Nat → Nat) (q : ClassId × ClassId × ClassId × ClassId) (ad : Nat → Nat) (en : Nat → va_E) (n sz : Nat) (hn42 : 42 ≤ n) (A : Ast) (pl : Nat → Pst) (cs : Nat → Int32) (hok : Aok A) (hpok : ∀ i, i < 10 → Pok (pl i)) (hD : DeskAt q ad en A pl cs) (cv kd : Int32) :
    Met l yX2_wants wsX2_wants ({ frames := 1, cells := 0, slots := 0, locals := 20 }) (wPc (dC, dI) vwCl (wT q) ad en n sz [.ref (ad 0), .int cv, .int kd]) (va_Qi (fun (r : Int32) (en' : Nat → va_E) => r = sWantsR cv kd pl ∧ DeskAt q ad en' A (sWants cv kd pl) cs ∧ ∀ j, 42 ≤ j → en' j = en j) (wB (dC, dI) vwCl (wT q) ad n (wA ad n sz)) (wA ad n sz)) 0 0 (wA ad n sz) := by
  refine Met.ofW (cc := cX2_wants) (maxL := 4) (ret := (some .int)) (by decide) rfl ?_
  intro p e s m args below meth c s₁ B hml hv
  obtain ⟨rfl, hsz, hP, hK, hD0, hE0⟩ := hv
  have hx := B.exec
  have hb := B.bytes
  have hr := B.returns
  have hts := atoms_spec (ws := wsX2_wants) B.pre
  have hown : s.vm.findClass RX2 = some m.cls := findClass_of_methodNamed B.named
  have hlocks := B.notSynchronized
  have iRX2 : ∀ w ∈ u_ws RX2 TX2 13, w ∈ wsX2_wants := by decide +kernel
  have iRX1 : ∀ w ∈ u_ws RX1 TX1 6, w ∈ wsX2_wants := by decide +kernel
  subst hsz
  have hw := wk_of hP hK hD0 hE0
  generalize wA ad n s.heap.size = AA at hw ⊢
  have hl := lv_entry ([.ref (ad 0), .int cv, .int kd]) (n := 4) (Nat.le_of_ble_eq_true rfl)
  rw [lg_entry_eq]
  generalize (lg_sl ([.ref (ad 0), .int cv, .int kd]) ++ List.replicate (4 - (lg_sl ([.ref (ad 0), .int cv, .int kd])).length) Slot.unset).toArray = ls at hl ⊢
  have hl : lv_has ls 4 [(0, .ref (ad 0)), (1, .int cv), (2, .int kd)] := hl
  obtain ⟨nb, tb, Z, ta, tw, tp, hC⟩ := hD
  obtain ⟨hntt1, dt1, ⟨gt1, et1, hgt1⟩, hpt1, hNt1, hTt1⟩ := id hC
  obtain ⟨mft1, vht1, tft1, vft1, n0t1, n1t1, n2t1, n3t1, n4t1, hRt1⟩ := id hNt1
  have hnt := hntt1
  refine lv_iload_n hx hb dX2_wants_0 rfl (lv_at hl 1 rfl) ?_
  refine wc_i hw (va_runS (As := [.int cv]) (rest := []) ⟨hx, hb, hml, hown, hts⟩ (kX2_isCall l dC dI q ad en n _ cv) (va_cwS 1 hts gX2_wants_X2_isCall rfl rfl rfl (by decide +kernel) ⟨Nat.le_of_ble_eq_true rfl, Nat.le_of_ble_eq_true rfl⟩) (wk_preS hw) rfl rfl hl.1 rfl (lv_room (Nat.le_of_ble_eq_true rfl)) dX2_wants_1 ⟨Nat.le_refl _, Nat.le_refl _⟩) (fun r2 en4 H locs hp3 hw => ?_)
  obtain ⟨hr5, hn6⟩ := hp3
  rw [hn6] at hw
  clear hn6
  refine lv_if_eq (tgt := 19) hx hb dX2_wants_4 (by decide) (fun c4 => ?_) (fun c4 => ?_)
  · have hcv := z01_f hr5 c4
    refine lv_bipush (v := (-2)) hx hb dX2_wants_19 (by decide) ?_
    refine we_i hx hb hr hlocks hw ?_ dX2_wants_21
    have hS := sWants_no (pl := pl) (c := cv) (kd := kd) (fun h => hcv h.1)
    exact ⟨hS.1.symm, by rw [hS.2]; exact ⟨nb, tb, Z, ta, tw, tp, hC⟩, fun j hj => rfl⟩
  · have hcv := z01_t hr5 c4
    obtain ⟨c1, hc, ecv⟩ := okC_of hcv
    subst ecv
    refine lv_iload_n hx hb dX2_wants_7 rfl (lv_at hl 2 rfl) ?_
    refine lv_iconst (v := (-1)) hx hb dX2_wants_8 (by decide) ?_
    refine lv_icmp_eq (tgt := 22) hx hb dX2_wants_9 (by decide) (fun c9 => ?_) (fun c9 => ?_)
    · have hkd : kd = -1 ∨ okK kd := Or.inl c9
      obtain ⟨sfu7, kfu7, p0u7, p1u7, p2u7, p3u7⟩ := id (hpt1 c1 hc)
      refine lv_aload_n hx hb dX2_wants_22 rfl (lv_at hl 0 rfl) ?_
      refine wr_get (ci := 3) (C := RX2) (T := TX2) (N := 13) hx hb hts iRX2 hown hw 0 (by omega) dt1 rfl 0 (by decide) (hts (.fieldLink RX2 11 "LibraryDesk" "plans" "[LLibraryDesk$Plan;") (by decide +kernel)) (fun _ h9 => h9) rfl dX2_wants_23 ?_
      refine lv_iload_n hx hb dX2_wants_26 rfl (lv_at hl 1 rfl) ?_
      refine wr_aldq (q := ad (2 + 3 * c1)) hx hb hw 1 (by omega) 3 et1 rfl (vp_in_nI (by omega) (by decide)) (by rw [(nI_clamp (by omega))]; exact hgt1 c1 hc) dX2_wants_27 ?_
      refine wr_get (ci := 2) (C := RX1) (T := TX1) (N := 6) hx hb hts iRX1 hown hw (2 + 3 * c1) (by omega) p0u7 rfl 0 (by decide) (hts (.fieldLink RX2 41 "LibraryDesk$Plan" "wanted" "I") (by decide +kernel)) (fun _ h9 => h9) rfl dX2_wants_28 ?_
      refine lv_istore_n (lv' := [(3, .int ((pl c1).1)), (0, .ref (ad 0)), (1, .int (nI c1)), (2, .int kd)]) hx hb dX2_wants_31 rfl hl (by decide) rfl (fun ls hl => ?_)
      refine lv_aload_n hx hb dX2_wants_32 rfl (lv_at hl 1 rfl) ?_
      refine wr_get (ci := 3) (C := RX2) (T := TX2) (N := 13) hx hb hts iRX2 hown hw 0 (by omega) dt1 rfl 0 (by decide) (hts (.fieldLink RX2 11 "LibraryDesk" "plans" "[LLibraryDesk$Plan;") (by decide +kernel)) (fun _ h9 => h9) rfl dX2_wants_33 ?_
      refine lv_iload_n hx hb dX2_wants_36 rfl (lv_at hl 2 rfl) ?_
      refine wr_aldq (q := ad (2 + 3 * c1)) hx hb hw 1 (by omega) 3 et1 rfl (vp_in_nI (by omega) (by decide)) (by rw [(nI_clamp (by omega))]; exact hgt1 c1 hc) dX2_wants_37 ?_
      refine lv_iload_n hx hb dX2_wants_38 rfl (lv_at hl 3 rfl) ?_
      refine wr_put (ci := 2) (v := .int kd) (ty := .int) (C := RX1) (T := TX1) (N := 6) hx hb hts iRX1 tyX1 tyX1_ok nmX1 hown hw (2 + 3 * c1) (by omega) p0u7 rfl 0 (by decide) (hts (.fieldLink RX2 41 "LibraryDesk$Plan" "wanted" "I") (by decide +kernel)) (fun _ h9 => h9) rfl (by decide +kernel) rfl rfl (Nat.le_of_ble_eq_true rfl) dX2_wants_39 (fun en9 H locs hE8 hw => ?_)
      have he10 : en9 0 = .inr (3, [.ref (ad 1), .ref (ad nb), .ref (ad tb), .long ta, .int tw, .int tp, .int (cs 0), .int (cs 1), .int (cs 2), .int (cs 3), .int (cs 4), .int (cs 5), .int (cs 6)]) := w_ne hE8 (by omega) dt1
      have he11 : en9 1 = .inl (q.2.2.2, 10, .inr (.inr (.inr (.inr gt1)))) := w_ne hE8 (by omega) et1
      have he12 : en9 nb = .inr (1, [.ref (ad (nb + 1)), .ref (ad (nb + 2)), .ref (ad (nb + 3)), .ref (ad (nb + 4)), .int (nI (aCn A))]) := w_ne hE8 (by omega) n0t1
      have he13 : en9 (nb + 1) = .inl (q.1, 8, .inl mft1) := w_ne hE8 (by omega) n1t1
      have he14 : en9 (nb + 2) = .inl (q.2.1, 8, .inr (.inl vht1)) := w_ne hE8 (by omega) n2t1
      have he15 : en9 (nb + 3) = .inl (q.2.1, 8, .inr (.inl tft1)) := w_ne hE8 (by omega) n3t1
      have he16 : en9 (nb + 4) = .inl (q.2.1, 20, .inr (.inl vft1)) := w_ne hE8 (by omega) n4t1
      have he17 : en9 (2 + 3 * c1) = .inr (2, [.int kd, .int (nI (pl c1).2.1), .ref (ad (2 + 3 * c1 + 1)), .ref (ad (2 + 3 * c1 + 2)), .int ((pl c1).2.2.2.2.1), .int ((pl c1).2.2.2.2.2)]) := w_self hE8
      have he18 : en9 (2 + 3 * c1 + 1) = .inl (q.1, 6, .inl sfu7) := w_ne hE8 (by omega) p1u7
      have he19 : en9 (2 + 3 * c1 + 2) = .inl (q.1, 6, .inl kfu7) := w_ne hE8 (by omega) p2u7
      refine lv_iload_n hx hb dX2_wants_42 rfl (lv_at hl 0 rfl) ?_
      refine we_i hx hb hr hlocks hw ?_ dX2_wants_43
      have hS := sWants_ok (pl := pl) hc hkd
      refine ⟨hS.1.symm, ?_, fun j hj => w_fr hE8 (by omega)⟩
      rw [hS.2]
      exact ⟨nb, tb, Z, ta, tw, tp, DeskC_plan hC hc ⟨_, _, he17, he18, he19, p3u7⟩ (fun j hj => w_fr hE8 (by omega))⟩
    · refine lv_iload_n hx hb dX2_wants_12 rfl (lv_at hl 2 rfl) ?_
      refine wc_i hw (va_runS (As := [.int kd]) (rest := []) ⟨hx, hb, hml, hown, hts⟩ (kX2_isKind l dC dI q ad en n _ kd) (va_cwS 1 hts gX2_wants_X2_isKind rfl rfl rfl (by decide +kernel) ⟨Nat.le_of_ble_eq_true rfl, Nat.le_of_ble_eq_true rfl⟩) (wk_preS hw) rfl rfl hl.1 rfl (lv_room (Nat.le_of_ble_eq_true rfl)) dX2_wants_13 ⟨Nat.le_refl _, Nat.le_refl _⟩) (fun r20 en22 H locs hp21 hw => ?_)
      obtain ⟨hr23, hn24⟩ := hp21
      rw [hn24] at hw
      clear hn24
      refine lv_if_ne (tgt := 22) hx hb dX2_wants_16 (by decide) (fun c16 => ?_) (fun c16 => ?_)
      · have hkd : kd = -1 ∨ okK kd := Or.inr (z01_t hr23 c16)
        obtain ⟨sfu25, kfu25, p0u25, p1u25, p2u25, p3u25⟩ := id (hpt1 c1 hc)
        refine lv_aload_n hx hb dX2_wants_22 rfl (lv_at hl 0 rfl) ?_
        refine wr_get (ci := 3) (C := RX2) (T := TX2) (N := 13) hx hb hts iRX2 hown hw 0 (by omega) dt1 rfl 0 (by decide) (hts (.fieldLink RX2 11 "LibraryDesk" "plans" "[LLibraryDesk$Plan;") (by decide +kernel)) (fun _ h9 => h9) rfl dX2_wants_23 ?_
        refine lv_iload_n hx hb dX2_wants_26 rfl (lv_at hl 1 rfl) ?_
        refine wr_aldq (q := ad (2 + 3 * c1)) hx hb hw 1 (by omega) 3 et1 rfl (vp_in_nI (by omega) (by decide)) (by rw [(nI_clamp (by omega))]; exact hgt1 c1 hc) dX2_wants_27 ?_
        refine wr_get (ci := 2) (C := RX1) (T := TX1) (N := 6) hx hb hts iRX1 hown hw (2 + 3 * c1) (by omega) p0u25 rfl 0 (by decide) (hts (.fieldLink RX2 41 "LibraryDesk$Plan" "wanted" "I") (by decide +kernel)) (fun _ h9 => h9) rfl dX2_wants_28 ?_
        refine lv_istore_n (lv' := [(3, .int ((pl c1).1)), (0, .ref (ad 0)), (1, .int (nI c1)), (2, .int kd)]) hx hb dX2_wants_31 rfl hl (by decide) rfl (fun ls hl => ?_)
        refine lv_aload_n hx hb dX2_wants_32 rfl (lv_at hl 1 rfl) ?_
        refine wr_get (ci := 3) (C := RX2) (T := TX2) (N := 13) hx hb hts iRX2 hown hw 0 (by omega) dt1 rfl 0 (by decide) (hts (.fieldLink RX2 11 "LibraryDesk" "plans" "[LLibraryDesk$Plan;") (by decide +kernel)) (fun _ h9 => h9) rfl dX2_wants_33 ?_
        refine lv_iload_n hx hb dX2_wants_36 rfl (lv_at hl 2 rfl) ?_
        refine wr_aldq (q := ad (2 + 3 * c1)) hx hb hw 1 (by omega) 3 et1 rfl (vp_in_nI (by omega) (by decide)) (by rw [(nI_clamp (by omega))]; exact hgt1 c1 hc) dX2_wants_37 ?_
        refine lv_iload_n hx hb dX2_wants_38 rfl (lv_at hl 3 rfl) ?_
        refine wr_put (ci := 2) (v := .int kd) (ty := .int) (C := RX1) (T := TX1) (N := 6) hx hb hts iRX1 tyX1 tyX1_ok nmX1 hown hw (2 + 3 * c1) (by omega) p0u25 rfl 0 (by decide) (hts (.fieldLink RX2 41 "LibraryDesk$Plan" "wanted" "I") (by decide +kernel)) (fun _ h9 => h9) rfl (by decide +kernel) rfl rfl (Nat.le_of_ble_eq_true rfl) dX2_wants_39 (fun en27 H locs hE26 hw => ?_)
        have he28 : en27 0 = .inr (3, [.ref (ad 1), .ref (ad nb), .ref (ad tb), .long ta, .int tw, .int tp, .int (cs 0), .int (cs 1), .int (cs 2), .int (cs 3), .int (cs 4), .int (cs 5), .int (cs 6)]) := w_ne hE26 (by omega) dt1
        have he29 : en27 1 = .inl (q.2.2.2, 10, .inr (.inr (.inr (.inr gt1)))) := w_ne hE26 (by omega) et1
        have he30 : en27 nb = .inr (1, [.ref (ad (nb + 1)), .ref (ad (nb + 2)), .ref (ad (nb + 3)), .ref (ad (nb + 4)), .int (nI (aCn A))]) := w_ne hE26 (by omega) n0t1
        have he31 : en27 (nb + 1) = .inl (q.1, 8, .inl mft1) := w_ne hE26 (by omega) n1t1
        have he32 : en27 (nb + 2) = .inl (q.2.1, 8, .inr (.inl vht1)) := w_ne hE26 (by omega) n2t1
        have he33 : en27 (nb + 3) = .inl (q.2.1, 8, .inr (.inl tft1)) := w_ne hE26 (by omega) n3t1
        have he34 : en27 (nb + 4) = .inl (q.2.1, 20, .inr (.inl vft1)) := w_ne hE26 (by omega) n4t1
        have he35 : en27 (2 + 3 * c1) = .inr (2, [.int kd, .int (nI (pl c1).2.1), .ref (ad (2 + 3 * c1 + 1)), .ref (ad (2 + 3 * c1 + 2)), .int ((pl c1).2.2.2.2.1), .int ((pl c1).2.2.2.2.2)]) := w_self hE26
        have he36 : en27 (2 + 3 * c1 + 1) = .inl (q.1, 6, .inl sfu25) := w_ne hE26 (by omega) p1u25
        have he37 : en27 (2 + 3 * c1 + 2) = .inl (q.1, 6, .inl kfu25) := w_ne hE26 (by omega) p2u25
        refine lv_iload_n hx hb dX2_wants_42 rfl (lv_at hl 0 rfl) ?_
        refine we_i hx hb hr hlocks hw ?_ dX2_wants_43
        have hS := sWants_ok (pl := pl) hc hkd
        refine ⟨hS.1.symm, ?_, fun j hj => w_fr hE26 (by omega)⟩
        rw [hS.2]
        exact ⟨nb, tb, Z, ta, tw, tp, DeskC_plan hC hc ⟨_, _, he35, he36, he37, p3u25⟩ (fun j hj => w_fr hE26 (by omega))⟩
      · have hkd : ¬ (kd = -1 ∨ okK kd) := fun h => h.elim c9 (z01_f hr23 c16)
        refine lv_bipush (v := (-2)) hx hb dX2_wants_19 (by decide) ?_
        refine we_i hx hb hr hlocks hw ?_ dX2_wants_21
        have hS := sWants_no (pl := pl) (c := nI c1) (kd := kd) (fun h => hkd h.2)
        exact ⟨hS.1.symm, by rw [hS.2]; exact ⟨nb, tb, Z, ta, tw, tp, hC⟩, fun j hj => rfl⟩

set_option maxHeartbeats 4000000 in
set_option maxRecDepth 100000 in
theorem kX2_act (l : Launch) (dC : Nat → ClassId) (dI : Nat → Nat → Nat) (q : ClassId × ClassId × ClassId × ClassId) (ad : Nat → Nat) (en : Nat → va_E) (n sz : Nat) (hn42 : 42 ≤ n) (A : Ast) (pl : Nat → Pst) (cs : Nat → Int32) (hok : Aok A) (hpok : ∀ i, i < 10 → Pok (pl i)) (hD : DeskAt q ad en A pl cs) (cv so kd : Int32) :
    Met l yX2_act wsX2_act ({ frames := 1, cells := 0, slots := 0, locals := 22 }) (wPc (dC, dI) vwCl (wT q) ad en n sz [.ref (ad 0), .int cv, .int so, .int kd]) (va_Qi (fun (r : Int32) (en' : Nat → va_E) => r = sActR cv so kd pl ∧ DeskAt q ad en' A (sAct cv so kd pl) cs ∧ ∀ j, 42 ≤ j → en' j = en j) (wB (dC, dI) vwCl (wT q) ad n (wA ad n sz)) (wA ad n sz)) 0 0 (wA ad n sz) := by
  refine Met.ofW (cc := cX2_act) (maxL := 4) (ret := (some .int)) (by decide) rfl ?_
  intro p e s m args below meth c s₁ B hml hv
  obtain ⟨rfl, hsz, hP, hK, hD0, hE0⟩ := hv
  have hx := B.exec
  have hb := B.bytes
  have hr := B.returns
  have hts := atoms_spec (ws := wsX2_act) B.pre
  have hown : s.vm.findClass RX2 = some m.cls := findClass_of_methodNamed B.named
  have hlocks := B.notSynchronized
  have iRX2 : ∀ w ∈ u_ws RX2 TX2 13, w ∈ wsX2_act := by decide +kernel
  have iRX1 : ∀ w ∈ u_ws RX1 TX1 6, w ∈ wsX2_act := by decide +kernel
  subst hsz
  have hw := wk_of hP hK hD0 hE0
  generalize wA ad n s.heap.size = AA at hw ⊢
  have hl := lv_entry ([.ref (ad 0), .int cv, .int so, .int kd]) (n := 4) (Nat.le_of_ble_eq_true rfl)
  rw [lg_entry_eq]
  generalize (lg_sl ([.ref (ad 0), .int cv, .int so, .int kd]) ++ List.replicate (4 - (lg_sl ([.ref (ad 0), .int cv, .int so, .int kd])).length) Slot.unset).toArray = ls at hl ⊢
  have hl : lv_has ls 4 [(0, .ref (ad 0)), (1, .int cv), (2, .int so), (3, .int kd)] := hl
  obtain ⟨nb, tb, Z, ta, tw, tp, hC⟩ := hD
  obtain ⟨hntt1, dt1, ⟨gt1, et1, hgt1⟩, hpt1, hNt1, hTt1⟩ := id hC
  obtain ⟨mft1, vht1, tft1, vft1, n0t1, n1t1, n2t1, n3t1, n4t1, hRt1⟩ := id hNt1
  have hnt := hntt1
  refine lv_iload_n hx hb dX2_act_0 rfl (lv_at hl 1 rfl) ?_
  refine wc_i hw (va_runS (As := [.int cv]) (rest := []) ⟨hx, hb, hml, hown, hts⟩ (kX2_isCall l dC dI q ad en n _ cv) (va_cwS 1 hts gX2_act_X2_isCall rfl rfl rfl (by decide +kernel) ⟨Nat.le_of_ble_eq_true rfl, Nat.le_of_ble_eq_true rfl⟩) (wk_preS hw) rfl rfl hl.1 rfl (lv_room (Nat.le_of_ble_eq_true rfl)) dX2_act_1 ⟨Nat.le_refl _, Nat.le_refl _⟩) (fun r2 en4 H locs hp3 hw => ?_)
  obtain ⟨hr5, hn6⟩ := hp3
  rw [hn6] at hw
  clear hn6
  refine lv_if_eq (tgt := 21) hx hb dX2_act_4 (by decide) (fun c4 => ?_) (fun c4 => ?_)
  · have hcv := z01_f hr5 c4
    refine lv_iconst (v := (-1)) hx hb dX2_act_21 (by decide) ?_
    refine we_i hx hb hr hlocks hw ?_ dX2_act_22
    have hS := sAct_no (pl := pl) (c := cv) (so := so) (kd := kd) (fun h => hcv h.1)
    exact ⟨hS.1.symm, by rw [hS.2]; exact ⟨nb, tb, Z, ta, tw, tp, hC⟩, fun j hj => rfl⟩
  · have hcv := z01_t hr5 c4
    obtain ⟨c1, hc, ecv⟩ := okC_of hcv
    subst ecv
    refine lv_iload_n hx hb dX2_act_7 rfl (lv_at hl 2 rfl) ?_
    refine wc_i hw (va_runS (As := [.int so]) (rest := []) ⟨hx, hb, hml, hown, hts⟩ (kX2_isSort l dC dI q ad en n _ so) (va_cwS 1 hts gX2_act_X2_isSort rfl rfl rfl (by decide +kernel) ⟨Nat.le_of_ble_eq_true rfl, Nat.le_of_ble_eq_true rfl⟩) (wk_preS hw) rfl rfl hl.1 rfl (lv_room (Nat.le_of_ble_eq_true rfl)) dX2_act_8 ⟨Nat.le_refl _, Nat.le_refl _⟩) (fun r7 en9 H locs hp8 hw => ?_)
    obtain ⟨hr10, hn11⟩ := hp8
    rw [hn11] at hw
    clear hn11
    refine lv_if_eq (tgt := 21) hx hb dX2_act_11 (by decide) (fun c11 => ?_) (fun c11 => ?_)
    · have hso := z01_f hr10 c11
      refine lv_iconst (v := (-1)) hx hb dX2_act_21 (by decide) ?_
      refine we_i hx hb hr hlocks hw ?_ dX2_act_22
      have hS := sAct_no (pl := pl) (c := nI c1) (so := so) (kd := kd) (fun h => hso h.2.1)
      exact ⟨hS.1.symm, by rw [hS.2]; exact ⟨nb, tb, Z, ta, tw, tp, hC⟩, fun j hj => rfl⟩
    · have hso := z01_t hr10 c11
      refine lv_iload_n hx hb dX2_act_14 rfl (lv_at hl 3 rfl) ?_
      refine wc_i hw (va_runS (As := [.int kd]) (rest := []) ⟨hx, hb, hml, hown, hts⟩ (kX2_isKind l dC dI q ad en n _ kd) (va_cwS 1 hts gX2_act_X2_isKind rfl rfl rfl (by decide +kernel) ⟨Nat.le_of_ble_eq_true rfl, Nat.le_of_ble_eq_true rfl⟩) (wk_preS hw) rfl rfl hl.1 rfl (lv_room (Nat.le_of_ble_eq_true rfl)) dX2_act_15 ⟨Nat.le_refl _, Nat.le_refl _⟩) (fun r12 en14 H locs hp13 hw => ?_)
      obtain ⟨hr15, hn16⟩ := hp13
      rw [hn16] at hw
      clear hn16
      refine lv_if_ne (tgt := 23) hx hb dX2_act_18 (by decide) (fun c18 => ?_) (fun c18 => ?_)
      · have hkd := z01_t hr15 c18
        obtain ⟨sfu17, kfu17, p0u17, p1u17, p2u17, p3u17⟩ := id (hpt1 c1 hc)
        refine lv_aload_n hx hb dX2_act_23 rfl (lv_at hl 0 rfl) ?_
        refine wr_get (ci := 3) (C := RX2) (T := TX2) (N := 13) hx hb hts iRX2 hown hw 0 (by omega) dt1 rfl 0 (by decide) (hts (.fieldLink RX2 11 "LibraryDesk" "plans" "[LLibraryDesk$Plan;") (by decide +kernel)) (fun _ h9 => h9) rfl dX2_act_24 ?_
        refine lv_iload_n hx hb dX2_act_27 rfl (lv_at hl 1 rfl) ?_
        refine wr_aldq (q := ad (2 + 3 * c1)) hx hb hw 1 (by omega) 3 et1 rfl (vp_in_nI (by omega) (by decide)) (by rw [(nI_clamp (by omega))]; exact hgt1 c1 hc) dX2_act_28 ?_
        refine lv_iload_n hx hb dX2_act_29 rfl (lv_at hl 2 rfl) ?_
        refine lv_iload_n hx hb dX2_act_30 rfl (lv_at hl 3 rfl) ?_
        refine wc_i hw (va_runV (As := [.int so, .int kd]) (rest := []) ⟨hx, hb, hml, hown, hts⟩ (kX1_addAct l dC dI q ad en n _ (2 + 3 * c1) (by omega) (pl c1) (hpt1 c1 hc) (hpok c1 hc).1 so kd) (cwV 2 hts gX2_act_X1_addAct rfl rfl rfl (by decide +kernel) ⟨Nat.le_of_ble_eq_true rfl, Nat.le_of_ble_eq_true rfl⟩) (wk_preV hw (by omega) p0u17 rfl) rfl rfl hl.1 rfl (lv_room (Nat.le_of_ble_eq_true rfl)) dX2_act_31 ⟨Nat.le_refl _, Nat.le_refl _⟩) (fun r18 en20 H locs hp19 hw => ?_)
        obtain ⟨hr1, hP1, hfr1⟩ := hp19
        have hC1 := DeskC_plan hC hc hP1 hfr1
        obtain ⟨-, dt21, ⟨gt21, et21, hgt21⟩, hpt21, hNt21, hTt21⟩ := id hC1
        obtain ⟨mft21, vht21, tft21, vft21, n0t21, n1t21, n2t21, n3t21, n4t21, hRt21⟩ := id hNt21
        obtain ⟨sfu22, kfu22, p0u22, p1u22, p2u22, p3u22⟩ := id hP1
        refine lv_if_eq (tgt := 49) hx hb dX2_act_34 (by decide) (fun c34 => ?_) (fun c34 => ?_)
        · refine lv_iconst (v := (-1)) hx hb dX2_act_49 (by decide) ?_
          refine we_i hx hb hr hlocks hw ?_ dX2_act_50
          have hS := sAct_ok (pl := pl) hc ⟨hso, hkd⟩
          refine ⟨?_, by rw [hS.2]; exact ⟨nb, tb, Z, ta, tw, tp, hC1⟩, fun j hj => hfr1 j (by omega)⟩
          rw [hS.1]
          rw [if_neg (z01_f hr1 c34)]
        · refine lv_aload_n hx hb dX2_act_37 rfl (lv_at hl 0 rfl) ?_
          refine wr_get (ci := 3) (C := RX2) (T := TX2) (N := 13) hx hb hts iRX2 hown hw 0 (by omega) dt21 rfl 0 (by decide) (hts (.fieldLink RX2 11 "LibraryDesk" "plans" "[LLibraryDesk$Plan;") (by decide +kernel)) (fun _ h9 => h9) rfl dX2_act_38 ?_
          refine lv_iload_n hx hb dX2_act_41 rfl (lv_at hl 1 rfl) ?_
          refine wr_aldq (q := ad (2 + 3 * c1)) hx hb hw 1 (by omega) 3 et21 rfl (vp_in_nI (by omega) (by decide)) (by rw [(nI_clamp (by omega))]; exact hgt21 c1 hc) dX2_act_42 ?_
          refine wr_get (ci := 2) (C := RX1) (T := TX1) (N := 6) hx hb hts iRX1 hown hw (2 + 3 * c1) (by omega) p0u22 rfl 1 (by decide) (hts (.fieldLink RX2 51 "LibraryDesk$Plan" "actCount" "I") (by decide +kernel)) (fun _ h9 => h9) rfl dX2_act_43 ?_
          refine lv_goto (tgt := 50) hx hb dX2_act_46 (by decide) ?_
          refine we_i hx hb hr hlocks hw ?_ dX2_act_50
          have hS := sAct_ok (pl := pl) hc ⟨hso, hkd⟩
          refine ⟨?_, by rw [hS.2]; exact ⟨nb, tb, Z, ta, tw, tp, hC1⟩, fun j hj => hfr1 j (by omega)⟩
          rw [hS.1]
          rw [if_pos (z01_t hr1 c34), pAdd_cn (z01_t hr1 c34)]
      · have hkd := z01_f hr15 c18
        refine lv_iconst (v := (-1)) hx hb dX2_act_21 (by decide) ?_
        refine we_i hx hb hr hlocks hw ?_ dX2_act_22
        have hS := sAct_no (pl := pl) (c := nI c1) (so := so) (kd := kd) (fun h => hkd h.2.2)
        exact ⟨hS.1.symm, by rw [hS.2]; exact ⟨nb, tb, Z, ta, tw, tp, hC⟩, fun j hj => rfl⟩

set_option maxHeartbeats 4000000 in
set_option maxRecDepth 100000 in
theorem kX2_fails (l : Launch) (dC : Nat → ClassId) (dI : Nat → Nat → Nat) (q : ClassId × ClassId × ClassId × ClassId) (ad : Nat → Nat) (en : Nat → va_E) (n sz : Nat) (hn42 : 42 ≤ n) (A : Ast) (pl : Nat → Pst) (cs : Nat → Int32) (hok : Aok A) (hpok : ∀ i, i < 10 → Pok (pl i)) (hD : DeskAt q ad en A pl cs) (cv i x : Int32) :
    Met l yX2_fails wsX2_fails ({ frames := 1, cells := 0, slots := 0, locals := 22 }) (wPc (dC, dI) vwCl (wT q) ad en n sz [.ref (ad 0), .int cv, .int i, .int x]) (va_Qi (fun (r : Int32) (en' : Nat → va_E) => r = sFailsR cv i x ∧ DeskAt q ad en' A (sFails cv i x pl) cs ∧ ∀ j, 42 ≤ j → en' j = en j) (wB (dC, dI) vwCl (wT q) ad n (wA ad n sz)) (wA ad n sz)) 0 0 (wA ad n sz) := by
  refine Met.ofW (cc := cX2_fails) (maxL := 4) (ret := (some .int)) (by decide) rfl ?_
  intro p e s m args below meth c s₁ B hml hv
  obtain ⟨rfl, hsz, hP, hK, hD0, hE0⟩ := hv
  have hx := B.exec
  have hb := B.bytes
  have hr := B.returns
  have hts := atoms_spec (ws := wsX2_fails) B.pre
  have hown : s.vm.findClass RX2 = some m.cls := findClass_of_methodNamed B.named
  have hlocks := B.notSynchronized
  have iRX2 : ∀ w ∈ u_ws RX2 TX2 13, w ∈ wsX2_fails := by decide +kernel
  have iRX1 : ∀ w ∈ u_ws RX1 TX1 6, w ∈ wsX2_fails := by decide +kernel
  subst hsz
  have hw := wk_of hP hK hD0 hE0
  generalize wA ad n s.heap.size = AA at hw ⊢
  have hl := lv_entry ([.ref (ad 0), .int cv, .int i, .int x]) (n := 4) (Nat.le_of_ble_eq_true rfl)
  rw [lg_entry_eq]
  generalize (lg_sl ([.ref (ad 0), .int cv, .int i, .int x]) ++ List.replicate (4 - (lg_sl ([.ref (ad 0), .int cv, .int i, .int x])).length) Slot.unset).toArray = ls at hl ⊢
  have hl : lv_has ls 4 [(0, .ref (ad 0)), (1, .int cv), (2, .int i), (3, .int x)] := hl
  obtain ⟨nb, tb, Z, ta, tw, tp, hC⟩ := hD
  obtain ⟨hntt1, dt1, ⟨gt1, et1, hgt1⟩, hpt1, hNt1, hTt1⟩ := id hC
  obtain ⟨mft1, vht1, tft1, vft1, n0t1, n1t1, n2t1, n3t1, n4t1, hRt1⟩ := id hNt1
  have hnt := hntt1
  refine lv_iload_n hx hb dX2_fails_0 rfl (lv_at hl 1 rfl) ?_
  refine wc_i hw (va_runS (As := [.int cv]) (rest := []) ⟨hx, hb, hml, hown, hts⟩ (kX2_isCall l dC dI q ad en n _ cv) (va_cwS 1 hts gX2_fails_X2_isCall rfl rfl rfl (by decide +kernel) ⟨Nat.le_of_ble_eq_true rfl, Nat.le_of_ble_eq_true rfl⟩) (wk_preS hw) rfl rfl hl.1 rfl (lv_room (Nat.le_of_ble_eq_true rfl)) dX2_fails_1 ⟨Nat.le_refl _, Nat.le_refl _⟩) (fun r2 en4 H locs hp3 hw => ?_)
  obtain ⟨hr5, hn6⟩ := hp3
  rw [hn6] at hw
  clear hn6
  refine lv_if_eq (tgt := 27) hx hb dX2_fails_4 (by decide) (fun c4 => ?_) (fun c4 => ?_)
  · have hcv := z01_f hr5 c4
    refine lv_iconst (v := 0) hx hb dX2_fails_27 (by decide) ?_
    refine we_i hx hb hr hlocks hw ?_ dX2_fails_28
    have hS := sFails_no (pl := pl) (c := cv) (i := i) (x := x) (fun h => hcv h.1)
    exact ⟨hS.1.symm, by rw [hS.2]; exact ⟨nb, tb, Z, ta, tw, tp, hC⟩, fun j hj => rfl⟩
  · have hcv := z01_t hr5 c4
    obtain ⟨c1, hc, ecv⟩ := okC_of hcv
    subst ecv
    refine lv_iload_n hx hb dX2_fails_7 rfl (lv_at hl 2 rfl) ?_
    refine lv_if_lt (tgt := 27) hx hb dX2_fails_8 (by decide) (fun c8 => ?_) (fun c8 => ?_)
    · refine lv_iconst (v := 0) hx hb dX2_fails_27 (by decide) ?_
      refine we_i hx hb hr hlocks hw ?_ dX2_fails_28
      have hS := sFails_no (pl := pl) (c := nI c1) (i := i) (x := x) (fun h => absurd c8 (Int32.not_lt.mpr h.2.1.1))
      exact ⟨hS.1.symm, by rw [hS.2]; exact ⟨nb, tb, Z, ta, tw, tp, hC⟩, fun j hj => rfl⟩
    · refine lv_iload_n hx hb dX2_fails_11 rfl (lv_at hl 2 rfl) ?_
      refine lv_bipush (v := 6) hx hb dX2_fails_12 (by decide) ?_
      refine lv_icmp_ge (tgt := 27) hx hb dX2_fails_14 (by decide) (fun c14 => ?_) (fun c14 => ?_)
      · refine lv_iconst (v := 0) hx hb dX2_fails_27 (by decide) ?_
        refine we_i hx hb hr hlocks hw ?_ dX2_fails_28
        have hS := sFails_no (pl := pl) (c := nI c1) (i := i) (x := x) (fun h => absurd h.2.1.2 (Int32.not_lt.mpr c14))
        exact ⟨hS.1.symm, by rw [hS.2]; exact ⟨nb, tb, Z, ta, tw, tp, hC⟩, fun j hj => rfl⟩
      · refine lv_iload_n hx hb dX2_fails_17 rfl (lv_at hl 3 rfl) ?_
        refine lv_iconst (v := 1) hx hb dX2_fails_18 (by decide) ?_
        refine lv_icmp_lt (tgt := 27) hx hb dX2_fails_19 (by decide) (fun c19 => ?_) (fun c19 => ?_)
        · refine lv_iconst (v := 0) hx hb dX2_fails_27 (by decide) ?_
          refine we_i hx hb hr hlocks hw ?_ dX2_fails_28
          have hS := sFails_no (pl := pl) (c := nI c1) (i := i) (x := x) (fun h => absurd c19 (Int32.not_lt.mpr h.2.2.1))
          exact ⟨hS.1.symm, by rw [hS.2]; exact ⟨nb, tb, Z, ta, tw, tp, hC⟩, fun j hj => rfl⟩
        · refine lv_iload_n hx hb dX2_fails_22 rfl (lv_at hl 3 rfl) ?_
          refine lv_iconst (v := 5) hx hb dX2_fails_23 (by decide) ?_
          refine lv_icmp_le (tgt := 29) hx hb dX2_fails_24 (by decide) (fun c24 => ?_) (fun c24 => ?_)
          · obtain ⟨sfu7, kfu7, p0u7, p1u7, p2u7, p3u7⟩ := id (hpt1 c1 hc)
            refine lv_aload_n hx hb dX2_fails_29 rfl (lv_at hl 0 rfl) ?_
            refine wr_get (ci := 3) (C := RX2) (T := TX2) (N := 13) hx hb hts iRX2 hown hw 0 (by omega) dt1 rfl 0 (by decide) (hts (.fieldLink RX2 11 "LibraryDesk" "plans" "[LLibraryDesk$Plan;") (by decide +kernel)) (fun _ h9 => h9) rfl dX2_fails_30 ?_
            refine lv_iload_n hx hb dX2_fails_33 rfl (lv_at hl 1 rfl) ?_
            refine wr_aldq (q := ad (2 + 3 * c1)) hx hb hw 1 (by omega) 3 et1 rfl (vp_in_nI (by omega) (by decide)) (by rw [(nI_clamp (by omega))]; exact hgt1 c1 hc) dX2_fails_34 ?_
            refine lv_iload_n hx hb dX2_fails_35 rfl (lv_at hl 2 rfl) ?_
            refine lv_iload_n hx hb dX2_fails_36 rfl (lv_at hl 3 rfl) ?_
            refine wc_v hw (va_runV (As := [.int i, .int x]) (rest := []) ⟨hx, hb, hml, hown, hts⟩ (kX1_tellToFail l dC dI q ad en n _ (2 + 3 * c1) (by omega) (pl c1) (hpt1 c1 hc) i x) (cwV 2 hts gX2_fails_X1_tellToFail rfl rfl rfl (by decide +kernel) ⟨Nat.le_of_ble_eq_true rfl, Nat.le_of_ble_eq_true rfl⟩) (wk_preV hw (by omega) p0u7 rfl) rfl rfl hl.1 rfl (lv_room (Nat.le_of_ble_eq_true rfl)) dX2_fails_37 ⟨Nat.le_refl _, Nat.le_refl _⟩) (fun en10 H locs hp9 hw => ?_)
            obtain ⟨hP1, hfr1⟩ := hp9
            have hC1 := DeskC_plan hC hc hP1 hfr1
            obtain ⟨-, dt11, ⟨gt11, et11, hgt11⟩, hpt11, hNt11, hTt11⟩ := id hC1
            obtain ⟨mft11, vht11, tft11, vft11, n0t11, n1t11, n2t11, n3t11, n4t11, hRt11⟩ := id hNt11
            obtain ⟨sfu12, kfu12, p0u12, p1u12, p2u12, p3u12⟩ := id hP1
            refine lv_iconst (v := 1) hx hb dX2_fails_40 (by decide) ?_
            refine we_i hx hb hr hlocks hw ?_ dX2_fails_41
            have hS := sFails_ok (pl := pl) hc ⟨⟨Int32.not_lt.mp c8, Int32.not_le.mp c14⟩, Int32.not_lt.mp c19, c24⟩
            exact ⟨hS.1.symm, by rw [hS.2]; exact ⟨nb, tb, Z, ta, tw, tp, hC1⟩, fun j hj => hfr1 j (by omega)⟩
          · refine lv_iconst (v := 0) hx hb dX2_fails_27 (by decide) ?_
            refine we_i hx hb hr hlocks hw ?_ dX2_fails_28
            have hS := sFails_no (pl := pl) (c := nI c1) (i := i) (x := x) (fun h => c24 h.2.2.2)
            exact ⟨hS.1.symm, by rw [hS.2]; exact ⟨nb, tb, Z, ta, tw, tp, hC⟩, fun j hj => rfl⟩

set_option maxHeartbeats 4000000 in
set_option maxRecDepth 100000 in
theorem kX2_make (l : Launch) (dC : Nat → ClassId) (dI : Nat → Nat → Nat) (q : ClassId × ClassId × ClassId × ClassId) (ad : Nat → Nat) (en : Nat → va_E) (n sz : Nat) (hn42 : 42 ≤ n) (A : Ast) (pl : Nat → Pst) (cs : Nat → Int32) (hok : Aok A) (hpok : ∀ i, i < 10 → Pok (pl i)) (hD : DeskAt q ad en A pl cs) (kd : Int32) :
    Met l yX2_make wsX2_make ({ frames := 1, cells := 0, slots := 0, locals := 21 }) (wPc (dC, dI) vwCl (wT q) ad en n sz [.ref (ad 0), .int kd]) (va_Qi (fun (r : Int32) (en' : Nat → va_E) => r = sMakeR kd A ∧ DeskAt q ad en' (sMake kd A) pl cs ∧ ∀ j, 42 ≤ j → en' j = en j) (wB (dC, dI) vwCl (wT q) ad n (wA ad n sz)) (wA ad n sz)) 0 0 (wA ad n sz) := by
  refine Met.ofW (cc := cX2_make) (maxL := 2) (ret := (some .int)) (by decide) rfl ?_
  intro p e s m args below meth c s₁ B hml hv
  obtain ⟨rfl, hsz, hP, hK, hD0, hE0⟩ := hv
  have hx := B.exec
  have hb := B.bytes
  have hr := B.returns
  have hts := atoms_spec (ws := wsX2_make) B.pre
  have hown : s.vm.findClass RX2 = some m.cls := findClass_of_methodNamed B.named
  have hlocks := B.notSynchronized
  have iRX2 : ∀ w ∈ u_ws RX2 TX2 13, w ∈ wsX2_make := by decide +kernel
  have iRX0 : ∀ w ∈ u_ws RX0 TX0 5, w ∈ wsX2_make := by decide +kernel
  subst hsz
  have hw := wk_of hP hK hD0 hE0
  generalize wA ad n s.heap.size = AA at hw ⊢
  have hl := lv_entry ([.ref (ad 0), .int kd]) (n := 2) (Nat.le_of_ble_eq_true rfl)
  rw [lg_entry_eq]
  generalize (lg_sl ([.ref (ad 0), .int kd]) ++ List.replicate (2 - (lg_sl ([.ref (ad 0), .int kd])).length) Slot.unset).toArray = ls at hl ⊢
  have hl : lv_has ls 2 [(0, .ref (ad 0)), (1, .int kd)] := hl
  obtain ⟨nb, tb, Z, ta, tw, tp, hC⟩ := hD
  obtain ⟨hntt1, dt1, ⟨gt1, et1, hgt1⟩, hpt1, hNt1, hTt1⟩ := id hC
  obtain ⟨mft1, vht1, tft1, vft1, n0t1, n1t1, n2t1, n3t1, n4t1, hRt1⟩ := id hNt1
  have hnt := hntt1
  refine lv_iload_n hx hb dX2_make_0 rfl (lv_at hl 1 rfl) ?_
  refine wc_i hw (va_runS (As := [.int kd]) (rest := []) ⟨hx, hb, hml, hown, hts⟩ (kX2_isKind l dC dI q ad en n _ kd) (va_cwS 1 hts gX2_make_X2_isKind rfl rfl rfl (by decide +kernel) ⟨Nat.le_of_ble_eq_true rfl, Nat.le_of_ble_eq_true rfl⟩) (wk_preS hw) rfl rfl hl.1 rfl (lv_room (Nat.le_of_ble_eq_true rfl)) dX2_make_1 ⟨Nat.le_refl _, Nat.le_refl _⟩) (fun r2 en4 H locs hp3 hw => ?_)
  obtain ⟨hr5, hn6⟩ := hp3
  rw [hn6] at hw
  clear hn6
  refine lv_if_eq (tgt := 18) hx hb dX2_make_4 (by decide) (fun c4 => ?_) (fun c4 => ?_)
  · have hkd := z01_f hr5 c4
    refine lv_iconst (v := (-1)) hx hb dX2_make_18 (by decide) ?_
    refine we_i hx hb hr hlocks hw ?_ dX2_make_19
    have hS := sMake_no (A := A) hkd
    exact ⟨hS.1.symm, by rw [hS.2]; exact ⟨nb, tb, Z, ta, tw, tp, hC⟩, fun j hj => rfl⟩
  · have hkd := z01_t hr5 c4
    obtain ⟨k, hk, ekd⟩ := okK_of hkd
    subst ekd
    refine lv_aload_n hx hb dX2_make_7 rfl (lv_at hl 0 rfl) ?_
    refine wr_get (ci := 3) (C := RX2) (T := TX2) (N := 13) hx hb hts iRX2 hown hw 0 (by omega) dt1 rfl 1 (by decide) (hts (.fieldLink RX2 19 "LibraryDesk" "now" "LLibraryDesk$Holdings;") (by decide +kernel)) (fun _ h9 => h9) rfl dX2_make_8 ?_
    refine lv_iload_n hx hb dX2_make_11 rfl (lv_at hl 1 rfl) ?_
    refine wc_i hw (va_runV (As := [.int (nI k)]) (rest := []) ⟨hx, hb, hml, hown, hts⟩ (kX0_makeNumber l dC dI q ad en n _ nb (by omega) A hok hNt1 k hk) (cwV 1 hts gX2_make_X0_makeNumber rfl rfl rfl (by decide +kernel) ⟨Nat.le_of_ble_eq_true rfl, Nat.le_of_ble_eq_true rfl⟩) (wk_preV hw (by omega) n0t1 rfl) rfl rfl hl.1 rfl (lv_room (Nat.le_of_ble_eq_true rfl)) dX2_make_12 ⟨Nat.le_refl _, Nat.le_refl _⟩) (fun r7 en9 H locs hp8 hw => ?_)
    obtain ⟨hr1, hH1, hfr1⟩ := hp8
    have hC1 := DeskC_now hC hH1 hfr1
    obtain ⟨-, dt10, ⟨gt10, et10, hgt10⟩, hpt10, hNt10, hTt10⟩ := id hC1
    obtain ⟨mft10, vht10, tft10, vft10, n0t10, n1t10, n2t10, n3t10, n4t10, hRt10⟩ := id hNt10
    refine lv_if_ne (tgt := 20) hx hb dX2_make_15 (by decide) (fun c15 => ?_) (fun c15 => ?_)
    · refine lv_aload_n hx hb dX2_make_20 rfl (lv_at hl 0 rfl) ?_
      refine wr_get (ci := 3) (C := RX2) (T := TX2) (N := 13) hx hb hts iRX2 hown hw 0 (by omega) dt10 rfl 1 (by decide) (hts (.fieldLink RX2 19 "LibraryDesk" "now" "LLibraryDesk$Holdings;") (by decide +kernel)) (fun _ h9 => h9) rfl dX2_make_21 ?_
      refine wr_get (ci := 1) (C := RX0) (T := TX0) (N := 5) hx hb hts iRX0 hown hw nb (by omega) n0t10 rfl 0 (by decide) (hts (.fieldLink RX2 61 "LibraryDesk$Holdings" "made" "[I") (by decide +kernel)) (fun _ h9 => h9) rfl dX2_make_24 ?_
      refine lv_iload_n hx hb dX2_make_27 rfl (lv_at hl 1 rfl) ?_
      refine wr_iald (v := nI (aMd (aMake k A) k)) hx hb hw (nb + 1) (by omega) 0 n1t10 rfl (vp_in_nI (by omega) (by decide)) (by rw [(nI_clamp (by omega))]; exact (hRt10.1 k hk).1) dX2_make_28 ?_
      refine we_i hx hb hr hlocks hw ?_ dX2_make_29
      have hS := sMake_ok (A := A) hk
      exact ⟨by rw [hS.1, if_pos (z01_t hr1 c15), aMd_make (z01_t hr1 c15)], by rw [hS.2]; exact ⟨nb, tb, Z, ta, tw, tp, hC1⟩, fun j hj => hfr1 j (by omega)⟩
    · refine lv_iconst (v := (-1)) hx hb dX2_make_18 (by decide) ?_
      refine we_i hx hb hr hlocks hw ?_ dX2_make_19
      have hS := sMake_ok (A := A) hk
      exact ⟨by rw [hS.1, if_neg (z01_f hr1 c15)], by rw [hS.2]; exact ⟨nb, tb, Z, ta, tw, tp, hC1⟩, fun j hj => hfr1 j (by omega)⟩

set_option maxHeartbeats 4000000 in
set_option maxRecDepth 100000 in
theorem kX2_drop (l : Launch) (dC : Nat → ClassId) (dI : Nat → Nat → Nat) (q : ClassId × ClassId × ClassId × ClassId) (ad : Nat → Nat) (en : Nat → va_E) (n sz : Nat) (hn42 : 42 ≤ n) (A : Ast) (pl : Nat → Pst) (cs : Nat → Int32) (hok : Aok A) (hpok : ∀ i, i < 10 → Pok (pl i)) (hD : DeskAt q ad en A pl cs) (kd z : Int32) :
    Met l yX2_drop wsX2_drop ({ frames := 3, cells := 0, slots := 0, locals := 64 }) (wPc (dC, dI) vwCl (wT q) ad en n sz [.ref (ad 0), .int kd, .int z]) (va_Qi (fun (r : Int32) (en' : Nat → va_E) => r = (if aIs kd z A = true then 1 else 0) ∧ DeskAt q ad en' (aDropI kd z A) pl cs ∧ ∀ j, 42 ≤ j → en' j = en j) (wB (dC, dI) vwCl (wT q) ad n (wA ad n sz)) (wA ad n sz)) 0 0 (wA ad n sz) := by
  refine Met.ofW (cc := cX2_drop) (maxL := 3) (ret := (some .boolean)) (by decide) rfl ?_
  intro p e s m args below meth c s₁ B hml hv
  obtain ⟨rfl, hsz, hP, hK, hD0, hE0⟩ := hv
  have hx := B.exec
  have hb := B.bytes
  have hr := B.returns
  have hts := atoms_spec (ws := wsX2_drop) B.pre
  have hown : s.vm.findClass RX2 = some m.cls := findClass_of_methodNamed B.named
  have hlocks := B.notSynchronized
  have iRX2 : ∀ w ∈ u_ws RX2 TX2 13, w ∈ wsX2_drop := by decide +kernel
  subst hsz
  have hw := wk_of hP hK hD0 hE0
  generalize wA ad n s.heap.size = AA at hw ⊢
  have hl := lv_entry ([.ref (ad 0), .int kd, .int z]) (n := 3) (Nat.le_of_ble_eq_true rfl)
  rw [lg_entry_eq]
  generalize (lg_sl ([.ref (ad 0), .int kd, .int z]) ++ List.replicate (3 - (lg_sl ([.ref (ad 0), .int kd, .int z])).length) Slot.unset).toArray = ls at hl ⊢
  have hl : lv_has ls 3 [(0, .ref (ad 0)), (1, .int kd), (2, .int z)] := hl
  obtain ⟨nb, tb, Z, ta, tw, tp, hC⟩ := hD
  obtain ⟨hntt1, dt1, ⟨gt1, et1, hgt1⟩, hpt1, hNt1, hTt1⟩ := id hC
  obtain ⟨mft1, vht1, tft1, vft1, n0t1, n1t1, n2t1, n3t1, n4t1, hRt1⟩ := id hNt1
  have hnt := hntt1
  refine lv_aload_n hx hb dX2_drop_0 rfl (lv_at hl 0 rfl) ?_
  refine wr_get (ci := 3) (C := RX2) (T := TX2) (N := 13) hx hb hts iRX2 hown hw 0 (by omega) dt1 rfl 1 (by decide) (hts (.fieldLink RX2 19 "LibraryDesk" "now" "LLibraryDesk$Holdings;") (by decide +kernel)) (fun _ h9 => h9) rfl dX2_drop_1 ?_
  refine lv_iload_n hx hb dX2_drop_4 rfl (lv_at hl 1 rfl) ?_
  refine lv_iload_n hx hb dX2_drop_5 rfl (lv_at hl 2 rfl) ?_
  refine wc_i hw (va_runV (As := [.int kd, .int z]) (rest := []) ⟨hx, hb, hml, hown, hts⟩ (kX0_dropNumber l dC dI q ad en n _ nb (by omega) A hok hNt1 kd z) (cwV 2 hts gX2_drop_X0_dropNumber rfl rfl rfl (by decide +kernel) ⟨Nat.le_of_ble_eq_true rfl, Nat.le_of_ble_eq_true rfl⟩) (wk_preV hw (by omega) n0t1 rfl) rfl rfl hl.1 rfl (lv_room (Nat.le_of_ble_eq_true rfl)) dX2_drop_6 ⟨Nat.le_refl _, Nat.le_refl _⟩) (fun r2 en4 H locs hp3 hw => ?_)
  obtain ⟨hr1, hH1, hfr1⟩ := hp3
  have hC1 := DeskC_now hC hH1 hfr1
  obtain ⟨-, dt5, ⟨gt5, et5, hgt5⟩, hpt5, hNt5, hTt5⟩ := id hC1
  obtain ⟨mft5, vht5, tft5, vft5, n0t5, n1t5, n2t5, n3t5, n4t5, hRt5⟩ := id hNt5
  refine we_z hx hb hr hlocks hw (z01_r hr1) ?_ dX2_drop_9
  exact ⟨hr1, ⟨nb, tb, Z, ta, tw, tp, hC1⟩, fun j hj => hfr1 j (by omega)⟩

set_option maxHeartbeats 4000000 in
set_option maxRecDepth 100000 in
theorem kX2_here (l : Launch) (dC : Nat → ClassId) (dI : Nat → Nat → Nat) (q : ClassId × ClassId × ClassId × ClassId) (ad : Nat → Nat) (en : Nat → va_E) (n sz : Nat) (hn42 : 42 ≤ n) (A : Ast) (pl : Nat → Pst) (cs : Nat → Int32) (hok : Aok A) (hpok : ∀ i, i < 10 → Pok (pl i)) (hD : DeskAt q ad en A pl cs) (kd z : Int32) :
    Met l yX2_here wsX2_here ({ frames := 2, cells := 0, slots := 0, locals := 42 }) (wPc (dC, dI) vwCl (wT q) ad en n sz [.ref (ad 0), .int kd, .int z]) (va_Qi (fun (r : Int32) (en' : Nat → va_E) => r = (if aIs kd z A = true then 1 else 0) ∧ en' = en) (wB (dC, dI) vwCl (wT q) ad n (wA ad n sz)) (wA ad n sz)) 0 0 (wA ad n sz) := by
  refine Met.ofW (cc := cX2_here) (maxL := 3) (ret := (some .boolean)) (by decide) rfl ?_
  intro p e s m args below meth c s₁ B hml hv
  obtain ⟨rfl, hsz, hP, hK, hD0, hE0⟩ := hv
  have hx := B.exec
  have hb := B.bytes
  have hr := B.returns
  have hts := atoms_spec (ws := wsX2_here) B.pre
  have hown : s.vm.findClass RX2 = some m.cls := findClass_of_methodNamed B.named
  have hlocks := B.notSynchronized
  have iRX2 : ∀ w ∈ u_ws RX2 TX2 13, w ∈ wsX2_here := by decide +kernel
  subst hsz
  have hw := wk_of hP hK hD0 hE0
  generalize wA ad n s.heap.size = AA at hw ⊢
  have hl := lv_entry ([.ref (ad 0), .int kd, .int z]) (n := 3) (Nat.le_of_ble_eq_true rfl)
  rw [lg_entry_eq]
  generalize (lg_sl ([.ref (ad 0), .int kd, .int z]) ++ List.replicate (3 - (lg_sl ([.ref (ad 0), .int kd, .int z])).length) Slot.unset).toArray = ls at hl ⊢
  have hl : lv_has ls 3 [(0, .ref (ad 0)), (1, .int kd), (2, .int z)] := hl
  obtain ⟨nb, tb, Z, ta, tw, tp, hC⟩ := hD
  obtain ⟨hntt1, dt1, ⟨gt1, et1, hgt1⟩, hpt1, hNt1, hTt1⟩ := id hC
  obtain ⟨mft1, vht1, tft1, vft1, n0t1, n1t1, n2t1, n3t1, n4t1, hRt1⟩ := id hNt1
  have hnt := hntt1
  refine lv_aload_n hx hb dX2_here_0 rfl (lv_at hl 0 rfl) ?_
  refine wr_get (ci := 3) (C := RX2) (T := TX2) (N := 13) hx hb hts iRX2 hown hw 0 (by omega) dt1 rfl 1 (by decide) (hts (.fieldLink RX2 19 "LibraryDesk" "now" "LLibraryDesk$Holdings;") (by decide +kernel)) (fun _ h9 => h9) rfl dX2_here_1 ?_
  refine lv_iload_n hx hb dX2_here_4 rfl (lv_at hl 1 rfl) ?_
  refine lv_iload_n hx hb dX2_here_5 rfl (lv_at hl 2 rfl) ?_
  refine wc_i hw (va_runV (As := [.int kd, .int z]) (rest := []) ⟨hx, hb, hml, hown, hts⟩ (kX0_isHere l dC dI q ad en n _ nb (by omega) A hok hNt1 kd z) (cwV 2 hts gX2_here_X0_isHere rfl rfl rfl (by decide +kernel) ⟨Nat.le_of_ble_eq_true rfl, Nat.le_of_ble_eq_true rfl⟩) (wk_preV hw (by omega) n0t1 rfl) rfl rfl hl.1 rfl (lv_room (Nat.le_of_ble_eq_true rfl)) dX2_here_6 ⟨Nat.le_refl _, Nat.le_refl _⟩) (fun r2 en4 H locs hp3 hw => ?_)
  obtain ⟨hr5, hn6⟩ := hp3
  rw [hn6] at hw
  clear hn6
  have hr1 := hr5
  refine we_z hx hb hr hlocks hw (z01_r hr1) ?_ dX2_here_9
  exact ⟨hr1, rfl⟩

set_option maxHeartbeats 4000000 in
set_option maxRecDepth 100000 in
theorem kX2_numbers (l : Launch) (dC : Nat → ClassId) (dI : Nat → Nat → Nat) (q : ClassId × ClassId × ClassId × ClassId) (ad : Nat → Nat) (en : Nat → va_E) (n sz : Nat) (hn42 : 42 ≤ n) (A : Ast) (pl : Nat → Pst) (cs : Nat → Int32) (hok : Aok A) (hpok : ∀ i, i < 10 → Pok (pl i)) (hD : DeskAt q ad en A pl cs) (kd : Int32) :
    Met l yX2_numbers wsX2_numbers ({ frames := 2, cells := 0, slots := 0, locals := 42 }) (wPc (dC, dI) vwCl (wT q) ad en n sz [.ref (ad 0), .int kd]) (va_Qi (fun (r : Int32) (en' : Nat → va_E) => r = sNumR kd A ∧ en' = en) (wB (dC, dI) vwCl (wT q) ad n (wA ad n sz)) (wA ad n sz)) 0 0 (wA ad n sz) := by
  refine Met.ofW (cc := cX2_numbers) (maxL := 2) (ret := (some .int)) (by decide) rfl ?_
  intro p e s m args below meth c s₁ B hml hv
  obtain ⟨rfl, hsz, hP, hK, hD0, hE0⟩ := hv
  have hx := B.exec
  have hb := B.bytes
  have hr := B.returns
  have hts := atoms_spec (ws := wsX2_numbers) B.pre
  have hown : s.vm.findClass RX2 = some m.cls := findClass_of_methodNamed B.named
  have hlocks := B.notSynchronized
  have iRX2 : ∀ w ∈ u_ws RX2 TX2 13, w ∈ wsX2_numbers := by decide +kernel
  subst hsz
  have hw := wk_of hP hK hD0 hE0
  generalize wA ad n s.heap.size = AA at hw ⊢
  have hl := lv_entry ([.ref (ad 0), .int kd]) (n := 2) (Nat.le_of_ble_eq_true rfl)
  rw [lg_entry_eq]
  generalize (lg_sl ([.ref (ad 0), .int kd]) ++ List.replicate (2 - (lg_sl ([.ref (ad 0), .int kd])).length) Slot.unset).toArray = ls at hl ⊢
  have hl : lv_has ls 2 [(0, .ref (ad 0)), (1, .int kd)] := hl
  obtain ⟨nb, tb, Z, ta, tw, tp, hC⟩ := hD
  obtain ⟨hntt1, dt1, ⟨gt1, et1, hgt1⟩, hpt1, hNt1, hTt1⟩ := id hC
  obtain ⟨mft1, vht1, tft1, vft1, n0t1, n1t1, n2t1, n3t1, n4t1, hRt1⟩ := id hNt1
  have hnt := hntt1
  refine lv_iload_n hx hb dX2_numbers_0 rfl (lv_at hl 1 rfl) ?_
  refine wc_i hw (va_runS (As := [.int kd]) (rest := []) ⟨hx, hb, hml, hown, hts⟩ (kX2_isKind l dC dI q ad en n _ kd) (va_cwS 1 hts gX2_numbers_X2_isKind rfl rfl rfl (by decide +kernel) ⟨Nat.le_of_ble_eq_true rfl, Nat.le_of_ble_eq_true rfl⟩) (wk_preS hw) rfl rfl hl.1 rfl (lv_room (Nat.le_of_ble_eq_true rfl)) dX2_numbers_1 ⟨Nat.le_refl _, Nat.le_refl _⟩) (fun r2 en4 H locs hp3 hw => ?_)
  obtain ⟨hr5, hn6⟩ := hp3
  rw [hn6] at hw
  clear hn6
  refine lv_if_eq (tgt := 18) hx hb dX2_numbers_4 (by decide) (fun c4 => ?_) (fun c4 => ?_)
  · have hkd := z01_f hr5 c4
    refine lv_iconst (v := (-1)) hx hb dX2_numbers_18 (by decide) ?_
    refine we_i hx hb hr hlocks hw ?_ dX2_numbers_19
    exact ⟨by unfold sNumR; rw [if_neg hkd], rfl⟩
  · have hkd := z01_t hr5 c4
    obtain ⟨k, hk, ekd⟩ := okK_of hkd
    subst ekd
    refine lv_aload_n hx hb dX2_numbers_7 rfl (lv_at hl 0 rfl) ?_
    refine wr_get (ci := 3) (C := RX2) (T := TX2) (N := 13) hx hb hts iRX2 hown hw 0 (by omega) dt1 rfl 1 (by decide) (hts (.fieldLink RX2 19 "LibraryDesk" "now" "LLibraryDesk$Holdings;") (by decide +kernel)) (fun _ h9 => h9) rfl dX2_numbers_8 ?_
    refine lv_iload_n hx hb dX2_numbers_11 rfl (lv_at hl 1 rfl) ?_
    refine wc_i hw (va_runV (As := [.int (nI k)]) (rest := []) ⟨hx, hb, hml, hown, hts⟩ (kX0_countHere l dC dI q ad en n _ nb (by omega) A hok hNt1 k hk) (cwV 1 hts gX2_numbers_X0_countHere rfl rfl rfl (by decide +kernel) ⟨Nat.le_of_ble_eq_true rfl, Nat.le_of_ble_eq_true rfl⟩) (wk_preV hw (by omega) n0t1 rfl) rfl rfl hl.1 rfl (lv_room (Nat.le_of_ble_eq_true rfl)) dX2_numbers_12 ⟨Nat.le_refl _, Nat.le_refl _⟩) (fun r7 en9 H locs hp8 hw => ?_)
    obtain ⟨hr10, hn11⟩ := hp8
    rw [hn11] at hw
    clear hn11
    have hr1 := hr10
    refine lv_goto (tgt := 19) hx hb dX2_numbers_15 (by decide) ?_
    refine we_i hx hb hr hlocks hw ?_ dX2_numbers_19
    exact ⟨by rw [sNum_ok hk, hr1], rfl⟩

set_option maxHeartbeats 4000000 in
set_option maxRecDepth 100000 in
theorem kX2_tally (l : Launch) (dC : Nat → ClassId) (dI : Nat → Nat → Nat) (q : ClassId × ClassId × ClassId × ClassId) (ad : Nat → Nat) (en : Nat → va_E) (n sz : Nat) (hn42 : 42 ≤ n) (A : Ast) (pl : Nat → Pst) (cs : Nat → Int32) (hok : Aok A) (hpok : ∀ i, i < 10 → Pok (pl i)) (hD : DeskAt q ad en A pl cs) (kd : Int32) :
    Met l yX2_tally wsX2_tally ({ frames := 1, cells := 0, slots := 0, locals := 20 }) (wPc (dC, dI) vwCl (wT q) ad en n sz [.ref (ad 0), .int kd]) (va_Ql (fun (r : Int64) (en' : Nat → va_E) => r = sTalR kd A ∧ en' = en) (wB (dC, dI) vwCl (wT q) ad n (wA ad n sz)) (wA ad n sz)) 0 0 (wA ad n sz) := by
  refine Met.ofW (cc := cX2_tally) (maxL := 2) (ret := (some .long)) (by decide) rfl ?_
  intro p e s m args below meth c s₁ B hml hv
  obtain ⟨rfl, hsz, hP, hK, hD0, hE0⟩ := hv
  have hx := B.exec
  have hb := B.bytes
  have hr := B.returns
  have hts := atoms_spec (ws := wsX2_tally) B.pre
  have hown : s.vm.findClass RX2 = some m.cls := findClass_of_methodNamed B.named
  have hlocks := B.notSynchronized
  have iRX2 : ∀ w ∈ u_ws RX2 TX2 13, w ∈ wsX2_tally := by decide +kernel
  have iRX0 : ∀ w ∈ u_ws RX0 TX0 5, w ∈ wsX2_tally := by decide +kernel
  subst hsz
  have hw := wk_of hP hK hD0 hE0
  generalize wA ad n s.heap.size = AA at hw ⊢
  have hl := lv_entry ([.ref (ad 0), .int kd]) (n := 2) (Nat.le_of_ble_eq_true rfl)
  rw [lg_entry_eq]
  generalize (lg_sl ([.ref (ad 0), .int kd]) ++ List.replicate (2 - (lg_sl ([.ref (ad 0), .int kd])).length) Slot.unset).toArray = ls at hl ⊢
  have hl : lv_has ls 2 [(0, .ref (ad 0)), (1, .int kd)] := hl
  obtain ⟨nb, tb, Z, ta, tw, tp, hC⟩ := hD
  obtain ⟨hntt1, dt1, ⟨gt1, et1, hgt1⟩, hpt1, hNt1, hTt1⟩ := id hC
  obtain ⟨mft1, vht1, tft1, vft1, n0t1, n1t1, n2t1, n3t1, n4t1, hRt1⟩ := id hNt1
  have hnt := hntt1
  refine lv_iload_n hx hb dX2_tally_0 rfl (lv_at hl 1 rfl) ?_
  refine wc_i hw (va_runS (As := [.int kd]) (rest := []) ⟨hx, hb, hml, hown, hts⟩ (kX2_isKind l dC dI q ad en n _ kd) (va_cwS 1 hts gX2_tally_X2_isKind rfl rfl rfl (by decide +kernel) ⟨Nat.le_of_ble_eq_true rfl, Nat.le_of_ble_eq_true rfl⟩) (wk_preS hw) rfl rfl hl.1 rfl (lv_room (Nat.le_of_ble_eq_true rfl)) dX2_tally_1 ⟨Nat.le_refl _, Nat.le_refl _⟩) (fun r2 en4 H locs hp3 hw => ?_)
  obtain ⟨hr5, hn6⟩ := hp3
  rw [hn6] at hw
  clear hn6
  refine lv_if_eq (tgt := 19) hx hb dX2_tally_4 (by decide) (fun c4 => ?_) (fun c4 => ?_)
  · have hkd := z01_f hr5 c4
    refine lv_lconst (v := 0) hx hb dX2_tally_19 (by decide) ?_
    refine we_l hx hb hr hlocks hw ?_ dX2_tally_20
    exact ⟨by unfold sTalR; rw [if_neg hkd], rfl⟩
  · have hkd := z01_t hr5 c4
    obtain ⟨k, hk, ekd⟩ := okK_of hkd
    subst ekd
    refine lv_aload_n hx hb dX2_tally_7 rfl (lv_at hl 0 rfl) ?_
    refine wr_get (ci := 3) (C := RX2) (T := TX2) (N := 13) hx hb hts iRX2 hown hw 0 (by omega) dt1 rfl 1 (by decide) (hts (.fieldLink RX2 19 "LibraryDesk" "now" "LLibraryDesk$Holdings;") (by decide +kernel)) (fun _ h9 => h9) rfl dX2_tally_8 ?_
    refine wr_get (ci := 1) (C := RX0) (T := TX0) (N := 5) hx hb hts iRX0 hown hw nb (by omega) n0t1 rfl 2 (by decide) (hts (.fieldLink RX2 120 "LibraryDesk$Holdings" "tallies" "[J") (by decide +kernel)) (fun _ h9 => h9) rfl dX2_tally_11 ?_
    refine lv_iload_n hx hb dX2_tally_14 rfl (lv_at hl 1 rfl) ?_
    refine wr_lald (v := aTl A k) hx hb hw (nb + 3) (by omega) 1 n3t1 rfl (vp_in_nI (by omega) (by decide)) (by rw [(nI_clamp (by omega))]; exact (hRt1.1 k hk).2.1) dX2_tally_15 ?_
    refine lv_goto (tgt := 20) hx hb dX2_tally_16 (by decide) ?_
    refine we_l hx hb hr hlocks hw ?_ dX2_tally_20
    exact ⟨(sTal_ok hk).symm, rfl⟩
end
section
theorem sTold_ok {k : Nat} {cs : Nat → Int32} (hk : k < 7) : sToldR (nI k) cs = cs k := by
  unfold sToldR
  have h : 0 ≤ nI k ∧ nI k < 7 := ⟨nI_pos' (by omega), nI_lt (b := 7) hk (by decide)⟩
  rw [if_pos h, nI_clamp (by omega)]
theorem told_out {x : Int32} (h : ¬ (0 ≤ x ∧ x < nI 7)) : x.toInt < 0 ∨ 6 < x.toInt := by
  rcases (show x.toInt < 0 ∨ 0 ≤ x.toInt by omega) with h1 | h1
  · exact Or.inl h1
  · refine Or.inr ?_
    rcases (show 6 < x.toInt ∨ x.toInt ≤ 6 by omega) with h2 | h2
    · exact h2
    · exact absurd ⟨Int32.le_iff_toInt_le.mpr (by simpa using h1), Int32.lt_iff_toInt_lt.mpr (by rw [nI_toInt (by decide)]; omega)⟩ h
theorem sRef_ok {c : Nat} {z : Int32} {A : Ast} {pl : Nat → Pst} (hc : c < 10) : sRef (nI c) z A pl ↔ (¬ (pl c).1 = -1 ∧ ¬ aIs (pl c).1 z A = true) := by
  unfold sRef
  rw [nI_clamp (by omega)]
  constructor
  · intro h
    exact h.resolve_left (fun w => w (okC_nI hc))
  · exact Or.inr
theorem aDo_0 {P : Pst} {i k : Nat} {z : Int32} {a x : Int64} {A : Ast} (hs : P.2.2.1 i = nI 0) (hk : P.2.2.2.1 i = nI k) (hk8 : k < 8) : aDo P i z a A x = (if aMd A k < 40 then 0 else 6, aMake k A, x) := by
  unfold aDo
  rw [hs, hk, nI_clamp (by omega), if_pos (show nI 0 = 0 by decide)]
theorem aDo_1 {P : Pst} {i k : Nat} {z : Int32} {a x : Int64} {A : Ast} (hs : P.2.2.1 i = nI 1) (hk : P.2.2.2.1 i = nI k) (hk8 : k < 8) : aDo P i z a A x = (if gr (aHr A k) 40 = 0 then (7, A, x) else (0, aDrop k (gr (aHr A k) 40) A, x)) := by
  unfold aDo
  rw [hs, hk, nI_clamp (by omega), if_neg (show ¬ nI 1 = 0 by decide), if_pos (show nI 1 = 1 by decide)]
theorem aDo_2 {P : Pst} {i k : Nat} {z : Int32} {a x : Int64} {A : Ast} (hs : P.2.2.1 i = nI 2) (hk : P.2.2.2.1 i = nI k) (hk8 : k < 8) : aDo P i z a A x = (0, aGrow k a A, x) := by
  unfold aDo
  rw [hs, hk, nI_clamp (by omega), if_neg (show ¬ nI 2 = 0 by decide), if_neg (show ¬ nI 2 = 1 by decide), if_pos (show nI 2 = 2 by decide)]
theorem aDo_3 {P : Pst} {i k : Nat} {z : Int32} {a x : Int64} {A : Ast} (hs : P.2.2.1 i = nI 3) (hk : P.2.2.2.1 i = nI k) (hk8 : k < 8) : aDo P i z a A x = (if 0 < aCn A then 0 else 8, aTake k A, x) := by
  unfold aDo
  rw [hs, hk, nI_clamp (by omega), if_neg (show ¬ nI 3 = 0 by decide), if_neg (show ¬ nI 3 = 1 by decide), if_neg (show ¬ nI 3 = 2 by decide), if_pos (show nI 3 = 3 by decide)]
theorem aDo_4 {P : Pst} {i k : Nat} {z : Int32} {a x : Int64} {A : Ast} (hs : P.2.2.1 i = nI 4) (hk : P.2.2.2.1 i = nI k) (hk8 : k < 8) : aDo P i z a A x = (0, A, 31 * x + aTl A k) := by
  unfold aDo
  rw [hs, hk, nI_clamp (by omega), if_neg (show ¬ nI 4 = 0 by decide), if_neg (show ¬ nI 4 = 1 by decide), if_neg (show ¬ nI 4 = 2 by decide), if_neg (show ¬ nI 4 = 3 by decide), if_pos (show nI 4 = 4 by decide)]
theorem aDo_5 {P : Pst} {i k : Nat} {z : Int32} {a x : Int64} {A : Ast} (hs : P.2.2.1 i = nI 5) (hk : P.2.2.2.1 i = nI k) (hk8 : k < 8) : aDo P i z a A x = (0, A, 31 * x + (nI (cn (aHr A k) 40)).toInt64) := by
  unfold aDo
  rw [hs, hk, nI_clamp (by omega), if_neg (show ¬ nI 5 = 0 by decide), if_neg (show ¬ nI 5 = 1 by decide), if_neg (show ¬ nI 5 = 2 by decide), if_neg (show ¬ nI 5 = 3 by decide), if_neg (show ¬ nI 5 = 4 by decide), if_pos (show nI 5 = 5 by decide)]
theorem aDo_6 {P : Pst} {i k : Nat} {z : Int32} {a x : Int64} {A : Ast} (hs : P.2.2.1 i = nI 6) : aDo P i z a A x = (if aIs P.1 z A = true then 0 else 7, aDropI P.1 z A, x) := by
  unfold aDo
  rw [hs, if_neg (show ¬ nI 6 = 0 by decide), if_neg (show ¬ nI 6 = 1 by decide), if_neg (show ¬ nI 6 = 2 by decide), if_neg (show ¬ nI 6 = 3 by decide), if_neg (show ¬ nI 6 = 4 by decide), if_neg (show ¬ nI 6 = 5 by decide)]
theorem drop_gr {k : Nat} {A : Ast} {r : Int32} (hk : k < 8) (hr : r = (if gr (aHr A k) 40 = 0 then -1 else nI (gr (aHr A k) 40))) : (aIs (nI k) r A = true ↔ ¬ gr (aHr A k) 40 = 0) ∧ (¬ gr (aHr A k) 40 = 0 → aDropI (nI k) r A = aDrop k (gr (aHr A k) 40) A) := by
  have hle := gr_le (aHr A k) 40
  by_cases h : gr (aHr A k) 40 = 0
  · rw [if_pos h] at hr
    refine ⟨⟨fun w => ?_, fun w => absurd h w⟩, fun w => absurd h w⟩
    rw [hr, aIs_z (by decide)] at w
    cases w
  · rw [if_neg h] at hr
    have hi := gr_is (aHr A k) 40 (by omega)
    have e : aIs (nI k) r A = true := by rw [hr, aIs_nI hk (by omega) hle]; exact hi
    exact ⟨⟨fun _ => h, fun _ => e⟩, fun _ => by rw [hr]; exact aDropI_nI hk (by omega) hle hi⟩
set_option maxHeartbeats 4000000 in
set_option maxRecDepth 100000 in
theorem kX2_told (l : Launch) (dC : Nat → ClassId) (dI : Nat → Nat → Nat) (q : ClassId × ClassId × ClassId × ClassId) (ad : Nat → Nat) (en : Nat → va_E) (n sz : Nat) (hn42 : 42 ≤ n) (A : Ast) (pl : Nat → Pst) (cs : Nat → Int32) (hok : Aok A) (hpok : ∀ i, i < 10 → Pok (pl i)) (hD : DeskAt q ad en A pl cs) (x : Int32) :
    Met l yX2_told wsX2_told ({ frames := 0, cells := 0, slots := 0, locals := 0 }) (wPc (dC, dI) vwCl (wT q) ad en n sz [.ref (ad 0), .int x]) (va_Qi (fun (r : Int32) (en' : Nat → va_E) => r = sToldR x cs ∧ en' = en) (wB (dC, dI) vwCl (wT q) ad n (wA ad n sz)) (wA ad n sz)) 0 0 (wA ad n sz) := by
  refine Met.ofW (cc := cX2_told) (maxL := 2) (ret := (some .int)) (by decide) rfl ?_
  intro p e s m args below meth c s₁ B hml hv
  obtain ⟨rfl, hsz, hP, hK, hD0, hE0⟩ := hv
  have hx := B.exec
  have hb := B.bytes
  have hr := B.returns
  have hts := atoms_spec (ws := wsX2_told) B.pre
  have hown : s.vm.findClass RX2 = some m.cls := findClass_of_methodNamed B.named
  have hlocks := B.notSynchronized
  have iRX2 : ∀ w ∈ u_ws RX2 TX2 13, w ∈ wsX2_told := by decide +kernel
  subst hsz
  have hw := wk_of hP hK hD0 hE0
  generalize wA ad n s.heap.size = AA at hw ⊢
  have hl := lv_entry ([.ref (ad 0), .int x]) (n := 2) (Nat.le_of_ble_eq_true rfl)
  rw [lg_entry_eq]
  generalize (lg_sl ([.ref (ad 0), .int x]) ++ List.replicate (2 - (lg_sl ([.ref (ad 0), .int x])).length) Slot.unset).toArray = ls at hl ⊢
  have hl : lv_has ls 2 [(0, .ref (ad 0)), (1, .int x)] := hl
  obtain ⟨nb, tb, Z, ta, tw, tp, hC⟩ := hD
  obtain ⟨hntt1, dt1, ⟨gt1, et1, hgt1⟩, hpt1, hNt1, hTt1⟩ := id hC
  obtain ⟨mft1, vht1, tft1, vft1, n0t1, n1t1, n2t1, n3t1, n4t1, hRt1⟩ := id hNt1
  have hnt := hntt1
  refine lv_iload_n hx hb dX2_told_0 rfl (lv_at hl 1 rfl) ?_
  rcases kd_cases x (n := 7) (by decide) with ⟨k, hk, rfl⟩ | hno
  · rcases (show k = 0 ∨ k = 1 ∨ k = 2 ∨ k = 3 ∨ k = 4 ∨ k = 5 ∨ k = 6 by omega) with rfl | rfl | rfl | rfl | rfl | rfl | rfl
    · refine lv_tableIn (off := 43) (tgt := 44) hx hb dX2_told_1 (by decide) (by decide) (by decide) (by decide) ?_
      refine lv_aload_n hx hb dX2_told_44 rfl (lv_at hl 0 rfl) ?_
      refine wr_get (ci := 3) (C := RX2) (T := TX2) (N := 13) hx hb hts iRX2 hown hw 0 (by omega) dt1 rfl 6 (by decide) (hts (.fieldLink RX2 91 "LibraryDesk" "answeredCalls" "I") (by decide +kernel)) (fun _ h9 => h9) rfl dX2_told_45 ?_
      refine we_i hx hb hr hlocks hw ?_ dX2_told_48
      exact ⟨(sTold_ok (k := 0) (by decide)).symm, rfl⟩
    · refine lv_tableIn (off := 48) (tgt := 49) hx hb dX2_told_1 (by decide) (by decide) (by decide) (by decide) ?_
      refine lv_aload_n hx hb dX2_told_49 rfl (lv_at hl 0 rfl) ?_
      refine wr_get (ci := 3) (C := RX2) (T := TX2) (N := 13) hx hb hts iRX2 hown hw 0 (by omega) dt1 rfl 7 (by decide) (hts (.fieldLink RX2 71 "LibraryDesk" "refusedCalls" "I") (by decide +kernel)) (fun _ h9 => h9) rfl dX2_told_50 ?_
      refine we_i hx hb hr hlocks hw ?_ dX2_told_53
      exact ⟨(sTold_ok (k := 1) (by decide)).symm, rfl⟩
    · refine lv_tableIn (off := 53) (tgt := 54) hx hb dX2_told_1 (by decide) (by decide) (by decide) (by decide) ?_
      refine lv_aload_n hx hb dX2_told_54 rfl (lv_at hl 0 rfl) ?_
      refine wr_get (ci := 3) (C := RX2) (T := TX2) (N := 13) hx hb hts iRX2 hown hw 0 (by omega) dt1 rfl 8 (by decide) (hts (.fieldLink RX2 98 "LibraryDesk" "failedCalls" "I") (by decide +kernel)) (fun _ h9 => h9) rfl dX2_told_55 ?_
      refine we_i hx hb hr hlocks hw ?_ dX2_told_58
      exact ⟨(sTold_ok (k := 2) (by decide)).symm, rfl⟩
    · refine lv_tableIn (off := 58) (tgt := 59) hx hb dX2_told_1 (by decide) (by decide) (by decide) (by decide) ?_
      refine lv_aload_n hx hb dX2_told_59 rfl (lv_at hl 0 rfl) ?_
      refine wr_get (ci := 3) (C := RX2) (T := TX2) (N := 13) hx hb hts iRX2 hown hw 0 (by omega) dt1 rfl 9 (by decide) (hts (.fieldLink RX2 101 "LibraryDesk" "lastFailedWith" "I") (by decide +kernel)) (fun _ h9 => h9) rfl dX2_told_60 ?_
      refine we_i hx hb hr hlocks hw ?_ dX2_told_63
      exact ⟨(sTold_ok (k := 3) (by decide)).symm, rfl⟩
    · refine lv_tableIn (off := 63) (tgt := 64) hx hb dX2_told_1 (by decide) (by decide) (by decide) (by decide) ?_
      refine lv_aload_n hx hb dX2_told_64 rfl (lv_at hl 0 rfl) ?_
      refine wr_get (ci := 3) (C := RX2) (T := TX2) (N := 13) hx hb hts iRX2 hown hw 0 (by omega) dt1 rfl 10 (by decide) (hts (.fieldLink RX2 104 "LibraryDesk" "lastFailedAct" "I") (by decide +kernel)) (fun _ h9 => h9) rfl dX2_told_65 ?_
      refine we_i hx hb hr hlocks hw ?_ dX2_told_68
      exact ⟨(sTold_ok (k := 4) (by decide)).symm, rfl⟩
    · refine lv_tableIn (off := 68) (tgt := 69) hx hb dX2_told_1 (by decide) (by decide) (by decide) (by decide) ?_
      refine lv_aload_n hx hb dX2_told_69 rfl (lv_at hl 0 rfl) ?_
      refine wr_get (ci := 3) (C := RX2) (T := TX2) (N := 13) hx hb hts iRX2 hown hw 0 (by omega) dt1 rfl 11 (by decide) (hts (.fieldLink RX2 107 "LibraryDesk" "lastFailedCall" "I") (by decide +kernel)) (fun _ h9 => h9) rfl dX2_told_70 ?_
      refine we_i hx hb hr hlocks hw ?_ dX2_told_73
      exact ⟨(sTold_ok (k := 5) (by decide)).symm, rfl⟩
    · refine lv_tableIn (off := 73) (tgt := 74) hx hb dX2_told_1 (by decide) (by decide) (by decide) (by decide) ?_
      refine lv_aload_n hx hb dX2_told_74 rfl (lv_at hl 0 rfl) ?_
      refine wr_get (ci := 3) (C := RX2) (T := TX2) (N := 13) hx hb hts iRX2 hown hw 0 (by omega) dt1 rfl 12 (by decide) (hts (.fieldLink RX2 110 "LibraryDesk" "lastFailedNumber" "I") (by decide +kernel)) (fun _ h9 => h9) rfl dX2_told_75 ?_
      refine we_i hx hb hr hlocks hw ?_ dX2_told_78
      exact ⟨(sTold_ok (k := 6) (by decide)).symm, rfl⟩
  · refine lv_tableOut (tgt := 79) hx hb dX2_told_1 (told_out hno) (by decide) ?_
    refine lv_iconst (v := (-1)) hx hb dX2_told_79 (by decide) ?_
    refine we_i hx hb hr hlocks hw ?_ dX2_told_80
    exact ⟨by unfold sToldR; rw [if_neg (show ¬ (0 ≤ x ∧ x < 7) from hno)], rfl⟩

set_option maxHeartbeats 4000000 in
set_option maxRecDepth 100000 in
theorem kX2_isRefused (l : Launch) (dC : Nat → ClassId) (dI : Nat → Nat → Nat) (q : ClassId × ClassId × ClassId × ClassId) (ad : Nat → Nat) (en : Nat → va_E) (n sz : Nat) (hn42 : 42 ≤ n) (A : Ast) (pl : Nat → Pst) (cs : Nat → Int32) (hok : Aok A) (hpok : ∀ i, i < 10 → Pok (pl i)) (hD : DeskAt q ad en A pl cs) (cv z : Int32) :
    Met l yX2_isRefused wsX2_isRefused ({ frames := 2, cells := 0, slots := 0, locals := 42 }) (wPc (dC, dI) vwCl (wT q) ad en n sz [.ref (ad 0), .int cv, .int z]) (va_Qi (fun (r : Int32) (en' : Nat → va_E) => r = (if sRef cv z A pl then 1 else 0) ∧ en' = en) (wB (dC, dI) vwCl (wT q) ad n (wA ad n sz)) (wA ad n sz)) 0 0 (wA ad n sz) := by
  refine Met.ofW (cc := cX2_isRefused) (maxL := 4) (ret := (some .boolean)) (by decide) rfl ?_
  intro p e s m args below meth c s₁ B hml hv
  obtain ⟨rfl, hsz, hP, hK, hD0, hE0⟩ := hv
  have hx := B.exec
  have hb := B.bytes
  have hr := B.returns
  have hts := atoms_spec (ws := wsX2_isRefused) B.pre
  have hown : s.vm.findClass RX2 = some m.cls := findClass_of_methodNamed B.named
  have hlocks := B.notSynchronized
  have iRX2 : ∀ w ∈ u_ws RX2 TX2 13, w ∈ wsX2_isRefused := by decide +kernel
  have iRX1 : ∀ w ∈ u_ws RX1 TX1 6, w ∈ wsX2_isRefused := by decide +kernel
  subst hsz
  have hw := wk_of hP hK hD0 hE0
  generalize wA ad n s.heap.size = AA at hw ⊢
  have hl := lv_entry ([.ref (ad 0), .int cv, .int z]) (n := 4) (Nat.le_of_ble_eq_true rfl)
  rw [lg_entry_eq]
  generalize (lg_sl ([.ref (ad 0), .int cv, .int z]) ++ List.replicate (4 - (lg_sl ([.ref (ad 0), .int cv, .int z])).length) Slot.unset).toArray = ls at hl ⊢
  have hl : lv_has ls 4 [(0, .ref (ad 0)), (1, .int cv), (2, .int z)] := hl
  obtain ⟨nb, tb, Z, ta, tw, tp, hC⟩ := hD
  obtain ⟨hntt1, dt1, ⟨gt1, et1, hgt1⟩, hpt1, hNt1, hTt1⟩ := id hC
  obtain ⟨mft1, vht1, tft1, vft1, n0t1, n1t1, n2t1, n3t1, n4t1, hRt1⟩ := id hNt1
  have hnt := hntt1
  refine lv_iload_n hx hb dX2_isRefused_0 rfl (lv_at hl 1 rfl) ?_
  refine wc_i hw (va_runS (As := [.int cv]) (rest := []) ⟨hx, hb, hml, hown, hts⟩ (kX2_isCall l dC dI q ad en n _ cv) (va_cwS 1 hts gX2_isRefused_X2_isCall rfl rfl rfl (by decide +kernel) ⟨Nat.le_of_ble_eq_true rfl, Nat.le_of_ble_eq_true rfl⟩) (wk_preS hw) rfl rfl hl.1 rfl (lv_room (Nat.le_of_ble_eq_true rfl)) dX2_isRefused_1 ⟨Nat.le_refl _, Nat.le_refl _⟩) (fun r2 en4 H locs hp3 hw => ?_)
  obtain ⟨hr5, hn6⟩ := hp3
  rw [hn6] at hw
  clear hn6
  refine lv_if_ne (tgt := 9) hx hb dX2_isRefused_4 (by decide) (fun c4 => ?_) (fun c4 => ?_)
  · have hcv := z01_t hr5 c4
    obtain ⟨c1, hc, ecv⟩ := okC_of hcv
    subst ecv
    obtain ⟨sfu7, kfu7, p0u7, p1u7, p2u7, p3u7⟩ := id (hpt1 c1 hc)
    refine lv_aload_n hx hb dX2_isRefused_9 rfl (lv_at hl 0 rfl) ?_
    refine wr_get (ci := 3) (C := RX2) (T := TX2) (N := 13) hx hb hts iRX2 hown hw 0 (by omega) dt1 rfl 0 (by decide) (hts (.fieldLink RX2 11 "LibraryDesk" "plans" "[LLibraryDesk$Plan;") (by decide +kernel)) (fun _ h9 => h9) rfl dX2_isRefused_10 ?_
    refine lv_iload_n hx hb dX2_isRefused_13 rfl (lv_at hl 1 rfl) ?_
    refine wr_aldq (q := ad (2 + 3 * c1)) hx hb hw 1 (by omega) 3 et1 rfl (vp_in_nI (by omega) (by decide)) (by rw [(nI_clamp (by omega))]; exact hgt1 c1 hc) dX2_isRefused_14 ?_
    refine wr_get (ci := 2) (C := RX1) (T := TX1) (N := 6) hx hb hts iRX1 hown hw (2 + 3 * c1) (by omega) p0u7 rfl 0 (by decide) (hts (.fieldLink RX2 41 "LibraryDesk$Plan" "wanted" "I") (by decide +kernel)) (fun _ h9 => h9) rfl dX2_isRefused_15 ?_
    refine lv_istore_n (lv' := [(3, .int ((pl c1).1)), (0, .ref (ad 0)), (1, .int (nI c1)), (2, .int z)]) hx hb dX2_isRefused_18 rfl hl (by decide) rfl (fun ls hl => ?_)
    refine lv_iload_n hx hb dX2_isRefused_19 rfl (lv_at hl 0 rfl) ?_
    refine lv_iconst (v := (-1)) hx hb dX2_isRefused_20 (by decide) ?_
    refine lv_icmp_eq (tgt := 40) hx hb dX2_isRefused_21 (by decide) (fun c21 => ?_) (fun c21 => ?_)
    · refine lv_iconst (v := 0) hx hb dX2_isRefused_40 (by decide) ?_
      refine we_z hx hb hr hlocks hw (Or.inl rfl) ?_ dX2_isRefused_41
      exact ⟨by rw [if_neg (fun h => ((sRef_ok hc).mp h).1 c21)], rfl⟩
    · refine lv_aload_n hx hb dX2_isRefused_24 rfl (lv_at hl 1 rfl) ?_
      refine wr_get (ci := 3) (C := RX2) (T := TX2) (N := 13) hx hb hts iRX2 hown hw 0 (by omega) dt1 rfl 1 (by decide) (hts (.fieldLink RX2 19 "LibraryDesk" "now" "LLibraryDesk$Holdings;") (by decide +kernel)) (fun _ h9 => h9) rfl dX2_isRefused_25 ?_
      refine lv_iload_n hx hb dX2_isRefused_28 rfl (lv_at hl 0 rfl) ?_
      refine lv_iload_n hx hb dX2_isRefused_29 rfl (lv_at hl 3 rfl) ?_
      refine wc_i hw (va_runV (As := [.int ((pl c1).1), .int z]) (rest := []) ⟨hx, hb, hml, hown, hts⟩ (kX0_isHere l dC dI q ad en n _ nb (by omega) A hok hNt1 ((pl c1).1) z) (cwV 2 hts gX2_isRefused_X0_isHere rfl rfl rfl (by decide +kernel) ⟨Nat.le_of_ble_eq_true rfl, Nat.le_of_ble_eq_true rfl⟩) (wk_preV hw (by omega) n0t1 rfl) rfl rfl hl.1 rfl (lv_room (Nat.le_of_ble_eq_true rfl)) dX2_isRefused_30 ⟨Nat.le_refl _, Nat.le_refl _⟩) (fun r8 en10 H locs hp9 hw => ?_)
      obtain ⟨hr11, hn12⟩ := hp9
      rw [hn12] at hw
      clear hn12
      refine lv_if_ne (tgt := 40) hx hb dX2_isRefused_33 (by decide) (fun c33 => ?_) (fun c33 => ?_)
      · have hh := z01_t hr11 c33
        refine lv_iconst (v := 0) hx hb dX2_isRefused_40 (by decide) ?_
        refine we_z hx hb hr hlocks hw (Or.inl rfl) ?_ dX2_isRefused_41
        exact ⟨by rw [if_neg (fun h => ((sRef_ok hc).mp h).2 hh)], rfl⟩
      · have hh := z01_f hr11 c33
        refine lv_iconst (v := 1) hx hb dX2_isRefused_36 (by decide) ?_
        refine lv_goto (tgt := 41) hx hb dX2_isRefused_37 (by decide) ?_
        refine we_z hx hb hr hlocks hw (Or.inr rfl) ?_ dX2_isRefused_41
        exact ⟨by rw [if_pos ((sRef_ok hc).mpr ⟨c21, hh⟩)], rfl⟩
  · have hcv := z01_f hr5 c4
    refine lv_iconst (v := 1) hx hb dX2_isRefused_7 (by decide) ?_
    refine we_z hx hb hr hlocks hw (Or.inr rfl) ?_ dX2_isRefused_8
    exact ⟨by rw [if_pos (Or.inl hcv)], rfl⟩

set_option maxHeartbeats 4000000 in
set_option maxRecDepth 100000 in
theorem kX2_keepTrial (l : Launch) (dC : Nat → ClassId) (dI : Nat → Nat → Nat) (q : ClassId × ClassId × ClassId × ClassId) (ad : Nat → Nat) (en : Nat → va_E) (n sz : Nat) (hn42 : 42 ≤ n) (nb tb : Nat) (A Z : Ast) (pl : Nat → Pst) (cs : Nat → Int32) (ta : Int64) (tw tp : Int32) (hC : DeskC q ad en nb tb A Z pl cs ta tw tp)  :
    Met l yX2_keepTrial wsX2_keepTrial ({ frames := 0, cells := 0, slots := 0, locals := 0 }) (wPc (dC, dI) vwCl (wT q) ad en n sz [.ref (ad 0)]) (va_Qv (fun (en' : Nat → va_E) => DeskC q ad en' tb nb Z A pl cs ta tw tp ∧ ∀ j, 42 ≤ j → en' j = en j) (wB (dC, dI) vwCl (wT q) ad n (wA ad n sz)) (wA ad n sz)) 0 0 (wA ad n sz) := by
  refine Met.ofW (cc := cX2_keepTrial) (maxL := 2) (ret := none) (by decide) rfl ?_
  intro p e s m args below meth c s₁ B hml hv
  obtain ⟨rfl, hsz, hP, hK, hD0, hE0⟩ := hv
  have hx := B.exec
  have hb := B.bytes
  have hr := B.returns
  have hts := atoms_spec (ws := wsX2_keepTrial) B.pre
  have hown : s.vm.findClass RX2 = some m.cls := findClass_of_methodNamed B.named
  have hlocks := B.notSynchronized
  have iRX2 : ∀ w ∈ u_ws RX2 TX2 13, w ∈ wsX2_keepTrial := by decide +kernel
  subst hsz
  have hw := wk_of hP hK hD0 hE0
  generalize wA ad n s.heap.size = AA at hw ⊢
  have hl := lv_entry ([.ref (ad 0)]) (n := 2) (Nat.le_of_ble_eq_true rfl)
  rw [lg_entry_eq]
  generalize (lg_sl ([.ref (ad 0)]) ++ List.replicate (2 - (lg_sl ([.ref (ad 0)])).length) Slot.unset).toArray = ls at hl ⊢
  have hl : lv_has ls 2 [(0, .ref (ad 0))] := hl
  obtain ⟨hntt1, dt1, ⟨gt1, et1, hgt1⟩, hpt1, hNt1, hTt1⟩ := id hC
  obtain ⟨mft1, vht1, tft1, vft1, n0t1, n1t1, n2t1, n3t1, n4t1, hRt1⟩ := id hNt1
  have hnt := hntt1
  refine lv_aload_n hx hb dX2_keepTrial_0 rfl (lv_at hl 0 rfl) ?_
  refine wr_get (ci := 3) (C := RX2) (T := TX2) (N := 13) hx hb hts iRX2 hown hw 0 (by omega) dt1 rfl 1 (by decide) (hts (.fieldLink RX2 19 "LibraryDesk" "now" "LLibraryDesk$Holdings;") (by decide +kernel)) (fun _ h9 => h9) rfl dX2_keepTrial_1 ?_
  refine lv_astore_n (lv' := [(1, .ref (ad nb)), (0, .ref (ad 0))]) hx hb dX2_keepTrial_4 rfl hl (by decide) rfl (fun ls hl => ?_)
  refine lv_aload_n hx hb dX2_keepTrial_5 rfl (lv_at hl 1 rfl) ?_
  refine lv_aload_n hx hb dX2_keepTrial_6 rfl (lv_at hl 1 rfl) ?_
  refine wr_get (ci := 3) (C := RX2) (T := TX2) (N := 13) hx hb hts iRX2 hown hw 0 (by omega) dt1 rfl 2 (by decide) (hts (.fieldLink RX2 23 "LibraryDesk" "trial" "LLibraryDesk$Holdings;") (by decide +kernel)) (fun _ h9 => h9) rfl dX2_keepTrial_7 ?_
  refine wr_put (ci := 3) (v := .ref (ad tb)) (ty := .object "LibraryDesk$Holdings") (C := RX2) (T := TX2) (N := 13) hx hb hts iRX2 tyX2 tyX2_ok nmX2 hown hw 0 (by omega) dt1 rfl 1 (by decide) (hts (.fieldLink RX2 19 "LibraryDesk" "now" "LLibraryDesk$Holdings;") (by decide +kernel)) (fun _ h9 => h9) rfl (by decide +kernel) rfl rfl (Nat.le_of_ble_eq_true rfl) dX2_keepTrial_10 (fun en3 H locs hE2 hw => ?_)
  have he4 : en3 0 = .inr (3, [.ref (ad 1), .ref (ad tb), .ref (ad tb), .long ta, .int tw, .int tp, .int (cs 0), .int (cs 1), .int (cs 2), .int (cs 3), .int (cs 4), .int (cs 5), .int (cs 6)]) := w_self hE2
  have he5 : en3 1 = .inl (q.2.2.2, 10, .inr (.inr (.inr (.inr gt1)))) := w_ne hE2 (by omega) et1
  have he6 : en3 nb = .inr (1, [.ref (ad (nb + 1)), .ref (ad (nb + 2)), .ref (ad (nb + 3)), .ref (ad (nb + 4)), .int (nI (aCn A))]) := w_ne hE2 (by omega) n0t1
  have he7 : en3 (nb + 1) = .inl (q.1, 8, .inl mft1) := w_ne hE2 (by omega) n1t1
  have he8 : en3 (nb + 2) = .inl (q.2.1, 8, .inr (.inl vht1)) := w_ne hE2 (by omega) n2t1
  have he9 : en3 (nb + 3) = .inl (q.2.1, 8, .inr (.inl tft1)) := w_ne hE2 (by omega) n3t1
  have he10 : en3 (nb + 4) = .inl (q.2.1, 20, .inr (.inl vft1)) := w_ne hE2 (by omega) n4t1
  refine lv_aload_n hx hb dX2_keepTrial_13 rfl (lv_at hl 1 rfl) ?_
  refine lv_aload_n hx hb dX2_keepTrial_14 rfl (lv_at hl 0 rfl) ?_
  refine wr_put (ci := 3) (v := .ref (ad nb)) (ty := .object "LibraryDesk$Holdings") (C := RX2) (T := TX2) (N := 13) hx hb hts iRX2 tyX2 tyX2_ok nmX2 hown hw 0 (by omega) he4 rfl 2 (by decide) (hts (.fieldLink RX2 23 "LibraryDesk" "trial" "LLibraryDesk$Holdings;") (by decide +kernel)) (fun _ h9 => h9) rfl (by decide +kernel) rfl rfl (Nat.le_of_ble_eq_true rfl) dX2_keepTrial_15 (fun en12 H locs hE11 hw => ?_)
  have he13 : en12 0 = .inr (3, [.ref (ad 1), .ref (ad tb), .ref (ad nb), .long ta, .int tw, .int tp, .int (cs 0), .int (cs 1), .int (cs 2), .int (cs 3), .int (cs 4), .int (cs 5), .int (cs 6)]) := w_self hE11
  have he14 : en12 1 = .inl (q.2.2.2, 10, .inr (.inr (.inr (.inr gt1)))) := w_ne hE11 (by omega) he5
  have he15 : en12 nb = .inr (1, [.ref (ad (nb + 1)), .ref (ad (nb + 2)), .ref (ad (nb + 3)), .ref (ad (nb + 4)), .int (nI (aCn A))]) := w_ne hE11 (by omega) he6
  have he16 : en12 (nb + 1) = .inl (q.1, 8, .inl mft1) := w_ne hE11 (by omega) he7
  have he17 : en12 (nb + 2) = .inl (q.2.1, 8, .inr (.inl vht1)) := w_ne hE11 (by omega) he8
  have he18 : en12 (nb + 3) = .inl (q.2.1, 8, .inr (.inl tft1)) := w_ne hE11 (by omega) he9
  have he19 : en12 (nb + 4) = .inl (q.2.1, 20, .inr (.inl vft1)) := w_ne hE11 (by omega) he10
  refine we_v hx hb hr hlocks hw ?_ dX2_keepTrial_18
  exact ⟨DeskC_swap hC he13 (fun j hj => (w_fr hE11 (by omega)).trans (w_fr hE2 (by omega))), fun j hj => (w_fr hE11 (by omega)).trans (w_fr hE2 (by omega))⟩

set_option maxHeartbeats 4000000 in
set_option maxRecDepth 100000 in
theorem kX2_doAct (l : Launch) (dC : Nat → ClassId) (dI : Nat → Nat → Nat) (q : ClassId × ClassId × ClassId × ClassId) (ad : Nat → Nat) (en : Nat → va_E) (n sz : Nat) (hn42 : 42 ≤ n) (nb tb : Nat) (A Z : Ast) (pl : Nat → Pst) (cs : Nat → Int32) (ta : Int64) (tw tp : Int32) (hC : DeskC q ad en nb tb A Z pl cs ta tw tp) (hokZ : Aok Z) (c1 : Nat) (hc : c1 < 10) (hpk : Pok (pl c1)) (i : Nat) (hi : i < (pl c1).2.1) (z : Int32) (a : Int64) :
    Met l yX2_doAct wsX2_doAct ({ frames := 3, cells := 0, slots := 0, locals := 64 }) (wPc (dC, dI) vwCl (wT q) ad en n sz [.ref (ad 0), .ref (ad (2 + 3 * c1)), .int (nI i), .int z, .long a]) (va_Qi (fun (r : Int32) (en' : Nat → va_E) => r = (aDo (pl c1) i z a Z ta).1 ∧ DeskC q ad en' nb tb A (aDo (pl c1) i z a Z ta).2.1 pl cs (aDo (pl c1) i z a Z ta).2.2 tw tp ∧ ∀ j, 42 ≤ j → en' j = en j) (wB (dC, dI) vwCl (wT q) ad n (wA ad n sz)) (wA ad n sz)) 0 0 (wA ad n sz) := by
  refine Met.ofW (cc := cX2_doAct) (maxL := 7) (ret := (some .int)) (by decide) rfl ?_
  intro p e s m args below meth c s₁ B hml hv
  obtain ⟨rfl, hsz, hP, hK, hD0, hE0⟩ := hv
  have hx := B.exec
  have hb := B.bytes
  have hr := B.returns
  have hts := atoms_spec (ws := wsX2_doAct) B.pre
  have hown : s.vm.findClass RX2 = some m.cls := findClass_of_methodNamed B.named
  have hlocks := B.notSynchronized
  have iRX2 : ∀ w ∈ u_ws RX2 TX2 13, w ∈ wsX2_doAct := by decide +kernel
  have iRX1 : ∀ w ∈ u_ws RX1 TX1 6, w ∈ wsX2_doAct := by decide +kernel
  have iRX0 : ∀ w ∈ u_ws RX0 TX0 5, w ∈ wsX2_doAct := by decide +kernel
  subst hsz
  have hw := wk_of hP hK hD0 hE0
  generalize wA ad n s.heap.size = AA at hw ⊢
  have hl := lv_entry ([.ref (ad 0), .ref (ad (2 + 3 * c1)), .int (nI i), .int z, .long a]) (n := 7) (Nat.le_of_ble_eq_true rfl)
  rw [lg_entry_eq]
  generalize (lg_sl ([.ref (ad 0), .ref (ad (2 + 3 * c1)), .int (nI i), .int z, .long a]) ++ List.replicate (7 - (lg_sl ([.ref (ad 0), .ref (ad (2 + 3 * c1)), .int (nI i), .int z, .long a])).length) Slot.unset).toArray = ls at hl ⊢
  have hl : lv_has ls 7 [(0, .ref (ad 0)), (1, .ref (ad (2 + 3 * c1))), (2, .int (nI i)), (3, .int z), (4, .long a)] := hl
  obtain ⟨hntt1, dt1, ⟨gt1, et1, hgt1⟩, hpt1, hNt1, hTt1⟩ := id hC
  obtain ⟨mft1, vht1, tft1, vft1, n0t1, n1t1, n2t1, n3t1, n4t1, hRt1⟩ := id hNt1
  obtain ⟨mzt1, vzt1, tzt1, wzt1, z0t1, z1t1, z2t1, z3t1, z4t1, hZt1⟩ := id hTt1
  have hnt := hntt1
  obtain ⟨sfu2, kfu2, p0u2, p1u2, p2u2, p3u2⟩ := id (hpt1 c1 hc)
  obtain ⟨k, hk, ekk⟩ := okK_of (hpk.2.1 i hi).2
  obtain ⟨s7, hs7, ess⟩ : ∃ s7, s7 < 7 ∧ (pl c1).2.2.1 i = nI s7 := (kd_cases _ (by decide)).resolve_right (fun h => h ⟨(hpk.2.1 i hi).1.1, Int32.lt_of_le_of_lt (hpk.2.1 i hi).1.2 (by decide)⟩)
  have hi6 : i < 6 := Nat.lt_of_lt_of_le hi hpk.1
  refine lv_aload_n hx hb dX2_doAct_0 rfl (lv_at hl 1 rfl) ?_
  refine wr_get (ci := 2) (C := RX1) (T := TX1) (N := 6) hx hb hts iRX1 hown hw (2 + 3 * c1) (by omega) p0u2 rfl 3 (by decide) (hts (.fieldLink RX2 151 "LibraryDesk$Plan" "kinds" "[I") (by decide +kernel)) (fun _ h9 => h9) rfl dX2_doAct_1 ?_
  refine lv_iload_n hx hb dX2_doAct_4 rfl (lv_at hl 2 rfl) ?_
  refine wr_iald (v := nI k) hx hb hw (2 + 3 * c1 + 2) (by omega) 0 p2u2 rfl (vp_in_nI (by omega) (by decide)) (by rw [(nI_clamp (by omega))]; exact (p3u2 i hi).2.trans ekk) dX2_doAct_5 ?_
  refine lv_istore (lv' := [(6, .int (nI k)), (0, .ref (ad 0)), (1, .ref (ad (2 + 3 * c1))), (2, .int (nI i)), (3, .int z), (4, .long a)]) hx hb dX2_doAct_6 hl (by decide) rfl (fun ls hl => ?_)
  refine lv_aload_n hx hb dX2_doAct_8 rfl (lv_at hl 2 rfl) ?_
  refine wr_get (ci := 2) (C := RX1) (T := TX1) (N := 6) hx hb hts iRX1 hown hw (2 + 3 * c1) (by omega) p0u2 rfl 2 (by decide) (hts (.fieldLink RX2 154 "LibraryDesk$Plan" "sorts" "[I") (by decide +kernel)) (fun _ h9 => h9) rfl dX2_doAct_9 ?_
  refine lv_iload_n hx hb dX2_doAct_12 rfl (lv_at hl 3 rfl) ?_
  refine wr_iald (v := nI s7) hx hb hw (2 + 3 * c1 + 1) (by omega) 0 p1u2 rfl (vp_in_nI (by omega) (by decide)) (by rw [(nI_clamp (by omega))]; exact (p3u2 i hi).1.trans ess) dX2_doAct_13 ?_
  rcases (show s7 = 0 ∨ s7 = 1 ∨ s7 = 2 ∨ s7 = 3 ∨ s7 = 4 ∨ s7 = 5 ∨ s7 = 6 by omega) with rfl | rfl | rfl | rfl | rfl | rfl | rfl
  · refine lv_tableIn (off := 38) (tgt := 52) hx hb dX2_doAct_14 (by decide) (by decide) (by decide) (by decide) ?_
    refine lv_aload_n hx hb dX2_doAct_52 rfl (lv_at hl 1 rfl) ?_
    refine wr_get (ci := 3) (C := RX2) (T := TX2) (N := 13) hx hb hts iRX2 hown hw 0 (by omega) dt1 rfl 2 (by decide) (hts (.fieldLink RX2 23 "LibraryDesk" "trial" "LLibraryDesk$Holdings;") (by decide +kernel)) (fun _ h9 => h9) rfl dX2_doAct_53 ?_
    refine lv_iload hx hb dX2_doAct_56 (lv_at hl 0 rfl) ?_
    refine wc_i hw (va_runV (As := [.int (nI k)]) (rest := []) ⟨hx, hb, hml, hown, hts⟩ (kX0_makeNumber l dC dI q ad en n _ tb (by omega) Z hokZ hTt1 k hk) (cwV 1 hts gX2_doAct_X0_makeNumber rfl rfl rfl (by decide +kernel) ⟨Nat.le_of_ble_eq_true rfl, Nat.le_of_ble_eq_true rfl⟩) (wk_preV hw (by omega) z0t1 rfl) rfl rfl hl.1 rfl (lv_room (Nat.le_of_ble_eq_true rfl)) dX2_doAct_58 ⟨Nat.le_refl _, Nat.le_refl _⟩) (fun r3 en5 H locs hp4 hw => ?_)
    obtain ⟨hr1, hH1, hfr1⟩ := hp4
    have hC1 := DeskC_trial hC hH1 hfr1
    obtain ⟨-, dt6, ⟨gt6, et6, hgt6⟩, hpt6, hNt6, hTt6⟩ := id hC1
    obtain ⟨mft6, vht6, tft6, vft6, n0t6, n1t6, n2t6, n3t6, n4t6, hRt6⟩ := id hNt6
    obtain ⟨mzt6, vzt6, tzt6, wzt6, z0t6, z1t6, z2t6, z3t6, z4t6, hZt6⟩ := id hTt6
    refine lv_if_eq (tgt := 68) hx hb dX2_doAct_61 (by decide) (fun c61 => ?_) (fun c61 => ?_)
    · refine lv_bipush (v := 6) hx hb dX2_doAct_68 (by decide) ?_
      refine we_i hx hb hr hlocks hw ?_ dX2_doAct_70
      have hA := aDo_0 (z := z) (a := a) (A := Z) (x := ta) ess ekk hk
      rw [hA]
      exact ⟨by rw [if_neg (z01_f hr1 c61)], hC1, fun j hj => hfr1 j (by omega)⟩
    · refine lv_iconst (v := 0) hx hb dX2_doAct_64 (by decide) ?_
      refine lv_goto (tgt := 70) hx hb dX2_doAct_65 (by decide) ?_
      refine we_i hx hb hr hlocks hw ?_ dX2_doAct_70
      have hA := aDo_0 (z := z) (a := a) (A := Z) (x := ta) ess ekk hk
      rw [hA]
      exact ⟨by rw [if_pos (z01_t hr1 c61)], hC1, fun j hj => hfr1 j (by omega)⟩
  · refine lv_tableIn (off := 57) (tgt := 71) hx hb dX2_doAct_14 (by decide) (by decide) (by decide) (by decide) ?_
    refine lv_aload_n hx hb dX2_doAct_71 rfl (lv_at hl 1 rfl) ?_
    refine wr_get (ci := 3) (C := RX2) (T := TX2) (N := 13) hx hb hts iRX2 hown hw 0 (by omega) dt1 rfl 2 (by decide) (hts (.fieldLink RX2 23 "LibraryDesk" "trial" "LLibraryDesk$Holdings;") (by decide +kernel)) (fun _ h9 => h9) rfl dX2_doAct_72 ?_
    refine lv_iload hx hb dX2_doAct_75 (lv_at hl 0 rfl) ?_
    refine lv_aload_n hx hb dX2_doAct_77 rfl (lv_at hl 1 rfl) ?_
    refine wr_get (ci := 3) (C := RX2) (T := TX2) (N := 13) hx hb hts iRX2 hown hw 0 (by omega) dt1 rfl 2 (by decide) (hts (.fieldLink RX2 23 "LibraryDesk" "trial" "LLibraryDesk$Holdings;") (by decide +kernel)) (fun _ h9 => h9) rfl dX2_doAct_78 ?_
    refine lv_iload hx hb dX2_doAct_81 (lv_at hl 0 rfl) ?_
    refine wc_i hw (va_runV (As := [.int (nI k)]) (rest := [.int (nI k), .ref (ad tb)]) ⟨hx, hb, hml, hown, hts⟩ (kX0_greatestHere l dC dI q ad en n _ tb (by omega) Z hokZ hTt1 k hk) (cwV 1 hts gX2_doAct_X0_greatestHere rfl rfl rfl (by decide +kernel) ⟨Nat.le_of_ble_eq_true rfl, Nat.le_of_ble_eq_true rfl⟩) (wk_preV hw (by omega) z0t1 rfl) rfl rfl hl.1 rfl (lv_room (Nat.le_of_ble_eq_true rfl)) dX2_doAct_83 ⟨Nat.le_refl _, Nat.le_refl _⟩) (fun r7 en9 H locs hp8 hw => ?_)
    obtain ⟨hr10, hn11⟩ := hp8
    rw [hn11] at hw
    clear hn11
    have hgr := hr10
    refine wc_i hw (va_runV (As := [.int (nI k), .int r7]) (rest := []) ⟨hx, hb, hml, hown, hts⟩ (kX0_dropNumber l dC dI q ad en n _ tb (by omega) Z hokZ hTt1 (nI k) r7) (cwV 2 hts gX2_doAct_X0_dropNumber rfl rfl rfl (by decide +kernel) ⟨Nat.le_of_ble_eq_true rfl, Nat.le_of_ble_eq_true rfl⟩) (wk_preV hw (by omega) z0t1 rfl) rfl rfl hl.1 rfl (lv_room (Nat.le_of_ble_eq_true rfl)) dX2_doAct_86 ⟨Nat.le_refl _, Nat.le_refl _⟩) (fun r12 en14 H locs hp13 hw => ?_)
    obtain ⟨hr1, hH1, hfr1⟩ := hp13
    have hC1 := DeskC_trial hC hH1 hfr1
    obtain ⟨-, dt15, ⟨gt15, et15, hgt15⟩, hpt15, hNt15, hTt15⟩ := id hC1
    obtain ⟨mft15, vht15, tft15, vft15, n0t15, n1t15, n2t15, n3t15, n4t15, hRt15⟩ := id hNt15
    obtain ⟨mzt15, vzt15, tzt15, wzt15, z0t15, z1t15, z2t15, z3t15, z4t15, hZt15⟩ := id hTt15
    refine lv_if_eq (tgt := 96) hx hb dX2_doAct_89 (by decide) (fun c89 => ?_) (fun c89 => ?_)
    · refine lv_bipush (v := 7) hx hb dX2_doAct_96 (by decide) ?_
      refine we_i hx hb hr hlocks hw ?_ dX2_doAct_98
      have hA := aDo_1 (z := z) (a := a) (A := Z) (x := ta) ess ekk hk
      have hG := drop_gr hk hgr
      have hg0 : gr (aHr Z k) 40 = 0 := Decidable.of_not_not (fun h => z01_f hr1 c89 (hG.1.mpr h))
      rw [hA, if_pos hg0]
      rw [aDropI_no (z01_f hr1 c89)] at hC1
      exact ⟨rfl, hC1, fun j hj => hfr1 j (by omega)⟩
    · refine lv_iconst (v := 0) hx hb dX2_doAct_92 (by decide) ?_
      refine lv_goto (tgt := 98) hx hb dX2_doAct_93 (by decide) ?_
      refine we_i hx hb hr hlocks hw ?_ dX2_doAct_98
      have hA := aDo_1 (z := z) (a := a) (A := Z) (x := ta) ess ekk hk
      have hG := drop_gr hk hgr
      have hg0 := hG.1.mp (z01_t hr1 c89)
      rw [hA, if_neg hg0]
      rw [(hG.2 hg0)] at hC1
      exact ⟨rfl, hC1, fun j hj => hfr1 j (by omega)⟩
  · refine lv_tableIn (off := 85) (tgt := 99) hx hb dX2_doAct_14 (by decide) (by decide) (by decide) (by decide) ?_
    refine lv_aload_n hx hb dX2_doAct_99 rfl (lv_at hl 1 rfl) ?_
    refine wr_get (ci := 3) (C := RX2) (T := TX2) (N := 13) hx hb hts iRX2 hown hw 0 (by omega) dt1 rfl 2 (by decide) (hts (.fieldLink RX2 23 "LibraryDesk" "trial" "LLibraryDesk$Holdings;") (by decide +kernel)) (fun _ h9 => h9) rfl dX2_doAct_100 ?_
    refine wr_get (ci := 1) (C := RX0) (T := TX0) (N := 5) hx hb hts iRX0 hown hw tb (by omega) z0t1 rfl 2 (by decide) (hts (.fieldLink RX2 120 "LibraryDesk$Holdings" "tallies" "[J") (by decide +kernel)) (fun _ h9 => h9) rfl dX2_doAct_103 ?_
    refine lv_iload hx hb dX2_doAct_106 (lv_at hl 0 rfl) ?_
    refine lv_dup2_11 hx hb dX2_doAct_108 rfl rfl ?_
    refine wr_lald (v := tzt1 k) hx hb hw (tb + 3) (by omega) 1 z3t1 rfl (vp_in_nI (by omega) (by decide)) (by rw [(nI_clamp (by omega))]) dX2_doAct_109 ?_
    refine lv_lload hx hb dX2_doAct_110 (lv_at hl 5 rfl) ?_
    refine lv_ladd hx hb dX2_doAct_112 ?_
    refine lv_topl (fun x16 ex16 => ?_)
    have ex16n : x16 = tzt1 k + a := ex16.trans (rfl)
    clear ex16
    subst ex16n
    refine wr_last (j := k) hx hb hw (tb + 3) (by omega) 1 z3t1 rfl (vp_in_nI (by omega) (by decide)) (nI_clamp (by omega)) dX2_doAct_113 (fun en18 H locs hE17 hw => ?_)
    have he19 : en18 0 = .inr (3, [.ref (ad 1), .ref (ad nb), .ref (ad tb), .long ta, .int tw, .int tp, .int (cs 0), .int (cs 1), .int (cs 2), .int (cs 3), .int (cs 4), .int (cs 5), .int (cs 6)]) := w_ne hE17 (by omega) dt1
    have he20 : en18 1 = .inl (q.2.2.2, 10, .inr (.inr (.inr (.inr gt1)))) := w_ne hE17 (by omega) et1
    have he21 : en18 nb = .inr (1, [.ref (ad (nb + 1)), .ref (ad (nb + 2)), .ref (ad (nb + 3)), .ref (ad (nb + 4)), .int (nI (aCn A))]) := w_ne hE17 (by omega) n0t1
    have he22 : en18 (nb + 1) = .inl (q.1, 8, .inl mft1) := w_ne hE17 (by omega) n1t1
    have he23 : en18 (nb + 2) = .inl (q.2.1, 8, .inr (.inl vht1)) := w_ne hE17 (by omega) n2t1
    have he24 : en18 (nb + 3) = .inl (q.2.1, 8, .inr (.inl tft1)) := w_ne hE17 (by omega) n3t1
    have he25 : en18 (nb + 4) = .inl (q.2.1, 20, .inr (.inl vft1)) := w_ne hE17 (by omega) n4t1
    have he26 : en18 tb = .inr (1, [.ref (ad (tb + 1)), .ref (ad (tb + 2)), .ref (ad (tb + 3)), .ref (ad (tb + 4)), .int (nI (aCn Z))]) := w_ne hE17 (by omega) z0t1
    have he27 : en18 (tb + 1) = .inl (q.1, 8, .inl mzt1) := w_ne hE17 (by omega) z1t1
    have he28 : en18 (tb + 2) = .inl (q.2.1, 8, .inr (.inl vzt1)) := w_ne hE17 (by omega) z2t1
    have he29 : en18 (tb + 3) = .inl (q.2.1, 8, .inr (.inl (vp_updL tzt1 k (tzt1 k + a)))) := w_self hE17
    have he30 : en18 (tb + 4) = .inl (q.2.1, 20, .inr (.inl wzt1)) := w_ne hE17 (by omega) z4t1
    have he31 : en18 (2 + 3 * c1) = .inr (2, [.int ((pl c1).1), .int (nI (pl c1).2.1), .ref (ad (2 + 3 * c1 + 1)), .ref (ad (2 + 3 * c1 + 2)), .int ((pl c1).2.2.2.2.1), .int ((pl c1).2.2.2.2.2)]) := w_ne hE17 (by omega) p0u2
    have he32 : en18 (2 + 3 * c1 + 1) = .inl (q.1, 6, .inl sfu2) := w_ne hE17 (by omega) p1u2
    have he33 : en18 (2 + 3 * c1 + 2) = .inl (q.1, 6, .inl kfu2) := w_ne hE17 (by omega) p2u2
    refine lv_iconst (v := 0) hx hb dX2_doAct_114 (by decide) ?_
    refine we_i hx hb hr hlocks hw ?_ dX2_doAct_115
    have hA := aDo_2 (z := z) (a := a) (A := Z) (x := ta) ess ekk hk
    rw [hA]
    exact ⟨rfl, DeskC_trial hC ⟨_, _, _, _, he26, he27, he28, he29, he30, RC_grow hZt1 hk a⟩ (fun j hj => w_fr hE17 (by omega)), fun j hj => w_fr hE17 (by omega)⟩
  · refine lv_tableIn (off := 102) (tgt := 116) hx hb dX2_doAct_14 (by decide) (by decide) (by decide) (by decide) ?_
    refine lv_aload_n hx hb dX2_doAct_116 rfl (lv_at hl 1 rfl) ?_
    refine wr_get (ci := 3) (C := RX2) (T := TX2) (N := 13) hx hb hts iRX2 hown hw 0 (by omega) dt1 rfl 2 (by decide) (hts (.fieldLink RX2 23 "LibraryDesk" "trial" "LLibraryDesk$Holdings;") (by decide +kernel)) (fun _ h9 => h9) rfl dX2_doAct_117 ?_
    refine lv_iload hx hb dX2_doAct_120 (lv_at hl 0 rfl) ?_
    refine wc_i hw (va_runV (As := [.int (nI k)]) (rest := []) ⟨hx, hb, hml, hown, hts⟩ (kX0_moveFirstValueTo l dC dI q ad en n _ tb (by omega) Z hokZ hTt1 k hk) (cwV 1 hts gX2_doAct_X0_moveFirstValueTo rfl rfl rfl (by decide +kernel) ⟨Nat.le_of_ble_eq_true rfl, Nat.le_of_ble_eq_true rfl⟩) (wk_preV hw (by omega) z0t1 rfl) rfl rfl hl.1 rfl (lv_room (Nat.le_of_ble_eq_true rfl)) dX2_doAct_122 ⟨Nat.le_refl _, Nat.le_refl _⟩) (fun r34 en36 H locs hp35 hw => ?_)
    obtain ⟨hr1, hH1, hfr1⟩ := hp35
    have hC1 := DeskC_trial hC hH1 hfr1
    obtain ⟨-, dt37, ⟨gt37, et37, hgt37⟩, hpt37, hNt37, hTt37⟩ := id hC1
    obtain ⟨mft37, vht37, tft37, vft37, n0t37, n1t37, n2t37, n3t37, n4t37, hRt37⟩ := id hNt37
    obtain ⟨mzt37, vzt37, tzt37, wzt37, z0t37, z1t37, z2t37, z3t37, z4t37, hZt37⟩ := id hTt37
    refine lv_if_eq (tgt := 132) hx hb dX2_doAct_125 (by decide) (fun c125 => ?_) (fun c125 => ?_)
    · refine lv_bipush (v := 8) hx hb dX2_doAct_132 (by decide) ?_
      refine we_i hx hb hr hlocks hw ?_ dX2_doAct_134
      have hA := aDo_3 (z := z) (a := a) (A := Z) (x := ta) ess ekk hk
      rw [hA]
      exact ⟨by rw [if_neg (z01_f hr1 c125)], hC1, fun j hj => hfr1 j (by omega)⟩
    · refine lv_iconst (v := 0) hx hb dX2_doAct_128 (by decide) ?_
      refine lv_goto (tgt := 134) hx hb dX2_doAct_129 (by decide) ?_
      refine we_i hx hb hr hlocks hw ?_ dX2_doAct_134
      have hA := aDo_3 (z := z) (a := a) (A := Z) (x := ta) ess ekk hk
      rw [hA]
      exact ⟨by rw [if_pos (z01_t hr1 c125)], hC1, fun j hj => hfr1 j (by omega)⟩
  · refine lv_tableIn (off := 121) (tgt := 135) hx hb dX2_doAct_14 (by decide) (by decide) (by decide) (by decide) ?_
    refine lv_aload_n hx hb dX2_doAct_135 rfl (lv_at hl 1 rfl) ?_
    refine lv_ldc2 (v := 31) hx hb hown (hts (.constantLong RX2 163 (31)) (by decide +kernel)) dX2_doAct_136 ?_
    refine lv_aload_n hx hb dX2_doAct_139 rfl (lv_at hl 1 rfl) ?_
    refine wr_get (ci := 3) (C := RX2) (T := TX2) (N := 13) hx hb hts iRX2 hown hw 0 (by omega) dt1 rfl 3 (by decide) (hts (.fieldLink RX2 94 "LibraryDesk" "trialAnswer" "J") (by decide +kernel)) (fun _ h9 => h9) rfl dX2_doAct_140 ?_
    refine lv_lmul hx hb dX2_doAct_143 ?_
    refine lv_topl (fun x38 ex38 => ?_)
    have ex38n : x38 = 31 * ta := ex38.trans (rfl)
    clear ex38
    subst ex38n
    refine lv_aload_n hx hb dX2_doAct_144 rfl (lv_at hl 1 rfl) ?_
    refine wr_get (ci := 3) (C := RX2) (T := TX2) (N := 13) hx hb hts iRX2 hown hw 0 (by omega) dt1 rfl 2 (by decide) (hts (.fieldLink RX2 23 "LibraryDesk" "trial" "LLibraryDesk$Holdings;") (by decide +kernel)) (fun _ h9 => h9) rfl dX2_doAct_145 ?_
    refine wr_get (ci := 1) (C := RX0) (T := TX0) (N := 5) hx hb hts iRX0 hown hw tb (by omega) z0t1 rfl 2 (by decide) (hts (.fieldLink RX2 120 "LibraryDesk$Holdings" "tallies" "[J") (by decide +kernel)) (fun _ h9 => h9) rfl dX2_doAct_148 ?_
    refine lv_iload hx hb dX2_doAct_151 (lv_at hl 0 rfl) ?_
    refine wr_lald (v := aTl Z k) hx hb hw (tb + 3) (by omega) 1 z3t1 rfl (vp_in_nI (by omega) (by decide)) (by rw [(nI_clamp (by omega))]; exact (hZt1.1 k hk).2.1) dX2_doAct_153 ?_
    refine lv_ladd hx hb dX2_doAct_154 ?_
    refine lv_topl (fun x39 ex39 => ?_)
    have ex39n : x39 = 31 * ta + aTl Z k := ex39.trans (rfl)
    clear ex39
    subst ex39n
    refine wr_put (ci := 3) (v := .long (31 * ta + aTl Z k)) (ty := .long) (C := RX2) (T := TX2) (N := 13) hx hb hts iRX2 tyX2 tyX2_ok nmX2 hown hw 0 (by omega) dt1 rfl 3 (by decide) (hts (.fieldLink RX2 94 "LibraryDesk" "trialAnswer" "J") (by decide +kernel)) (fun _ h9 => h9) rfl (by decide +kernel) rfl rfl (Nat.le_of_ble_eq_true rfl) dX2_doAct_155 (fun en41 H locs hE40 hw => ?_)
    have he42 : en41 0 = .inr (3, [.ref (ad 1), .ref (ad nb), .ref (ad tb), .long (31 * ta + aTl Z k), .int tw, .int tp, .int (cs 0), .int (cs 1), .int (cs 2), .int (cs 3), .int (cs 4), .int (cs 5), .int (cs 6)]) := w_self hE40
    have he43 : en41 1 = .inl (q.2.2.2, 10, .inr (.inr (.inr (.inr gt1)))) := w_ne hE40 (by omega) et1
    have he44 : en41 nb = .inr (1, [.ref (ad (nb + 1)), .ref (ad (nb + 2)), .ref (ad (nb + 3)), .ref (ad (nb + 4)), .int (nI (aCn A))]) := w_ne hE40 (by omega) n0t1
    have he45 : en41 (nb + 1) = .inl (q.1, 8, .inl mft1) := w_ne hE40 (by omega) n1t1
    have he46 : en41 (nb + 2) = .inl (q.2.1, 8, .inr (.inl vht1)) := w_ne hE40 (by omega) n2t1
    have he47 : en41 (nb + 3) = .inl (q.2.1, 8, .inr (.inl tft1)) := w_ne hE40 (by omega) n3t1
    have he48 : en41 (nb + 4) = .inl (q.2.1, 20, .inr (.inl vft1)) := w_ne hE40 (by omega) n4t1
    have he49 : en41 tb = .inr (1, [.ref (ad (tb + 1)), .ref (ad (tb + 2)), .ref (ad (tb + 3)), .ref (ad (tb + 4)), .int (nI (aCn Z))]) := w_ne hE40 (by omega) z0t1
    have he50 : en41 (tb + 1) = .inl (q.1, 8, .inl mzt1) := w_ne hE40 (by omega) z1t1
    have he51 : en41 (tb + 2) = .inl (q.2.1, 8, .inr (.inl vzt1)) := w_ne hE40 (by omega) z2t1
    have he52 : en41 (tb + 3) = .inl (q.2.1, 8, .inr (.inl tzt1)) := w_ne hE40 (by omega) z3t1
    have he53 : en41 (tb + 4) = .inl (q.2.1, 20, .inr (.inl wzt1)) := w_ne hE40 (by omega) z4t1
    have he54 : en41 (2 + 3 * c1) = .inr (2, [.int ((pl c1).1), .int (nI (pl c1).2.1), .ref (ad (2 + 3 * c1 + 1)), .ref (ad (2 + 3 * c1 + 2)), .int ((pl c1).2.2.2.2.1), .int ((pl c1).2.2.2.2.2)]) := w_ne hE40 (by omega) p0u2
    have he55 : en41 (2 + 3 * c1 + 1) = .inl (q.1, 6, .inl sfu2) := w_ne hE40 (by omega) p1u2
    have he56 : en41 (2 + 3 * c1 + 2) = .inl (q.1, 6, .inl kfu2) := w_ne hE40 (by omega) p2u2
    refine lv_iconst (v := 0) hx hb dX2_doAct_158 (by decide) ?_
    refine we_i hx hb hr hlocks hw ?_ dX2_doAct_159
    have hA := aDo_4 (z := z) (a := a) (A := Z) (x := ta) ess ekk hk
    rw [hA]
    exact ⟨rfl, DeskC_obj hC ⟨rfl, rfl⟩ he42 (fun j hj => w_fr hE40 (by omega)), fun j hj => w_fr hE40 (by omega)⟩
  · refine lv_tableIn (off := 146) (tgt := 160) hx hb dX2_doAct_14 (by decide) (by decide) (by decide) (by decide) ?_
    refine lv_aload_n hx hb dX2_doAct_160 rfl (lv_at hl 1 rfl) ?_
    refine lv_ldc2 (v := 31) hx hb hown (hts (.constantLong RX2 163 (31)) (by decide +kernel)) dX2_doAct_161 ?_
    refine lv_aload_n hx hb dX2_doAct_164 rfl (lv_at hl 1 rfl) ?_
    refine wr_get (ci := 3) (C := RX2) (T := TX2) (N := 13) hx hb hts iRX2 hown hw 0 (by omega) dt1 rfl 3 (by decide) (hts (.fieldLink RX2 94 "LibraryDesk" "trialAnswer" "J") (by decide +kernel)) (fun _ h9 => h9) rfl dX2_doAct_165 ?_
    refine lv_lmul hx hb dX2_doAct_168 ?_
    refine lv_topl (fun x57 ex57 => ?_)
    have ex57n : x57 = 31 * ta := ex57.trans (rfl)
    clear ex57
    subst ex57n
    refine lv_aload_n hx hb dX2_doAct_169 rfl (lv_at hl 1 rfl) ?_
    refine wr_get (ci := 3) (C := RX2) (T := TX2) (N := 13) hx hb hts iRX2 hown hw 0 (by omega) dt1 rfl 2 (by decide) (hts (.fieldLink RX2 23 "LibraryDesk" "trial" "LLibraryDesk$Holdings;") (by decide +kernel)) (fun _ h9 => h9) rfl dX2_doAct_170 ?_
    refine lv_iload hx hb dX2_doAct_173 (lv_at hl 0 rfl) ?_
    refine wc_i hw (va_runV (As := [.int (nI k)]) (rest := [.long (31 * ta), .ref (ad 0)]) ⟨hx, hb, hml, hown, hts⟩ (kX0_countHere l dC dI q ad en n _ tb (by omega) Z hokZ hTt1 k hk) (cwV 1 hts gX2_doAct_X0_countHere rfl rfl rfl (by decide +kernel) ⟨Nat.le_of_ble_eq_true rfl, Nat.le_of_ble_eq_true rfl⟩) (wk_preV hw (by omega) z0t1 rfl) rfl rfl hl.1 rfl (lv_room (Nat.le_of_ble_eq_true rfl)) dX2_doAct_175 ⟨Nat.le_refl _, Nat.le_refl _⟩) (fun r58 en60 H locs hp59 hw => ?_)
    obtain ⟨hr61, hn62⟩ := hp59
    rw [hn62] at hw
    clear hn62
    have hr1 := hr61
    refine lv_i2l hx hb dX2_doAct_178 rfl ?_
    refine lv_topl (fun x63 ex63 => ?_)
    have ex63n : x63 = (nI (cn (aHr Z k) 40)).toInt64 := ex63.trans (by rw [hr1])
    clear ex63
    subst ex63n
    refine lv_ladd hx hb dX2_doAct_179 ?_
    refine lv_topl (fun x64 ex64 => ?_)
    have ex64n : x64 = 31 * ta + (nI (cn (aHr Z k) 40)).toInt64 := ex64.trans (rfl)
    clear ex64
    subst ex64n
    refine wr_put (ci := 3) (v := .long (31 * ta + (nI (cn (aHr Z k) 40)).toInt64)) (ty := .long) (C := RX2) (T := TX2) (N := 13) hx hb hts iRX2 tyX2 tyX2_ok nmX2 hown hw 0 (by omega) dt1 rfl 3 (by decide) (hts (.fieldLink RX2 94 "LibraryDesk" "trialAnswer" "J") (by decide +kernel)) (fun _ h9 => h9) rfl (by decide +kernel) rfl rfl (Nat.le_of_ble_eq_true rfl) dX2_doAct_180 (fun en66 H locs hE65 hw => ?_)
    have he67 : en66 0 = .inr (3, [.ref (ad 1), .ref (ad nb), .ref (ad tb), .long (31 * ta + (nI (cn (aHr Z k) 40)).toInt64), .int tw, .int tp, .int (cs 0), .int (cs 1), .int (cs 2), .int (cs 3), .int (cs 4), .int (cs 5), .int (cs 6)]) := w_self hE65
    have he68 : en66 1 = .inl (q.2.2.2, 10, .inr (.inr (.inr (.inr gt1)))) := w_ne hE65 (by omega) et1
    have he69 : en66 nb = .inr (1, [.ref (ad (nb + 1)), .ref (ad (nb + 2)), .ref (ad (nb + 3)), .ref (ad (nb + 4)), .int (nI (aCn A))]) := w_ne hE65 (by omega) n0t1
    have he70 : en66 (nb + 1) = .inl (q.1, 8, .inl mft1) := w_ne hE65 (by omega) n1t1
    have he71 : en66 (nb + 2) = .inl (q.2.1, 8, .inr (.inl vht1)) := w_ne hE65 (by omega) n2t1
    have he72 : en66 (nb + 3) = .inl (q.2.1, 8, .inr (.inl tft1)) := w_ne hE65 (by omega) n3t1
    have he73 : en66 (nb + 4) = .inl (q.2.1, 20, .inr (.inl vft1)) := w_ne hE65 (by omega) n4t1
    have he74 : en66 tb = .inr (1, [.ref (ad (tb + 1)), .ref (ad (tb + 2)), .ref (ad (tb + 3)), .ref (ad (tb + 4)), .int (nI (aCn Z))]) := w_ne hE65 (by omega) z0t1
    have he75 : en66 (tb + 1) = .inl (q.1, 8, .inl mzt1) := w_ne hE65 (by omega) z1t1
    have he76 : en66 (tb + 2) = .inl (q.2.1, 8, .inr (.inl vzt1)) := w_ne hE65 (by omega) z2t1
    have he77 : en66 (tb + 3) = .inl (q.2.1, 8, .inr (.inl tzt1)) := w_ne hE65 (by omega) z3t1
    have he78 : en66 (tb + 4) = .inl (q.2.1, 20, .inr (.inl wzt1)) := w_ne hE65 (by omega) z4t1
    have he79 : en66 (2 + 3 * c1) = .inr (2, [.int ((pl c1).1), .int (nI (pl c1).2.1), .ref (ad (2 + 3 * c1 + 1)), .ref (ad (2 + 3 * c1 + 2)), .int ((pl c1).2.2.2.2.1), .int ((pl c1).2.2.2.2.2)]) := w_ne hE65 (by omega) p0u2
    have he80 : en66 (2 + 3 * c1 + 1) = .inl (q.1, 6, .inl sfu2) := w_ne hE65 (by omega) p1u2
    have he81 : en66 (2 + 3 * c1 + 2) = .inl (q.1, 6, .inl kfu2) := w_ne hE65 (by omega) p2u2
    refine lv_iconst (v := 0) hx hb dX2_doAct_183 (by decide) ?_
    refine we_i hx hb hr hlocks hw ?_ dX2_doAct_184
    have hA := aDo_5 (z := z) (a := a) (A := Z) (x := ta) ess ekk hk
    rw [hA]
    exact ⟨rfl, DeskC_obj hC ⟨rfl, rfl⟩ he67 (fun j hj => w_fr hE65 (by omega)), fun j hj => w_fr hE65 (by omega)⟩
  · refine lv_tableOut (tgt := 185) hx hb dX2_doAct_14 (Or.inr (by decide)) (by decide) ?_
    refine lv_aload_n hx hb dX2_doAct_185 rfl (lv_at hl 1 rfl) ?_
    refine wr_get (ci := 3) (C := RX2) (T := TX2) (N := 13) hx hb hts iRX2 hown hw 0 (by omega) dt1 rfl 2 (by decide) (hts (.fieldLink RX2 23 "LibraryDesk" "trial" "LLibraryDesk$Holdings;") (by decide +kernel)) (fun _ h9 => h9) rfl dX2_doAct_186 ?_
    refine lv_aload_n hx hb dX2_doAct_189 rfl (lv_at hl 2 rfl) ?_
    refine wr_get (ci := 2) (C := RX1) (T := TX1) (N := 6) hx hb hts iRX1 hown hw (2 + 3 * c1) (by omega) p0u2 rfl 0 (by decide) (hts (.fieldLink RX2 41 "LibraryDesk$Plan" "wanted" "I") (by decide +kernel)) (fun _ h9 => h9) rfl dX2_doAct_190 ?_
    refine lv_iload_n hx hb dX2_doAct_193 rfl (lv_at hl 4 rfl) ?_
    refine wc_i hw (va_runV (As := [.int ((pl c1).1), .int z]) (rest := []) ⟨hx, hb, hml, hown, hts⟩ (kX0_dropNumber l dC dI q ad en n _ tb (by omega) Z hokZ hTt1 ((pl c1).1) z) (cwV 2 hts gX2_doAct_X0_dropNumber rfl rfl rfl (by decide +kernel) ⟨Nat.le_of_ble_eq_true rfl, Nat.le_of_ble_eq_true rfl⟩) (wk_preV hw (by omega) z0t1 rfl) rfl rfl hl.1 rfl (lv_room (Nat.le_of_ble_eq_true rfl)) dX2_doAct_194 ⟨Nat.le_refl _, Nat.le_refl _⟩) (fun r82 en84 H locs hp83 hw => ?_)
    obtain ⟨hr1, hH1, hfr1⟩ := hp83
    have hC1 := DeskC_trial hC hH1 hfr1
    obtain ⟨-, dt85, ⟨gt85, et85, hgt85⟩, hpt85, hNt85, hTt85⟩ := id hC1
    obtain ⟨mft85, vht85, tft85, vft85, n0t85, n1t85, n2t85, n3t85, n4t85, hRt85⟩ := id hNt85
    obtain ⟨mzt85, vzt85, tzt85, wzt85, z0t85, z1t85, z2t85, z3t85, z4t85, hZt85⟩ := id hTt85
    refine lv_if_eq (tgt := 204) hx hb dX2_doAct_197 (by decide) (fun c197 => ?_) (fun c197 => ?_)
    · refine lv_bipush (v := 7) hx hb dX2_doAct_204 (by decide) ?_
      refine we_i hx hb hr hlocks hw ?_ dX2_doAct_206
      have hA := aDo_6 (z := z) (a := a) (A := Z) (x := ta) (k := k) ess
      rw [hA]
      exact ⟨by rw [if_neg (z01_f hr1 c197)], hC1, fun j hj => hfr1 j (by omega)⟩
    · refine lv_iconst (v := 0) hx hb dX2_doAct_200 (by decide) ?_
      refine lv_goto (tgt := 206) hx hb dX2_doAct_201 (by decide) ?_
      refine we_i hx hb hr hlocks hw ?_ dX2_doAct_206
      have hA := aDo_6 (z := z) (a := a) (A := Z) (x := ta) (k := k) ess
      rw [hA]
      exact ⟨by rw [if_pos (z01_t hr1 c197)], hC1, fun j hj => hfr1 j (by omega)⟩
end
section
def pForgetI (x : Int32) (P : Pst) : Pst := if P.2.2.2.2.1 = x then (P.1, P.2.1, P.2.2.1, P.2.2.2.1, -1, P.2.2.2.2.2) else P
def nfC (cs : Nat → Int32) (tw tp c z : Int32) : Nat → Int32 := fun i => if i = 2 then cs 2 + 1 else if i = 3 then tw else if i = 4 then tp else if i = 5 then c else if i = 6 then z else cs i
def tR (P : Pst) (z : Int32) (a : Int64) (A : Ast) : Int32 × Nat × Ast × Int64 := aRun P z a P.2.1 0 A a
theorem va_up_id {α : Type} (f : Nat → α) (k : Nat) : va_up f k (f k) = f := by
  funext j
  by_cases h : j = k
  · rw [h, va_up_self]
  · rw [va_up_ne _ _ h]
theorem aRun_t {P : Pst} {z : Int32} {a x : Int64} {f i : Nat} {A : Ast} (h : P.2.2.2.2.1 = nI i) : aRun P z a (f + 1) i A x = (P.2.2.2.2.2, i, A, x) := by
  unfold aRun
  rw [if_pos h]
theorem aRun_s {P : Pst} {z : Int32} {a x : Int64} {f i : Nat} {A : Ast} (h : ¬ P.2.2.2.2.1 = nI i) (h2 : (aDo P i z a A x).1 = 0) : aRun P z a (f + 1) i A x = aRun P z a f (i + 1) (aDo P i z a A x).2.1 (aDo P i z a A x).2.2 := by
  rw [aRun, if_neg h, if_pos h2]
theorem aRun_f {P : Pst} {z : Int32} {a x : Int64} {f i : Nat} {A : Ast} (h : ¬ P.2.2.2.2.1 = nI i) (h2 : ¬ (aDo P i z a A x).1 = 0) : aRun P z a (f + 1) i A x = ((aDo P i z a A x).1, i, (aDo P i z a A x).2.1, (aDo P i z a A x).2.2) := by
  rw [aRun, if_neg h, if_neg h2]
theorem told_ne {P : Pst} (h : Pok P) {i : Nat} (ht : P.2.2.2.2.1 = nI i) (hi : i < 2 ^ 31) : ¬ P.2.2.2.2.2 = 0 := by
  rcases h.2.2 with h1 | h1
  · rw [ht] at h1
    have := congrArg Int32.toInt h1
    rw [nI_toInt hi] at this
    have e : (-1 : Int32).toInt = -1 := by decide
    rw [e] at this
    omega
  · intro h2
    rw [h2] at h1
    exact absurd h1.2.1 (by decide)
set_option maxHeartbeats 4000000 in
set_option maxRecDepth 100000 in
theorem kX2_noteFailure (l : Launch) (dC : Nat → ClassId) (dI : Nat → Nat → Nat) (q : ClassId × ClassId × ClassId × ClassId) (ad : Nat → Nat) (en : Nat → va_E) (n sz : Nat) (hn42 : 42 ≤ n) (nb tb : Nat) (A Z : Ast) (pl : Nat → Pst) (cs : Nat → Int32) (ta : Int64) (tw tp : Int32) (hC : DeskC q ad en nb tb A Z pl cs ta tw tp) (c1 : Nat) (hc : c1 < 10) (z : Int32) :
    Met l yX2_noteFailure wsX2_noteFailure ({ frames := 1, cells := 0, slots := 0, locals := 21 }) (wPc (dC, dI) vwCl (wT q) ad en n sz [.ref (ad 0), .int (nI c1), .int z]) (va_Qv (fun (en' : Nat → va_E) => DeskC q ad en' nb tb A Z (va_up pl c1 (pForgetI tp (pl c1))) (nfC cs tw tp (nI c1) z) ta tw tp ∧ ∀ j, 42 ≤ j → en' j = en j) (wB (dC, dI) vwCl (wT q) ad n (wA ad n sz)) (wA ad n sz)) 0 0 (wA ad n sz) := by
  refine Met.ofW (cc := cX2_noteFailure) (maxL := 3) (ret := none) (by decide) rfl ?_
  intro p e s m args below meth c s₁ B hml hv
  obtain ⟨rfl, hsz, hP, hK, hD0, hE0⟩ := hv
  have hx := B.exec
  have hb := B.bytes
  have hr := B.returns
  have hts := atoms_spec (ws := wsX2_noteFailure) B.pre
  have hown : s.vm.findClass RX2 = some m.cls := findClass_of_methodNamed B.named
  have hlocks := B.notSynchronized
  have iRX2 : ∀ w ∈ u_ws RX2 TX2 13, w ∈ wsX2_noteFailure := by decide +kernel
  have iRX1 : ∀ w ∈ u_ws RX1 TX1 6, w ∈ wsX2_noteFailure := by decide +kernel
  subst hsz
  have hw := wk_of hP hK hD0 hE0
  generalize wA ad n s.heap.size = AA at hw ⊢
  have hl := lv_entry ([.ref (ad 0), .int (nI c1), .int z]) (n := 3) (Nat.le_of_ble_eq_true rfl)
  rw [lg_entry_eq]
  generalize (lg_sl ([.ref (ad 0), .int (nI c1), .int z]) ++ List.replicate (3 - (lg_sl ([.ref (ad 0), .int (nI c1), .int z])).length) Slot.unset).toArray = ls at hl ⊢
  have hl : lv_has ls 3 [(0, .ref (ad 0)), (1, .int (nI c1)), (2, .int z)] := hl
  obtain ⟨hntt1, dt1, ⟨gt1, et1, hgt1⟩, hpt1, hNt1, hTt1⟩ := id hC
  obtain ⟨mft1, vht1, tft1, vft1, n0t1, n1t1, n2t1, n3t1, n4t1, hRt1⟩ := id hNt1
  have hnt := hntt1
  obtain ⟨sfu2, kfu2, p0u2, p1u2, p2u2, p3u2⟩ := id (hpt1 c1 hc)
  refine lv_aload_n hx hb dX2_noteFailure_0 rfl (lv_at hl 0 rfl) ?_
  refine wr_get (ci := 3) (C := RX2) (T := TX2) (N := 13) hx hb hts iRX2 hown hw 0 (by omega) dt1 rfl 0 (by decide) (hts (.fieldLink RX2 11 "LibraryDesk" "plans" "[LLibraryDesk$Plan;") (by decide +kernel)) (fun _ h9 => h9) rfl dX2_noteFailure_1 ?_
  refine lv_iload_n hx hb dX2_noteFailure_4 rfl (lv_at hl 1 rfl) ?_
  refine wr_aldq (q := ad (2 + 3 * c1)) hx hb hw 1 (by omega) 3 et1 rfl (vp_in_nI (by omega) (by decide)) (by rw [(nI_clamp (by omega))]; exact hgt1 c1 hc) dX2_noteFailure_5 ?_
  refine lv_aload_n hx hb dX2_noteFailure_6 rfl (lv_at hl 0 rfl) ?_
  refine wr_get (ci := 3) (C := RX2) (T := TX2) (N := 13) hx hb hts iRX2 hown hw 0 (by omega) dt1 rfl 5 (by decide) (hts (.fieldLink RX2 138 "LibraryDesk" "trialFailedAt" "I") (by decide +kernel)) (fun _ h9 => h9) rfl dX2_noteFailure_7 ?_
  refine wc_i hw (va_runV (As := [.int tp]) (rest := []) ⟨hx, hb, hml, hown, hts⟩ (kX1_isToldToFailAt l dC dI q ad en n _ (2 + 3 * c1) (by omega) (pl c1) (hpt1 c1 hc) tp) (cwV 1 hts gX2_noteFailure_X1_isToldToFailAt rfl rfl rfl (by decide +kernel) ⟨Nat.le_of_ble_eq_true rfl, Nat.le_of_ble_eq_true rfl⟩) (wk_preV hw (by omega) p0u2 rfl) rfl rfl hl.1 rfl (lv_room (Nat.le_of_ble_eq_true rfl)) dX2_noteFailure_10 ⟨Nat.le_refl _, Nat.le_refl _⟩) (fun r3 en5 H locs hp4 hw => ?_)
  obtain ⟨hr6, hn7⟩ := hp4
  rw [hn7] at hw
  clear hn7
  refine lv_if_eq (tgt := 25) hx hb dX2_noteFailure_13 (by decide) (fun c13 => ?_) (fun c13 => ?_)
  · have hh := z01_f hr6 c13
    refine lv_aload_n hx hb dX2_noteFailure_25 rfl (lv_at hl 0 rfl) ?_
    refine lv_dup hx hb dX2_noteFailure_26 rfl ?_
    refine wr_get (ci := 3) (C := RX2) (T := TX2) (N := 13) hx hb hts iRX2 hown hw 0 (by omega) dt1 rfl 8 (by decide) (hts (.fieldLink RX2 98 "LibraryDesk" "failedCalls" "I") (by decide +kernel)) (fun _ h9 => h9) rfl dX2_noteFailure_27 ?_
    refine lv_iconst (v := 1) hx hb dX2_noteFailure_30 (by decide) ?_
    refine lv_iadd hx hb dX2_noteFailure_31 ?_
    refine lv_topi (fun x8 ex8 => ?_)
    have ex8n : x8 = cs 2 + 1 := ex8.trans (rfl)
    clear ex8
    subst ex8n
    refine wr_put (ci := 3) (v := .int (cs 2 + 1)) (ty := .int) (C := RX2) (T := TX2) (N := 13) hx hb hts iRX2 tyX2 tyX2_ok nmX2 hown hw 0 (by omega) dt1 rfl 8 (by decide) (hts (.fieldLink RX2 98 "LibraryDesk" "failedCalls" "I") (by decide +kernel)) (fun _ h9 => h9) rfl (by decide +kernel) rfl rfl (Nat.le_of_ble_eq_true rfl) dX2_noteFailure_32 (fun en10 H locs hE9 hw => ?_)
    have he11 : en10 0 = .inr (3, [.ref (ad 1), .ref (ad nb), .ref (ad tb), .long ta, .int tw, .int tp, .int (cs 0), .int (cs 1), .int (cs 2 + 1), .int (cs 3), .int (cs 4), .int (cs 5), .int (cs 6)]) := w_self hE9
    have he12 : en10 1 = .inl (q.2.2.2, 10, .inr (.inr (.inr (.inr gt1)))) := w_ne hE9 (by omega) et1
    have he13 : en10 nb = .inr (1, [.ref (ad (nb + 1)), .ref (ad (nb + 2)), .ref (ad (nb + 3)), .ref (ad (nb + 4)), .int (nI (aCn A))]) := w_ne hE9 (by omega) n0t1
    have he14 : en10 (nb + 1) = .inl (q.1, 8, .inl mft1) := w_ne hE9 (by omega) n1t1
    have he15 : en10 (nb + 2) = .inl (q.2.1, 8, .inr (.inl vht1)) := w_ne hE9 (by omega) n2t1
    have he16 : en10 (nb + 3) = .inl (q.2.1, 8, .inr (.inl tft1)) := w_ne hE9 (by omega) n3t1
    have he17 : en10 (nb + 4) = .inl (q.2.1, 20, .inr (.inl vft1)) := w_ne hE9 (by omega) n4t1
    have he18 : en10 (2 + 3 * c1) = .inr (2, [.int ((pl c1).1), .int (nI (pl c1).2.1), .ref (ad (2 + 3 * c1 + 1)), .ref (ad (2 + 3 * c1 + 2)), .int ((pl c1).2.2.2.2.1), .int ((pl c1).2.2.2.2.2)]) := w_ne hE9 (by omega) p0u2
    have he19 : en10 (2 + 3 * c1 + 1) = .inl (q.1, 6, .inl sfu2) := w_ne hE9 (by omega) p1u2
    have he20 : en10 (2 + 3 * c1 + 2) = .inl (q.1, 6, .inl kfu2) := w_ne hE9 (by omega) p2u2
    refine lv_aload_n hx hb dX2_noteFailure_35 rfl (lv_at hl 0 rfl) ?_
    refine lv_aload_n hx hb dX2_noteFailure_36 rfl (lv_at hl 0 rfl) ?_
    refine wr_get (ci := 3) (C := RX2) (T := TX2) (N := 13) hx hb hts iRX2 hown hw 0 (by omega) he11 rfl 4 (by decide) (hts (.fieldLink RX2 80 "LibraryDesk" "trialFailedWith" "I") (by decide +kernel)) (fun _ h9 => h9) rfl dX2_noteFailure_37 ?_
    refine wr_put (ci := 3) (v := .int tw) (ty := .int) (C := RX2) (T := TX2) (N := 13) hx hb hts iRX2 tyX2 tyX2_ok nmX2 hown hw 0 (by omega) he11 rfl 9 (by decide) (hts (.fieldLink RX2 101 "LibraryDesk" "lastFailedWith" "I") (by decide +kernel)) (fun _ h9 => h9) rfl (by decide +kernel) rfl rfl (Nat.le_of_ble_eq_true rfl) dX2_noteFailure_40 (fun en22 H locs hE21 hw => ?_)
    have he23 : en22 0 = .inr (3, [.ref (ad 1), .ref (ad nb), .ref (ad tb), .long ta, .int tw, .int tp, .int (cs 0), .int (cs 1), .int (cs 2 + 1), .int tw, .int (cs 4), .int (cs 5), .int (cs 6)]) := w_self hE21
    have he24 : en22 1 = .inl (q.2.2.2, 10, .inr (.inr (.inr (.inr gt1)))) := w_ne hE21 (by omega) he12
    have he25 : en22 nb = .inr (1, [.ref (ad (nb + 1)), .ref (ad (nb + 2)), .ref (ad (nb + 3)), .ref (ad (nb + 4)), .int (nI (aCn A))]) := w_ne hE21 (by omega) he13
    have he26 : en22 (nb + 1) = .inl (q.1, 8, .inl mft1) := w_ne hE21 (by omega) he14
    have he27 : en22 (nb + 2) = .inl (q.2.1, 8, .inr (.inl vht1)) := w_ne hE21 (by omega) he15
    have he28 : en22 (nb + 3) = .inl (q.2.1, 8, .inr (.inl tft1)) := w_ne hE21 (by omega) he16
    have he29 : en22 (nb + 4) = .inl (q.2.1, 20, .inr (.inl vft1)) := w_ne hE21 (by omega) he17
    have he30 : en22 (2 + 3 * c1) = .inr (2, [.int ((pl c1).1), .int (nI (pl c1).2.1), .ref (ad (2 + 3 * c1 + 1)), .ref (ad (2 + 3 * c1 + 2)), .int ((pl c1).2.2.2.2.1), .int ((pl c1).2.2.2.2.2)]) := w_ne hE21 (by omega) he18
    have he31 : en22 (2 + 3 * c1 + 1) = .inl (q.1, 6, .inl sfu2) := w_ne hE21 (by omega) he19
    have he32 : en22 (2 + 3 * c1 + 2) = .inl (q.1, 6, .inl kfu2) := w_ne hE21 (by omega) he20
    refine lv_aload_n hx hb dX2_noteFailure_43 rfl (lv_at hl 0 rfl) ?_
    refine lv_aload_n hx hb dX2_noteFailure_44 rfl (lv_at hl 0 rfl) ?_
    refine wr_get (ci := 3) (C := RX2) (T := TX2) (N := 13) hx hb hts iRX2 hown hw 0 (by omega) he23 rfl 5 (by decide) (hts (.fieldLink RX2 138 "LibraryDesk" "trialFailedAt" "I") (by decide +kernel)) (fun _ h9 => h9) rfl dX2_noteFailure_45 ?_
    refine wr_put (ci := 3) (v := .int tp) (ty := .int) (C := RX2) (T := TX2) (N := 13) hx hb hts iRX2 tyX2 tyX2_ok nmX2 hown hw 0 (by omega) he23 rfl 10 (by decide) (hts (.fieldLink RX2 104 "LibraryDesk" "lastFailedAct" "I") (by decide +kernel)) (fun _ h9 => h9) rfl (by decide +kernel) rfl rfl (Nat.le_of_ble_eq_true rfl) dX2_noteFailure_48 (fun en34 H locs hE33 hw => ?_)
    have he35 : en34 0 = .inr (3, [.ref (ad 1), .ref (ad nb), .ref (ad tb), .long ta, .int tw, .int tp, .int (cs 0), .int (cs 1), .int (cs 2 + 1), .int tw, .int tp, .int (cs 5), .int (cs 6)]) := w_self hE33
    have he36 : en34 1 = .inl (q.2.2.2, 10, .inr (.inr (.inr (.inr gt1)))) := w_ne hE33 (by omega) he24
    have he37 : en34 nb = .inr (1, [.ref (ad (nb + 1)), .ref (ad (nb + 2)), .ref (ad (nb + 3)), .ref (ad (nb + 4)), .int (nI (aCn A))]) := w_ne hE33 (by omega) he25
    have he38 : en34 (nb + 1) = .inl (q.1, 8, .inl mft1) := w_ne hE33 (by omega) he26
    have he39 : en34 (nb + 2) = .inl (q.2.1, 8, .inr (.inl vht1)) := w_ne hE33 (by omega) he27
    have he40 : en34 (nb + 3) = .inl (q.2.1, 8, .inr (.inl tft1)) := w_ne hE33 (by omega) he28
    have he41 : en34 (nb + 4) = .inl (q.2.1, 20, .inr (.inl vft1)) := w_ne hE33 (by omega) he29
    have he42 : en34 (2 + 3 * c1) = .inr (2, [.int ((pl c1).1), .int (nI (pl c1).2.1), .ref (ad (2 + 3 * c1 + 1)), .ref (ad (2 + 3 * c1 + 2)), .int ((pl c1).2.2.2.2.1), .int ((pl c1).2.2.2.2.2)]) := w_ne hE33 (by omega) he30
    have he43 : en34 (2 + 3 * c1 + 1) = .inl (q.1, 6, .inl sfu2) := w_ne hE33 (by omega) he31
    have he44 : en34 (2 + 3 * c1 + 2) = .inl (q.1, 6, .inl kfu2) := w_ne hE33 (by omega) he32
    refine lv_aload_n hx hb dX2_noteFailure_51 rfl (lv_at hl 0 rfl) ?_
    refine lv_iload_n hx hb dX2_noteFailure_52 rfl (lv_at hl 1 rfl) ?_
    refine wr_put (ci := 3) (v := .int (nI c1)) (ty := .int) (C := RX2) (T := TX2) (N := 13) hx hb hts iRX2 tyX2 tyX2_ok nmX2 hown hw 0 (by omega) he35 rfl 11 (by decide) (hts (.fieldLink RX2 107 "LibraryDesk" "lastFailedCall" "I") (by decide +kernel)) (fun _ h9 => h9) rfl (by decide +kernel) rfl rfl (Nat.le_of_ble_eq_true rfl) dX2_noteFailure_53 (fun en46 H locs hE45 hw => ?_)
    have he47 : en46 0 = .inr (3, [.ref (ad 1), .ref (ad nb), .ref (ad tb), .long ta, .int tw, .int tp, .int (cs 0), .int (cs 1), .int (cs 2 + 1), .int tw, .int tp, .int (nI c1), .int (cs 6)]) := w_self hE45
    have he48 : en46 1 = .inl (q.2.2.2, 10, .inr (.inr (.inr (.inr gt1)))) := w_ne hE45 (by omega) he36
    have he49 : en46 nb = .inr (1, [.ref (ad (nb + 1)), .ref (ad (nb + 2)), .ref (ad (nb + 3)), .ref (ad (nb + 4)), .int (nI (aCn A))]) := w_ne hE45 (by omega) he37
    have he50 : en46 (nb + 1) = .inl (q.1, 8, .inl mft1) := w_ne hE45 (by omega) he38
    have he51 : en46 (nb + 2) = .inl (q.2.1, 8, .inr (.inl vht1)) := w_ne hE45 (by omega) he39
    have he52 : en46 (nb + 3) = .inl (q.2.1, 8, .inr (.inl tft1)) := w_ne hE45 (by omega) he40
    have he53 : en46 (nb + 4) = .inl (q.2.1, 20, .inr (.inl vft1)) := w_ne hE45 (by omega) he41
    have he54 : en46 (2 + 3 * c1) = .inr (2, [.int ((pl c1).1), .int (nI (pl c1).2.1), .ref (ad (2 + 3 * c1 + 1)), .ref (ad (2 + 3 * c1 + 2)), .int ((pl c1).2.2.2.2.1), .int ((pl c1).2.2.2.2.2)]) := w_ne hE45 (by omega) he42
    have he55 : en46 (2 + 3 * c1 + 1) = .inl (q.1, 6, .inl sfu2) := w_ne hE45 (by omega) he43
    have he56 : en46 (2 + 3 * c1 + 2) = .inl (q.1, 6, .inl kfu2) := w_ne hE45 (by omega) he44
    refine lv_aload_n hx hb dX2_noteFailure_56 rfl (lv_at hl 0 rfl) ?_
    refine lv_iload_n hx hb dX2_noteFailure_57 rfl (lv_at hl 2 rfl) ?_
    refine wr_put (ci := 3) (v := .int z) (ty := .int) (C := RX2) (T := TX2) (N := 13) hx hb hts iRX2 tyX2 tyX2_ok nmX2 hown hw 0 (by omega) he47 rfl 12 (by decide) (hts (.fieldLink RX2 110 "LibraryDesk" "lastFailedNumber" "I") (by decide +kernel)) (fun _ h9 => h9) rfl (by decide +kernel) rfl rfl (Nat.le_of_ble_eq_true rfl) dX2_noteFailure_58 (fun en58 H locs hE57 hw => ?_)
    have he59 : en58 0 = .inr (3, [.ref (ad 1), .ref (ad nb), .ref (ad tb), .long ta, .int tw, .int tp, .int (cs 0), .int (cs 1), .int (cs 2 + 1), .int tw, .int tp, .int (nI c1), .int z]) := w_self hE57
    have he60 : en58 1 = .inl (q.2.2.2, 10, .inr (.inr (.inr (.inr gt1)))) := w_ne hE57 (by omega) he48
    have he61 : en58 nb = .inr (1, [.ref (ad (nb + 1)), .ref (ad (nb + 2)), .ref (ad (nb + 3)), .ref (ad (nb + 4)), .int (nI (aCn A))]) := w_ne hE57 (by omega) he49
    have he62 : en58 (nb + 1) = .inl (q.1, 8, .inl mft1) := w_ne hE57 (by omega) he50
    have he63 : en58 (nb + 2) = .inl (q.2.1, 8, .inr (.inl vht1)) := w_ne hE57 (by omega) he51
    have he64 : en58 (nb + 3) = .inl (q.2.1, 8, .inr (.inl tft1)) := w_ne hE57 (by omega) he52
    have he65 : en58 (nb + 4) = .inl (q.2.1, 20, .inr (.inl vft1)) := w_ne hE57 (by omega) he53
    have he66 : en58 (2 + 3 * c1) = .inr (2, [.int ((pl c1).1), .int (nI (pl c1).2.1), .ref (ad (2 + 3 * c1 + 1)), .ref (ad (2 + 3 * c1 + 2)), .int ((pl c1).2.2.2.2.1), .int ((pl c1).2.2.2.2.2)]) := w_ne hE57 (by omega) he54
    have he67 : en58 (2 + 3 * c1 + 1) = .inl (q.1, 6, .inl sfu2) := w_ne hE57 (by omega) he55
    have he68 : en58 (2 + 3 * c1 + 2) = .inl (q.1, 6, .inl kfu2) := w_ne hE57 (by omega) he56
    refine we_v hx hb hr hlocks hw ?_ dX2_noteFailure_61
    have hF : pForgetI tp (pl c1) = pl c1 := by
      unfold pForgetI
      rw [if_neg hh]
    rw [hF, va_up_id]
    exact ⟨DeskC_obj (cs' := nfC cs tw tp (nI c1) z) hC ⟨rfl, rfl⟩ he59 (fun j hj => (w_fr hE57 (by omega)).trans ((w_fr hE45 (by omega)).trans ((w_fr hE33 (by omega)).trans ((w_fr hE21 (by omega)).trans (w_fr hE9 (by omega)))))), fun j hj => (w_fr hE57 (by omega)).trans ((w_fr hE45 (by omega)).trans ((w_fr hE33 (by omega)).trans ((w_fr hE21 (by omega)).trans (w_fr hE9 (by omega)))))⟩
  · have hh := z01_t hr6 c13
    refine lv_aload_n hx hb dX2_noteFailure_16 rfl (lv_at hl 0 rfl) ?_
    refine wr_get (ci := 3) (C := RX2) (T := TX2) (N := 13) hx hb hts iRX2 hown hw 0 (by omega) dt1 rfl 0 (by decide) (hts (.fieldLink RX2 11 "LibraryDesk" "plans" "[LLibraryDesk$Plan;") (by decide +kernel)) (fun _ h9 => h9) rfl dX2_noteFailure_17 ?_
    refine lv_iload_n hx hb dX2_noteFailure_20 rfl (lv_at hl 1 rfl) ?_
    refine wr_aldq (q := ad (2 + 3 * c1)) hx hb hw 1 (by omega) 3 et1 rfl (vp_in_nI (by omega) (by decide)) (by rw [(nI_clamp (by omega))]; exact hgt1 c1 hc) dX2_noteFailure_21 ?_
    refine wc_v hw (va_runV (As := []) (rest := []) ⟨hx, hb, hml, hown, hts⟩ (kX1_forgetTold l dC dI q ad en n _ (2 + 3 * c1) (by omega) (pl c1) (hpt1 c1 hc)) (cwV 0 hts gX2_noteFailure_X1_forgetTold rfl rfl rfl (by decide +kernel) ⟨Nat.le_of_ble_eq_true rfl, Nat.le_of_ble_eq_true rfl⟩) (wk_preV hw (by omega) p0u2 rfl) rfl rfl hl.1 rfl (lv_room (Nat.le_of_ble_eq_true rfl)) dX2_noteFailure_22 ⟨Nat.le_refl _, Nat.le_refl _⟩) (fun en71 H locs hp70 hw => ?_)
    obtain ⟨hP1, hfr1⟩ := hp70
    have hC1 := DeskC_plan hC hc hP1 hfr1
    obtain ⟨-, dt72, ⟨gt72, et72, hgt72⟩, hpt72, hNt72, hTt72⟩ := id hC1
    obtain ⟨mft72, vht72, tft72, vft72, n0t72, n1t72, n2t72, n3t72, n4t72, hRt72⟩ := id hNt72
    refine lv_aload_n hx hb dX2_noteFailure_25 rfl (lv_at hl 0 rfl) ?_
    refine lv_dup hx hb dX2_noteFailure_26 rfl ?_
    refine wr_get (ci := 3) (C := RX2) (T := TX2) (N := 13) hx hb hts iRX2 hown hw 0 (by omega) dt72 rfl 8 (by decide) (hts (.fieldLink RX2 98 "LibraryDesk" "failedCalls" "I") (by decide +kernel)) (fun _ h9 => h9) rfl dX2_noteFailure_27 ?_
    refine lv_iconst (v := 1) hx hb dX2_noteFailure_30 (by decide) ?_
    refine lv_iadd hx hb dX2_noteFailure_31 ?_
    refine lv_topi (fun x73 ex73 => ?_)
    have ex73n : x73 = cs 2 + 1 := ex73.trans (rfl)
    clear ex73
    subst ex73n
    refine wr_put (ci := 3) (v := .int (cs 2 + 1)) (ty := .int) (C := RX2) (T := TX2) (N := 13) hx hb hts iRX2 tyX2 tyX2_ok nmX2 hown hw 0 (by omega) dt72 rfl 8 (by decide) (hts (.fieldLink RX2 98 "LibraryDesk" "failedCalls" "I") (by decide +kernel)) (fun _ h9 => h9) rfl (by decide +kernel) rfl rfl (Nat.le_of_ble_eq_true rfl) dX2_noteFailure_32 (fun en75 H locs hE74 hw => ?_)
    have he76 : en75 0 = .inr (3, [.ref (ad 1), .ref (ad nb), .ref (ad tb), .long ta, .int tw, .int tp, .int (cs 0), .int (cs 1), .int (cs 2 + 1), .int (cs 3), .int (cs 4), .int (cs 5), .int (cs 6)]) := w_self hE74
    have he77 : en75 1 = .inl (q.2.2.2, 10, .inr (.inr (.inr (.inr gt72)))) := w_ne hE74 (by omega) et72
    have he78 : en75 nb = .inr (1, [.ref (ad (nb + 1)), .ref (ad (nb + 2)), .ref (ad (nb + 3)), .ref (ad (nb + 4)), .int (nI (aCn A))]) := w_ne hE74 (by omega) n0t72
    have he79 : en75 (nb + 1) = .inl (q.1, 8, .inl mft72) := w_ne hE74 (by omega) n1t72
    have he80 : en75 (nb + 2) = .inl (q.2.1, 8, .inr (.inl vht72)) := w_ne hE74 (by omega) n2t72
    have he81 : en75 (nb + 3) = .inl (q.2.1, 8, .inr (.inl tft72)) := w_ne hE74 (by omega) n3t72
    have he82 : en75 (nb + 4) = .inl (q.2.1, 20, .inr (.inl vft72)) := w_ne hE74 (by omega) n4t72
    refine lv_aload_n hx hb dX2_noteFailure_35 rfl (lv_at hl 0 rfl) ?_
    refine lv_aload_n hx hb dX2_noteFailure_36 rfl (lv_at hl 0 rfl) ?_
    refine wr_get (ci := 3) (C := RX2) (T := TX2) (N := 13) hx hb hts iRX2 hown hw 0 (by omega) he76 rfl 4 (by decide) (hts (.fieldLink RX2 80 "LibraryDesk" "trialFailedWith" "I") (by decide +kernel)) (fun _ h9 => h9) rfl dX2_noteFailure_37 ?_
    refine wr_put (ci := 3) (v := .int tw) (ty := .int) (C := RX2) (T := TX2) (N := 13) hx hb hts iRX2 tyX2 tyX2_ok nmX2 hown hw 0 (by omega) he76 rfl 9 (by decide) (hts (.fieldLink RX2 101 "LibraryDesk" "lastFailedWith" "I") (by decide +kernel)) (fun _ h9 => h9) rfl (by decide +kernel) rfl rfl (Nat.le_of_ble_eq_true rfl) dX2_noteFailure_40 (fun en84 H locs hE83 hw => ?_)
    have he85 : en84 0 = .inr (3, [.ref (ad 1), .ref (ad nb), .ref (ad tb), .long ta, .int tw, .int tp, .int (cs 0), .int (cs 1), .int (cs 2 + 1), .int tw, .int (cs 4), .int (cs 5), .int (cs 6)]) := w_self hE83
    have he86 : en84 1 = .inl (q.2.2.2, 10, .inr (.inr (.inr (.inr gt72)))) := w_ne hE83 (by omega) he77
    have he87 : en84 nb = .inr (1, [.ref (ad (nb + 1)), .ref (ad (nb + 2)), .ref (ad (nb + 3)), .ref (ad (nb + 4)), .int (nI (aCn A))]) := w_ne hE83 (by omega) he78
    have he88 : en84 (nb + 1) = .inl (q.1, 8, .inl mft72) := w_ne hE83 (by omega) he79
    have he89 : en84 (nb + 2) = .inl (q.2.1, 8, .inr (.inl vht72)) := w_ne hE83 (by omega) he80
    have he90 : en84 (nb + 3) = .inl (q.2.1, 8, .inr (.inl tft72)) := w_ne hE83 (by omega) he81
    have he91 : en84 (nb + 4) = .inl (q.2.1, 20, .inr (.inl vft72)) := w_ne hE83 (by omega) he82
    refine lv_aload_n hx hb dX2_noteFailure_43 rfl (lv_at hl 0 rfl) ?_
    refine lv_aload_n hx hb dX2_noteFailure_44 rfl (lv_at hl 0 rfl) ?_
    refine wr_get (ci := 3) (C := RX2) (T := TX2) (N := 13) hx hb hts iRX2 hown hw 0 (by omega) he85 rfl 5 (by decide) (hts (.fieldLink RX2 138 "LibraryDesk" "trialFailedAt" "I") (by decide +kernel)) (fun _ h9 => h9) rfl dX2_noteFailure_45 ?_
    refine wr_put (ci := 3) (v := .int tp) (ty := .int) (C := RX2) (T := TX2) (N := 13) hx hb hts iRX2 tyX2 tyX2_ok nmX2 hown hw 0 (by omega) he85 rfl 10 (by decide) (hts (.fieldLink RX2 104 "LibraryDesk" "lastFailedAct" "I") (by decide +kernel)) (fun _ h9 => h9) rfl (by decide +kernel) rfl rfl (Nat.le_of_ble_eq_true rfl) dX2_noteFailure_48 (fun en93 H locs hE92 hw => ?_)
    have he94 : en93 0 = .inr (3, [.ref (ad 1), .ref (ad nb), .ref (ad tb), .long ta, .int tw, .int tp, .int (cs 0), .int (cs 1), .int (cs 2 + 1), .int tw, .int tp, .int (cs 5), .int (cs 6)]) := w_self hE92
    have he95 : en93 1 = .inl (q.2.2.2, 10, .inr (.inr (.inr (.inr gt72)))) := w_ne hE92 (by omega) he86
    have he96 : en93 nb = .inr (1, [.ref (ad (nb + 1)), .ref (ad (nb + 2)), .ref (ad (nb + 3)), .ref (ad (nb + 4)), .int (nI (aCn A))]) := w_ne hE92 (by omega) he87
    have he97 : en93 (nb + 1) = .inl (q.1, 8, .inl mft72) := w_ne hE92 (by omega) he88
    have he98 : en93 (nb + 2) = .inl (q.2.1, 8, .inr (.inl vht72)) := w_ne hE92 (by omega) he89
    have he99 : en93 (nb + 3) = .inl (q.2.1, 8, .inr (.inl tft72)) := w_ne hE92 (by omega) he90
    have he100 : en93 (nb + 4) = .inl (q.2.1, 20, .inr (.inl vft72)) := w_ne hE92 (by omega) he91
    refine lv_aload_n hx hb dX2_noteFailure_51 rfl (lv_at hl 0 rfl) ?_
    refine lv_iload_n hx hb dX2_noteFailure_52 rfl (lv_at hl 1 rfl) ?_
    refine wr_put (ci := 3) (v := .int (nI c1)) (ty := .int) (C := RX2) (T := TX2) (N := 13) hx hb hts iRX2 tyX2 tyX2_ok nmX2 hown hw 0 (by omega) he94 rfl 11 (by decide) (hts (.fieldLink RX2 107 "LibraryDesk" "lastFailedCall" "I") (by decide +kernel)) (fun _ h9 => h9) rfl (by decide +kernel) rfl rfl (Nat.le_of_ble_eq_true rfl) dX2_noteFailure_53 (fun en102 H locs hE101 hw => ?_)
    have he103 : en102 0 = .inr (3, [.ref (ad 1), .ref (ad nb), .ref (ad tb), .long ta, .int tw, .int tp, .int (cs 0), .int (cs 1), .int (cs 2 + 1), .int tw, .int tp, .int (nI c1), .int (cs 6)]) := w_self hE101
    have he104 : en102 1 = .inl (q.2.2.2, 10, .inr (.inr (.inr (.inr gt72)))) := w_ne hE101 (by omega) he95
    have he105 : en102 nb = .inr (1, [.ref (ad (nb + 1)), .ref (ad (nb + 2)), .ref (ad (nb + 3)), .ref (ad (nb + 4)), .int (nI (aCn A))]) := w_ne hE101 (by omega) he96
    have he106 : en102 (nb + 1) = .inl (q.1, 8, .inl mft72) := w_ne hE101 (by omega) he97
    have he107 : en102 (nb + 2) = .inl (q.2.1, 8, .inr (.inl vht72)) := w_ne hE101 (by omega) he98
    have he108 : en102 (nb + 3) = .inl (q.2.1, 8, .inr (.inl tft72)) := w_ne hE101 (by omega) he99
    have he109 : en102 (nb + 4) = .inl (q.2.1, 20, .inr (.inl vft72)) := w_ne hE101 (by omega) he100
    refine lv_aload_n hx hb dX2_noteFailure_56 rfl (lv_at hl 0 rfl) ?_
    refine lv_iload_n hx hb dX2_noteFailure_57 rfl (lv_at hl 2 rfl) ?_
    refine wr_put (ci := 3) (v := .int z) (ty := .int) (C := RX2) (T := TX2) (N := 13) hx hb hts iRX2 tyX2 tyX2_ok nmX2 hown hw 0 (by omega) he103 rfl 12 (by decide) (hts (.fieldLink RX2 110 "LibraryDesk" "lastFailedNumber" "I") (by decide +kernel)) (fun _ h9 => h9) rfl (by decide +kernel) rfl rfl (Nat.le_of_ble_eq_true rfl) dX2_noteFailure_58 (fun en111 H locs hE110 hw => ?_)
    have he112 : en111 0 = .inr (3, [.ref (ad 1), .ref (ad nb), .ref (ad tb), .long ta, .int tw, .int tp, .int (cs 0), .int (cs 1), .int (cs 2 + 1), .int tw, .int tp, .int (nI c1), .int z]) := w_self hE110
    have he113 : en111 1 = .inl (q.2.2.2, 10, .inr (.inr (.inr (.inr gt72)))) := w_ne hE110 (by omega) he104
    have he114 : en111 nb = .inr (1, [.ref (ad (nb + 1)), .ref (ad (nb + 2)), .ref (ad (nb + 3)), .ref (ad (nb + 4)), .int (nI (aCn A))]) := w_ne hE110 (by omega) he105
    have he115 : en111 (nb + 1) = .inl (q.1, 8, .inl mft72) := w_ne hE110 (by omega) he106
    have he116 : en111 (nb + 2) = .inl (q.2.1, 8, .inr (.inl vht72)) := w_ne hE110 (by omega) he107
    have he117 : en111 (nb + 3) = .inl (q.2.1, 8, .inr (.inl tft72)) := w_ne hE110 (by omega) he108
    have he118 : en111 (nb + 4) = .inl (q.2.1, 20, .inr (.inl vft72)) := w_ne hE110 (by omega) he109
    refine we_v hx hb hr hlocks hw ?_ dX2_noteFailure_61
    have hF : pForgetI tp (pl c1) = ((pl c1).1, (pl c1).2.1, (pl c1).2.2.1, (pl c1).2.2.2.1, -1, (pl c1).2.2.2.2.2) := by
      unfold pForgetI
      rw [if_pos hh]
    rw [hF]
    exact ⟨DeskC_obj (cs' := nfC cs tw tp (nI c1) z) hC1 ⟨rfl, rfl⟩ he112 (fun j hj => (w_fr hE110 (by omega)).trans ((w_fr hE101 (by omega)).trans ((w_fr hE92 (by omega)).trans ((w_fr hE83 (by omega)).trans (w_fr hE74 (by omega)))))), fun j hj => (w_fr hE110 (by omega)).trans ((w_fr hE101 (by omega)).trans ((w_fr hE92 (by omega)).trans ((w_fr hE83 (by omega)).trans ((w_fr hE74 (by omega)).trans (hfr1 j (by omega))))))⟩

set_option maxHeartbeats 4000000 in
set_option maxRecDepth 100000 in
theorem kX2_tryActs (l : Launch) (dC : Nat → ClassId) (dI : Nat → Nat → Nat) (q : ClassId × ClassId × ClassId × ClassId) (ad : Nat → Nat) (en : Nat → va_E) (n sz : Nat) (hn42 : 42 ≤ n) (nb tb : Nat) (A Z : Ast) (pl : Nat → Pst) (cs : Nat → Int32) (ta : Int64) (tw tp : Int32) (hC : DeskC q ad en nb tb A Z pl cs ta tw tp) (hok : Aok A) (c1 : Nat) (hc : c1 < 10) (hpk : Pok (pl c1)) (z : Int32) (a : Int64) :
    Met l yX2_tryActs wsX2_tryActs ({ frames := 4, cells := 0, slots := 0, locals := 90 }) (wPc (dC, dI) vwCl (wT q) ad en n sz [.ref (ad 0), .ref (ad (2 + 3 * c1)), .int z, .long a]) (va_Qv (fun (en' : Nat → va_E) => ∃ tp2 : Int32, DeskC q ad en' nb tb A (tR (pl c1) z a A).2.2.1 pl cs (tR (pl c1) z a A).2.2.2 (tR (pl c1) z a A).1 tp2 ∧ (¬ (tR (pl c1) z a A).1 = 0 → tp2 = nI (tR (pl c1) z a A).2.1) ∧ ∀ j, 42 ≤ j → en' j = en j) (wB (dC, dI) vwCl (wT q) ad n (wA ad n sz)) (wA ad n sz)) 0 0 (wA ad n sz) := by
  refine Met.ofW (cc := cX2_tryActs) (maxL := 6) (ret := none) (by decide) rfl ?_
  intro p e s m args below meth c s₁ B hml hv
  obtain ⟨rfl, hsz, hP, hK, hD0, hE0⟩ := hv
  have hx := B.exec
  have hb := B.bytes
  have hr := B.returns
  have hts := atoms_spec (ws := wsX2_tryActs) B.pre
  have hown : s.vm.findClass RX2 = some m.cls := findClass_of_methodNamed B.named
  have hlocks := B.notSynchronized
  have iRX2 : ∀ w ∈ u_ws RX2 TX2 13, w ∈ wsX2_tryActs := by decide +kernel
  have iRX1 : ∀ w ∈ u_ws RX1 TX1 6, w ∈ wsX2_tryActs := by decide +kernel
  subst hsz
  have hw := wk_of hP hK hD0 hE0
  generalize wA ad n s.heap.size = AA at hw ⊢
  have hl := lv_entry ([.ref (ad 0), .ref (ad (2 + 3 * c1)), .int z, .long a]) (n := 6) (Nat.le_of_ble_eq_true rfl)
  rw [lg_entry_eq]
  generalize (lg_sl ([.ref (ad 0), .ref (ad (2 + 3 * c1)), .int z, .long a]) ++ List.replicate (6 - (lg_sl ([.ref (ad 0), .ref (ad (2 + 3 * c1)), .int z, .long a])).length) Slot.unset).toArray = ls at hl ⊢
  have hl : lv_has ls 6 [(0, .ref (ad 0)), (1, .ref (ad (2 + 3 * c1))), (2, .int z), (3, .long a)] := hl
  obtain ⟨hntt1, dt1, ⟨gt1, et1, hgt1⟩, hpt1, hNt1, hTt1⟩ := id hC
  obtain ⟨mft1, vht1, tft1, vft1, n0t1, n1t1, n2t1, n3t1, n4t1, hRt1⟩ := id hNt1
  obtain ⟨mzt1, vzt1, tzt1, wzt1, z0t1, z1t1, z2t1, z3t1, z4t1, hZt1⟩ := id hTt1
  have hnt := hntt1
  refine lv_aload_n hx hb dX2_tryActs_0 rfl (lv_at hl 0 rfl) ?_
  refine wr_get (ci := 3) (C := RX2) (T := TX2) (N := 13) hx hb hts iRX2 hown hw 0 (by omega) dt1 rfl 2 (by decide) (hts (.fieldLink RX2 23 "LibraryDesk" "trial" "LLibraryDesk$Holdings;") (by decide +kernel)) (fun _ h9 => h9) rfl dX2_tryActs_1 ?_
  refine lv_aload_n hx hb dX2_tryActs_4 rfl (lv_at hl 0 rfl) ?_
  refine wr_get (ci := 3) (C := RX2) (T := TX2) (N := 13) hx hb hts iRX2 hown hw 0 (by omega) dt1 rfl 1 (by decide) (hts (.fieldLink RX2 19 "LibraryDesk" "now" "LLibraryDesk$Holdings;") (by decide +kernel)) (fun _ h9 => h9) rfl dX2_tryActs_5 ?_
  refine wc_v hw (va_runV (As := [.ref (ad nb)]) (rest := []) ⟨hx, hb, hml, hown, hts⟩ (kX0_copyFrom l dC dI q ad en n _ tb nb (by omega) (by omega) (by omega) Z A hok hTt1 hNt1) (cwV 1 hts gX2_tryActs_X0_copyFrom rfl rfl rfl (by decide +kernel) ⟨Nat.le_of_ble_eq_true rfl, Nat.le_of_ble_eq_true rfl⟩) (wk_preV hw (by omega) z0t1 rfl) rfl rfl hl.1 rfl (lv_room (Nat.le_of_ble_eq_true rfl)) dX2_tryActs_8 ⟨Nat.le_refl _, Nat.le_refl _⟩) (fun en4 H locs hp3 hw => ?_)
  obtain ⟨hH1, hfr1⟩ := hp3
  have hC1 := DeskC_trial hC hH1 hfr1
  obtain ⟨-, dt5, ⟨gt5, et5, hgt5⟩, hpt5, hNt5, hTt5⟩ := id hC1
  obtain ⟨mft5, vht5, tft5, vft5, n0t5, n1t5, n2t5, n3t5, n4t5, hRt5⟩ := id hNt5
  obtain ⟨sfu6, kfu6, p0u6, p1u6, p2u6, p3u6⟩ := id (hpt5 c1 hc)
  refine lv_aload_n hx hb dX2_tryActs_11 rfl (lv_at hl 0 rfl) ?_
  refine lv_lload_n hx hb dX2_tryActs_12 rfl (lv_at hl 3 rfl) ?_
  refine wr_put (ci := 3) (v := .long a) (ty := .long) (C := RX2) (T := TX2) (N := 13) hx hb hts iRX2 tyX2 tyX2_ok nmX2 hown hw 0 (by omega) dt5 rfl 3 (by decide) (hts (.fieldLink RX2 94 "LibraryDesk" "trialAnswer" "J") (by decide +kernel)) (fun _ h9 => h9) rfl (by decide +kernel) rfl rfl (Nat.le_of_ble_eq_true rfl) dX2_tryActs_13 (fun en8 H locs hE7 hw => ?_)
  have he9 : en8 0 = .inr (3, [.ref (ad 1), .ref (ad nb), .ref (ad tb), .long a, .int tw, .int tp, .int (cs 0), .int (cs 1), .int (cs 2), .int (cs 3), .int (cs 4), .int (cs 5), .int (cs 6)]) := w_self hE7
  have he10 : en8 1 = .inl (q.2.2.2, 10, .inr (.inr (.inr (.inr gt5)))) := w_ne hE7 (by omega) et5
  have he11 : en8 nb = .inr (1, [.ref (ad (nb + 1)), .ref (ad (nb + 2)), .ref (ad (nb + 3)), .ref (ad (nb + 4)), .int (nI (aCn A))]) := w_ne hE7 (by omega) n0t5
  have he12 : en8 (nb + 1) = .inl (q.1, 8, .inl mft5) := w_ne hE7 (by omega) n1t5
  have he13 : en8 (nb + 2) = .inl (q.2.1, 8, .inr (.inl vht5)) := w_ne hE7 (by omega) n2t5
  have he14 : en8 (nb + 3) = .inl (q.2.1, 8, .inr (.inl tft5)) := w_ne hE7 (by omega) n3t5
  have he15 : en8 (nb + 4) = .inl (q.2.1, 20, .inr (.inl vft5)) := w_ne hE7 (by omega) n4t5
  have he16 : en8 (2 + 3 * c1) = .inr (2, [.int ((pl c1).1), .int (nI (pl c1).2.1), .ref (ad (2 + 3 * c1 + 1)), .ref (ad (2 + 3 * c1 + 2)), .int ((pl c1).2.2.2.2.1), .int ((pl c1).2.2.2.2.2)]) := w_ne hE7 (by omega) p0u6
  have he17 : en8 (2 + 3 * c1 + 1) = .inl (q.1, 6, .inl sfu6) := w_ne hE7 (by omega) p1u6
  have he18 : en8 (2 + 3 * c1 + 2) = .inl (q.1, 6, .inl kfu6) := w_ne hE7 (by omega) p2u6
  refine lv_aload_n hx hb dX2_tryActs_16 rfl (lv_at hl 0 rfl) ?_
  refine lv_iconst (v := 0) hx hb dX2_tryActs_17 (by decide) ?_
  refine wr_put (ci := 3) (v := .int 0) (ty := .int) (C := RX2) (T := TX2) (N := 13) hx hb hts iRX2 tyX2 tyX2_ok nmX2 hown hw 0 (by omega) he9 rfl 4 (by decide) (hts (.fieldLink RX2 80 "LibraryDesk" "trialFailedWith" "I") (by decide +kernel)) (fun _ h9 => h9) rfl (by decide +kernel) rfl rfl (Nat.le_of_ble_eq_true rfl) dX2_tryActs_18 (fun en20 H locs hE19 hw => ?_)
  have he21 : en20 0 = .inr (3, [.ref (ad 1), .ref (ad nb), .ref (ad tb), .long a, .int 0, .int tp, .int (cs 0), .int (cs 1), .int (cs 2), .int (cs 3), .int (cs 4), .int (cs 5), .int (cs 6)]) := w_self hE19
  have he22 : en20 1 = .inl (q.2.2.2, 10, .inr (.inr (.inr (.inr gt5)))) := w_ne hE19 (by omega) he10
  have he23 : en20 nb = .inr (1, [.ref (ad (nb + 1)), .ref (ad (nb + 2)), .ref (ad (nb + 3)), .ref (ad (nb + 4)), .int (nI (aCn A))]) := w_ne hE19 (by omega) he11
  have he24 : en20 (nb + 1) = .inl (q.1, 8, .inl mft5) := w_ne hE19 (by omega) he12
  have he25 : en20 (nb + 2) = .inl (q.2.1, 8, .inr (.inl vht5)) := w_ne hE19 (by omega) he13
  have he26 : en20 (nb + 3) = .inl (q.2.1, 8, .inr (.inl tft5)) := w_ne hE19 (by omega) he14
  have he27 : en20 (nb + 4) = .inl (q.2.1, 20, .inr (.inl vft5)) := w_ne hE19 (by omega) he15
  have he28 : en20 (2 + 3 * c1) = .inr (2, [.int ((pl c1).1), .int (nI (pl c1).2.1), .ref (ad (2 + 3 * c1 + 1)), .ref (ad (2 + 3 * c1 + 2)), .int ((pl c1).2.2.2.2.1), .int ((pl c1).2.2.2.2.2)]) := w_ne hE19 (by omega) he16
  have he29 : en20 (2 + 3 * c1 + 1) = .inl (q.1, 6, .inl sfu6) := w_ne hE19 (by omega) he17
  have he30 : en20 (2 + 3 * c1 + 2) = .inl (q.1, 6, .inl kfu6) := w_ne hE19 (by omega) he18
  refine lv_iconst (v := 0) hx hb dX2_tryActs_21 (by decide) ?_
  refine lv_istore (lv' := [(5, .int 0), (0, .ref (ad 0)), (1, .ref (ad (2 + 3 * c1))), (2, .int z), (3, .long a)]) hx hb dX2_tryActs_22 hl (by decide) rfl (fun ls hl => ?_)
  have hC2 := DeskC_obj hC1 ⟨rfl, rfl⟩ he21 (fun j hj => (w_fr hE19 (by omega)).trans (w_fr hE7 (by omega)))
  have keyF : ∀ (i : Nat) (en1 : Nat → va_E) (Zi : Ast) (xi : Int64) (w1 : Int32) (pp : Nat), DeskC q ad en1 nb tb A Zi pl cs xi w1 (nI pp) → ¬ w1 = 0 → (tR (pl c1) z a A) = (w1, pp, Zi, xi) → (∀ j, 42 ≤ j → en1 j = en j) → ∀ (H : Heap) (locs : List Loc), wk (dC, dI) vwCl (wT q) ad en1 n AA s H locs → ∀ ls : Array Slot, lv_has ls 6 [(5, .int (nI i)), (0, .ref (ad 0)), (1, .ref (ad (2 + 3 * c1))), (2, .int z), (3, .long a)] → W p l e (headSpec wsX2_tryActs ({ frames := 4, cells := 0, slots := 0, locals := 90 })).room s m ([.ref (ad 0), .ref (ad (2 + 3 * c1)), .int z, .long a].toArray) below meth c H locs 0 0 (MQ below (va_Qv (fun (en' : Nat → va_E) => ∃ tp2 : Int32, DeskC q ad en' nb tb A (tR (pl c1) z a A).2.2.1 pl cs (tR (pl c1) z a A).2.2.2 (tR (pl c1) z a A).1 tp2 ∧ (¬ (tR (pl c1) z a A).1 = 0 → tp2 = nI (tR (pl c1) z a A).2.1) ∧ ∀ j, 42 ≤ j → en' j = en j) (wB (dC, dI) vwCl (wT q) ad n AA) AA) ([.ref (ad 0), .ref (ad (2 + 3 * c1)), .int z, .long a].toArray) s 0 0 AA) (F0 m 24 ls []) := by
    intro i en1 Zi xi w1 pp hCf hw1 hres hfr H locs hw ls hl
    obtain ⟨-, dt31, ⟨gt31, et31, hgt31⟩, hpt31, hNt31, hTt31⟩ := id hCf
    obtain ⟨mft31, vht31, tft31, vft31, n0t31, n1t31, n2t31, n3t31, n4t31, hRt31⟩ := id hNt31
    obtain ⟨sfu32, kfu32, p0u32, p1u32, p2u32, p3u32⟩ := id (hpt31 c1 hc)
    refine lv_iload hx hb dX2_tryActs_24 (lv_at hl 0 rfl) ?_
    refine lv_aload_n hx hb dX2_tryActs_26 rfl (lv_at hl 2 rfl) ?_
    refine wr_get (ci := 2) (C := RX1) (T := TX1) (N := 6) hx hb hts iRX1 hown hw (2 + 3 * c1) (by omega) p0u32 rfl 1 (by decide) (hts (.fieldLink RX2 51 "LibraryDesk$Plan" "actCount" "I") (by decide +kernel)) (fun _ h9 => h9) rfl dX2_tryActs_27 ?_
    refine lv_icmp_ge (tgt := 81) hx hb dX2_tryActs_30 (by decide) (fun c30 => ?_) (fun c30 => ?_)
    · refine we_v hx hb hr hlocks hw ?_ dX2_tryActs_81
      rw [hres]
      exact ⟨nI pp, hCf, fun _ => rfl, fun j hj => hfr j hj⟩
    · refine lv_aload_n hx hb dX2_tryActs_33 rfl (lv_at hl 1 rfl) ?_
      refine wr_get (ci := 3) (C := RX2) (T := TX2) (N := 13) hx hb hts iRX2 hown hw 0 (by omega) dt31 rfl 4 (by decide) (hts (.fieldLink RX2 80 "LibraryDesk" "trialFailedWith" "I") (by decide +kernel)) (fun _ h9 => h9) rfl dX2_tryActs_34 ?_
      refine lv_if_ne (tgt := 81) hx hb dX2_tryActs_37 (by decide) (fun c37 => ?_) (fun c37 => ?_)
      · refine we_v hx hb hr hlocks hw ?_ dX2_tryActs_81
        rw [hres]
        exact ⟨nI pp, hCf, fun _ => rfl, fun j hj => hfr j hj⟩
      · exact absurd c37 hw1
  have key : ∀ (f i : Nat), i + f = (pl c1).2.1 → ∀ (en1 : Nat → va_E) (Zi : Ast) (xi : Int64) (tp1 : Int32), Aok Zi → DeskC q ad en1 nb tb A Zi pl cs xi 0 tp1 → aRun (pl c1) z a f i Zi xi = (tR (pl c1) z a A) → (∀ j, 42 ≤ j → en1 j = en j) → ∀ (H : Heap) (locs : List Loc), wk (dC, dI) vwCl (wT q) ad en1 n AA s H locs → ∀ ls : Array Slot, lv_has ls 6 [(5, .int (nI i)), (0, .ref (ad 0)), (1, .ref (ad (2 + 3 * c1))), (2, .int z), (3, .long a)] → W p l e (headSpec wsX2_tryActs ({ frames := 4, cells := 0, slots := 0, locals := 90 })).room s m ([.ref (ad 0), .ref (ad (2 + 3 * c1)), .int z, .long a].toArray) below meth c H locs 0 0 (MQ below (va_Qv (fun (en' : Nat → va_E) => ∃ tp2 : Int32, DeskC q ad en' nb tb A (tR (pl c1) z a A).2.2.1 pl cs (tR (pl c1) z a A).2.2.2 (tR (pl c1) z a A).1 tp2 ∧ (¬ (tR (pl c1) z a A).1 = 0 → tp2 = nI (tR (pl c1) z a A).2.1) ∧ ∀ j, 42 ≤ j → en' j = en j) (wB (dC, dI) vwCl (wT q) ad n AA) AA) ([.ref (ad 0), .ref (ad (2 + 3 * c1)), .int z, .long a].toArray) s 0 0 AA) (F0 m 24 ls []) := by
    intro f
    induction f with
    | zero =>
      intro i hif en1 Zi xi tp1 hokZ hCf hres hfr H locs hw ls hl
      have hpk6 := hpk.1
      have hi6 : i ≤ 6 := by omega
      obtain ⟨-, dt33, ⟨gt33, et33, hgt33⟩, hpt33, hNt33, hTt33⟩ := id hCf
      obtain ⟨mft33, vht33, tft33, vft33, n0t33, n1t33, n2t33, n3t33, n4t33, hRt33⟩ := id hNt33
      obtain ⟨sfu34, kfu34, p0u34, p1u34, p2u34, p3u34⟩ := id (hpt33 c1 hc)
      refine lv_iload hx hb dX2_tryActs_24 (lv_at hl 0 rfl) ?_
      refine lv_aload_n hx hb dX2_tryActs_26 rfl (lv_at hl 2 rfl) ?_
      refine wr_get (ci := 2) (C := RX1) (T := TX1) (N := 6) hx hb hts iRX1 hown hw (2 + 3 * c1) (by omega) p0u34 rfl 1 (by decide) (hts (.fieldLink RX2 51 "LibraryDesk$Plan" "actCount" "I") (by decide +kernel)) (fun _ h9 => h9) rfl dX2_tryActs_27 ?_
      refine lv_icmp_ge (tgt := 81) hx hb dX2_tryActs_30 (by decide) (fun c30 => ?_) (fun c30 => ?_)
      · refine we_v hx hb hr hlocks hw ?_ dX2_tryActs_81
        have hres : (0, i, Zi, xi) = (tR (pl c1) z a A) := hres
        rw [← hres]
        exact ⟨tp1, hCf, fun h => absurd rfl h, fun j hj => hfr j hj⟩
      · exact absurd (nI_le (by omega) (by omega)) c30
    | succ f ih =>
      intro i hif en1 Zi xi tp1 hokZ hCf hres hfr H locs hw ls hl
      have hpk6 := hpk.1
      have hi6 : i ≤ 6 := by omega
      obtain ⟨-, dt35, ⟨gt35, et35, hgt35⟩, hpt35, hNt35, hTt35⟩ := id hCf
      obtain ⟨mft35, vht35, tft35, vft35, n0t35, n1t35, n2t35, n3t35, n4t35, hRt35⟩ := id hNt35
      obtain ⟨sfu36, kfu36, p0u36, p1u36, p2u36, p3u36⟩ := id (hpt35 c1 hc)
      refine lv_iload hx hb dX2_tryActs_24 (lv_at hl 0 rfl) ?_
      refine lv_aload_n hx hb dX2_tryActs_26 rfl (lv_at hl 2 rfl) ?_
      refine wr_get (ci := 2) (C := RX1) (T := TX1) (N := 6) hx hb hts iRX1 hown hw (2 + 3 * c1) (by omega) p0u36 rfl 1 (by decide) (hts (.fieldLink RX2 51 "LibraryDesk$Plan" "actCount" "I") (by decide +kernel)) (fun _ h9 => h9) rfl dX2_tryActs_27 ?_
      refine lv_icmp_ge (tgt := 81) hx hb dX2_tryActs_30 (by decide) (fun c30 => ?_) (fun c30 => ?_)
      · exact absurd ((nI_leI (by omega) (by omega)).mp c30) (by omega)
      · refine lv_aload_n hx hb dX2_tryActs_33 rfl (lv_at hl 1 rfl) ?_
        refine wr_get (ci := 3) (C := RX2) (T := TX2) (N := 13) hx hb hts iRX2 hown hw 0 (by omega) dt35 rfl 4 (by decide) (hts (.fieldLink RX2 80 "LibraryDesk" "trialFailedWith" "I") (by decide +kernel)) (fun _ h9 => h9) rfl dX2_tryActs_34 ?_
        refine lv_if_ne (tgt := 81) hx hb dX2_tryActs_37 (by decide) (fun c37 => ?_) (fun c37 => ?_)
        · exact absurd rfl c37
        · refine lv_aload_n hx hb dX2_tryActs_40 rfl (lv_at hl 1 rfl) ?_
          refine lv_iload hx hb dX2_tryActs_41 (lv_at hl 0 rfl) ?_
          refine wr_put (ci := 3) (v := .int (nI i)) (ty := .int) (C := RX2) (T := TX2) (N := 13) hx hb hts iRX2 tyX2 tyX2_ok nmX2 hown hw 0 (by omega) dt35 rfl 5 (by decide) (hts (.fieldLink RX2 138 "LibraryDesk" "trialFailedAt" "I") (by decide +kernel)) (fun _ h9 => h9) rfl (by decide +kernel) rfl rfl (Nat.le_of_ble_eq_true rfl) dX2_tryActs_43 (fun en38 H locs hE37 hw => ?_)
          have he39 : en38 0 = .inr (3, [.ref (ad 1), .ref (ad nb), .ref (ad tb), .long xi, .int 0, .int (nI i), .int (cs 0), .int (cs 1), .int (cs 2), .int (cs 3), .int (cs 4), .int (cs 5), .int (cs 6)]) := w_self hE37
          have he40 : en38 1 = .inl (q.2.2.2, 10, .inr (.inr (.inr (.inr gt35)))) := w_ne hE37 (by omega) et35
          have he41 : en38 nb = .inr (1, [.ref (ad (nb + 1)), .ref (ad (nb + 2)), .ref (ad (nb + 3)), .ref (ad (nb + 4)), .int (nI (aCn A))]) := w_ne hE37 (by omega) n0t35
          have he42 : en38 (nb + 1) = .inl (q.1, 8, .inl mft35) := w_ne hE37 (by omega) n1t35
          have he43 : en38 (nb + 2) = .inl (q.2.1, 8, .inr (.inl vht35)) := w_ne hE37 (by omega) n2t35
          have he44 : en38 (nb + 3) = .inl (q.2.1, 8, .inr (.inl tft35)) := w_ne hE37 (by omega) n3t35
          have he45 : en38 (nb + 4) = .inl (q.2.1, 20, .inr (.inl vft35)) := w_ne hE37 (by omega) n4t35
          have he46 : en38 (2 + 3 * c1) = .inr (2, [.int ((pl c1).1), .int (nI (pl c1).2.1), .ref (ad (2 + 3 * c1 + 1)), .ref (ad (2 + 3 * c1 + 2)), .int ((pl c1).2.2.2.2.1), .int ((pl c1).2.2.2.2.2)]) := w_ne hE37 (by omega) p0u36
          have he47 : en38 (2 + 3 * c1 + 1) = .inl (q.1, 6, .inl sfu36) := w_ne hE37 (by omega) p1u36
          have he48 : en38 (2 + 3 * c1 + 2) = .inl (q.1, 6, .inl kfu36) := w_ne hE37 (by omega) p2u36
          have hC3 := DeskC_obj hCf ⟨rfl, rfl⟩ he39 (fun j hj => w_fr hE37 (by omega))
          obtain ⟨-, dt49, ⟨gt49, et49, hgt49⟩, hpt49, hNt49, hTt49⟩ := id hC3
          obtain ⟨mft49, vht49, tft49, vft49, n0t49, n1t49, n2t49, n3t49, n4t49, hRt49⟩ := id hNt49
          obtain ⟨sfu50, kfu50, p0u50, p1u50, p2u50, p3u50⟩ := id (hpt49 c1 hc)
          refine lv_aload_n hx hb dX2_tryActs_46 rfl (lv_at hl 1 rfl) ?_
          refine lv_aload_n hx hb dX2_tryActs_47 rfl (lv_at hl 2 rfl) ?_
          refine lv_iload hx hb dX2_tryActs_48 (lv_at hl 0 rfl) ?_
          refine wc_i hw (va_runV (As := [.int (nI i)]) (rest := [.ref (ad 0)]) ⟨hx, hb, hml, hown, hts⟩ (kX1_isToldToFailAt l dC dI q ad en38 n _ (2 + 3 * c1) (by omega) (pl c1) (hpt49 c1 hc) (nI i)) (cwV 1 hts gX2_tryActs_X1_isToldToFailAt rfl rfl rfl (by decide +kernel) ⟨Nat.le_of_ble_eq_true rfl, Nat.le_of_ble_eq_true rfl⟩) (wk_preV hw (by omega) p0u50 rfl) rfl rfl hl.1 rfl (lv_room (Nat.le_of_ble_eq_true rfl)) dX2_tryActs_50 ⟨Nat.le_refl _, Nat.le_refl _⟩) (fun r51 en53 H locs hp52 hw => ?_)
          obtain ⟨hr54, hn55⟩ := hp52
          rw [hn55] at hw
          clear hn55
          refine lv_if_eq (tgt := 63) hx hb dX2_tryActs_53 (by decide) (fun c53 => ?_) (fun c53 => ?_)
          · have htold := z01_f hr54 c53
            refine lv_aload_n hx hb dX2_tryActs_63 rfl (lv_at hl 1 rfl) ?_
            refine lv_aload_n hx hb dX2_tryActs_64 rfl (lv_at hl 2 rfl) ?_
            refine lv_iload hx hb dX2_tryActs_65 (lv_at hl 0 rfl) ?_
            refine lv_iload_n hx hb dX2_tryActs_67 rfl (lv_at hl 3 rfl) ?_
            refine lv_lload_n hx hb dX2_tryActs_68 rfl (lv_at hl 4 rfl) ?_
            refine wc_i hw (va_runV (As := [.ref (ad (2 + 3 * c1)), .int (nI i), .int z, .long a]) (rest := [.ref (ad 0)]) ⟨hx, hb, hml, hown, hts⟩ (kX2_doAct l dC dI q ad en38 n _ hn42 nb tb A Zi pl cs xi 0 (nI i) hC3 hokZ c1 hc hpk i (by omega) z a) (cwV 4 hts gX2_tryActs_X2_doAct rfl rfl rfl (by decide +kernel) ⟨Nat.le_of_ble_eq_true rfl, Nat.le_of_ble_eq_true rfl⟩) (wk_preV hw (by omega) dt49 rfl) rfl rfl hl.1 rfl (lv_room (Nat.le_of_ble_eq_true rfl)) dX2_tryActs_69 ⟨Nat.le_refl _, Nat.le_refl _⟩) (fun r56 en58 H locs hp57 hw => ?_)
            obtain ⟨hr1, hC4, hfr4⟩ := hp57
            obtain ⟨-, dt59, ⟨gt59, et59, hgt59⟩, hpt59, hNt59, hTt59⟩ := id hC4
            obtain ⟨mft59, vht59, tft59, vft59, n0t59, n1t59, n2t59, n3t59, n4t59, hRt59⟩ := id hNt59
            obtain ⟨sfu60, kfu60, p0u60, p1u60, p2u60, p3u60⟩ := id (hpt59 c1 hc)
            refine wr_put (ci := 3) (v := .int r56) (ty := .int) (C := RX2) (T := TX2) (N := 13) hx hb hts iRX2 tyX2 tyX2_ok nmX2 hown hw 0 (by omega) dt59 rfl 4 (by decide) (hts (.fieldLink RX2 80 "LibraryDesk" "trialFailedWith" "I") (by decide +kernel)) (fun _ h9 => h9) rfl (by decide +kernel) rfl rfl (Nat.le_of_ble_eq_true rfl) dX2_tryActs_72 (fun en62 H locs hE61 hw => ?_)
            have he63 : en62 0 = .inr (3, [.ref (ad 1), .ref (ad nb), .ref (ad tb), .long ((aDo (pl c1) i z a Zi xi).2.2), .int r56, .int (nI i), .int (cs 0), .int (cs 1), .int (cs 2), .int (cs 3), .int (cs 4), .int (cs 5), .int (cs 6)]) := w_self hE61
            have he64 : en62 1 = .inl (q.2.2.2, 10, .inr (.inr (.inr (.inr gt59)))) := w_ne hE61 (by omega) et59
            have he65 : en62 nb = .inr (1, [.ref (ad (nb + 1)), .ref (ad (nb + 2)), .ref (ad (nb + 3)), .ref (ad (nb + 4)), .int (nI (aCn A))]) := w_ne hE61 (by omega) n0t59
            have he66 : en62 (nb + 1) = .inl (q.1, 8, .inl mft59) := w_ne hE61 (by omega) n1t59
            have he67 : en62 (nb + 2) = .inl (q.2.1, 8, .inr (.inl vht59)) := w_ne hE61 (by omega) n2t59
            have he68 : en62 (nb + 3) = .inl (q.2.1, 8, .inr (.inl tft59)) := w_ne hE61 (by omega) n3t59
            have he69 : en62 (nb + 4) = .inl (q.2.1, 20, .inr (.inl vft59)) := w_ne hE61 (by omega) n4t59
            have he70 : en62 (2 + 3 * c1) = .inr (2, [.int ((pl c1).1), .int (nI (pl c1).2.1), .ref (ad (2 + 3 * c1 + 1)), .ref (ad (2 + 3 * c1 + 2)), .int ((pl c1).2.2.2.2.1), .int ((pl c1).2.2.2.2.2)]) := w_ne hE61 (by omega) p0u60
            have he71 : en62 (2 + 3 * c1 + 1) = .inl (q.1, 6, .inl sfu60) := w_ne hE61 (by omega) p1u60
            have he72 : en62 (2 + 3 * c1 + 2) = .inl (q.1, 6, .inl kfu60) := w_ne hE61 (by omega) p2u60
            refine lv_iinc (v := nI (i + 1)) (lv' := [(5, .int (nI (i + 1))), (0, .ref (ad 0)), (1, .ref (ad (2 + 3 * c1))), (2, .int z), (3, .long a)]) hx hb dX2_tryActs_75 hl (k := 0) rfl (nI_1 i) (by decide) rfl (fun ls hl => ?_)
            refine lv_goto (tgt := 24) hx hb dX2_tryActs_78 (by decide) ?_
            have hC5 := DeskC_obj hC4 ⟨rfl, rfl⟩ he63 (fun j hj => w_fr hE61 (by omega))
            by_cases hz : r56 = 0
            · have hz2 : (aDo (pl c1) i z a Zi xi).1 = 0 := hr1.symm.trans hz
              rw [aRun_s (by exact htold) hz2] at hres
              rw [hz] at hC5
              exact ih (i + 1) (by omega) _ _ _ _ (Aok_do hokZ) hC5 hres (fun j hj => (w_fr hE61 (by omega)).trans ((hfr4 j hj).trans ((w_fr hE37 (by omega)).trans (hfr j hj)))) _ _ hw ls (lv_sub hl [0, 1, 2, 3, 4] rfl)
            · have hz2 : ¬ (aDo (pl c1) i z a Zi xi).1 = 0 := fun h => hz (hr1.trans h)
              rw [aRun_f (by exact htold) hz2, ← hr1] at hres
              exact keyF (i + 1) _ _ _ _ i hC5 hz hres.symm (fun j hj => (w_fr hE61 (by omega)).trans ((hfr4 j hj).trans ((w_fr hE37 (by omega)).trans (hfr j hj)))) _ _ hw ls (lv_sub hl [0, 1, 2, 3, 4] rfl)
          · have htold := z01_t hr54 c53
            have htw : ¬ (pl c1).2.2.2.2.2 = 0 := told_ne hpk htold (by omega)
            have hres2 : (tR (pl c1) z a A) = ((pl c1).2.2.2.2.2, i, Zi, xi) := by rw [← hres]; exact aRun_t htold
            refine lv_aload_n hx hb dX2_tryActs_56 rfl (lv_at hl 2 rfl) ?_
            refine wr_get (ci := 2) (C := RX1) (T := TX1) (N := 6) hx hb hts iRX1 hown hw (2 + 3 * c1) (by omega) p0u50 rfl 5 (by decide) (hts (.fieldLink RX2 144 "LibraryDesk$Plan" "toldWith" "I") (by decide +kernel)) (fun _ h9 => h9) rfl dX2_tryActs_57 ?_
            refine lv_goto (tgt := 72) hx hb dX2_tryActs_60 (by decide) ?_
            refine wr_put (ci := 3) (v := .int ((pl c1).2.2.2.2.2)) (ty := .int) (C := RX2) (T := TX2) (N := 13) hx hb hts iRX2 tyX2 tyX2_ok nmX2 hown hw 0 (by omega) dt49 rfl 4 (by decide) (hts (.fieldLink RX2 80 "LibraryDesk" "trialFailedWith" "I") (by decide +kernel)) (fun _ h9 => h9) rfl (by decide +kernel) rfl rfl (Nat.le_of_ble_eq_true rfl) dX2_tryActs_72 (fun en74 H locs hE73 hw => ?_)
            have he75 : en74 0 = .inr (3, [.ref (ad 1), .ref (ad nb), .ref (ad tb), .long xi, .int ((pl c1).2.2.2.2.2), .int (nI i), .int (cs 0), .int (cs 1), .int (cs 2), .int (cs 3), .int (cs 4), .int (cs 5), .int (cs 6)]) := w_self hE73
            have he76 : en74 1 = .inl (q.2.2.2, 10, .inr (.inr (.inr (.inr gt49)))) := w_ne hE73 (by omega) et49
            have he77 : en74 nb = .inr (1, [.ref (ad (nb + 1)), .ref (ad (nb + 2)), .ref (ad (nb + 3)), .ref (ad (nb + 4)), .int (nI (aCn A))]) := w_ne hE73 (by omega) n0t49
            have he78 : en74 (nb + 1) = .inl (q.1, 8, .inl mft49) := w_ne hE73 (by omega) n1t49
            have he79 : en74 (nb + 2) = .inl (q.2.1, 8, .inr (.inl vht49)) := w_ne hE73 (by omega) n2t49
            have he80 : en74 (nb + 3) = .inl (q.2.1, 8, .inr (.inl tft49)) := w_ne hE73 (by omega) n3t49
            have he81 : en74 (nb + 4) = .inl (q.2.1, 20, .inr (.inl vft49)) := w_ne hE73 (by omega) n4t49
            have he82 : en74 (2 + 3 * c1) = .inr (2, [.int ((pl c1).1), .int (nI (pl c1).2.1), .ref (ad (2 + 3 * c1 + 1)), .ref (ad (2 + 3 * c1 + 2)), .int ((pl c1).2.2.2.2.1), .int ((pl c1).2.2.2.2.2)]) := w_ne hE73 (by omega) p0u50
            have he83 : en74 (2 + 3 * c1 + 1) = .inl (q.1, 6, .inl sfu50) := w_ne hE73 (by omega) p1u50
            have he84 : en74 (2 + 3 * c1 + 2) = .inl (q.1, 6, .inl kfu50) := w_ne hE73 (by omega) p2u50
            refine lv_iinc (v := nI (i + 1)) (lv' := [(5, .int (nI (i + 1))), (0, .ref (ad 0)), (1, .ref (ad (2 + 3 * c1))), (2, .int z), (3, .long a)]) hx hb dX2_tryActs_75 hl (k := 0) rfl (nI_1 i) (by decide) rfl (fun ls hl => ?_)
            refine lv_goto (tgt := 24) hx hb dX2_tryActs_78 (by decide) ?_
            exact keyF (i + 1) _ Zi xi _ i (DeskC_obj hC3 ⟨rfl, rfl⟩ he75 (fun j hj => w_fr hE73 (by omega))) htw hres2 (fun j hj => (w_fr hE73 (by omega)).trans ((w_fr hE37 (by omega)).trans (hfr j hj))) _ _ hw ls (lv_sub hl [0, 1, 2, 3, 4] rfl)
  exact key _ 0 (by omega) _ A a _ hok hC2 rfl (fun j hj => (w_fr hE19 (by omega)).trans ((w_fr hE7 (by omega)).trans (hfr1 j (by omega)))) _ _ hw ls (lv_sub hl [0, 1, 2, 3, 4] rfl)
end
section
theorem sRun_nI {c : Nat} {z : Int32} {a : Int64} {A : Ast} {pl : Nat → Pst} (hc : c < 10) : sRun (nI c) z a A pl = tR (pl c) z a A := by
  unfold sRun tR
  rw [nI_clamp (by omega)]
theorem sCall_ref {c z : Int32} {a : Int64} {A : Ast} {pl : Nat → Pst} (h : sRef c z A pl) : sCallR c z a A pl = -9223372036854775807 ∧ sCallA c z a A pl = A ∧ sCallP c z a A pl = pl ∧ ∀ cs, sCallC c z a A pl cs = upd cs 1 (cs 1 + 1) := by
  unfold sCallR sCallA sCallP sCallC
  rw [if_pos h, if_pos h, if_pos h]
  exact ⟨rfl, rfl, rfl, fun cs => by rw [if_pos h]⟩
theorem sCall_ok {c : Nat} {z : Int32} {a : Int64} {A : Ast} {pl : Nat → Pst} (hc : c < 10) (h : ¬ sRef (nI c) z A pl) (h0 : (tR (pl c) z a A).1 = 0) : sCallR (nI c) z a A pl = (tR (pl c) z a A).2.2.2 ∧ sCallA (nI c) z a A pl = (tR (pl c) z a A).2.2.1 ∧ sCallP (nI c) z a A pl = pl ∧ ∀ cs, sCallC (nI c) z a A pl cs = upd cs 0 (cs 0 + 1) := by
  unfold sCallR sCallA sCallP sCallC
  rw [if_neg h, if_neg h, if_neg h, sRun_nI hc, if_pos h0, if_pos h0, if_pos h0]
  exact ⟨rfl, rfl, rfl, fun cs => by rw [if_neg h, if_pos h0]⟩
theorem sCall_fail {c : Nat} {z : Int32} {a : Int64} {A : Ast} {pl : Nat → Pst} (hc : c < 10) (h : ¬ sRef (nI c) z A pl) (h0 : ¬ (tR (pl c) z a A).1 = 0) : sCallR (nI c) z a A pl = -9223372036854775806 ∧ sCallA (nI c) z a A pl = A ∧ sCallP (nI c) z a A pl = va_up pl c (pForgetI (nI (tR (pl c) z a A).2.1) (pl c)) ∧ ∀ cs, sCallC (nI c) z a A pl cs = nfC cs (tR (pl c) z a A).1 (nI (tR (pl c) z a A).2.1) (nI c) z := by
  unfold sCallR sCallA sCallP sCallC
  rw [if_neg h, if_neg h, if_neg h, sRun_nI hc, if_neg h0, if_neg h0, if_neg h0]
  exact ⟨rfl, rfl, by rw [nI_clamp (by omega)]; rfl, fun cs => by rw [if_neg h, if_neg h0]; rfl⟩
set_option maxHeartbeats 4000000 in
set_option maxRecDepth 100000 in
theorem kX2_call (l : Launch) (dC : Nat → ClassId) (dI : Nat → Nat → Nat) (q : ClassId × ClassId × ClassId × ClassId) (ad : Nat → Nat) (en : Nat → va_E) (n sz : Nat) (hn42 : 42 ≤ n) (A : Ast) (pl : Nat → Pst) (cs : Nat → Int32) (hok : Aok A) (hpok : ∀ i, i < 10 → Pok (pl i)) (hD : DeskAt q ad en A pl cs) (cv z : Int32) (a : Int64) :
    Met l yX2_call wsX2_call ({ frames := 5, cells := 0, slots := 0, locals := 115 }) (wPc (dC, dI) vwCl (wT q) ad en n sz [.ref (ad 0), .int cv, .int z, .long a]) (va_Ql (fun (r : Int64) (en' : Nat → va_E) => r = sCallR cv z a A pl ∧ DeskAt q ad en' (sCallA cv z a A pl) (sCallP cv z a A pl) (sCallC cv z a A pl cs) ∧ ∀ j, 42 ≤ j → en' j = en j) (wB (dC, dI) vwCl (wT q) ad n (wA ad n sz)) (wA ad n sz)) 0 0 (wA ad n sz) := by
  refine Met.ofW (cc := cX2_call) (maxL := 5) (ret := (some .long)) (by decide) rfl ?_
  intro p e s m args below meth c s₁ B hml hv
  obtain ⟨rfl, hsz, hP, hK, hD0, hE0⟩ := hv
  have hx := B.exec
  have hb := B.bytes
  have hr := B.returns
  have hts := atoms_spec (ws := wsX2_call) B.pre
  have hown : s.vm.findClass RX2 = some m.cls := findClass_of_methodNamed B.named
  have hlocks := B.notSynchronized
  have iRX2 : ∀ w ∈ u_ws RX2 TX2 13, w ∈ wsX2_call := by decide +kernel
  subst hsz
  have hw := wk_of hP hK hD0 hE0
  generalize wA ad n s.heap.size = AA at hw ⊢
  have hl := lv_entry ([.ref (ad 0), .int cv, .int z, .long a]) (n := 5) (Nat.le_of_ble_eq_true rfl)
  rw [lg_entry_eq]
  generalize (lg_sl ([.ref (ad 0), .int cv, .int z, .long a]) ++ List.replicate (5 - (lg_sl ([.ref (ad 0), .int cv, .int z, .long a])).length) Slot.unset).toArray = ls at hl ⊢
  have hl : lv_has ls 5 [(0, .ref (ad 0)), (1, .int cv), (2, .int z), (3, .long a)] := hl
  obtain ⟨nb, tb, Z, ta, tw, tp, hC⟩ := hD
  obtain ⟨hntt1, dt1, ⟨gt1, et1, hgt1⟩, hpt1, hNt1, hTt1⟩ := id hC
  obtain ⟨mft1, vht1, tft1, vft1, n0t1, n1t1, n2t1, n3t1, n4t1, hRt1⟩ := id hNt1
  have hnt := hntt1
  refine lv_aload_n hx hb dX2_call_0 rfl (lv_at hl 0 rfl) ?_
  refine lv_iload_n hx hb dX2_call_1 rfl (lv_at hl 1 rfl) ?_
  refine lv_iload_n hx hb dX2_call_2 rfl (lv_at hl 2 rfl) ?_
  refine wc_i hw (va_runV (As := [.int cv, .int z]) (rest := []) ⟨hx, hb, hml, hown, hts⟩ (kX2_isRefused l dC dI q ad en n _ hn42 A pl cs hok hpok ⟨nb, tb, Z, ta, tw, tp, hC⟩ cv z) (cwV 2 hts gX2_call_X2_isRefused rfl rfl rfl (by decide +kernel) ⟨Nat.le_of_ble_eq_true rfl, Nat.le_of_ble_eq_true rfl⟩) (wk_preV hw (by omega) dt1 rfl) rfl rfl hl.1 rfl (lv_room (Nat.le_of_ble_eq_true rfl)) dX2_call_3 ⟨Nat.le_refl _, Nat.le_refl _⟩) (fun r2 en4 H locs hp3 hw => ?_)
  obtain ⟨hr5, hn6⟩ := hp3
  rw [hn6] at hw
  clear hn6
  refine lv_if_eq (tgt := 23) hx hb dX2_call_6 (by decide) (fun c6 => ?_) (fun c6 => ?_)
  · have hnr := z01_f hr5 c6
    have hcv : okC cv := Decidable.of_not_not (fun h => hnr (Or.inl h))
    obtain ⟨c1, hc, ecv⟩ := okC_of hcv
    subst ecv
    obtain ⟨sfu7, kfu7, p0u7, p1u7, p2u7, p3u7⟩ := id (hpt1 c1 hc)
    refine lv_aload_n hx hb dX2_call_23 rfl (lv_at hl 0 rfl) ?_
    refine lv_aload_n hx hb dX2_call_24 rfl (lv_at hl 0 rfl) ?_
    refine wr_get (ci := 3) (C := RX2) (T := TX2) (N := 13) hx hb hts iRX2 hown hw 0 (by omega) dt1 rfl 0 (by decide) (hts (.fieldLink RX2 11 "LibraryDesk" "plans" "[LLibraryDesk$Plan;") (by decide +kernel)) (fun _ h9 => h9) rfl dX2_call_25 ?_
    refine lv_iload_n hx hb dX2_call_28 rfl (lv_at hl 1 rfl) ?_
    refine wr_aldq (q := ad (2 + 3 * c1)) hx hb hw 1 (by omega) 3 et1 rfl (vp_in_nI (by omega) (by decide)) (by rw [(nI_clamp (by omega))]; exact hgt1 c1 hc) dX2_call_29 ?_
    refine lv_iload_n hx hb dX2_call_30 rfl (lv_at hl 2 rfl) ?_
    refine lv_lload_n hx hb dX2_call_31 rfl (lv_at hl 3 rfl) ?_
    refine wc_v hw (va_runV (As := [.ref (ad (2 + 3 * c1)), .int z, .long a]) (rest := []) ⟨hx, hb, hml, hown, hts⟩ (kX2_tryActs l dC dI q ad en n _ hn42 nb tb A Z pl cs ta tw tp hC hok c1 hc (hpok c1 hc) z a) (cwV 3 hts gX2_call_X2_tryActs rfl rfl rfl (by decide +kernel) ⟨Nat.le_of_ble_eq_true rfl, Nat.le_of_ble_eq_true rfl⟩) (wk_preV hw (by omega) dt1 rfl) rfl rfl hl.1 rfl (lv_room (Nat.le_of_ble_eq_true rfl)) dX2_call_32 ⟨Nat.le_refl _, Nat.le_refl _⟩) (fun en10 H locs hp9 hw => ?_)
    obtain ⟨tp2, hC1, hpl2, hfr1⟩ := hp9
    obtain ⟨-, dt11, ⟨gt11, et11, hgt11⟩, hpt11, hNt11, hTt11⟩ := id hC1
    obtain ⟨mft11, vht11, tft11, vft11, n0t11, n1t11, n2t11, n3t11, n4t11, hRt11⟩ := id hNt11
    refine lv_aload_n hx hb dX2_call_35 rfl (lv_at hl 0 rfl) ?_
    refine wr_get (ci := 3) (C := RX2) (T := TX2) (N := 13) hx hb hts iRX2 hown hw 0 (by omega) dt11 rfl 4 (by decide) (hts (.fieldLink RX2 80 "LibraryDesk" "trialFailedWith" "I") (by decide +kernel)) (fun _ h9 => h9) rfl dX2_call_36 ?_
    refine lv_if_eq (tgt := 52) hx hb dX2_call_39 (by decide) (fun c39 => ?_) (fun c39 => ?_)
    · refine lv_aload_n hx hb dX2_call_52 rfl (lv_at hl 0 rfl) ?_
      refine wc_v hw (va_runV (As := []) (rest := []) ⟨hx, hb, hml, hown, hts⟩ (kX2_keepTrial l dC dI q ad en10 n _ hn42 nb tb A (tR (pl c1) z a A).2.2.1 pl cs (tR (pl c1) z a A).2.2.2 (tR (pl c1) z a A).1 tp2 hC1) (cwV 0 hts gX2_call_X2_keepTrial rfl rfl rfl (by decide +kernel) ⟨Nat.le_of_ble_eq_true rfl, Nat.le_of_ble_eq_true rfl⟩) (wk_preV hw (by omega) dt11 rfl) rfl rfl hl.1 rfl (lv_room (Nat.le_of_ble_eq_true rfl)) dX2_call_53 ⟨Nat.le_refl _, Nat.le_refl _⟩) (fun en14 H locs hp13 hw => ?_)
      obtain ⟨hC2, hfr2⟩ := hp13
      obtain ⟨-, dt15, ⟨gt15, et15, hgt15⟩, hpt15, hNt15, hTt15⟩ := id hC2
      obtain ⟨mft15, vht15, tft15, vft15, n0t15, n1t15, n2t15, n3t15, n4t15, hRt15⟩ := id hNt15
      refine lv_aload_n hx hb dX2_call_56 rfl (lv_at hl 0 rfl) ?_
      refine lv_dup hx hb dX2_call_57 rfl ?_
      refine wr_get (ci := 3) (C := RX2) (T := TX2) (N := 13) hx hb hts iRX2 hown hw 0 (by omega) dt15 rfl 6 (by decide) (hts (.fieldLink RX2 91 "LibraryDesk" "answeredCalls" "I") (by decide +kernel)) (fun _ h9 => h9) rfl dX2_call_58 ?_
      refine lv_iconst (v := 1) hx hb dX2_call_61 (by decide) ?_
      refine lv_iadd hx hb dX2_call_62 ?_
      refine lv_topi (fun x16 ex16 => ?_)
      have ex16n : x16 = cs 0 + 1 := ex16.trans (rfl)
      clear ex16
      subst ex16n
      refine wr_put (ci := 3) (v := .int (cs 0 + 1)) (ty := .int) (C := RX2) (T := TX2) (N := 13) hx hb hts iRX2 tyX2 tyX2_ok nmX2 hown hw 0 (by omega) dt15 rfl 6 (by decide) (hts (.fieldLink RX2 91 "LibraryDesk" "answeredCalls" "I") (by decide +kernel)) (fun _ h9 => h9) rfl (by decide +kernel) rfl rfl (Nat.le_of_ble_eq_true rfl) dX2_call_63 (fun en18 H locs hE17 hw => ?_)
      have he19 : en18 0 = .inr (3, [.ref (ad 1), .ref (ad tb), .ref (ad nb), .long ((tR (pl c1) z a A).2.2.2), .int ((tR (pl c1) z a A).1), .int tp2, .int (cs 0 + 1), .int (cs 1), .int (cs 2), .int (cs 3), .int (cs 4), .int (cs 5), .int (cs 6)]) := w_self hE17
      have he20 : en18 1 = .inl (q.2.2.2, 10, .inr (.inr (.inr (.inr gt15)))) := w_ne hE17 (by omega) et15
      have he21 : en18 tb = .inr (1, [.ref (ad (tb + 1)), .ref (ad (tb + 2)), .ref (ad (tb + 3)), .ref (ad (tb + 4)), .int (nI (aCn (tR (pl c1) z a A).2.2.1))]) := w_ne hE17 (by omega) n0t15
      have he22 : en18 (tb + 1) = .inl (q.1, 8, .inl mft15) := w_ne hE17 (by omega) n1t15
      have he23 : en18 (tb + 2) = .inl (q.2.1, 8, .inr (.inl vht15)) := w_ne hE17 (by omega) n2t15
      have he24 : en18 (tb + 3) = .inl (q.2.1, 8, .inr (.inl tft15)) := w_ne hE17 (by omega) n3t15
      have he25 : en18 (tb + 4) = .inl (q.2.1, 20, .inr (.inl vft15)) := w_ne hE17 (by omega) n4t15
      refine lv_aload_n hx hb dX2_call_66 rfl (lv_at hl 0 rfl) ?_
      refine wr_get (ci := 3) (C := RX2) (T := TX2) (N := 13) hx hb hts iRX2 hown hw 0 (by omega) he19 rfl 3 (by decide) (hts (.fieldLink RX2 94 "LibraryDesk" "trialAnswer" "J") (by decide +kernel)) (fun _ h9 => h9) rfl dX2_call_67 ?_
      refine we_l hx hb hr hlocks hw ?_ dX2_call_70
      have hS := sCall_ok (a := a) hc hnr c39
      refine ⟨hS.1.symm, ?_, fun j hj => (w_fr hE17 (by omega)).trans ((hfr2 j hj).trans (hfr1 j hj))⟩
      rw [hS.2.1, hS.2.2.1, hS.2.2.2 cs]
      exact ⟨tb, nb, _, _, _, _, DeskC_obj (cs' := upd cs 0 (cs 0 + 1)) hC2 ⟨rfl, rfl⟩ he19 (fun j hj => w_fr hE17 (by omega))⟩
    · refine lv_aload_n hx hb dX2_call_42 rfl (lv_at hl 0 rfl) ?_
      refine lv_iload_n hx hb dX2_call_43 rfl (lv_at hl 1 rfl) ?_
      refine lv_iload_n hx hb dX2_call_44 rfl (lv_at hl 2 rfl) ?_
      refine wc_v hw (va_runV (As := [.int (nI c1), .int z]) (rest := []) ⟨hx, hb, hml, hown, hts⟩ (kX2_noteFailure l dC dI q ad en10 n _ hn42 nb tb A (tR (pl c1) z a A).2.2.1 pl cs (tR (pl c1) z a A).2.2.2 (tR (pl c1) z a A).1 tp2 hC1 c1 hc z) (cwV 2 hts gX2_call_X2_noteFailure rfl rfl rfl (by decide +kernel) ⟨Nat.le_of_ble_eq_true rfl, Nat.le_of_ble_eq_true rfl⟩) (wk_preV hw (by omega) dt11 rfl) rfl rfl hl.1 rfl (lv_room (Nat.le_of_ble_eq_true rfl)) dX2_call_45 ⟨Nat.le_refl _, Nat.le_refl _⟩) (fun en28 H locs hp27 hw => ?_)
      obtain ⟨hC2, hfr2⟩ := hp27
      refine lv_ldc2 (v := (-9223372036854775806)) hx hb hown (hts (.constantLong RX2 86 (-9223372036854775806)) (by decide +kernel)) dX2_call_48 ?_
      refine we_l hx hb hr hlocks hw ?_ dX2_call_51
      have hS := sCall_fail (a := a) hc hnr c39
      refine ⟨hS.1.symm, ?_, fun j hj => (hfr2 j hj).trans (hfr1 j hj)⟩
      rw [hS.2.1, hS.2.2.1, hS.2.2.2 cs, ← hpl2 c39]
      exact ⟨nb, tb, _, _, _, _, hC2⟩
  · have href := z01_t hr5 c6
    refine lv_aload_n hx hb dX2_call_9 rfl (lv_at hl 0 rfl) ?_
    refine lv_dup hx hb dX2_call_10 rfl ?_
    refine wr_get (ci := 3) (C := RX2) (T := TX2) (N := 13) hx hb hts iRX2 hown hw 0 (by omega) dt1 rfl 7 (by decide) (hts (.fieldLink RX2 71 "LibraryDesk" "refusedCalls" "I") (by decide +kernel)) (fun _ h9 => h9) rfl dX2_call_11 ?_
    refine lv_iconst (v := 1) hx hb dX2_call_14 (by decide) ?_
    refine lv_iadd hx hb dX2_call_15 ?_
    refine lv_topi (fun x29 ex29 => ?_)
    have ex29n : x29 = cs 1 + 1 := ex29.trans (rfl)
    clear ex29
    subst ex29n
    refine wr_put (ci := 3) (v := .int (cs 1 + 1)) (ty := .int) (C := RX2) (T := TX2) (N := 13) hx hb hts iRX2 tyX2 tyX2_ok nmX2 hown hw 0 (by omega) dt1 rfl 7 (by decide) (hts (.fieldLink RX2 71 "LibraryDesk" "refusedCalls" "I") (by decide +kernel)) (fun _ h9 => h9) rfl (by decide +kernel) rfl rfl (Nat.le_of_ble_eq_true rfl) dX2_call_16 (fun en31 H locs hE30 hw => ?_)
    have he32 : en31 0 = .inr (3, [.ref (ad 1), .ref (ad nb), .ref (ad tb), .long ta, .int tw, .int tp, .int (cs 0), .int (cs 1 + 1), .int (cs 2), .int (cs 3), .int (cs 4), .int (cs 5), .int (cs 6)]) := w_self hE30
    have he33 : en31 1 = .inl (q.2.2.2, 10, .inr (.inr (.inr (.inr gt1)))) := w_ne hE30 (by omega) et1
    have he34 : en31 nb = .inr (1, [.ref (ad (nb + 1)), .ref (ad (nb + 2)), .ref (ad (nb + 3)), .ref (ad (nb + 4)), .int (nI (aCn A))]) := w_ne hE30 (by omega) n0t1
    have he35 : en31 (nb + 1) = .inl (q.1, 8, .inl mft1) := w_ne hE30 (by omega) n1t1
    have he36 : en31 (nb + 2) = .inl (q.2.1, 8, .inr (.inl vht1)) := w_ne hE30 (by omega) n2t1
    have he37 : en31 (nb + 3) = .inl (q.2.1, 8, .inr (.inl tft1)) := w_ne hE30 (by omega) n3t1
    have he38 : en31 (nb + 4) = .inl (q.2.1, 20, .inr (.inl vft1)) := w_ne hE30 (by omega) n4t1
    refine lv_ldc2 (v := (-9223372036854775807)) hx hb hown (hts (.constantLong RX2 74 (-9223372036854775807)) (by decide +kernel)) dX2_call_19 ?_
    refine we_l hx hb hr hlocks hw ?_ dX2_call_22
    have hS := sCall_ref (a := a) href
    refine ⟨hS.1.symm, ?_, fun j hj => w_fr hE30 (by omega)⟩
    rw [hS.2.1, hS.2.2.1, hS.2.2.2 cs]
    exact ⟨nb, tb, _, _, _, _, DeskC_obj (cs' := upd cs 1 (cs 1 + 1)) hC ⟨rfl, rfl⟩ he32 (fun j hj => w_fr hE30 (by omega))⟩

set_option maxHeartbeats 4000000 in
set_option maxRecDepth 100000 in
theorem kX2_again (l : Launch) (dC : Nat → ClassId) (dI : Nat → Nat → Nat) (q : ClassId × ClassId × ClassId × ClassId) (ad : Nat → Nat) (en : Nat → va_E) (n sz : Nat) (hn42 : 42 ≤ n) (A : Ast) (pl : Nat → Pst) (cs : Nat → Int32) (hok : Aok A) (hpok : ∀ i, i < 10 → Pok (pl i)) (hD : DeskAt q ad en A pl cs) (cv z : Int32) (a : Int64) :
    Met l yX2_again wsX2_again ({ frames := 5, cells := 0, slots := 0, locals := 115 }) (wPc (dC, dI) vwCl (wT q) ad en n sz [.ref (ad 0), .int cv, .int z, .long a]) (va_Ql (fun (r : Int64) (en' : Nat → va_E) => r = sCallR cv z a A pl ∧ DeskAt q ad en' A pl cs ∧ ∀ j, 42 ≤ j → en' j = en j) (wB (dC, dI) vwCl (wT q) ad n (wA ad n sz)) (wA ad n sz)) 0 0 (wA ad n sz) := by
  refine Met.ofW (cc := cX2_again) (maxL := 5) (ret := (some .long)) (by decide) rfl ?_
  intro p e s m args below meth c s₁ B hml hv
  obtain ⟨rfl, hsz, hP, hK, hD0, hE0⟩ := hv
  have hx := B.exec
  have hb := B.bytes
  have hr := B.returns
  have hts := atoms_spec (ws := wsX2_again) B.pre
  have hown : s.vm.findClass RX2 = some m.cls := findClass_of_methodNamed B.named
  have hlocks := B.notSynchronized
  have iRX2 : ∀ w ∈ u_ws RX2 TX2 13, w ∈ wsX2_again := by decide +kernel
  subst hsz
  have hw := wk_of hP hK hD0 hE0
  generalize wA ad n s.heap.size = AA at hw ⊢
  have hl := lv_entry ([.ref (ad 0), .int cv, .int z, .long a]) (n := 5) (Nat.le_of_ble_eq_true rfl)
  rw [lg_entry_eq]
  generalize (lg_sl ([.ref (ad 0), .int cv, .int z, .long a]) ++ List.replicate (5 - (lg_sl ([.ref (ad 0), .int cv, .int z, .long a])).length) Slot.unset).toArray = ls at hl ⊢
  have hl : lv_has ls 5 [(0, .ref (ad 0)), (1, .int cv), (2, .int z), (3, .long a)] := hl
  obtain ⟨nb, tb, Z, ta, tw, tp, hC⟩ := hD
  obtain ⟨hntt1, dt1, ⟨gt1, et1, hgt1⟩, hpt1, hNt1, hTt1⟩ := id hC
  obtain ⟨mft1, vht1, tft1, vft1, n0t1, n1t1, n2t1, n3t1, n4t1, hRt1⟩ := id hNt1
  have hnt := hntt1
  refine lv_aload_n hx hb dX2_again_0 rfl (lv_at hl 0 rfl) ?_
  refine lv_iload_n hx hb dX2_again_1 rfl (lv_at hl 1 rfl) ?_
  refine lv_iload_n hx hb dX2_again_2 rfl (lv_at hl 2 rfl) ?_
  refine wc_i hw (va_runV (As := [.int cv, .int z]) (rest := []) ⟨hx, hb, hml, hown, hts⟩ (kX2_isRefused l dC dI q ad en n _ hn42 A pl cs hok hpok ⟨nb, tb, Z, ta, tw, tp, hC⟩ cv z) (cwV 2 hts gX2_again_X2_isRefused rfl rfl rfl (by decide +kernel) ⟨Nat.le_of_ble_eq_true rfl, Nat.le_of_ble_eq_true rfl⟩) (wk_preV hw (by omega) dt1 rfl) rfl rfl hl.1 rfl (lv_room (Nat.le_of_ble_eq_true rfl)) dX2_again_3 ⟨Nat.le_refl _, Nat.le_refl _⟩) (fun r2 en4 H locs hp3 hw => ?_)
  obtain ⟨hr5, hn6⟩ := hp3
  rw [hn6] at hw
  clear hn6
  refine lv_if_eq (tgt := 13) hx hb dX2_again_6 (by decide) (fun c6 => ?_) (fun c6 => ?_)
  · have hnr := z01_f hr5 c6
    have hcv : okC cv := Decidable.of_not_not (fun h => hnr (Or.inl h))
    obtain ⟨c1, hc, ecv⟩ := okC_of hcv
    subst ecv
    obtain ⟨sfu7, kfu7, p0u7, p1u7, p2u7, p3u7⟩ := id (hpt1 c1 hc)
    refine lv_aload_n hx hb dX2_again_13 rfl (lv_at hl 0 rfl) ?_
    refine lv_aload_n hx hb dX2_again_14 rfl (lv_at hl 0 rfl) ?_
    refine wr_get (ci := 3) (C := RX2) (T := TX2) (N := 13) hx hb hts iRX2 hown hw 0 (by omega) dt1 rfl 0 (by decide) (hts (.fieldLink RX2 11 "LibraryDesk" "plans" "[LLibraryDesk$Plan;") (by decide +kernel)) (fun _ h9 => h9) rfl dX2_again_15 ?_
    refine lv_iload_n hx hb dX2_again_18 rfl (lv_at hl 1 rfl) ?_
    refine wr_aldq (q := ad (2 + 3 * c1)) hx hb hw 1 (by omega) 3 et1 rfl (vp_in_nI (by omega) (by decide)) (by rw [(nI_clamp (by omega))]; exact hgt1 c1 hc) dX2_again_19 ?_
    refine lv_iload_n hx hb dX2_again_20 rfl (lv_at hl 2 rfl) ?_
    refine lv_lload_n hx hb dX2_again_21 rfl (lv_at hl 3 rfl) ?_
    refine wc_v hw (va_runV (As := [.ref (ad (2 + 3 * c1)), .int z, .long a]) (rest := []) ⟨hx, hb, hml, hown, hts⟩ (kX2_tryActs l dC dI q ad en n _ hn42 nb tb A Z pl cs ta tw tp hC hok c1 hc (hpok c1 hc) z a) (cwV 3 hts gX2_again_X2_tryActs rfl rfl rfl (by decide +kernel) ⟨Nat.le_of_ble_eq_true rfl, Nat.le_of_ble_eq_true rfl⟩) (wk_preV hw (by omega) dt1 rfl) rfl rfl hl.1 rfl (lv_room (Nat.le_of_ble_eq_true rfl)) dX2_again_22 ⟨Nat.le_refl _, Nat.le_refl _⟩) (fun en10 H locs hp9 hw => ?_)
    obtain ⟨tp2, hC1, hpl2, hfr1⟩ := hp9
    obtain ⟨-, dt11, ⟨gt11, et11, hgt11⟩, hpt11, hNt11, hTt11⟩ := id hC1
    obtain ⟨mft11, vht11, tft11, vft11, n0t11, n1t11, n2t11, n3t11, n4t11, hRt11⟩ := id hNt11
    refine lv_aload_n hx hb dX2_again_25 rfl (lv_at hl 0 rfl) ?_
    refine wr_get (ci := 3) (C := RX2) (T := TX2) (N := 13) hx hb hts iRX2 hown hw 0 (by omega) dt11 rfl 4 (by decide) (hts (.fieldLink RX2 80 "LibraryDesk" "trialFailedWith" "I") (by decide +kernel)) (fun _ h9 => h9) rfl dX2_again_26 ?_
    refine lv_if_eq (tgt := 38) hx hb dX2_again_29 (by decide) (fun c29 => ?_) (fun c29 => ?_)
    · refine lv_aload_n hx hb dX2_again_38 rfl (lv_at hl 0 rfl) ?_
      refine wr_get (ci := 3) (C := RX2) (T := TX2) (N := 13) hx hb hts iRX2 hown hw 0 (by omega) dt11 rfl 3 (by decide) (hts (.fieldLink RX2 94 "LibraryDesk" "trialAnswer" "J") (by decide +kernel)) (fun _ h9 => h9) rfl dX2_again_39 ?_
      refine we_l hx hb hr hlocks hw ?_ dX2_again_42
      have hS := sCall_ok (a := a) hc hnr c29
      exact ⟨hS.1.symm, ⟨nb, tb, _, _, _, _, hC1⟩, fun j hj => hfr1 j hj⟩
    · refine lv_ldc2 (v := (-9223372036854775806)) hx hb hown (hts (.constantLong RX2 86 (-9223372036854775806)) (by decide +kernel)) dX2_again_32 ?_
      refine lv_goto (tgt := 42) hx hb dX2_again_35 (by decide) ?_
      refine we_l hx hb hr hlocks hw ?_ dX2_again_42
      have hS := sCall_fail (a := a) hc hnr c29
      exact ⟨hS.1.symm, ⟨nb, tb, _, _, _, _, hC1⟩, fun j hj => hfr1 j hj⟩
  · have href := z01_t hr5 c6
    refine lv_ldc2 (v := (-9223372036854775807)) hx hb hown (hts (.constantLong RX2 74 (-9223372036854775807)) (by decide +kernel)) dX2_again_9 ?_
    refine we_l hx hb hr hlocks hw ?_ dX2_again_12
    have hS := sCall_ref (a := a) href
    exact ⟨hS.1.symm, ⟨nb, tb, _, _, _, _, hC⟩, fun j hj => rfl⟩
end
section
/-! The reference: its object at place 42, its rows at 43 .. 57. -/
def RM (hF mF : Nat → Int32) (tF rF : Nat → Int64) (A : Ast) : Prop :=
  (∀ i, i < 328 → hF i = if aHr A (i / 41) (i % 41) = true then 1 else 0) ∧ (∀ k, k < 8 → mF k = nI (aMd A k) ∧ tF k = aTl A k) ∧ ∀ i, i < aCn A → rF i = aRw A i
def MHold (q : ClassId × ClassId × ClassId × ClassId) (en : Nat → va_E) (b : Nat) (A : Ast) : Prop :=
  ∃ (hF mF : Nat → Int32) (tF rF : Nat → Int64), en b = .inl (q.2.2.1, 328, .inl hF) ∧ en (b + 1) = .inl (q.1, 8, .inl mF) ∧ en (b + 2) = .inl (q.2.1, 8, .inr (.inl tF)) ∧ en (b + 3) = .inl (q.2.1, 20, .inr (.inl rF)) ∧ RM hF mF tF rF A
def MPl (wF sF kF aF fF xF : Nat → Int32) (pl : Nat → Pst) : Prop :=
  ∀ c, c < 10 → wF c = (pl c).1 ∧ aF c = nI (pl c).2.1 ∧ fF c = (pl c).2.2.2.2.1 ∧ xF c = (pl c).2.2.2.2.2 ∧ ∀ i, i < (pl c).2.1 → sF (6 * c + i) = (pl c).2.2.1 i ∧ kF (6 * c + i) = (pl c).2.2.2.1 i
def MPlan (q : ClassId × ClassId × ClassId × ClassId) (en : Nat → va_E) (pl : Nat → Pst) : Prop :=
  ∃ (wF sF kF aF fF xF : Nat → Int32), en 51 = .inl (q.1, 10, .inl wF) ∧ en 52 = .inl (q.1, 60, .inl sF) ∧ en 53 = .inl (q.1, 60, .inl kF) ∧ en 54 = .inl (q.1, 10, .inl aF) ∧ en 55 = .inl (q.1, 10, .inl fF) ∧ en 56 = .inl (q.1, 10, .inl xF) ∧ MPl wF sF kF aF fF xF pl
def MTold (q : ClassId × ClassId × ClassId × ClassId) (en : Nat → va_E) (cs : Nat → Int32) : Prop :=
  ∃ gF : Nat → Int32, en 57 = .inl (q.1, 7, .inl gF) ∧ ∀ i, i < 7 → gF i = cs i
def ModC (q : ClassId × ClassId × ClassId × ClassId) (ad : Nat → Nat) (en : Nat → va_E) (th : Int32) (A O : Ast) (pl : Nat → Pst) (cs : Nat → Int32) (an : Int64) (wy pla : Int32) : Prop :=
  en 42 = .inr (4, [.int th, .ref (ad 43), .ref (ad 44), .ref (ad 45), .ref (ad 46), .int (nI (aCn A)), .ref (ad 47), .ref (ad 48), .ref (ad 49), .ref (ad 50), .int (nI (aCn O)), .ref (ad 51), .ref (ad 52), .ref (ad 53), .ref (ad 54), .ref (ad 55), .ref (ad 56), .ref (ad 57), .long an, .int wy, .int pla]) ∧ MHold q en 43 A ∧ MHold q en 47 O ∧ MPlan q en pl ∧ MTold q en cs
def ModAt (q : ClassId × ClassId × ClassId × ClassId) (ad : Nat → Nat) (en : Nat → va_E) (th : Int32) (A : Ast) (pl : Nat → Pst) (cs : Nat → Int32) : Prop :=
  ∃ (O : Ast) (an : Int64) (wy pla : Int32), Aok O ∧ ModC q ad en th A O pl cs an wy pla
theorem RM_at {hF mF : Nat → Int32} {tF rF : Nat → Int64} {A : Ast} (h : RM hF mF tF rF A) {k y : Nat} (hk : k < 8) (hy : y < 41) : hF (41 * k + y) = if aHr A k y = true then 1 else 0 := by
  have e := h.1 (41 * k + y) (by omega)
  have e1 : (41 * k + y) / 41 = k := by omega
  have e2 : (41 * k + y) % 41 = y := by omega
  rw [e1, e2] at e
  exact e
theorem nar_b {x : Int32} {p : Prop} [Decidable p] (h : x = if p then 1 else 0) : vp_nar .boolean x = x := by
  rcases z01_r h with e | e <;> rw [e] <;> rfl
theorem RM_congr {hF mF hG mG : Nat → Int32} {tF rF tG rG : Nat → Int64} {A : Ast} (h : RM hF mF tF rF A) (hc : aCn A ≤ 20) (h1 : ∀ i, i < 328 → hG i = hF i) (h2 : ∀ i, i < 8 → mG i = mF i) (h3 : ∀ i, i < 8 → tG i = tF i) (h4 : ∀ i, i < 20 → rG i = rF i) : RM hG mG tG rG A :=
  ⟨fun i hi => (h1 i hi).trans (h.1 i hi), fun k hk => ⟨(h2 k hk).trans (h.2.1 k hk).1, (h3 k hk).trans (h.2.1 k hk).2⟩, fun i hi => (h4 i (by omega)).trans (h.2.2 i hi)⟩
theorem RM_add {hF mF : Nat → Int32} {tF rF : Nat → Int64} {A : Ast} (h : RM hF mF tF rF A) (hc : aCn A < 20) (v : Int64) : RM hF mF tF (vp_updL rF (aCn A) v) (aAdd v A) := by
  unfold aAdd
  rw [if_pos hc]
  refine ⟨h.1, h.2.1, fun i hi => ?_⟩
  show vp_updL rF (aCn A) v i = vp_updL (aRw A) (aCn A) v i
  have hi : i < aCn A + 1 := hi
  by_cases e : i = aCn A
  · rw [e, pk_uLs, pk_uLs]
  · rw [pk_uLn e, pk_uLn e]
    exact h.2.2 i (by omega)
theorem RM_make {hF mF : Nat → Int32} {tF rF : Nat → Int64} {A : Ast} (h : RM hF mF tF rF A) {k : Nat} (hk : k < 8) (hc : aMd A k < 40) : RM (upd hF (41 * k + (aMd A k + 1)) 1) (upd mF k (nI (aMd A k + 1))) tF rF (aMake k A) := by
  unfold aMake
  rw [if_pos hc]
  refine ⟨fun i hi => ?_, fun j hj => ?_, h.2.2⟩
  · show upd hF (41 * k + (aMd A k + 1)) 1 i = if (if i / 41 = k ∧ i % 41 = aMd A k + 1 then true else aHr A (i / 41) (i % 41)) = true then 1 else 0
    by_cases e : i = 41 * k + (aMd A k + 1)
    · have e1 : i / 41 = k ∧ i % 41 = aMd A k + 1 := by omega
      rw [if_pos e1, e, pk_us]
      rfl
    · have e1 : ¬ (i / 41 = k ∧ i % 41 = aMd A k + 1) := by omega
      rw [if_neg e1, pk_un e]
      exact h.1 i hi
  · show upd mF k (nI (aMd A k + 1)) j = nI (if j = k then aMd A k + 1 else aMd A j) ∧ tF j = aTl A j
    by_cases e : j = k
    · rw [if_pos e, e, pk_us]
      exact ⟨rfl, (h.2.1 k hk).2⟩
    · rw [if_neg e, pk_un e]
      exact h.2.1 j hj
theorem RM_drop {hF mF : Nat → Int32} {tF rF : Nat → Int64} {A : Ast} (h : RM hF mF tF rF A) {k y : Nat} (hk : k < 8) (hy : y < 41) : RM (upd hF (41 * k + y) 0) mF tF rF (aDrop k y A) := by
  refine ⟨fun i hi => ?_, h.2.1, h.2.2⟩
  show upd hF (41 * k + y) 0 i = if (if i / 41 = k ∧ i % 41 = y then false else aHr A (i / 41) (i % 41)) = true then 1 else 0
  by_cases e : i = 41 * k + y
  · have e1 : i / 41 = k ∧ i % 41 = y := by omega
    rw [if_pos e1, e, pk_us]
    rfl
  · have e1 : ¬ (i / 41 = k ∧ i % 41 = y) := by omega
    rw [if_neg e1, pk_un e]
    exact h.1 i hi
theorem RM_grow {hF mF : Nat → Int32} {tF rF : Nat → Int64} {A : Ast} (h : RM hF mF tF rF A) {k : Nat} (hk : k < 8) (x : Int64) : RM hF mF (vp_updL tF k (tF k + x)) rF (aGrow k x A) := by
  refine ⟨h.1, fun j hj => ⟨(h.2.1 j hj).1, ?_⟩, h.2.2⟩
  show vp_updL tF k (tF k + x) j = if j = k then aTl A k + x else aTl A j
  by_cases e : j = k
  · rw [if_pos e, e, pk_uLs, (h.2.1 k hk).2]
  · rw [if_neg e, pk_uLn e]
    exact (h.2.1 j hj).2
theorem RM_take {hF mF : Nat → Int32} {tF rF wF : Nat → Int64} {A : Ast} (h : RM hF mF tF rF A) (hc : 0 < aCn A) {k : Nat} (hk : k < 8) (hv : ∀ i, i < aCn A - 1 → wF i = rF (i + 1)) : RM hF mF (vp_updL tF k (tF k + rF 0)) wF (aTake k A) := by
  unfold aTake
  rw [if_pos hc]
  refine ⟨h.1, fun j hj => ⟨(h.2.1 j hj).1, ?_⟩, fun i hi => ?_⟩
  · show vp_updL tF k (tF k + rF 0) j = if j = k then aTl A k + aRw A 0 else aTl A j
    by_cases e : j = k
    · rw [if_pos e, e, pk_uLs, (h.2.1 k hk).2, h.2.2 0 hc]
    · rw [if_neg e, pk_uLn e]
      exact (h.2.1 j hj).2
  · show wF i = aRw A (i + 1)
    have hi : i < aCn A - 1 := hi
    rw [hv i hi, h.2.2 (i + 1) (by omega)]
theorem MPl_up {wF sF kF aF fF xF : Nat → Int32} {pl : Nat → Pst} (h : MPl wF sF kF aF fF xF pl) {c : Nat} (hc : c < 10) {wG aG fG xG : Nat → Int32} {P : Pst} (h1 : ∀ j, j ≠ c → wG j = wF j ∧ aG j = aF j ∧ fG j = fF j ∧ xG j = xF j) (h2 : wG c = P.1 ∧ aG c = nI P.2.1 ∧ fG c = P.2.2.2.2.1 ∧ xG c = P.2.2.2.2.2 ∧ ∀ i, i < P.2.1 → sF (6 * c + i) = P.2.2.1 i ∧ kF (6 * c + i) = P.2.2.2.1 i) : MPl wG sF kF aG fG xG (va_up pl c P) := by
  intro j hj
  by_cases e : j = c
  · rw [e, va_up_self]; exact h2
  · rw [va_up_ne _ _ e]
    obtain ⟨g1, g2, g3, g4⟩ := h1 j e
    obtain ⟨k1, k2, k3, k4, k5⟩ := h j hj
    exact ⟨g1.trans k1, g2.trans k2, g3.trans k3, g4.trans k4, k5⟩
theorem MPl_act {wF sF kF aF fF xF : Nat → Int32} {pl : Nat → Pst} (h : MPl wF sF kF aF fF xF pl) (hp : ∀ i, i < 10 → Pok (pl i)) {c : Nat} (hc : c < 10) (h6 : (pl c).2.1 < 6) (so kd : Int32) : MPl wF (upd sF (6 * c + (pl c).2.1) so) (upd kF (6 * c + (pl c).2.1) kd) (upd aF c (nI ((pl c).2.1 + 1))) fF xF (va_up pl c (pAdd so kd (pl c))) := by
  intro j hj
  by_cases e : j = c
  · subst e
    rw [va_up_self]
    obtain ⟨k1, k2, k3, k4, k5⟩ := h j hj
    unfold pAdd
    rw [if_pos h6]
    refine ⟨k1, by rw [pk_us], k3, k4, fun i hi => ?_⟩
    show upd sF (6 * j + (pl j).2.1) so (6 * j + i) = upd (pl j).2.2.1 (pl j).2.1 so i ∧ upd kF (6 * j + (pl j).2.1) kd (6 * j + i) = upd (pl j).2.2.2.1 (pl j).2.1 kd i
    have hi : i < (pl j).2.1 + 1 := hi
    by_cases ei : i = (pl j).2.1
    · rw [ei, pk_us, pk_us, pk_us, pk_us]
      exact ⟨rfl, rfl⟩
    · rw [pk_un (by omega), pk_un ei, pk_un (by omega), pk_un ei]
      exact k5 i (by omega)
  · rw [va_up_ne _ _ e]
    obtain ⟨k1, k2, k3, k4, k5⟩ := h j hj
    have hj6 := (hp j hj).1
    refine ⟨k1, by rw [pk_un e]; exact k2, k3, k4, fun i hi => ?_⟩
    rw [pk_un (by omega), pk_un (by omega)]
    exact k5 i hi
end
section
set_option maxHeartbeats 4000000 in
set_option maxRecDepth 100000 in
theorem kX3_isHere (l : Launch) (dC : Nat → ClassId) (dI : Nat → Nat → Nat) (q : ClassId × ClassId × ClassId × ClassId) (ad : Nat → Nat) (en : Nat → va_E) (n sz : Nat) (hn58 : 58 ≤ n) (th : Int32) (A O : Ast) (pl : Nat → Pst) (cs : Nat → Int32) (an : Int64) (wy pla : Int32) (hok : Aok A) (hM : ModC q ad en th A O pl cs an wy pla) (kd z : Int32) :
    Met l yX3_isHere wsX3_isHere ({ frames := 1, cells := 0, slots := 0, locals := 20 }) (wPc (dC, dI) vwCl (wT q) ad en n sz [.ref (ad 42), .int kd, .int z]) (va_Qi (fun (r : Int32) (en' : Nat → va_E) => r = (if aIs kd z A = true then 1 else 0) ∧ en' = en) (wB (dC, dI) vwCl (wT q) ad n (wA ad n sz)) (wA ad n sz)) 0 0 (wA ad n sz) := by
  refine Met.ofW (cc := cX3_isHere) (maxL := 3) (ret := (some .boolean)) (by decide) rfl ?_
  intro p e s m args below meth c s₁ B hml hv
  obtain ⟨rfl, hsz, hP, hK, hD0, hE0⟩ := hv
  have hx := B.exec
  have hb := B.bytes
  have hr := B.returns
  have hts := atoms_spec (ws := wsX3_isHere) B.pre
  have hown : s.vm.findClass RX3 = some m.cls := findClass_of_methodNamed B.named
  have hlocks := B.notSynchronized
  have iRX3 : ∀ w ∈ u_ws RX3 TX3 21, w ∈ wsX3_isHere := by decide +kernel
  subst hsz
  have hw := wk_of hP hK hD0 hE0
  generalize wA ad n s.heap.size = AA at hw ⊢
  have hl := lv_entry ([.ref (ad 42), .int kd, .int z]) (n := 3) (Nat.le_of_ble_eq_true rfl)
  rw [lg_entry_eq]
  generalize (lg_sl ([.ref (ad 42), .int kd, .int z]) ++ List.replicate (3 - (lg_sl ([.ref (ad 42), .int kd, .int z])).length) Slot.unset).toArray = ls at hl ⊢
  have hl : lv_has ls 3 [(0, .ref (ad 42)), (1, .int kd), (2, .int z)] := hl
  obtain ⟨ot1, ⟨hFt1, mFt1, tFt1, rFt1, a1t1, a2t1, a3t1, a4t1, hRt1⟩, ⟨oht1, omt1, ott1, orrt1, b1t1, b2t1, b3t1, b4t1, hOt1⟩, ⟨wFt1, sFt1, kFt1, aFt1, fFt1, xFt1, c1t1, c2t1, c3t1, c4t1, c5t1, c6t1, hPlt1⟩, ⟨gFt1, e1t1, hTt1⟩⟩ := id hM
  have hcn := hok.2
  refine lv_iload_n hx hb dX3_isHere_0 rfl (lv_at hl 1 rfl) ?_
  refine wc_i hw (va_runS (As := [.int kd]) (rest := []) ⟨hx, hb, hml, hown, hts⟩ (kX3_isKind l dC dI q ad en n _ kd) (va_cwS 1 hts gX3_isHere_X3_isKind rfl rfl rfl (by decide +kernel) ⟨Nat.le_of_ble_eq_true rfl, Nat.le_of_ble_eq_true rfl⟩) (wk_preS hw) rfl rfl hl.1 rfl (lv_room (Nat.le_of_ble_eq_true rfl)) dX3_isHere_1 ⟨Nat.le_refl _, Nat.le_refl _⟩) (fun r2 en4 H locs hp3 hw => ?_)
  obtain ⟨hr5, hn6⟩ := hp3
  rw [hn6] at hw
  clear hn6
  refine lv_if_eq (tgt := 35) hx hb dX3_isHere_4 (by decide) (fun c4 => ?_) (fun c4 => ?_)
  · have hk0 := z01_f hr5 c4
    refine lv_iconst (v := 0) hx hb dX3_isHere_35 (by decide) ?_
    refine we_z hx hb hr hlocks hw (Or.inl rfl) ?_ dX3_isHere_36
    exact ⟨by rw [if_neg (by rw [aIs_k hk0]; decide)], rfl⟩
  · have hkd := z01_t hr5 c4
    obtain ⟨k, hk, ekd⟩ := okK_of hkd
    subst ekd
    refine lv_iload_n hx hb dX3_isHere_7 rfl (lv_at hl 2 rfl) ?_
    refine lv_if_le (tgt := 35) hx hb dX3_isHere_8 (by decide) (fun c8 => ?_) (fun c8 => ?_)
    · refine lv_iconst (v := 0) hx hb dX3_isHere_35 (by decide) ?_
      refine we_z hx hb hr hlocks hw (Or.inl rfl) ?_ dX3_isHere_36
      exact ⟨by rw [if_neg (by rw [aIs_z (fun h => absurd (Int32.lt_of_lt_of_le (show (0 : Int32) < 1 by decide) h.1) (Int32.not_lt.mpr c8))]; decide)], rfl⟩
    · refine lv_iload_n hx hb dX3_isHere_11 rfl (lv_at hl 2 rfl) ?_
      refine lv_bipush (v := 41) hx hb dX3_isHere_12 (by decide) ?_
      refine lv_icmp_ge (tgt := 35) hx hb dX3_isHere_14 (by decide) (fun c14 => ?_) (fun c14 => ?_)
      · refine lv_iconst (v := 0) hx hb dX3_isHere_35 (by decide) ?_
        refine we_z hx hb hr hlocks hw (Or.inl rfl) ?_ dX3_isHere_36
        exact ⟨by rw [if_neg (by rw [aIs_z (fun h => absurd (Int32.lt_of_le_of_lt h.2 (show (40 : Int32) < 41 by decide)) (Int32.not_lt.mpr c14))]; decide)], rfl⟩
      · obtain ⟨y, hy, hyz⟩ : ∃ y, y < 41 ∧ z = nI y := (kd_cases z (by decide)).resolve_right (fun h => h ⟨Int32.le_trans (by decide) (Int32.le_of_lt (Int32.not_le.mp c8)), Int32.not_le.mp c14⟩)
        subst hyz
        have hy1 : 1 ≤ y := (nI_ltI (a := 0) (by omega) (by omega)).mp (Int32.not_le.mp c8)
        have hy40 : y ≤ 40 := by omega
        refine lv_aload_n hx hb dX3_isHere_17 rfl (lv_at hl 0 rfl) ?_
        refine wr_get (ci := 4) (C := RX3) (T := TX3) (N := 21) hx hb hts iRX3 hown hw 42 (by omega) ot1 rfl 1 (by decide) (hts (.fieldLink RX3 7 "LibraryDeskModel" "here" "[Z") (by decide +kernel)) (fun _ h9 => h9) rfl dX3_isHere_18 ?_
        refine lv_bipush (v := 41) hx hb dX3_isHere_21 (by decide) ?_
        refine lv_iload_n hx hb dX3_isHere_23 rfl (lv_at hl 1 rfl) ?_
        refine lv_imul hx hb dX3_isHere_24 ?_
        refine lv_topi (fun x7 ex7 => ?_)
        have ex7n : x7 = nI (41 * k) := ex7.trans (pk_mul 41 k)
        clear ex7
        subst ex7n
        refine lv_iload_n hx hb dX3_isHere_25 rfl (lv_at hl 2 rfl) ?_
        refine lv_iadd hx hb dX3_isHere_26 ?_
        refine lv_topi (fun x8 ex8 => ?_)
        have ex8n : x8 = nI (41 * k + y) := ex8.trans (nI_add _ _)
        clear ex8
        subst ex8n
        refine wr_zald (v := hFt1 ((41 * k + y))) hx hb hw 43 (by omega) 2 a1t1 rfl (vp_in_nI (by omega) (by decide)) (by rw [(nI_clamp (by omega))]) dX3_isHere_27 ?_
        refine lv_if_eq (tgt := 35) hx hb dX3_isHere_28 (by decide) (fun c28 => ?_) (fun c28 => ?_)
        · refine lv_iconst (v := 0) hx hb dX3_isHere_35 (by decide) ?_
          refine we_z hx hb hr hlocks hw (Or.inl rfl) ?_ dX3_isHere_36
          have e1 := z01_f (RM_at hRt1 hk hy) c28
          exact ⟨by rw [aIs_nI hk hy1 hy40, if_neg e1], rfl⟩
        · refine lv_iconst (v := 1) hx hb dX3_isHere_31 (by decide) ?_
          refine lv_goto (tgt := 36) hx hb dX3_isHere_32 (by decide) ?_
          refine we_z hx hb hr hlocks hw (Or.inr rfl) ?_ dX3_isHere_36
          have e1 := z01_t (RM_at hRt1 hk hy) c28
          exact ⟨by rw [aIs_nI hk hy1 hy40, if_pos e1], rfl⟩

set_option maxHeartbeats 4000000 in
set_option maxRecDepth 100000 in
theorem kX3_makes (l : Launch) (dC : Nat → ClassId) (dI : Nat → Nat → Nat) (q : ClassId × ClassId × ClassId × ClassId) (ad : Nat → Nat) (en : Nat → va_E) (n sz : Nat) (hn58 : 58 ≤ n) (th : Int32) (A O : Ast) (pl : Nat → Pst) (cs : Nat → Int32) (an : Int64) (wy pla : Int32) (hok : Aok A) (hM : ModC q ad en th A O pl cs an wy pla)  (k : Nat) (hk : k < 8) :
    Met l yX3_makes wsX3_makes ({ frames := 0, cells := 0, slots := 0, locals := 0 }) (wPc (dC, dI) vwCl (wT q) ad en n sz [.ref (ad 42), .int (nI k)]) (va_Qi (fun (r : Int32) (en' : Nat → va_E) => r = (if aMd A k < 40 then nI (aMd A k + 1) else -1) ∧ ModC q ad en' th (aMake k A) O pl cs an wy pla ∧ ∀ j, (j < 42 ∨ 58 ≤ j) → en' j = en j) (wB (dC, dI) vwCl (wT q) ad n (wA ad n sz)) (wA ad n sz)) 0 0 (wA ad n sz) := by
  refine Met.ofW (cc := cX3_makes) (maxL := 2) (ret := (some .int)) (by decide) rfl ?_
  intro p e s m args below meth c s₁ B hml hv
  obtain ⟨rfl, hsz, hP, hK, hD0, hE0⟩ := hv
  have hx := B.exec
  have hb := B.bytes
  have hr := B.returns
  have hts := atoms_spec (ws := wsX3_makes) B.pre
  have hown : s.vm.findClass RX3 = some m.cls := findClass_of_methodNamed B.named
  have hlocks := B.notSynchronized
  have iRX3 : ∀ w ∈ u_ws RX3 TX3 21, w ∈ wsX3_makes := by decide +kernel
  subst hsz
  have hw := wk_of hP hK hD0 hE0
  generalize wA ad n s.heap.size = AA at hw ⊢
  have hl := lv_entry ([.ref (ad 42), .int (nI k)]) (n := 2) (Nat.le_of_ble_eq_true rfl)
  rw [lg_entry_eq]
  generalize (lg_sl ([.ref (ad 42), .int (nI k)]) ++ List.replicate (2 - (lg_sl ([.ref (ad 42), .int (nI k)])).length) Slot.unset).toArray = ls at hl ⊢
  have hl : lv_has ls 2 [(0, .ref (ad 42)), (1, .int (nI k))] := hl
  obtain ⟨ot1, ⟨hFt1, mFt1, tFt1, rFt1, a1t1, a2t1, a3t1, a4t1, hRt1⟩, ⟨oht1, omt1, ott1, orrt1, b1t1, b2t1, b3t1, b4t1, hOt1⟩, ⟨wFt1, sFt1, kFt1, aFt1, fFt1, xFt1, c1t1, c2t1, c3t1, c4t1, c5t1, c6t1, hPlt1⟩, ⟨gFt1, e1t1, hTt1⟩⟩ := id hM
  have hcn := hok.2
  have hm40 := (hok.1 k hk).1
  refine lv_aload_n hx hb dX3_makes_0 rfl (lv_at hl 0 rfl) ?_
  refine wr_get (ci := 4) (C := RX3) (T := TX3) (N := 21) hx hb hts iRX3 hown hw 42 (by omega) ot1 rfl 2 (by decide) (hts (.fieldLink RX3 13 "LibraryDeskModel" "made" "[I") (by decide +kernel)) (fun _ h9 => h9) rfl dX3_makes_1 ?_
  refine lv_iload_n hx hb dX3_makes_4 rfl (lv_at hl 1 rfl) ?_
  refine wr_iald (v := nI (aMd A k)) hx hb hw 44 (by omega) 0 a2t1 rfl (vp_in_nI (by omega) (by decide)) (by rw [(nI_clamp (by omega))]; exact (hRt1.2.1 k hk).1) dX3_makes_5 ?_
  refine lv_bipush (v := 40) hx hb dX3_makes_6 (by decide) ?_
  refine lv_icmp_ne (tgt := 13) hx hb dX3_makes_8 (by decide) (fun c8 => ?_) (fun c8 => ?_)
  · have hc8 : aMd A k < 40 := by
      have : ¬ aMd A k = 40 := fun h => c8 (by rw [h]; rfl)
      omega
    refine lv_aload_n hx hb dX3_makes_13 rfl (lv_at hl 0 rfl) ?_
    refine wr_get (ci := 4) (C := RX3) (T := TX3) (N := 21) hx hb hts iRX3 hown hw 42 (by omega) ot1 rfl 2 (by decide) (hts (.fieldLink RX3 13 "LibraryDeskModel" "made" "[I") (by decide +kernel)) (fun _ h9 => h9) rfl dX3_makes_14 ?_
    refine lv_iload_n hx hb dX3_makes_17 rfl (lv_at hl 1 rfl) ?_
    refine lv_dup2_11 hx hb dX3_makes_18 rfl rfl ?_
    refine wr_iald (v := nI (aMd A k)) hx hb hw 44 (by omega) 0 a2t1 rfl (vp_in_nI (by omega) (by decide)) (by rw [(nI_clamp (by omega))]; exact (hRt1.2.1 k hk).1) dX3_makes_19 ?_
    refine lv_iconst (v := 1) hx hb dX3_makes_20 (by decide) ?_
    refine lv_iadd hx hb dX3_makes_21 ?_
    refine lv_topi (fun x2 ex2 => ?_)
    have ex2n : x2 = nI (aMd A k + 1) := ex2.trans (nI_1 _)
    clear ex2
    subst ex2n
    refine wr_iast (j := k) hx hb hw 44 (by omega) 0 a2t1 rfl (vp_in_nI (by omega) (by decide)) (nI_clamp (by omega)) dX3_makes_22 (fun en4 H locs hE3 hw => ?_)
    have he5 : en4 42 = .inr (4, [.int th, .ref (ad 43), .ref (ad 44), .ref (ad 45), .ref (ad 46), .int (nI (aCn A)), .ref (ad 47), .ref (ad 48), .ref (ad 49), .ref (ad 50), .int (nI (aCn O)), .ref (ad 51), .ref (ad 52), .ref (ad 53), .ref (ad 54), .ref (ad 55), .ref (ad 56), .ref (ad 57), .long an, .int wy, .int pla]) := w_ne hE3 (by omega) ot1
    have he6 : en4 43 = .inl (q.2.2.1, 328, .inl hFt1) := w_ne hE3 (by omega) a1t1
    have he7 : en4 44 = .inl (q.1, 8, .inl (upd mFt1 k (nI (aMd A k + 1)))) := w_self hE3
    have he8 : en4 45 = .inl (q.2.1, 8, .inr (.inl tFt1)) := w_ne hE3 (by omega) a3t1
    have he9 : en4 46 = .inl (q.2.1, 20, .inr (.inl rFt1)) := w_ne hE3 (by omega) a4t1
    have he10 : en4 47 = .inl (q.2.2.1, 328, .inl oht1) := w_ne hE3 (by omega) b1t1
    have he11 : en4 48 = .inl (q.1, 8, .inl omt1) := w_ne hE3 (by omega) b2t1
    have he12 : en4 49 = .inl (q.2.1, 8, .inr (.inl ott1)) := w_ne hE3 (by omega) b3t1
    have he13 : en4 50 = .inl (q.2.1, 20, .inr (.inl orrt1)) := w_ne hE3 (by omega) b4t1
    have he14 : en4 51 = .inl (q.1, 10, .inl wFt1) := w_ne hE3 (by omega) c1t1
    have he15 : en4 52 = .inl (q.1, 60, .inl sFt1) := w_ne hE3 (by omega) c2t1
    have he16 : en4 53 = .inl (q.1, 60, .inl kFt1) := w_ne hE3 (by omega) c3t1
    have he17 : en4 54 = .inl (q.1, 10, .inl aFt1) := w_ne hE3 (by omega) c4t1
    have he18 : en4 55 = .inl (q.1, 10, .inl fFt1) := w_ne hE3 (by omega) c5t1
    have he19 : en4 56 = .inl (q.1, 10, .inl xFt1) := w_ne hE3 (by omega) c6t1
    have he20 : en4 57 = .inl (q.1, 7, .inl gFt1) := w_ne hE3 (by omega) e1t1
    refine lv_aload_n hx hb dX3_makes_23 rfl (lv_at hl 0 rfl) ?_
    refine wr_get (ci := 4) (C := RX3) (T := TX3) (N := 21) hx hb hts iRX3 hown hw 42 (by omega) he5 rfl 1 (by decide) (hts (.fieldLink RX3 7 "LibraryDeskModel" "here" "[Z") (by decide +kernel)) (fun _ h9 => h9) rfl dX3_makes_24 ?_
    refine lv_bipush (v := 41) hx hb dX3_makes_27 (by decide) ?_
    refine lv_iload_n hx hb dX3_makes_29 rfl (lv_at hl 1 rfl) ?_
    refine lv_imul hx hb dX3_makes_30 ?_
    refine lv_topi (fun x21 ex21 => ?_)
    have ex21n : x21 = nI (41 * k) := ex21.trans (pk_mul 41 k)
    clear ex21
    subst ex21n
    refine lv_aload_n hx hb dX3_makes_31 rfl (lv_at hl 0 rfl) ?_
    refine wr_get (ci := 4) (C := RX3) (T := TX3) (N := 21) hx hb hts iRX3 hown hw 42 (by omega) he5 rfl 2 (by decide) (hts (.fieldLink RX3 13 "LibraryDeskModel" "made" "[I") (by decide +kernel)) (fun _ h9 => h9) rfl dX3_makes_32 ?_
    refine lv_iload_n hx hb dX3_makes_35 rfl (lv_at hl 1 rfl) ?_
    refine wr_iald (v := nI (aMd A k + 1)) hx hb hw 44 (by omega) 0 he7 rfl (vp_in_nI (by omega) (by decide)) (by rw [(nI_clamp (by omega))]; exact pk_us) dX3_makes_36 ?_
    refine lv_iadd hx hb dX3_makes_37 ?_
    refine lv_topi (fun x22 ex22 => ?_)
    have ex22n : x22 = nI (41 * k + (aMd A k + 1)) := ex22.trans (nI_add _ _)
    clear ex22
    subst ex22n
    refine lv_iconst (v := 1) hx hb dX3_makes_38 (by decide) ?_
    refine wr_zast (j := (41 * k + (aMd A k + 1))) (y := 1) hx hb hw 43 (by omega) 2 he6 rfl (vp_in_nI (by omega) (by decide)) (nI_clamp (by omega)) (by decide) dX3_makes_39 (fun en24 H locs hE23 hw => ?_)
    have he25 : en24 42 = .inr (4, [.int th, .ref (ad 43), .ref (ad 44), .ref (ad 45), .ref (ad 46), .int (nI (aCn A)), .ref (ad 47), .ref (ad 48), .ref (ad 49), .ref (ad 50), .int (nI (aCn O)), .ref (ad 51), .ref (ad 52), .ref (ad 53), .ref (ad 54), .ref (ad 55), .ref (ad 56), .ref (ad 57), .long an, .int wy, .int pla]) := w_ne hE23 (by omega) he5
    have he26 : en24 43 = .inl (q.2.2.1, 328, .inl (upd hFt1 ((41 * k + (aMd A k + 1))) 1)) := w_self hE23
    have he27 : en24 44 = .inl (q.1, 8, .inl (upd mFt1 k (nI (aMd A k + 1)))) := w_ne hE23 (by omega) he7
    have he28 : en24 45 = .inl (q.2.1, 8, .inr (.inl tFt1)) := w_ne hE23 (by omega) he8
    have he29 : en24 46 = .inl (q.2.1, 20, .inr (.inl rFt1)) := w_ne hE23 (by omega) he9
    have he30 : en24 47 = .inl (q.2.2.1, 328, .inl oht1) := w_ne hE23 (by omega) he10
    have he31 : en24 48 = .inl (q.1, 8, .inl omt1) := w_ne hE23 (by omega) he11
    have he32 : en24 49 = .inl (q.2.1, 8, .inr (.inl ott1)) := w_ne hE23 (by omega) he12
    have he33 : en24 50 = .inl (q.2.1, 20, .inr (.inl orrt1)) := w_ne hE23 (by omega) he13
    have he34 : en24 51 = .inl (q.1, 10, .inl wFt1) := w_ne hE23 (by omega) he14
    have he35 : en24 52 = .inl (q.1, 60, .inl sFt1) := w_ne hE23 (by omega) he15
    have he36 : en24 53 = .inl (q.1, 60, .inl kFt1) := w_ne hE23 (by omega) he16
    have he37 : en24 54 = .inl (q.1, 10, .inl aFt1) := w_ne hE23 (by omega) he17
    have he38 : en24 55 = .inl (q.1, 10, .inl fFt1) := w_ne hE23 (by omega) he18
    have he39 : en24 56 = .inl (q.1, 10, .inl xFt1) := w_ne hE23 (by omega) he19
    have he40 : en24 57 = .inl (q.1, 7, .inl gFt1) := w_ne hE23 (by omega) he20
    refine lv_aload_n hx hb dX3_makes_40 rfl (lv_at hl 0 rfl) ?_
    refine wr_get (ci := 4) (C := RX3) (T := TX3) (N := 21) hx hb hts iRX3 hown hw 42 (by omega) he25 rfl 2 (by decide) (hts (.fieldLink RX3 13 "LibraryDeskModel" "made" "[I") (by decide +kernel)) (fun _ h9 => h9) rfl dX3_makes_41 ?_
    refine lv_iload_n hx hb dX3_makes_44 rfl (lv_at hl 1 rfl) ?_
    refine wr_iald (v := nI (aMd A k + 1)) hx hb hw 44 (by omega) 0 he27 rfl (vp_in_nI (by omega) (by decide)) (by rw [(nI_clamp (by omega))]; exact pk_us) dX3_makes_45 ?_
    refine we_i hx hb hr hlocks hw ?_ dX3_makes_46
    refine ⟨by rw [if_pos hc8], ?_, fun j hj => (w_fr hE23 (by omega)).trans (w_fr hE3 (by omega))⟩
    exact ⟨(by rw [aCn_make]; exact he25), ⟨_, _, _, _, he26, he27, he28, he29, RM_make hRt1 hk hc8⟩, ⟨_, _, _, _, he30, he31, he32, he33, hOt1⟩, ⟨_, _, _, _, _, _, he34, he35, he36, he37, he38, he39, hPlt1⟩, ⟨_, he40, hTt1⟩⟩
  · have hc8 : ¬ aMd A k < 40 := fun h => absurd ((nI_eq (b := 40) (by omega) (by omega)).mp c8) (by omega)
    refine lv_iconst (v := (-1)) hx hb dX3_makes_11 (by decide) ?_
    refine we_i hx hb hr hlocks hw ?_ dX3_makes_12
    refine ⟨by rw [if_neg hc8], ?_, fun j hj => rfl⟩
    rw [aMake_no hc8]
    exact hM

set_option maxHeartbeats 4000000 in
set_option maxRecDepth 100000 in
theorem kX3_greatest (l : Launch) (dC : Nat → ClassId) (dI : Nat → Nat → Nat) (q : ClassId × ClassId × ClassId × ClassId) (ad : Nat → Nat) (en : Nat → va_E) (n sz : Nat) (hn58 : 58 ≤ n) (th : Int32) (A O : Ast) (pl : Nat → Pst) (cs : Nat → Int32) (an : Int64) (wy pla : Int32) (hok : Aok A) (hM : ModC q ad en th A O pl cs an wy pla)  (k : Nat) (hk : k < 8) :
    Met l yX3_greatest wsX3_greatest ({ frames := 0, cells := 0, slots := 0, locals := 0 }) (wPc (dC, dI) vwCl (wT q) ad en n sz [.ref (ad 42), .int (nI k)]) (va_Qi (fun (r : Int32) (en' : Nat → va_E) => r = nI (gr (aHr A k) 40) ∧ en' = en) (wB (dC, dI) vwCl (wT q) ad n (wA ad n sz)) (wA ad n sz)) 0 0 (wA ad n sz) := by
  refine Met.ofW (cc := cX3_greatest) (maxL := 3) (ret := (some .int)) (by decide) rfl ?_
  intro p e s m args below meth c s₁ B hml hv
  obtain ⟨rfl, hsz, hP, hK, hD0, hE0⟩ := hv
  have hx := B.exec
  have hb := B.bytes
  have hr := B.returns
  have hts := atoms_spec (ws := wsX3_greatest) B.pre
  have hown : s.vm.findClass RX3 = some m.cls := findClass_of_methodNamed B.named
  have hlocks := B.notSynchronized
  have iRX3 : ∀ w ∈ u_ws RX3 TX3 21, w ∈ wsX3_greatest := by decide +kernel
  subst hsz
  have hw := wk_of hP hK hD0 hE0
  generalize wA ad n s.heap.size = AA at hw ⊢
  have hl := lv_entry ([.ref (ad 42), .int (nI k)]) (n := 3) (Nat.le_of_ble_eq_true rfl)
  rw [lg_entry_eq]
  generalize (lg_sl ([.ref (ad 42), .int (nI k)]) ++ List.replicate (3 - (lg_sl ([.ref (ad 42), .int (nI k)])).length) Slot.unset).toArray = ls at hl ⊢
  have hl : lv_has ls 3 [(0, .ref (ad 42)), (1, .int (nI k))] := hl
  obtain ⟨ot1, ⟨hFt1, mFt1, tFt1, rFt1, a1t1, a2t1, a3t1, a4t1, hRt1⟩, ⟨oht1, omt1, ott1, orrt1, b1t1, b2t1, b3t1, b4t1, hOt1⟩, ⟨wFt1, sFt1, kFt1, aFt1, fFt1, xFt1, c1t1, c2t1, c3t1, c4t1, c5t1, c6t1, hPlt1⟩, ⟨gFt1, e1t1, hTt1⟩⟩ := id hM
  have hcn := hok.2
  refine lv_bipush (v := 40) hx hb dX3_greatest_0 (by decide) ?_
  refine lv_istore_n (lv' := [(2, .int 40), (0, .ref (ad 42)), (1, .int (nI k))]) hx hb dX3_greatest_2 rfl hl (by decide) rfl (fun ls hl => ?_)
  have key : ∀ y : Nat, y ≤ 40 → gr (aHr A k) 40 = gr (aHr A k) y → ∀ (H : Heap) (locs : List Loc), wk (dC, dI) vwCl (wT q) ad en n AA s H locs → ∀ ls : Array Slot, lv_has ls 3 [(2, .int (nI y)), (0, .ref (ad 42)), (1, .int (nI k))] → W p l e (headSpec wsX3_greatest ({ frames := 0, cells := 0, slots := 0, locals := 0 })).room s m ([.ref (ad 42), .int (nI k)].toArray) below meth c H locs 0 0 (MQ below (va_Qi (fun (r : Int32) (en' : Nat → va_E) => r = nI (gr (aHr A k) 40) ∧ en' = en) (wB (dC, dI) vwCl (wT q) ad n AA) AA) ([.ref (ad 42), .int (nI k)].toArray) s 0 0 AA) (F0 m 3 ls []) := by
    intro y
    induction y with
    | zero =>
      intro hy hg H locs hw ls hl
      refine lv_iload_n hx hb dX3_greatest_3 rfl (lv_at hl 0 rfl) ?_
      refine lv_if_le (tgt := 27) hx hb dX3_greatest_4 (by decide) (fun c4 => ?_) (fun c4 => ?_)
      · refine lv_iload_n hx hb dX3_greatest_27 rfl (lv_at hl 0 rfl) ?_
        refine we_i hx hb hr hlocks hw ?_ dX3_greatest_28
        exact ⟨by rw [hg]; rfl, rfl⟩
      · exact absurd (Int32.le_refl _) c4
    | succ y ih =>
      intro hy hg H locs hw ls hl
      refine lv_iload_n hx hb dX3_greatest_3 rfl (lv_at hl 0 rfl) ?_
      refine lv_if_le (tgt := 27) hx hb dX3_greatest_4 (by decide) (fun c4 => ?_) (fun c4 => ?_)
      · exact absurd c4 (nI_nle (by omega) (by omega))
      · refine lv_aload_n hx hb dX3_greatest_7 rfl (lv_at hl 1 rfl) ?_
        refine wr_get (ci := 4) (C := RX3) (T := TX3) (N := 21) hx hb hts iRX3 hown hw 42 (by omega) ot1 rfl 1 (by decide) (hts (.fieldLink RX3 7 "LibraryDeskModel" "here" "[Z") (by decide +kernel)) (fun _ h9 => h9) rfl dX3_greatest_8 ?_
        refine lv_bipush (v := 41) hx hb dX3_greatest_11 (by decide) ?_
        refine lv_iload_n hx hb dX3_greatest_13 rfl (lv_at hl 2 rfl) ?_
        refine lv_imul hx hb dX3_greatest_14 ?_
        refine lv_topi (fun x2 ex2 => ?_)
        have ex2n : x2 = nI (41 * k) := ex2.trans (pk_mul 41 k)
        clear ex2
        subst ex2n
        refine lv_iload_n hx hb dX3_greatest_15 rfl (lv_at hl 0 rfl) ?_
        refine lv_iadd hx hb dX3_greatest_16 ?_
        refine lv_topi (fun x3 ex3 => ?_)
        have ex3n : x3 = nI (41 * k + (y + 1)) := ex3.trans (nI_add _ _)
        clear ex3
        subst ex3n
        refine wr_zald (v := hFt1 ((41 * k + (y + 1)))) hx hb hw 43 (by omega) 2 a1t1 rfl (vp_in_nI (by omega) (by decide)) (by rw [(nI_clamp (by omega))]) dX3_greatest_17 ?_
        refine lv_if_ne (tgt := 27) hx hb dX3_greatest_18 (by decide) (fun c18 => ?_) (fun c18 => ?_)
        · have hf := z01_t (RM_at hRt1 hk (show y + 1 < 41 by omega)) c18
          refine lv_iload_n hx hb dX3_greatest_27 rfl (lv_at hl 0 rfl) ?_
          refine we_i hx hb hr hlocks hw ?_ dX3_greatest_28
          exact ⟨by rw [hg, gr, if_pos hf], rfl⟩
        · have hf := z01_f (RM_at hRt1 hk (show y + 1 < 41 by omega)) c18
          refine lv_iinc (v := nI y) (lv' := [(2, .int (nI y)), (0, .ref (ad 42)), (1, .int (nI k))]) hx hb dX3_greatest_21 hl (k := 0) rfl (nI_pred_add y) (by decide) rfl (fun ls hl => ?_)
          refine lv_goto (tgt := 3) hx hb dX3_greatest_24 (by decide) ?_
          exact ih (by omega) (hg.trans (by rw [gr, if_neg hf])) _ _ hw ls (lv_sub hl [0, 1, 2] rfl)
  exact key 40 (Nat.le_refl _) rfl _ _ hw ls (lv_sub hl [0, 1, 2] rfl)

set_option maxHeartbeats 4000000 in
set_option maxRecDepth 100000 in
theorem kX3_many (l : Launch) (dC : Nat → ClassId) (dI : Nat → Nat → Nat) (q : ClassId × ClassId × ClassId × ClassId) (ad : Nat → Nat) (en : Nat → va_E) (n sz : Nat) (hn58 : 58 ≤ n) (th : Int32) (A O : Ast) (pl : Nat → Pst) (cs : Nat → Int32) (an : Int64) (wy pla : Int32) (hok : Aok A) (hM : ModC q ad en th A O pl cs an wy pla)  (k : Nat) (hk : k < 8) :
    Met l yX3_many wsX3_many ({ frames := 0, cells := 0, slots := 0, locals := 0 }) (wPc (dC, dI) vwCl (wT q) ad en n sz [.ref (ad 42), .int (nI k)]) (va_Qi (fun (r : Int32) (en' : Nat → va_E) => r = nI (cn (aHr A k) 40) ∧ en' = en) (wB (dC, dI) vwCl (wT q) ad n (wA ad n sz)) (wA ad n sz)) 0 0 (wA ad n sz) := by
  refine Met.ofW (cc := cX3_many) (maxL := 4) (ret := (some .int)) (by decide) rfl ?_
  intro p e s m args below meth c s₁ B hml hv
  obtain ⟨rfl, hsz, hP, hK, hD0, hE0⟩ := hv
  have hx := B.exec
  have hb := B.bytes
  have hr := B.returns
  have hts := atoms_spec (ws := wsX3_many) B.pre
  have hown : s.vm.findClass RX3 = some m.cls := findClass_of_methodNamed B.named
  have hlocks := B.notSynchronized
  have iRX3 : ∀ w ∈ u_ws RX3 TX3 21, w ∈ wsX3_many := by decide +kernel
  subst hsz
  have hw := wk_of hP hK hD0 hE0
  generalize wA ad n s.heap.size = AA at hw ⊢
  have hl := lv_entry ([.ref (ad 42), .int (nI k)]) (n := 4) (Nat.le_of_ble_eq_true rfl)
  rw [lg_entry_eq]
  generalize (lg_sl ([.ref (ad 42), .int (nI k)]) ++ List.replicate (4 - (lg_sl ([.ref (ad 42), .int (nI k)])).length) Slot.unset).toArray = ls at hl ⊢
  have hl : lv_has ls 4 [(0, .ref (ad 42)), (1, .int (nI k))] := hl
  obtain ⟨ot1, ⟨hFt1, mFt1, tFt1, rFt1, a1t1, a2t1, a3t1, a4t1, hRt1⟩, ⟨oht1, omt1, ott1, orrt1, b1t1, b2t1, b3t1, b4t1, hOt1⟩, ⟨wFt1, sFt1, kFt1, aFt1, fFt1, xFt1, c1t1, c2t1, c3t1, c4t1, c5t1, c6t1, hPlt1⟩, ⟨gFt1, e1t1, hTt1⟩⟩ := id hM
  have hcn := hok.2
  refine lv_iconst (v := 0) hx hb dX3_many_0 (by decide) ?_
  refine lv_istore_n (lv' := [(2, .int 0), (0, .ref (ad 42)), (1, .int (nI k))]) hx hb dX3_many_1 rfl hl (by decide) rfl (fun ls hl => ?_)
  refine lv_iconst (v := 1) hx hb dX3_many_2 (by decide) ?_
  refine lv_istore_n (lv' := [(3, .int 1), (2, .int 0), (0, .ref (ad 42)), (1, .int (nI k))]) hx hb dX3_many_3 rfl hl (by decide) rfl (fun ls hl => ?_)
  have key : ∀ d y : Nat, y + d = 40 → ∀ (H : Heap) (locs : List Loc), wk (dC, dI) vwCl (wT q) ad en n AA s H locs → ∀ ls : Array Slot, lv_has ls 4 [(3, .int (nI (y + 1))), (2, .int (nI (cn (aHr A k) y))), (0, .ref (ad 42)), (1, .int (nI k))] → W p l e (headSpec wsX3_many ({ frames := 0, cells := 0, slots := 0, locals := 0 })).room s m ([.ref (ad 42), .int (nI k)].toArray) below meth c H locs 0 0 (MQ below (va_Qi (fun (r : Int32) (en' : Nat → va_E) => r = nI (cn (aHr A k) 40) ∧ en' = en) (wB (dC, dI) vwCl (wT q) ad n AA) AA) ([.ref (ad 42), .int (nI k)].toArray) s 0 0 AA) (F0 m 4 ls []) := by
    intro d
    induction d with
    | zero =>
      intro y hy H locs hw ls hl
      have hcy := cn_le (aHr A k) y
      refine lv_iload_n hx hb dX3_many_4 rfl (lv_at hl 0 rfl) ?_
      refine lv_bipush (v := 41) hx hb dX3_many_5 (by decide) ?_
      refine lv_icmp_ge (tgt := 38) hx hb dX3_many_7 (by decide) (fun c7 => ?_) (fun c7 => ?_)
      · refine lv_iload_n hx hb dX3_many_38 rfl (lv_at hl 1 rfl) ?_
        refine we_i hx hb hr hlocks hw ?_ dX3_many_39
        have ey : y = 40 := by omega
        exact ⟨by rw [ey], rfl⟩
      · exact absurd (nI_le (a := 41) (by omega) (by omega)) c7
    | succ d ih =>
      intro y hy H locs hw ls hl
      have hcy := cn_le (aHr A k) y
      refine lv_iload_n hx hb dX3_many_4 rfl (lv_at hl 0 rfl) ?_
      refine lv_bipush (v := 41) hx hb dX3_many_5 (by decide) ?_
      refine lv_icmp_ge (tgt := 38) hx hb dX3_many_7 (by decide) (fun c7 => ?_) (fun c7 => ?_)
      · exact absurd ((nI_leI (a := 41) (by omega) (by omega)).mp c7) (by omega)
      · refine lv_iload_n hx hb dX3_many_10 rfl (lv_at hl 1 rfl) ?_
        refine lv_aload_n hx hb dX3_many_11 rfl (lv_at hl 2 rfl) ?_
        refine wr_get (ci := 4) (C := RX3) (T := TX3) (N := 21) hx hb hts iRX3 hown hw 42 (by omega) ot1 rfl 1 (by decide) (hts (.fieldLink RX3 7 "LibraryDeskModel" "here" "[Z") (by decide +kernel)) (fun _ h9 => h9) rfl dX3_many_12 ?_
        refine lv_bipush (v := 41) hx hb dX3_many_15 (by decide) ?_
        refine lv_iload_n hx hb dX3_many_17 rfl (lv_at hl 3 rfl) ?_
        refine lv_imul hx hb dX3_many_18 ?_
        refine lv_topi (fun x2 ex2 => ?_)
        have ex2n : x2 = nI (41 * k) := ex2.trans (pk_mul 41 k)
        clear ex2
        subst ex2n
        refine lv_iload_n hx hb dX3_many_19 rfl (lv_at hl 0 rfl) ?_
        refine lv_iadd hx hb dX3_many_20 ?_
        refine lv_topi (fun x3 ex3 => ?_)
        have ex3n : x3 = nI (41 * k + (y + 1)) := ex3.trans (nI_add _ _)
        clear ex3
        subst ex3n
        refine wr_zald (v := hFt1 ((41 * k + (y + 1)))) hx hb hw 43 (by omega) 2 a1t1 rfl (vp_in_nI (by omega) (by decide)) (by rw [(nI_clamp (by omega))]) dX3_many_21 ?_
        refine lv_if_eq (tgt := 29) hx hb dX3_many_22 (by decide) (fun c22 => ?_) (fun c22 => ?_)
        · have hf := z01_f (RM_at hRt1 hk (show y + 1 < 41 by omega)) c22
          refine lv_iconst (v := 0) hx hb dX3_many_29 (by decide) ?_
          refine lv_iadd hx hb dX3_many_30 ?_
          refine lv_topi (fun x4 ex4 => ?_)
          have ex4n : x4 = nI (cn (aHr A k) (y + 1)) := ex4.trans (by rw [cn]; first | (rw [if_pos hf]; exact nI_1 _) | (rw [if_neg hf]; exact nI_add _ 0))
          clear ex4
          subst ex4n
          refine lv_istore_n (lv' := [(2, .int (nI (cn (aHr A k) (y + 1)))), (3, .int (nI (y + 1))), (0, .ref (ad 42)), (1, .int (nI k))]) hx hb dX3_many_31 rfl hl (by decide) rfl (fun ls hl => ?_)
          refine lv_iinc (v := nI (y + 1 + 1)) (lv' := [(3, .int (nI (y + 1 + 1))), (2, .int (nI (cn (aHr A k) (y + 1)))), (0, .ref (ad 42)), (1, .int (nI k))]) hx hb dX3_many_32 hl (k := 1) rfl (nI_1 (y + 1)) (by decide) rfl (fun ls hl => ?_)
          refine lv_goto (tgt := 4) hx hb dX3_many_35 (by decide) ?_
          exact ih (y + 1) (by omega) _ _ hw ls (lv_sub hl [0, 1, 2, 3] rfl)
        · have hf := z01_t (RM_at hRt1 hk (show y + 1 < 41 by omega)) c22
          refine lv_iconst (v := 1) hx hb dX3_many_25 (by decide) ?_
          refine lv_goto (tgt := 30) hx hb dX3_many_26 (by decide) ?_
          refine lv_iadd hx hb dX3_many_30 ?_
          refine lv_topi (fun x5 ex5 => ?_)
          have ex5n : x5 = nI (cn (aHr A k) (y + 1)) := ex5.trans (by rw [cn]; first | (rw [if_pos hf]; exact nI_1 _) | (rw [if_neg hf]; exact nI_add _ 0))
          clear ex5
          subst ex5n
          refine lv_istore_n (lv' := [(2, .int (nI (cn (aHr A k) (y + 1)))), (3, .int (nI (y + 1))), (0, .ref (ad 42)), (1, .int (nI k))]) hx hb dX3_many_31 rfl hl (by decide) rfl (fun ls hl => ?_)
          refine lv_iinc (v := nI (y + 1 + 1)) (lv' := [(3, .int (nI (y + 1 + 1))), (2, .int (nI (cn (aHr A k) (y + 1)))), (0, .ref (ad 42)), (1, .int (nI k))]) hx hb dX3_many_32 hl (k := 1) rfl (nI_1 (y + 1)) (by decide) rfl (fun ls hl => ?_)
          refine lv_goto (tgt := 4) hx hb dX3_many_35 (by decide) ?_
          exact ih (y + 1) (by omega) _ _ hw ls (lv_sub hl [0, 1, 2, 3] rfl)
  exact key 40 0 rfl _ _ hw ls (lv_sub hl [0, 1, 2, 3] rfl)

set_option maxHeartbeats 4000000 in
set_option maxRecDepth 100000 in
theorem kX3_drops (l : Launch) (dC : Nat → ClassId) (dI : Nat → Nat → Nat) (q : ClassId × ClassId × ClassId × ClassId) (ad : Nat → Nat) (en : Nat → va_E) (n sz : Nat) (hn58 : 58 ≤ n) (th : Int32) (A O : Ast) (pl : Nat → Pst) (cs : Nat → Int32) (an : Int64) (wy pla : Int32) (hok : Aok A) (hM : ModC q ad en th A O pl cs an wy pla) (kd z : Int32) :
    Met l yX3_drops wsX3_drops ({ frames := 2, cells := 0, slots := 0, locals := 42 }) (wPc (dC, dI) vwCl (wT q) ad en n sz [.ref (ad 42), .int kd, .int z]) (va_Qi (fun (r : Int32) (en' : Nat → va_E) => r = (if aIs kd z A = true then 1 else 0) ∧ ModC q ad en' th (aDropI kd z A) O pl cs an wy pla ∧ ∀ j, (j < 42 ∨ 58 ≤ j) → en' j = en j) (wB (dC, dI) vwCl (wT q) ad n (wA ad n sz)) (wA ad n sz)) 0 0 (wA ad n sz) := by
  refine Met.ofW (cc := cX3_drops) (maxL := 3) (ret := (some .boolean)) (by decide) rfl ?_
  intro p e s m args below meth c s₁ B hml hv
  obtain ⟨rfl, hsz, hP, hK, hD0, hE0⟩ := hv
  have hx := B.exec
  have hb := B.bytes
  have hr := B.returns
  have hts := atoms_spec (ws := wsX3_drops) B.pre
  have hown : s.vm.findClass RX3 = some m.cls := findClass_of_methodNamed B.named
  have hlocks := B.notSynchronized
  have iRX3 : ∀ w ∈ u_ws RX3 TX3 21, w ∈ wsX3_drops := by decide +kernel
  subst hsz
  have hw := wk_of hP hK hD0 hE0
  generalize wA ad n s.heap.size = AA at hw ⊢
  have hl := lv_entry ([.ref (ad 42), .int kd, .int z]) (n := 3) (Nat.le_of_ble_eq_true rfl)
  rw [lg_entry_eq]
  generalize (lg_sl ([.ref (ad 42), .int kd, .int z]) ++ List.replicate (3 - (lg_sl ([.ref (ad 42), .int kd, .int z])).length) Slot.unset).toArray = ls at hl ⊢
  have hl : lv_has ls 3 [(0, .ref (ad 42)), (1, .int kd), (2, .int z)] := hl
  obtain ⟨ot1, ⟨hFt1, mFt1, tFt1, rFt1, a1t1, a2t1, a3t1, a4t1, hRt1⟩, ⟨oht1, omt1, ott1, orrt1, b1t1, b2t1, b3t1, b4t1, hOt1⟩, ⟨wFt1, sFt1, kFt1, aFt1, fFt1, xFt1, c1t1, c2t1, c3t1, c4t1, c5t1, c6t1, hPlt1⟩, ⟨gFt1, e1t1, hTt1⟩⟩ := id hM
  have hcn := hok.2
  refine lv_aload_n hx hb dX3_drops_0 rfl (lv_at hl 0 rfl) ?_
  refine lv_iload_n hx hb dX3_drops_1 rfl (lv_at hl 1 rfl) ?_
  refine lv_iload_n hx hb dX3_drops_2 rfl (lv_at hl 2 rfl) ?_
  refine wc_i hw (va_runV (As := [.int kd, .int z]) (rest := []) ⟨hx, hb, hml, hown, hts⟩ (kX3_isHere l dC dI q ad en n _ hn58 th A O pl cs an wy pla hok hM kd z) (cwV 2 hts gX3_drops_X3_isHere rfl rfl rfl (by decide +kernel) ⟨Nat.le_of_ble_eq_true rfl, Nat.le_of_ble_eq_true rfl⟩) (wk_preV hw (by omega) ot1 rfl) rfl rfl hl.1 rfl (lv_room (Nat.le_of_ble_eq_true rfl)) dX3_drops_3 ⟨Nat.le_refl _, Nat.le_refl _⟩) (fun r2 en4 H locs hp3 hw => ?_)
  obtain ⟨hr5, hn6⟩ := hp3
  rw [hn6] at hw
  clear hn6
  refine lv_if_ne (tgt := 11) hx hb dX3_drops_6 (by decide) (fun c6 => ?_) (fun c6 => ?_)
  · have hi := z01_t hr5 c6
    obtain ⟨k, y, hk, hy1, hy40, hkd, hyz, hhr⟩ := aIs_in hi
    subst hkd
    subst hyz
    refine lv_aload_n hx hb dX3_drops_11 rfl (lv_at hl 0 rfl) ?_
    refine wr_get (ci := 4) (C := RX3) (T := TX3) (N := 21) hx hb hts iRX3 hown hw 42 (by omega) ot1 rfl 1 (by decide) (hts (.fieldLink RX3 7 "LibraryDeskModel" "here" "[Z") (by decide +kernel)) (fun _ h9 => h9) rfl dX3_drops_12 ?_
    refine lv_bipush (v := 41) hx hb dX3_drops_15 (by decide) ?_
    refine lv_iload_n hx hb dX3_drops_17 rfl (lv_at hl 1 rfl) ?_
    refine lv_imul hx hb dX3_drops_18 ?_
    refine lv_topi (fun x7 ex7 => ?_)
    have ex7n : x7 = nI (41 * k) := ex7.trans (pk_mul 41 k)
    clear ex7
    subst ex7n
    refine lv_iload_n hx hb dX3_drops_19 rfl (lv_at hl 2 rfl) ?_
    refine lv_iadd hx hb dX3_drops_20 ?_
    refine lv_topi (fun x8 ex8 => ?_)
    have ex8n : x8 = nI (41 * k + y) := ex8.trans (nI_add _ _)
    clear ex8
    subst ex8n
    refine lv_iconst (v := 0) hx hb dX3_drops_21 (by decide) ?_
    refine wr_zast (j := (41 * k + y)) (y := 0) hx hb hw 43 (by omega) 2 a1t1 rfl (vp_in_nI (by omega) (by decide)) (nI_clamp (by omega)) (by decide) dX3_drops_22 (fun en10 H locs hE9 hw => ?_)
    have he11 : en10 42 = .inr (4, [.int th, .ref (ad 43), .ref (ad 44), .ref (ad 45), .ref (ad 46), .int (nI (aCn A)), .ref (ad 47), .ref (ad 48), .ref (ad 49), .ref (ad 50), .int (nI (aCn O)), .ref (ad 51), .ref (ad 52), .ref (ad 53), .ref (ad 54), .ref (ad 55), .ref (ad 56), .ref (ad 57), .long an, .int wy, .int pla]) := w_ne hE9 (by omega) ot1
    have he12 : en10 43 = .inl (q.2.2.1, 328, .inl (upd hFt1 ((41 * k + y)) 0)) := w_self hE9
    have he13 : en10 44 = .inl (q.1, 8, .inl mFt1) := w_ne hE9 (by omega) a2t1
    have he14 : en10 45 = .inl (q.2.1, 8, .inr (.inl tFt1)) := w_ne hE9 (by omega) a3t1
    have he15 : en10 46 = .inl (q.2.1, 20, .inr (.inl rFt1)) := w_ne hE9 (by omega) a4t1
    have he16 : en10 47 = .inl (q.2.2.1, 328, .inl oht1) := w_ne hE9 (by omega) b1t1
    have he17 : en10 48 = .inl (q.1, 8, .inl omt1) := w_ne hE9 (by omega) b2t1
    have he18 : en10 49 = .inl (q.2.1, 8, .inr (.inl ott1)) := w_ne hE9 (by omega) b3t1
    have he19 : en10 50 = .inl (q.2.1, 20, .inr (.inl orrt1)) := w_ne hE9 (by omega) b4t1
    have he20 : en10 51 = .inl (q.1, 10, .inl wFt1) := w_ne hE9 (by omega) c1t1
    have he21 : en10 52 = .inl (q.1, 60, .inl sFt1) := w_ne hE9 (by omega) c2t1
    have he22 : en10 53 = .inl (q.1, 60, .inl kFt1) := w_ne hE9 (by omega) c3t1
    have he23 : en10 54 = .inl (q.1, 10, .inl aFt1) := w_ne hE9 (by omega) c4t1
    have he24 : en10 55 = .inl (q.1, 10, .inl fFt1) := w_ne hE9 (by omega) c5t1
    have he25 : en10 56 = .inl (q.1, 10, .inl xFt1) := w_ne hE9 (by omega) c6t1
    have he26 : en10 57 = .inl (q.1, 7, .inl gFt1) := w_ne hE9 (by omega) e1t1
    refine lv_iconst (v := 1) hx hb dX3_drops_23 (by decide) ?_
    refine we_z hx hb hr hlocks hw (Or.inr rfl) ?_ dX3_drops_24
    refine ⟨by rw [if_pos hi], ?_, fun j hj => w_fr hE9 (by omega)⟩
    rw [aDropI_nI hk hy1 hy40 hhr]
    exact ⟨he11, ⟨_, _, _, _, he12, he13, he14, he15, RM_drop hRt1 hk (by omega)⟩, ⟨_, _, _, _, he16, he17, he18, he19, hOt1⟩, ⟨_, _, _, _, _, _, he20, he21, he22, he23, he24, he25, hPlt1⟩, ⟨_, he26, hTt1⟩⟩
  · have hi := z01_f hr5 c6
    refine lv_iconst (v := 0) hx hb dX3_drops_9 (by decide) ?_
    refine we_z hx hb hr hlocks hw (Or.inl rfl) ?_ dX3_drops_10
    refine ⟨by rw [if_neg hi], ?_, fun j hj => rfl⟩
    rw [aDropI_no hi]
    exact hM
end
section
set_option maxHeartbeats 4000000 in
set_option maxRecDepth 100000 in
theorem kX3_keep (l : Launch) (dC : Nat → ClassId) (dI : Nat → Nat → Nat) (q : ClassId × ClassId × ClassId × ClassId) (ad : Nat → Nat) (en : Nat → va_E) (n sz : Nat) (hn58 : 58 ≤ n) (th : Int32) (A O : Ast) (pl : Nat → Pst) (cs : Nat → Int32) (an : Int64) (wy pla : Int32) (hok : Aok A) (hM : ModC q ad en th A O pl cs an wy pla) (hokO : Aok O) :
    Met l yX3_keep wsX3_keep ({ frames := 0, cells := 0, slots := 0, locals := 0 }) (wPc (dC, dI) vwCl (wT q) ad en n sz [.ref (ad 42)]) (va_Qv (fun (en' : Nat → va_E) => ModC q ad en' th A A pl cs an wy pla ∧ ∀ j, (j < 42 ∨ 58 ≤ j) → en' j = en j) (wB (dC, dI) vwCl (wT q) ad n (wA ad n sz)) (wA ad n sz)) 0 0 (wA ad n sz) := by
  refine Met.ofW (cc := cX3_keep) (maxL := 2) (ret := none) (by decide) rfl ?_
  intro p e s m args below meth c s₁ B hml hv
  obtain ⟨rfl, hsz, hP, hK, hD0, hE0⟩ := hv
  have hx := B.exec
  have hb := B.bytes
  have hr := B.returns
  have hts := atoms_spec (ws := wsX3_keep) B.pre
  have hown : s.vm.findClass RX3 = some m.cls := findClass_of_methodNamed B.named
  have hlocks := B.notSynchronized
  have iRX3 : ∀ w ∈ u_ws RX3 TX3 21, w ∈ wsX3_keep := by decide +kernel
  subst hsz
  have hw := wk_of hP hK hD0 hE0
  generalize wA ad n s.heap.size = AA at hw ⊢
  have hl := lv_entry ([.ref (ad 42)]) (n := 2) (Nat.le_of_ble_eq_true rfl)
  rw [lg_entry_eq]
  generalize (lg_sl ([.ref (ad 42)]) ++ List.replicate (2 - (lg_sl ([.ref (ad 42)])).length) Slot.unset).toArray = ls at hl ⊢
  have hl : lv_has ls 2 [(0, .ref (ad 42))] := hl
  obtain ⟨ot1, ⟨hFt1, mFt1, tFt1, rFt1, a1t1, a2t1, a3t1, a4t1, hRt1⟩, ⟨oht1, omt1, ott1, orrt1, b1t1, b2t1, b3t1, b4t1, hOt1⟩, ⟨wFt1, sFt1, kFt1, aFt1, fFt1, xFt1, c1t1, c2t1, c3t1, c4t1, c5t1, c6t1, hPlt1⟩, ⟨gFt1, e1t1, hTt1⟩⟩ := id hM
  have hcn := hok.2
  have hcO := hokO.2
  refine lv_iconst (v := 0) hx hb dX3_keep_0 (by decide) ?_
  refine lv_istore_n (lv' := [(1, .int 0), (0, .ref (ad 42))]) hx hb dX3_keep_1 rfl hl (by decide) rfl (fun ls hl => ?_)
  have keyz2 : ∀ (d iz2 : Nat), iz2 + d = 328 → ∀ (foHz2 : Nat → Int32) (enz2 : Nat → va_E), (∀ j, j < iz2 → foHz2 j = hFt1 j) → enz2 42 = .inr (4, [.int th, .ref (ad 43), .ref (ad 44), .ref (ad 45), .ref (ad 46), .int (nI (aCn A)), .ref (ad 47), .ref (ad 48), .ref (ad 49), .ref (ad 50), .int (nI (aCn O)), .ref (ad 51), .ref (ad 52), .ref (ad 53), .ref (ad 54), .ref (ad 55), .ref (ad 56), .ref (ad 57), .long an, .int wy, .int pla]) → enz2 43 = .inl (q.2.2.1, 328, .inl hFt1) → enz2 44 = .inl (q.1, 8, .inl mFt1) → enz2 45 = .inl (q.2.1, 8, .inr (.inl tFt1)) → enz2 46 = .inl (q.2.1, 20, .inr (.inl rFt1)) → enz2 47 = .inl (q.2.2.1, 328, .inl foHz2) → enz2 48 = .inl (q.1, 8, .inl omt1) → enz2 49 = .inl (q.2.1, 8, .inr (.inl ott1)) → enz2 50 = .inl (q.2.1, 20, .inr (.inl orrt1)) → enz2 51 = .inl (q.1, 10, .inl wFt1) → enz2 52 = .inl (q.1, 60, .inl sFt1) → enz2 53 = .inl (q.1, 60, .inl kFt1) → enz2 54 = .inl (q.1, 10, .inl aFt1) → enz2 55 = .inl (q.1, 10, .inl fFt1) → enz2 56 = .inl (q.1, 10, .inl xFt1) → enz2 57 = .inl (q.1, 7, .inl gFt1) → (∀ j, (j < 42 ∨ 58 ≤ j) → enz2 j = en j) → ∀ (H : Heap) (locs : List Loc), wk (dC, dI) vwCl (wT q) ad enz2 n AA s H locs → ∀ ls : Array Slot, lv_has ls 2 [(1, .int (nI iz2)), (0, .ref (ad 42))] → W p l e (headSpec wsX3_keep ({ frames := 0, cells := 0, slots := 0, locals := 0 })).room s m ([.ref (ad 42)].toArray) below meth c H locs 0 0 (MQ below (va_Qv (fun (en' : Nat → va_E) => ModC q ad en' th A A pl cs an wy pla ∧ ∀ j, (j < 42 ∨ 58 ≤ j) → en' j = en j) (wB (dC, dI) vwCl (wT q) ad n AA) AA) ([.ref (ad 42)].toArray) s 0 0 AA) (F0 m 2 ls []) := by
    intro d
    induction d with
    | zero =>
      intro iz2 hiz2 foHz2 enz2 hcoHz2 gOz2 gHz2 gMz2 gTz2 gRz2 goHz2 goMz2 goTz2 goRz2 gwz2 gsz2 gkz2 gaz2 gfz2 gxz2 gtz2 hfrz2 H locs hw ls hl
      have hi0 : iz2 = 328 := by omega
      subst hi0
      refine lv_iload_n hx hb dX3_keep_2 rfl (lv_at hl 0 rfl) ?_
      refine lv_sipush (v := 328) hx hb dX3_keep_3 (by decide) ?_
      refine lv_icmp_ge (tgt := 27) hx hb dX3_keep_6 (by decide) (fun c6 => ?_) (fun c6 => ?_)
      · refine lv_iconst (v := 0) hx hb dX3_keep_27 (by decide) ?_
        refine lv_istore_n (lv' := [(1, .int 0), (0, .ref (ad 42))]) hx hb dX3_keep_28 rfl hl (by decide) rfl (fun ls hl => ?_)
        have keyz3 : ∀ (d iz3 : Nat), iz3 + d = 8 → ∀ (foMz3 : Nat → Int32) (foTz3 : Nat → Int64) (enz3 : Nat → va_E), (∀ j, j < iz3 → foMz3 j = mFt1 j) → (∀ j, j < iz3 → foTz3 j = tFt1 j) → enz3 42 = .inr (4, [.int th, .ref (ad 43), .ref (ad 44), .ref (ad 45), .ref (ad 46), .int (nI (aCn A)), .ref (ad 47), .ref (ad 48), .ref (ad 49), .ref (ad 50), .int (nI (aCn O)), .ref (ad 51), .ref (ad 52), .ref (ad 53), .ref (ad 54), .ref (ad 55), .ref (ad 56), .ref (ad 57), .long an, .int wy, .int pla]) → enz3 43 = .inl (q.2.2.1, 328, .inl hFt1) → enz3 44 = .inl (q.1, 8, .inl mFt1) → enz3 45 = .inl (q.2.1, 8, .inr (.inl tFt1)) → enz3 46 = .inl (q.2.1, 20, .inr (.inl rFt1)) → enz3 47 = .inl (q.2.2.1, 328, .inl foHz2) → enz3 48 = .inl (q.1, 8, .inl foMz3) → enz3 49 = .inl (q.2.1, 8, .inr (.inl foTz3)) → enz3 50 = .inl (q.2.1, 20, .inr (.inl orrt1)) → enz3 51 = .inl (q.1, 10, .inl wFt1) → enz3 52 = .inl (q.1, 60, .inl sFt1) → enz3 53 = .inl (q.1, 60, .inl kFt1) → enz3 54 = .inl (q.1, 10, .inl aFt1) → enz3 55 = .inl (q.1, 10, .inl fFt1) → enz3 56 = .inl (q.1, 10, .inl xFt1) → enz3 57 = .inl (q.1, 7, .inl gFt1) → (∀ j, (j < 42 ∨ 58 ≤ j) → enz3 j = en j) → ∀ (H : Heap) (locs : List Loc), wk (dC, dI) vwCl (wT q) ad enz3 n AA s H locs → ∀ ls : Array Slot, lv_has ls 2 [(1, .int (nI iz3)), (0, .ref (ad 42))] → W p l e (headSpec wsX3_keep ({ frames := 0, cells := 0, slots := 0, locals := 0 })).room s m ([.ref (ad 42)].toArray) below meth c H locs 0 0 (MQ below (va_Qv (fun (en' : Nat → va_E) => ModC q ad en' th A A pl cs an wy pla ∧ ∀ j, (j < 42 ∨ 58 ≤ j) → en' j = en j) (wB (dC, dI) vwCl (wT q) ad n AA) AA) ([.ref (ad 42)].toArray) s 0 0 AA) (F0 m 29 ls []) := by
          intro d
          induction d with
          | zero =>
            intro iz3 hiz3 foMz3 foTz3 enz3 hcoMz3 hcoTz3 gOz3 gHz3 gMz3 gTz3 gRz3 goHz3 goMz3 goTz3 goRz3 gwz3 gsz3 gkz3 gaz3 gfz3 gxz3 gtz3 hfrz3 H locs hw ls hl
            have hi0 : iz3 = 8 := by omega
            subst hi0
            refine lv_iload_n hx hb dX3_keep_29 rfl (lv_at hl 0 rfl) ?_
            refine lv_bipush (v := 8) hx hb dX3_keep_30 (by decide) ?_
            refine lv_icmp_ge (tgt := 65) hx hb dX3_keep_32 (by decide) (fun c32 => ?_) (fun c32 => ?_)
            · refine lv_iconst (v := 0) hx hb dX3_keep_65 (by decide) ?_
              refine lv_istore_n (lv' := [(1, .int 0), (0, .ref (ad 42))]) hx hb dX3_keep_66 rfl hl (by decide) rfl (fun ls hl => ?_)
              have keyz4 : ∀ (d iz4 : Nat), iz4 + d = 20 → ∀ (foRz4 : Nat → Int64) (enz4 : Nat → va_E), (∀ j, j < iz4 → foRz4 j = rFt1 j) → enz4 42 = .inr (4, [.int th, .ref (ad 43), .ref (ad 44), .ref (ad 45), .ref (ad 46), .int (nI (aCn A)), .ref (ad 47), .ref (ad 48), .ref (ad 49), .ref (ad 50), .int (nI (aCn O)), .ref (ad 51), .ref (ad 52), .ref (ad 53), .ref (ad 54), .ref (ad 55), .ref (ad 56), .ref (ad 57), .long an, .int wy, .int pla]) → enz4 43 = .inl (q.2.2.1, 328, .inl hFt1) → enz4 44 = .inl (q.1, 8, .inl mFt1) → enz4 45 = .inl (q.2.1, 8, .inr (.inl tFt1)) → enz4 46 = .inl (q.2.1, 20, .inr (.inl rFt1)) → enz4 47 = .inl (q.2.2.1, 328, .inl foHz2) → enz4 48 = .inl (q.1, 8, .inl foMz3) → enz4 49 = .inl (q.2.1, 8, .inr (.inl foTz3)) → enz4 50 = .inl (q.2.1, 20, .inr (.inl foRz4)) → enz4 51 = .inl (q.1, 10, .inl wFt1) → enz4 52 = .inl (q.1, 60, .inl sFt1) → enz4 53 = .inl (q.1, 60, .inl kFt1) → enz4 54 = .inl (q.1, 10, .inl aFt1) → enz4 55 = .inl (q.1, 10, .inl fFt1) → enz4 56 = .inl (q.1, 10, .inl xFt1) → enz4 57 = .inl (q.1, 7, .inl gFt1) → (∀ j, (j < 42 ∨ 58 ≤ j) → enz4 j = en j) → ∀ (H : Heap) (locs : List Loc), wk (dC, dI) vwCl (wT q) ad enz4 n AA s H locs → ∀ ls : Array Slot, lv_has ls 2 [(1, .int (nI iz4)), (0, .ref (ad 42))] → W p l e (headSpec wsX3_keep ({ frames := 0, cells := 0, slots := 0, locals := 0 })).room s m ([.ref (ad 42)].toArray) below meth c H locs 0 0 (MQ below (va_Qv (fun (en' : Nat → va_E) => ModC q ad en' th A A pl cs an wy pla ∧ ∀ j, (j < 42 ∨ 58 ≤ j) → en' j = en j) (wB (dC, dI) vwCl (wT q) ad n AA) AA) ([.ref (ad 42)].toArray) s 0 0 AA) (F0 m 67 ls []) := by
                intro d
                induction d with
                | zero =>
                  intro iz4 hiz4 foRz4 enz4 hcoRz4 gOz4 gHz4 gMz4 gTz4 gRz4 goHz4 goMz4 goTz4 goRz4 gwz4 gsz4 gkz4 gaz4 gfz4 gxz4 gtz4 hfrz4 H locs hw ls hl
                  have hi0 : iz4 = 20 := by omega
                  subst hi0
                  refine lv_iload_n hx hb dX3_keep_67 rfl (lv_at hl 0 rfl) ?_
                  refine lv_bipush (v := 20) hx hb dX3_keep_68 (by decide) ?_
                  refine lv_icmp_ge (tgt := 91) hx hb dX3_keep_70 (by decide) (fun c70 => ?_) (fun c70 => ?_)
                  · refine lv_aload_n hx hb dX3_keep_91 rfl (lv_at hl 1 rfl) ?_
                    refine lv_aload_n hx hb dX3_keep_92 rfl (lv_at hl 1 rfl) ?_
                    refine wr_get (ci := 4) (C := RX3) (T := TX3) (N := 21) hx hb hts iRX3 hown hw 42 (by omega) gOz4 rfl 5 (by decide) (hts (.fieldLink RX3 61 "LibraryDeskModel" "size" "I") (by decide +kernel)) (fun _ h9 => h9) rfl dX3_keep_93 ?_
                    refine wr_put (ci := 4) (v := .int (nI (aCn A))) (ty := .int) (C := RX3) (T := TX3) (N := 21) hx hb hts iRX3 tyX3 tyX3_ok nmX3 hown hw 42 (by omega) gOz4 rfl 10 (by decide) (hts (.fieldLink RX3 82 "LibraryDeskModel" "oldSize" "I") (by decide +kernel)) (fun _ h9 => h9) rfl (by decide +kernel) rfl rfl (Nat.le_of_ble_eq_true rfl) dX3_keep_96 (fun en6 H locs hE5 hw => ?_)
                    have he7 : en6 42 = .inr (4, [.int th, .ref (ad 43), .ref (ad 44), .ref (ad 45), .ref (ad 46), .int (nI (aCn A)), .ref (ad 47), .ref (ad 48), .ref (ad 49), .ref (ad 50), .int (nI (aCn A)), .ref (ad 51), .ref (ad 52), .ref (ad 53), .ref (ad 54), .ref (ad 55), .ref (ad 56), .ref (ad 57), .long an, .int wy, .int pla]) := w_self hE5
                    have he8 : en6 43 = .inl (q.2.2.1, 328, .inl hFt1) := w_ne hE5 (by omega) gHz4
                    have he9 : en6 44 = .inl (q.1, 8, .inl mFt1) := w_ne hE5 (by omega) gMz4
                    have he10 : en6 45 = .inl (q.2.1, 8, .inr (.inl tFt1)) := w_ne hE5 (by omega) gTz4
                    have he11 : en6 46 = .inl (q.2.1, 20, .inr (.inl rFt1)) := w_ne hE5 (by omega) gRz4
                    have he12 : en6 47 = .inl (q.2.2.1, 328, .inl foHz2) := w_ne hE5 (by omega) goHz4
                    have he13 : en6 48 = .inl (q.1, 8, .inl foMz3) := w_ne hE5 (by omega) goMz4
                    have he14 : en6 49 = .inl (q.2.1, 8, .inr (.inl foTz3)) := w_ne hE5 (by omega) goTz4
                    have he15 : en6 50 = .inl (q.2.1, 20, .inr (.inl foRz4)) := w_ne hE5 (by omega) goRz4
                    have he16 : en6 51 = .inl (q.1, 10, .inl wFt1) := w_ne hE5 (by omega) gwz4
                    have he17 : en6 52 = .inl (q.1, 60, .inl sFt1) := w_ne hE5 (by omega) gsz4
                    have he18 : en6 53 = .inl (q.1, 60, .inl kFt1) := w_ne hE5 (by omega) gkz4
                    have he19 : en6 54 = .inl (q.1, 10, .inl aFt1) := w_ne hE5 (by omega) gaz4
                    have he20 : en6 55 = .inl (q.1, 10, .inl fFt1) := w_ne hE5 (by omega) gfz4
                    have he21 : en6 56 = .inl (q.1, 10, .inl xFt1) := w_ne hE5 (by omega) gxz4
                    have he22 : en6 57 = .inl (q.1, 7, .inl gFt1) := w_ne hE5 (by omega) gtz4
                    refine we_v hx hb hr hlocks hw ?_ dX3_keep_99
                    exact ⟨⟨he7, ⟨_, _, _, _, he8, he9, he10, he11, hRt1⟩, ⟨_, _, _, _, he12, he13, he14, he15, RM_congr hRt1 hcn (fun i hi => hcoHz2 i hi) (fun i hi => hcoMz3 i hi) (fun i hi => hcoTz3 i hi) (fun i hi => hcoRz4 i hi)⟩, ⟨_, _, _, _, _, _, he16, he17, he18, he19, he20, he21, hPlt1⟩, ⟨_, he22, hTt1⟩⟩, fun j hj => (w_fr hE5 (by omega)).trans (hfrz4 j hj)⟩
                  · exact absurd (Int32.le_refl _) c70
                | succ d ih =>
                  intro iz4 hiz4 foRz4 enz4 hcoRz4 gOz4 gHz4 gMz4 gTz4 gRz4 goHz4 goMz4 goTz4 goRz4 gwz4 gsz4 gkz4 gaz4 gfz4 gxz4 gtz4 hfrz4 H locs hw ls hl
                  refine lv_iload_n hx hb dX3_keep_67 rfl (lv_at hl 0 rfl) ?_
                  refine lv_bipush (v := 20) hx hb dX3_keep_68 (by decide) ?_
                  refine lv_icmp_ge (tgt := 91) hx hb dX3_keep_70 (by decide) (fun c70 => ?_) (fun c70 => ?_)
                  · exact absurd ((nI_leI (a := 20) (by omega) (by omega)).mp c70) (by omega)
                  · refine lv_aload_n hx hb dX3_keep_73 rfl (lv_at hl 1 rfl) ?_
                    refine wr_get (ci := 4) (C := RX3) (T := TX3) (N := 21) hx hb hts iRX3 hown hw 42 (by omega) gOz4 rfl 9 (by decide) (hts (.fieldLink RX3 33 "LibraryDeskModel" "oldRow" "[J") (by decide +kernel)) (fun _ h9 => h9) rfl dX3_keep_74 ?_
                    refine lv_iload_n hx hb dX3_keep_77 rfl (lv_at hl 0 rfl) ?_
                    refine lv_aload_n hx hb dX3_keep_78 rfl (lv_at hl 1 rfl) ?_
                    refine wr_get (ci := 4) (C := RX3) (T := TX3) (N := 21) hx hb hts iRX3 hown hw 42 (by omega) gOz4 rfl 4 (by decide) (hts (.fieldLink RX3 21 "LibraryDeskModel" "row" "[J") (by decide +kernel)) (fun _ h9 => h9) rfl dX3_keep_79 ?_
                    refine lv_iload_n hx hb dX3_keep_82 rfl (lv_at hl 0 rfl) ?_
                    refine wr_lald (v := rFt1 iz4) hx hb hw 46 (by omega) 1 gRz4 rfl (vp_in_nI (by omega) (by decide)) (by rw [(nI_clamp (by omega))]) dX3_keep_83 ?_
                    refine wr_last (j := iz4) hx hb hw 50 (by omega) 1 goRz4 rfl (vp_in_nI (by omega) (by decide)) (nI_clamp (by omega)) dX3_keep_84 (fun en24 H locs hE23 hw => ?_)
                    have he25 : en24 42 = .inr (4, [.int th, .ref (ad 43), .ref (ad 44), .ref (ad 45), .ref (ad 46), .int (nI (aCn A)), .ref (ad 47), .ref (ad 48), .ref (ad 49), .ref (ad 50), .int (nI (aCn O)), .ref (ad 51), .ref (ad 52), .ref (ad 53), .ref (ad 54), .ref (ad 55), .ref (ad 56), .ref (ad 57), .long an, .int wy, .int pla]) := w_ne hE23 (by omega) gOz4
                    have he26 : en24 43 = .inl (q.2.2.1, 328, .inl hFt1) := w_ne hE23 (by omega) gHz4
                    have he27 : en24 44 = .inl (q.1, 8, .inl mFt1) := w_ne hE23 (by omega) gMz4
                    have he28 : en24 45 = .inl (q.2.1, 8, .inr (.inl tFt1)) := w_ne hE23 (by omega) gTz4
                    have he29 : en24 46 = .inl (q.2.1, 20, .inr (.inl rFt1)) := w_ne hE23 (by omega) gRz4
                    have he30 : en24 47 = .inl (q.2.2.1, 328, .inl foHz2) := w_ne hE23 (by omega) goHz4
                    have he31 : en24 48 = .inl (q.1, 8, .inl foMz3) := w_ne hE23 (by omega) goMz4
                    have he32 : en24 49 = .inl (q.2.1, 8, .inr (.inl foTz3)) := w_ne hE23 (by omega) goTz4
                    have he33 : en24 50 = .inl (q.2.1, 20, .inr (.inl (vp_updL foRz4 iz4 (rFt1 iz4)))) := w_self hE23
                    have he34 : en24 51 = .inl (q.1, 10, .inl wFt1) := w_ne hE23 (by omega) gwz4
                    have he35 : en24 52 = .inl (q.1, 60, .inl sFt1) := w_ne hE23 (by omega) gsz4
                    have he36 : en24 53 = .inl (q.1, 60, .inl kFt1) := w_ne hE23 (by omega) gkz4
                    have he37 : en24 54 = .inl (q.1, 10, .inl aFt1) := w_ne hE23 (by omega) gaz4
                    have he38 : en24 55 = .inl (q.1, 10, .inl fFt1) := w_ne hE23 (by omega) gfz4
                    have he39 : en24 56 = .inl (q.1, 10, .inl xFt1) := w_ne hE23 (by omega) gxz4
                    have he40 : en24 57 = .inl (q.1, 7, .inl gFt1) := w_ne hE23 (by omega) gtz4
                    refine lv_iinc (v := nI (iz4 + 1)) (lv' := [(1, .int (nI (iz4 + 1))), (0, .ref (ad 42))]) hx hb dX3_keep_85 hl (k := 0) rfl (nI_1 iz4) (by decide) rfl (fun ls hl => ?_)
                    refine lv_goto (tgt := 67) hx hb dX3_keep_88 (by decide) ?_
                    refine ih (iz4 + 1) (by omega) _ _ (fun j hj => ?_) he25 he26 he27 he28 he29 he30 he31 he32 he33 he34 he35 he36 he37 he38 he39 he40 (fun j hj => (w_fr hE23 (by omega)).trans (hfrz4 j hj)) _ _ hw ls (lv_sub hl [0, 1] rfl)
                    · by_cases e : j = iz4
                      · rw [e, pk_uLs]
                      · rw [pk_uLn e]; exact hcoRz4 j (by omega)
              exact keyz4 20 0 rfl _ _ (fun j h => absurd h (Nat.not_lt_zero j)) gOz3 gHz3 gMz3 gTz3 gRz3 goHz3 goMz3 goTz3 goRz3 gwz3 gsz3 gkz3 gaz3 gfz3 gxz3 gtz3 (fun j hj => hfrz3 j hj) _ _ hw ls (lv_sub hl [0, 1] rfl)
            · exact absurd (Int32.le_refl _) c32
          | succ d ih =>
            intro iz3 hiz3 foMz3 foTz3 enz3 hcoMz3 hcoTz3 gOz3 gHz3 gMz3 gTz3 gRz3 goHz3 goMz3 goTz3 goRz3 gwz3 gsz3 gkz3 gaz3 gfz3 gxz3 gtz3 hfrz3 H locs hw ls hl
            refine lv_iload_n hx hb dX3_keep_29 rfl (lv_at hl 0 rfl) ?_
            refine lv_bipush (v := 8) hx hb dX3_keep_30 (by decide) ?_
            refine lv_icmp_ge (tgt := 65) hx hb dX3_keep_32 (by decide) (fun c32 => ?_) (fun c32 => ?_)
            · exact absurd ((nI_leI (a := 8) (by omega) (by omega)).mp c32) (by omega)
            · refine lv_aload_n hx hb dX3_keep_35 rfl (lv_at hl 1 rfl) ?_
              refine wr_get (ci := 4) (C := RX3) (T := TX3) (N := 21) hx hb hts iRX3 hown hw 42 (by omega) gOz3 rfl 7 (by decide) (hts (.fieldLink RX3 27 "LibraryDeskModel" "oldMade" "[I") (by decide +kernel)) (fun _ h9 => h9) rfl dX3_keep_36 ?_
              refine lv_iload_n hx hb dX3_keep_39 rfl (lv_at hl 0 rfl) ?_
              refine lv_aload_n hx hb dX3_keep_40 rfl (lv_at hl 1 rfl) ?_
              refine wr_get (ci := 4) (C := RX3) (T := TX3) (N := 21) hx hb hts iRX3 hown hw 42 (by omega) gOz3 rfl 2 (by decide) (hts (.fieldLink RX3 13 "LibraryDeskModel" "made" "[I") (by decide +kernel)) (fun _ h9 => h9) rfl dX3_keep_41 ?_
              refine lv_iload_n hx hb dX3_keep_44 rfl (lv_at hl 0 rfl) ?_
              refine wr_iald (v := mFt1 iz3) hx hb hw 44 (by omega) 0 gMz3 rfl (vp_in_nI (by omega) (by decide)) (by rw [(nI_clamp (by omega))]) dX3_keep_45 ?_
              refine wr_iast (j := iz3) hx hb hw 48 (by omega) 0 goMz3 rfl (vp_in_nI (by omega) (by decide)) (nI_clamp (by omega)) dX3_keep_46 (fun en42 H locs hE41 hw => ?_)
              have he43 : en42 42 = .inr (4, [.int th, .ref (ad 43), .ref (ad 44), .ref (ad 45), .ref (ad 46), .int (nI (aCn A)), .ref (ad 47), .ref (ad 48), .ref (ad 49), .ref (ad 50), .int (nI (aCn O)), .ref (ad 51), .ref (ad 52), .ref (ad 53), .ref (ad 54), .ref (ad 55), .ref (ad 56), .ref (ad 57), .long an, .int wy, .int pla]) := w_ne hE41 (by omega) gOz3
              have he44 : en42 43 = .inl (q.2.2.1, 328, .inl hFt1) := w_ne hE41 (by omega) gHz3
              have he45 : en42 44 = .inl (q.1, 8, .inl mFt1) := w_ne hE41 (by omega) gMz3
              have he46 : en42 45 = .inl (q.2.1, 8, .inr (.inl tFt1)) := w_ne hE41 (by omega) gTz3
              have he47 : en42 46 = .inl (q.2.1, 20, .inr (.inl rFt1)) := w_ne hE41 (by omega) gRz3
              have he48 : en42 47 = .inl (q.2.2.1, 328, .inl foHz2) := w_ne hE41 (by omega) goHz3
              have he49 : en42 48 = .inl (q.1, 8, .inl (upd foMz3 iz3 (mFt1 iz3))) := w_self hE41
              have he50 : en42 49 = .inl (q.2.1, 8, .inr (.inl foTz3)) := w_ne hE41 (by omega) goTz3
              have he51 : en42 50 = .inl (q.2.1, 20, .inr (.inl orrt1)) := w_ne hE41 (by omega) goRz3
              have he52 : en42 51 = .inl (q.1, 10, .inl wFt1) := w_ne hE41 (by omega) gwz3
              have he53 : en42 52 = .inl (q.1, 60, .inl sFt1) := w_ne hE41 (by omega) gsz3
              have he54 : en42 53 = .inl (q.1, 60, .inl kFt1) := w_ne hE41 (by omega) gkz3
              have he55 : en42 54 = .inl (q.1, 10, .inl aFt1) := w_ne hE41 (by omega) gaz3
              have he56 : en42 55 = .inl (q.1, 10, .inl fFt1) := w_ne hE41 (by omega) gfz3
              have he57 : en42 56 = .inl (q.1, 10, .inl xFt1) := w_ne hE41 (by omega) gxz3
              have he58 : en42 57 = .inl (q.1, 7, .inl gFt1) := w_ne hE41 (by omega) gtz3
              refine lv_aload_n hx hb dX3_keep_47 rfl (lv_at hl 1 rfl) ?_
              refine wr_get (ci := 4) (C := RX3) (T := TX3) (N := 21) hx hb hts iRX3 hown hw 42 (by omega) he43 rfl 8 (by decide) (hts (.fieldLink RX3 30 "LibraryDeskModel" "oldTallies" "[J") (by decide +kernel)) (fun _ h9 => h9) rfl dX3_keep_48 ?_
              refine lv_iload_n hx hb dX3_keep_51 rfl (lv_at hl 0 rfl) ?_
              refine lv_aload_n hx hb dX3_keep_52 rfl (lv_at hl 1 rfl) ?_
              refine wr_get (ci := 4) (C := RX3) (T := TX3) (N := 21) hx hb hts iRX3 hown hw 42 (by omega) he43 rfl 3 (by decide) (hts (.fieldLink RX3 17 "LibraryDeskModel" "tallies" "[J") (by decide +kernel)) (fun _ h9 => h9) rfl dX3_keep_53 ?_
              refine lv_iload_n hx hb dX3_keep_56 rfl (lv_at hl 0 rfl) ?_
              refine wr_lald (v := tFt1 iz3) hx hb hw 45 (by omega) 1 he46 rfl (vp_in_nI (by omega) (by decide)) (by rw [(nI_clamp (by omega))]) dX3_keep_57 ?_
              refine wr_last (j := iz3) hx hb hw 49 (by omega) 1 he50 rfl (vp_in_nI (by omega) (by decide)) (nI_clamp (by omega)) dX3_keep_58 (fun en60 H locs hE59 hw => ?_)
              have he61 : en60 42 = .inr (4, [.int th, .ref (ad 43), .ref (ad 44), .ref (ad 45), .ref (ad 46), .int (nI (aCn A)), .ref (ad 47), .ref (ad 48), .ref (ad 49), .ref (ad 50), .int (nI (aCn O)), .ref (ad 51), .ref (ad 52), .ref (ad 53), .ref (ad 54), .ref (ad 55), .ref (ad 56), .ref (ad 57), .long an, .int wy, .int pla]) := w_ne hE59 (by omega) he43
              have he62 : en60 43 = .inl (q.2.2.1, 328, .inl hFt1) := w_ne hE59 (by omega) he44
              have he63 : en60 44 = .inl (q.1, 8, .inl mFt1) := w_ne hE59 (by omega) he45
              have he64 : en60 45 = .inl (q.2.1, 8, .inr (.inl tFt1)) := w_ne hE59 (by omega) he46
              have he65 : en60 46 = .inl (q.2.1, 20, .inr (.inl rFt1)) := w_ne hE59 (by omega) he47
              have he66 : en60 47 = .inl (q.2.2.1, 328, .inl foHz2) := w_ne hE59 (by omega) he48
              have he67 : en60 48 = .inl (q.1, 8, .inl (upd foMz3 iz3 (mFt1 iz3))) := w_ne hE59 (by omega) he49
              have he68 : en60 49 = .inl (q.2.1, 8, .inr (.inl (vp_updL foTz3 iz3 (tFt1 iz3)))) := w_self hE59
              have he69 : en60 50 = .inl (q.2.1, 20, .inr (.inl orrt1)) := w_ne hE59 (by omega) he51
              have he70 : en60 51 = .inl (q.1, 10, .inl wFt1) := w_ne hE59 (by omega) he52
              have he71 : en60 52 = .inl (q.1, 60, .inl sFt1) := w_ne hE59 (by omega) he53
              have he72 : en60 53 = .inl (q.1, 60, .inl kFt1) := w_ne hE59 (by omega) he54
              have he73 : en60 54 = .inl (q.1, 10, .inl aFt1) := w_ne hE59 (by omega) he55
              have he74 : en60 55 = .inl (q.1, 10, .inl fFt1) := w_ne hE59 (by omega) he56
              have he75 : en60 56 = .inl (q.1, 10, .inl xFt1) := w_ne hE59 (by omega) he57
              have he76 : en60 57 = .inl (q.1, 7, .inl gFt1) := w_ne hE59 (by omega) he58
              refine lv_iinc (v := nI (iz3 + 1)) (lv' := [(1, .int (nI (iz3 + 1))), (0, .ref (ad 42))]) hx hb dX3_keep_59 hl (k := 0) rfl (nI_1 iz3) (by decide) rfl (fun ls hl => ?_)
              refine lv_goto (tgt := 29) hx hb dX3_keep_62 (by decide) ?_
              refine ih (iz3 + 1) (by omega) _ _ _ (fun j hj => ?_) (fun j hj => ?_) he61 he62 he63 he64 he65 he66 he67 he68 he69 he70 he71 he72 he73 he74 he75 he76 (fun j hj => (w_fr hE59 (by omega)).trans ((w_fr hE41 (by omega)).trans (hfrz3 j hj))) _ _ hw ls (lv_sub hl [0, 1] rfl)
              · by_cases e : j = iz3
                · rw [e, pk_us]
                · rw [pk_un e]; exact hcoMz3 j (by omega)
              · by_cases e : j = iz3
                · rw [e, pk_uLs]
                · rw [pk_uLn e]; exact hcoTz3 j (by omega)
        exact keyz3 8 0 rfl _ _ _ (fun j h => absurd h (Nat.not_lt_zero j)) (fun j h => absurd h (Nat.not_lt_zero j)) gOz2 gHz2 gMz2 gTz2 gRz2 goHz2 goMz2 goTz2 goRz2 gwz2 gsz2 gkz2 gaz2 gfz2 gxz2 gtz2 (fun j hj => hfrz2 j hj) _ _ hw ls (lv_sub hl [0, 1] rfl)
      · exact absurd (Int32.le_refl _) c6
    | succ d ih =>
      intro iz2 hiz2 foHz2 enz2 hcoHz2 gOz2 gHz2 gMz2 gTz2 gRz2 goHz2 goMz2 goTz2 goRz2 gwz2 gsz2 gkz2 gaz2 gfz2 gxz2 gtz2 hfrz2 H locs hw ls hl
      refine lv_iload_n hx hb dX3_keep_2 rfl (lv_at hl 0 rfl) ?_
      refine lv_sipush (v := 328) hx hb dX3_keep_3 (by decide) ?_
      refine lv_icmp_ge (tgt := 27) hx hb dX3_keep_6 (by decide) (fun c6 => ?_) (fun c6 => ?_)
      · exact absurd ((nI_leI (a := 328) (by omega) (by omega)).mp c6) (by omega)
      · refine lv_aload_n hx hb dX3_keep_9 rfl (lv_at hl 1 rfl) ?_
        refine wr_get (ci := 4) (C := RX3) (T := TX3) (N := 21) hx hb hts iRX3 hown hw 42 (by omega) gOz2 rfl 6 (by decide) (hts (.fieldLink RX3 24 "LibraryDeskModel" "oldHere" "[Z") (by decide +kernel)) (fun _ h9 => h9) rfl dX3_keep_10 ?_
        refine lv_iload_n hx hb dX3_keep_13 rfl (lv_at hl 0 rfl) ?_
        refine lv_aload_n hx hb dX3_keep_14 rfl (lv_at hl 1 rfl) ?_
        refine wr_get (ci := 4) (C := RX3) (T := TX3) (N := 21) hx hb hts iRX3 hown hw 42 (by omega) gOz2 rfl 1 (by decide) (hts (.fieldLink RX3 7 "LibraryDeskModel" "here" "[Z") (by decide +kernel)) (fun _ h9 => h9) rfl dX3_keep_15 ?_
        refine lv_iload_n hx hb dX3_keep_18 rfl (lv_at hl 0 rfl) ?_
        refine wr_zald (v := hFt1 iz2) hx hb hw 43 (by omega) 2 gHz2 rfl (vp_in_nI (by omega) (by decide)) (by rw [(nI_clamp (by omega))]) dX3_keep_19 ?_
        refine wr_zast (j := iz2) (y := (hFt1 iz2)) hx hb hw 47 (by omega) 2 goHz2 rfl (vp_in_nI (by omega) (by decide)) (nI_clamp (by omega)) (nar_b (hRt1.1 iz2 (by omega))) dX3_keep_20 (fun en78 H locs hE77 hw => ?_)
        have he79 : en78 42 = .inr (4, [.int th, .ref (ad 43), .ref (ad 44), .ref (ad 45), .ref (ad 46), .int (nI (aCn A)), .ref (ad 47), .ref (ad 48), .ref (ad 49), .ref (ad 50), .int (nI (aCn O)), .ref (ad 51), .ref (ad 52), .ref (ad 53), .ref (ad 54), .ref (ad 55), .ref (ad 56), .ref (ad 57), .long an, .int wy, .int pla]) := w_ne hE77 (by omega) gOz2
        have he80 : en78 43 = .inl (q.2.2.1, 328, .inl hFt1) := w_ne hE77 (by omega) gHz2
        have he81 : en78 44 = .inl (q.1, 8, .inl mFt1) := w_ne hE77 (by omega) gMz2
        have he82 : en78 45 = .inl (q.2.1, 8, .inr (.inl tFt1)) := w_ne hE77 (by omega) gTz2
        have he83 : en78 46 = .inl (q.2.1, 20, .inr (.inl rFt1)) := w_ne hE77 (by omega) gRz2
        have he84 : en78 47 = .inl (q.2.2.1, 328, .inl (upd foHz2 iz2 (hFt1 iz2))) := w_self hE77
        have he85 : en78 48 = .inl (q.1, 8, .inl omt1) := w_ne hE77 (by omega) goMz2
        have he86 : en78 49 = .inl (q.2.1, 8, .inr (.inl ott1)) := w_ne hE77 (by omega) goTz2
        have he87 : en78 50 = .inl (q.2.1, 20, .inr (.inl orrt1)) := w_ne hE77 (by omega) goRz2
        have he88 : en78 51 = .inl (q.1, 10, .inl wFt1) := w_ne hE77 (by omega) gwz2
        have he89 : en78 52 = .inl (q.1, 60, .inl sFt1) := w_ne hE77 (by omega) gsz2
        have he90 : en78 53 = .inl (q.1, 60, .inl kFt1) := w_ne hE77 (by omega) gkz2
        have he91 : en78 54 = .inl (q.1, 10, .inl aFt1) := w_ne hE77 (by omega) gaz2
        have he92 : en78 55 = .inl (q.1, 10, .inl fFt1) := w_ne hE77 (by omega) gfz2
        have he93 : en78 56 = .inl (q.1, 10, .inl xFt1) := w_ne hE77 (by omega) gxz2
        have he94 : en78 57 = .inl (q.1, 7, .inl gFt1) := w_ne hE77 (by omega) gtz2
        refine lv_iinc (v := nI (iz2 + 1)) (lv' := [(1, .int (nI (iz2 + 1))), (0, .ref (ad 42))]) hx hb dX3_keep_21 hl (k := 0) rfl (nI_1 iz2) (by decide) rfl (fun ls hl => ?_)
        refine lv_goto (tgt := 2) hx hb dX3_keep_24 (by decide) ?_
        refine ih (iz2 + 1) (by omega) _ _ (fun j hj => ?_) he79 he80 he81 he82 he83 he84 he85 he86 he87 he88 he89 he90 he91 he92 he93 he94 (fun j hj => (w_fr hE77 (by omega)).trans (hfrz2 j hj)) _ _ hw ls (lv_sub hl [0, 1] rfl)
        · by_cases e : j = iz2
          · rw [e, pk_us]
          · rw [pk_un e]; exact hcoHz2 j (by omega)
  exact keyz2 328 0 rfl _ _ (fun j h => absurd h (Nat.not_lt_zero j)) ot1 a1t1 a2t1 a3t1 a4t1 b1t1 b2t1 b3t1 b4t1 c1t1 c2t1 c3t1 c4t1 c5t1 c6t1 e1t1 (fun j hj => rfl) _ _ hw ls (lv_sub hl [0, 1] rfl)

set_option maxHeartbeats 4000000 in
set_option maxRecDepth 100000 in
theorem kX3_restore (l : Launch) (dC : Nat → ClassId) (dI : Nat → Nat → Nat) (q : ClassId × ClassId × ClassId × ClassId) (ad : Nat → Nat) (en : Nat → va_E) (n sz : Nat) (hn58 : 58 ≤ n) (th : Int32) (A O : Ast) (pl : Nat → Pst) (cs : Nat → Int32) (an : Int64) (wy pla : Int32) (hok : Aok A) (hM : ModC q ad en th A O pl cs an wy pla) (hokO : Aok O) :
    Met l yX3_restore wsX3_restore ({ frames := 0, cells := 0, slots := 0, locals := 0 }) (wPc (dC, dI) vwCl (wT q) ad en n sz [.ref (ad 42)]) (va_Qv (fun (en' : Nat → va_E) => ModC q ad en' th O O pl cs an wy pla ∧ ∀ j, (j < 42 ∨ 58 ≤ j) → en' j = en j) (wB (dC, dI) vwCl (wT q) ad n (wA ad n sz)) (wA ad n sz)) 0 0 (wA ad n sz) := by
  refine Met.ofW (cc := cX3_restore) (maxL := 2) (ret := none) (by decide) rfl ?_
  intro p e s m args below meth c s₁ B hml hv
  obtain ⟨rfl, hsz, hP, hK, hD0, hE0⟩ := hv
  have hx := B.exec
  have hb := B.bytes
  have hr := B.returns
  have hts := atoms_spec (ws := wsX3_restore) B.pre
  have hown : s.vm.findClass RX3 = some m.cls := findClass_of_methodNamed B.named
  have hlocks := B.notSynchronized
  have iRX3 : ∀ w ∈ u_ws RX3 TX3 21, w ∈ wsX3_restore := by decide +kernel
  subst hsz
  have hw := wk_of hP hK hD0 hE0
  generalize wA ad n s.heap.size = AA at hw ⊢
  have hl := lv_entry ([.ref (ad 42)]) (n := 2) (Nat.le_of_ble_eq_true rfl)
  rw [lg_entry_eq]
  generalize (lg_sl ([.ref (ad 42)]) ++ List.replicate (2 - (lg_sl ([.ref (ad 42)])).length) Slot.unset).toArray = ls at hl ⊢
  have hl : lv_has ls 2 [(0, .ref (ad 42))] := hl
  obtain ⟨ot1, ⟨hFt1, mFt1, tFt1, rFt1, a1t1, a2t1, a3t1, a4t1, hRt1⟩, ⟨oht1, omt1, ott1, orrt1, b1t1, b2t1, b3t1, b4t1, hOt1⟩, ⟨wFt1, sFt1, kFt1, aFt1, fFt1, xFt1, c1t1, c2t1, c3t1, c4t1, c5t1, c6t1, hPlt1⟩, ⟨gFt1, e1t1, hTt1⟩⟩ := id hM
  have hcn := hok.2
  have hcO := hokO.2
  refine lv_iconst (v := 0) hx hb dX3_restore_0 (by decide) ?_
  refine lv_istore_n (lv' := [(1, .int 0), (0, .ref (ad 42))]) hx hb dX3_restore_1 rfl hl (by decide) rfl (fun ls hl => ?_)
  have keyz2 : ∀ (d iz2 : Nat), iz2 + d = 328 → ∀ (fHz2 : Nat → Int32) (enz2 : Nat → va_E), (∀ j, j < iz2 → fHz2 j = oht1 j) → enz2 42 = .inr (4, [.int th, .ref (ad 43), .ref (ad 44), .ref (ad 45), .ref (ad 46), .int (nI (aCn A)), .ref (ad 47), .ref (ad 48), .ref (ad 49), .ref (ad 50), .int (nI (aCn O)), .ref (ad 51), .ref (ad 52), .ref (ad 53), .ref (ad 54), .ref (ad 55), .ref (ad 56), .ref (ad 57), .long an, .int wy, .int pla]) → enz2 43 = .inl (q.2.2.1, 328, .inl fHz2) → enz2 44 = .inl (q.1, 8, .inl mFt1) → enz2 45 = .inl (q.2.1, 8, .inr (.inl tFt1)) → enz2 46 = .inl (q.2.1, 20, .inr (.inl rFt1)) → enz2 47 = .inl (q.2.2.1, 328, .inl oht1) → enz2 48 = .inl (q.1, 8, .inl omt1) → enz2 49 = .inl (q.2.1, 8, .inr (.inl ott1)) → enz2 50 = .inl (q.2.1, 20, .inr (.inl orrt1)) → enz2 51 = .inl (q.1, 10, .inl wFt1) → enz2 52 = .inl (q.1, 60, .inl sFt1) → enz2 53 = .inl (q.1, 60, .inl kFt1) → enz2 54 = .inl (q.1, 10, .inl aFt1) → enz2 55 = .inl (q.1, 10, .inl fFt1) → enz2 56 = .inl (q.1, 10, .inl xFt1) → enz2 57 = .inl (q.1, 7, .inl gFt1) → (∀ j, (j < 42 ∨ 58 ≤ j) → enz2 j = en j) → ∀ (H : Heap) (locs : List Loc), wk (dC, dI) vwCl (wT q) ad enz2 n AA s H locs → ∀ ls : Array Slot, lv_has ls 2 [(1, .int (nI iz2)), (0, .ref (ad 42))] → W p l e (headSpec wsX3_restore ({ frames := 0, cells := 0, slots := 0, locals := 0 })).room s m ([.ref (ad 42)].toArray) below meth c H locs 0 0 (MQ below (va_Qv (fun (en' : Nat → va_E) => ModC q ad en' th O O pl cs an wy pla ∧ ∀ j, (j < 42 ∨ 58 ≤ j) → en' j = en j) (wB (dC, dI) vwCl (wT q) ad n AA) AA) ([.ref (ad 42)].toArray) s 0 0 AA) (F0 m 2 ls []) := by
    intro d
    induction d with
    | zero =>
      intro iz2 hiz2 fHz2 enz2 hcHz2 gOz2 gHz2 gMz2 gTz2 gRz2 goHz2 goMz2 goTz2 goRz2 gwz2 gsz2 gkz2 gaz2 gfz2 gxz2 gtz2 hfrz2 H locs hw ls hl
      have hi0 : iz2 = 328 := by omega
      subst hi0
      refine lv_iload_n hx hb dX3_restore_2 rfl (lv_at hl 0 rfl) ?_
      refine lv_sipush (v := 328) hx hb dX3_restore_3 (by decide) ?_
      refine lv_icmp_ge (tgt := 27) hx hb dX3_restore_6 (by decide) (fun c6 => ?_) (fun c6 => ?_)
      · refine lv_iconst (v := 0) hx hb dX3_restore_27 (by decide) ?_
        refine lv_istore_n (lv' := [(1, .int 0), (0, .ref (ad 42))]) hx hb dX3_restore_28 rfl hl (by decide) rfl (fun ls hl => ?_)
        have keyz3 : ∀ (d iz3 : Nat), iz3 + d = 8 → ∀ (fMz3 : Nat → Int32) (fTz3 : Nat → Int64) (enz3 : Nat → va_E), (∀ j, j < iz3 → fMz3 j = omt1 j) → (∀ j, j < iz3 → fTz3 j = ott1 j) → enz3 42 = .inr (4, [.int th, .ref (ad 43), .ref (ad 44), .ref (ad 45), .ref (ad 46), .int (nI (aCn A)), .ref (ad 47), .ref (ad 48), .ref (ad 49), .ref (ad 50), .int (nI (aCn O)), .ref (ad 51), .ref (ad 52), .ref (ad 53), .ref (ad 54), .ref (ad 55), .ref (ad 56), .ref (ad 57), .long an, .int wy, .int pla]) → enz3 43 = .inl (q.2.2.1, 328, .inl fHz2) → enz3 44 = .inl (q.1, 8, .inl fMz3) → enz3 45 = .inl (q.2.1, 8, .inr (.inl fTz3)) → enz3 46 = .inl (q.2.1, 20, .inr (.inl rFt1)) → enz3 47 = .inl (q.2.2.1, 328, .inl oht1) → enz3 48 = .inl (q.1, 8, .inl omt1) → enz3 49 = .inl (q.2.1, 8, .inr (.inl ott1)) → enz3 50 = .inl (q.2.1, 20, .inr (.inl orrt1)) → enz3 51 = .inl (q.1, 10, .inl wFt1) → enz3 52 = .inl (q.1, 60, .inl sFt1) → enz3 53 = .inl (q.1, 60, .inl kFt1) → enz3 54 = .inl (q.1, 10, .inl aFt1) → enz3 55 = .inl (q.1, 10, .inl fFt1) → enz3 56 = .inl (q.1, 10, .inl xFt1) → enz3 57 = .inl (q.1, 7, .inl gFt1) → (∀ j, (j < 42 ∨ 58 ≤ j) → enz3 j = en j) → ∀ (H : Heap) (locs : List Loc), wk (dC, dI) vwCl (wT q) ad enz3 n AA s H locs → ∀ ls : Array Slot, lv_has ls 2 [(1, .int (nI iz3)), (0, .ref (ad 42))] → W p l e (headSpec wsX3_restore ({ frames := 0, cells := 0, slots := 0, locals := 0 })).room s m ([.ref (ad 42)].toArray) below meth c H locs 0 0 (MQ below (va_Qv (fun (en' : Nat → va_E) => ModC q ad en' th O O pl cs an wy pla ∧ ∀ j, (j < 42 ∨ 58 ≤ j) → en' j = en j) (wB (dC, dI) vwCl (wT q) ad n AA) AA) ([.ref (ad 42)].toArray) s 0 0 AA) (F0 m 29 ls []) := by
          intro d
          induction d with
          | zero =>
            intro iz3 hiz3 fMz3 fTz3 enz3 hcMz3 hcTz3 gOz3 gHz3 gMz3 gTz3 gRz3 goHz3 goMz3 goTz3 goRz3 gwz3 gsz3 gkz3 gaz3 gfz3 gxz3 gtz3 hfrz3 H locs hw ls hl
            have hi0 : iz3 = 8 := by omega
            subst hi0
            refine lv_iload_n hx hb dX3_restore_29 rfl (lv_at hl 0 rfl) ?_
            refine lv_bipush (v := 8) hx hb dX3_restore_30 (by decide) ?_
            refine lv_icmp_ge (tgt := 65) hx hb dX3_restore_32 (by decide) (fun c32 => ?_) (fun c32 => ?_)
            · refine lv_iconst (v := 0) hx hb dX3_restore_65 (by decide) ?_
              refine lv_istore_n (lv' := [(1, .int 0), (0, .ref (ad 42))]) hx hb dX3_restore_66 rfl hl (by decide) rfl (fun ls hl => ?_)
              have keyz4 : ∀ (d iz4 : Nat), iz4 + d = 20 → ∀ (fRz4 : Nat → Int64) (enz4 : Nat → va_E), (∀ j, j < iz4 → fRz4 j = orrt1 j) → enz4 42 = .inr (4, [.int th, .ref (ad 43), .ref (ad 44), .ref (ad 45), .ref (ad 46), .int (nI (aCn A)), .ref (ad 47), .ref (ad 48), .ref (ad 49), .ref (ad 50), .int (nI (aCn O)), .ref (ad 51), .ref (ad 52), .ref (ad 53), .ref (ad 54), .ref (ad 55), .ref (ad 56), .ref (ad 57), .long an, .int wy, .int pla]) → enz4 43 = .inl (q.2.2.1, 328, .inl fHz2) → enz4 44 = .inl (q.1, 8, .inl fMz3) → enz4 45 = .inl (q.2.1, 8, .inr (.inl fTz3)) → enz4 46 = .inl (q.2.1, 20, .inr (.inl fRz4)) → enz4 47 = .inl (q.2.2.1, 328, .inl oht1) → enz4 48 = .inl (q.1, 8, .inl omt1) → enz4 49 = .inl (q.2.1, 8, .inr (.inl ott1)) → enz4 50 = .inl (q.2.1, 20, .inr (.inl orrt1)) → enz4 51 = .inl (q.1, 10, .inl wFt1) → enz4 52 = .inl (q.1, 60, .inl sFt1) → enz4 53 = .inl (q.1, 60, .inl kFt1) → enz4 54 = .inl (q.1, 10, .inl aFt1) → enz4 55 = .inl (q.1, 10, .inl fFt1) → enz4 56 = .inl (q.1, 10, .inl xFt1) → enz4 57 = .inl (q.1, 7, .inl gFt1) → (∀ j, (j < 42 ∨ 58 ≤ j) → enz4 j = en j) → ∀ (H : Heap) (locs : List Loc), wk (dC, dI) vwCl (wT q) ad enz4 n AA s H locs → ∀ ls : Array Slot, lv_has ls 2 [(1, .int (nI iz4)), (0, .ref (ad 42))] → W p l e (headSpec wsX3_restore ({ frames := 0, cells := 0, slots := 0, locals := 0 })).room s m ([.ref (ad 42)].toArray) below meth c H locs 0 0 (MQ below (va_Qv (fun (en' : Nat → va_E) => ModC q ad en' th O O pl cs an wy pla ∧ ∀ j, (j < 42 ∨ 58 ≤ j) → en' j = en j) (wB (dC, dI) vwCl (wT q) ad n AA) AA) ([.ref (ad 42)].toArray) s 0 0 AA) (F0 m 67 ls []) := by
                intro d
                induction d with
                | zero =>
                  intro iz4 hiz4 fRz4 enz4 hcRz4 gOz4 gHz4 gMz4 gTz4 gRz4 goHz4 goMz4 goTz4 goRz4 gwz4 gsz4 gkz4 gaz4 gfz4 gxz4 gtz4 hfrz4 H locs hw ls hl
                  have hi0 : iz4 = 20 := by omega
                  subst hi0
                  refine lv_iload_n hx hb dX3_restore_67 rfl (lv_at hl 0 rfl) ?_
                  refine lv_bipush (v := 20) hx hb dX3_restore_68 (by decide) ?_
                  refine lv_icmp_ge (tgt := 91) hx hb dX3_restore_70 (by decide) (fun c70 => ?_) (fun c70 => ?_)
                  · refine lv_aload_n hx hb dX3_restore_91 rfl (lv_at hl 1 rfl) ?_
                    refine lv_aload_n hx hb dX3_restore_92 rfl (lv_at hl 1 rfl) ?_
                    refine wr_get (ci := 4) (C := RX3) (T := TX3) (N := 21) hx hb hts iRX3 hown hw 42 (by omega) gOz4 rfl 10 (by decide) (hts (.fieldLink RX3 82 "LibraryDeskModel" "oldSize" "I") (by decide +kernel)) (fun _ h9 => h9) rfl dX3_restore_93 ?_
                    refine wr_put (ci := 4) (v := .int (nI (aCn O))) (ty := .int) (C := RX3) (T := TX3) (N := 21) hx hb hts iRX3 tyX3 tyX3_ok nmX3 hown hw 42 (by omega) gOz4 rfl 5 (by decide) (hts (.fieldLink RX3 61 "LibraryDeskModel" "size" "I") (by decide +kernel)) (fun _ h9 => h9) rfl (by decide +kernel) rfl rfl (Nat.le_of_ble_eq_true rfl) dX3_restore_96 (fun en6 H locs hE5 hw => ?_)
                    have he7 : en6 42 = .inr (4, [.int th, .ref (ad 43), .ref (ad 44), .ref (ad 45), .ref (ad 46), .int (nI (aCn O)), .ref (ad 47), .ref (ad 48), .ref (ad 49), .ref (ad 50), .int (nI (aCn O)), .ref (ad 51), .ref (ad 52), .ref (ad 53), .ref (ad 54), .ref (ad 55), .ref (ad 56), .ref (ad 57), .long an, .int wy, .int pla]) := w_self hE5
                    have he8 : en6 43 = .inl (q.2.2.1, 328, .inl fHz2) := w_ne hE5 (by omega) gHz4
                    have he9 : en6 44 = .inl (q.1, 8, .inl fMz3) := w_ne hE5 (by omega) gMz4
                    have he10 : en6 45 = .inl (q.2.1, 8, .inr (.inl fTz3)) := w_ne hE5 (by omega) gTz4
                    have he11 : en6 46 = .inl (q.2.1, 20, .inr (.inl fRz4)) := w_ne hE5 (by omega) gRz4
                    have he12 : en6 47 = .inl (q.2.2.1, 328, .inl oht1) := w_ne hE5 (by omega) goHz4
                    have he13 : en6 48 = .inl (q.1, 8, .inl omt1) := w_ne hE5 (by omega) goMz4
                    have he14 : en6 49 = .inl (q.2.1, 8, .inr (.inl ott1)) := w_ne hE5 (by omega) goTz4
                    have he15 : en6 50 = .inl (q.2.1, 20, .inr (.inl orrt1)) := w_ne hE5 (by omega) goRz4
                    have he16 : en6 51 = .inl (q.1, 10, .inl wFt1) := w_ne hE5 (by omega) gwz4
                    have he17 : en6 52 = .inl (q.1, 60, .inl sFt1) := w_ne hE5 (by omega) gsz4
                    have he18 : en6 53 = .inl (q.1, 60, .inl kFt1) := w_ne hE5 (by omega) gkz4
                    have he19 : en6 54 = .inl (q.1, 10, .inl aFt1) := w_ne hE5 (by omega) gaz4
                    have he20 : en6 55 = .inl (q.1, 10, .inl fFt1) := w_ne hE5 (by omega) gfz4
                    have he21 : en6 56 = .inl (q.1, 10, .inl xFt1) := w_ne hE5 (by omega) gxz4
                    have he22 : en6 57 = .inl (q.1, 7, .inl gFt1) := w_ne hE5 (by omega) gtz4
                    refine we_v hx hb hr hlocks hw ?_ dX3_restore_99
                    exact ⟨⟨he7, ⟨_, _, _, _, he8, he9, he10, he11, RM_congr hOt1 hcO (fun i hi => hcHz2 i hi) (fun i hi => hcMz3 i hi) (fun i hi => hcTz3 i hi) (fun i hi => hcRz4 i hi)⟩, ⟨_, _, _, _, he12, he13, he14, he15, hOt1⟩, ⟨_, _, _, _, _, _, he16, he17, he18, he19, he20, he21, hPlt1⟩, ⟨_, he22, hTt1⟩⟩, fun j hj => (w_fr hE5 (by omega)).trans (hfrz4 j hj)⟩
                  · exact absurd (Int32.le_refl _) c70
                | succ d ih =>
                  intro iz4 hiz4 fRz4 enz4 hcRz4 gOz4 gHz4 gMz4 gTz4 gRz4 goHz4 goMz4 goTz4 goRz4 gwz4 gsz4 gkz4 gaz4 gfz4 gxz4 gtz4 hfrz4 H locs hw ls hl
                  refine lv_iload_n hx hb dX3_restore_67 rfl (lv_at hl 0 rfl) ?_
                  refine lv_bipush (v := 20) hx hb dX3_restore_68 (by decide) ?_
                  refine lv_icmp_ge (tgt := 91) hx hb dX3_restore_70 (by decide) (fun c70 => ?_) (fun c70 => ?_)
                  · exact absurd ((nI_leI (a := 20) (by omega) (by omega)).mp c70) (by omega)
                  · refine lv_aload_n hx hb dX3_restore_73 rfl (lv_at hl 1 rfl) ?_
                    refine wr_get (ci := 4) (C := RX3) (T := TX3) (N := 21) hx hb hts iRX3 hown hw 42 (by omega) gOz4 rfl 4 (by decide) (hts (.fieldLink RX3 21 "LibraryDeskModel" "row" "[J") (by decide +kernel)) (fun _ h9 => h9) rfl dX3_restore_74 ?_
                    refine lv_iload_n hx hb dX3_restore_77 rfl (lv_at hl 0 rfl) ?_
                    refine lv_aload_n hx hb dX3_restore_78 rfl (lv_at hl 1 rfl) ?_
                    refine wr_get (ci := 4) (C := RX3) (T := TX3) (N := 21) hx hb hts iRX3 hown hw 42 (by omega) gOz4 rfl 9 (by decide) (hts (.fieldLink RX3 33 "LibraryDeskModel" "oldRow" "[J") (by decide +kernel)) (fun _ h9 => h9) rfl dX3_restore_79 ?_
                    refine lv_iload_n hx hb dX3_restore_82 rfl (lv_at hl 0 rfl) ?_
                    refine wr_lald (v := orrt1 iz4) hx hb hw 50 (by omega) 1 goRz4 rfl (vp_in_nI (by omega) (by decide)) (by rw [(nI_clamp (by omega))]) dX3_restore_83 ?_
                    refine wr_last (j := iz4) hx hb hw 46 (by omega) 1 gRz4 rfl (vp_in_nI (by omega) (by decide)) (nI_clamp (by omega)) dX3_restore_84 (fun en24 H locs hE23 hw => ?_)
                    have he25 : en24 42 = .inr (4, [.int th, .ref (ad 43), .ref (ad 44), .ref (ad 45), .ref (ad 46), .int (nI (aCn A)), .ref (ad 47), .ref (ad 48), .ref (ad 49), .ref (ad 50), .int (nI (aCn O)), .ref (ad 51), .ref (ad 52), .ref (ad 53), .ref (ad 54), .ref (ad 55), .ref (ad 56), .ref (ad 57), .long an, .int wy, .int pla]) := w_ne hE23 (by omega) gOz4
                    have he26 : en24 43 = .inl (q.2.2.1, 328, .inl fHz2) := w_ne hE23 (by omega) gHz4
                    have he27 : en24 44 = .inl (q.1, 8, .inl fMz3) := w_ne hE23 (by omega) gMz4
                    have he28 : en24 45 = .inl (q.2.1, 8, .inr (.inl fTz3)) := w_ne hE23 (by omega) gTz4
                    have he29 : en24 46 = .inl (q.2.1, 20, .inr (.inl (vp_updL fRz4 iz4 (orrt1 iz4)))) := w_self hE23
                    have he30 : en24 47 = .inl (q.2.2.1, 328, .inl oht1) := w_ne hE23 (by omega) goHz4
                    have he31 : en24 48 = .inl (q.1, 8, .inl omt1) := w_ne hE23 (by omega) goMz4
                    have he32 : en24 49 = .inl (q.2.1, 8, .inr (.inl ott1)) := w_ne hE23 (by omega) goTz4
                    have he33 : en24 50 = .inl (q.2.1, 20, .inr (.inl orrt1)) := w_ne hE23 (by omega) goRz4
                    have he34 : en24 51 = .inl (q.1, 10, .inl wFt1) := w_ne hE23 (by omega) gwz4
                    have he35 : en24 52 = .inl (q.1, 60, .inl sFt1) := w_ne hE23 (by omega) gsz4
                    have he36 : en24 53 = .inl (q.1, 60, .inl kFt1) := w_ne hE23 (by omega) gkz4
                    have he37 : en24 54 = .inl (q.1, 10, .inl aFt1) := w_ne hE23 (by omega) gaz4
                    have he38 : en24 55 = .inl (q.1, 10, .inl fFt1) := w_ne hE23 (by omega) gfz4
                    have he39 : en24 56 = .inl (q.1, 10, .inl xFt1) := w_ne hE23 (by omega) gxz4
                    have he40 : en24 57 = .inl (q.1, 7, .inl gFt1) := w_ne hE23 (by omega) gtz4
                    refine lv_iinc (v := nI (iz4 + 1)) (lv' := [(1, .int (nI (iz4 + 1))), (0, .ref (ad 42))]) hx hb dX3_restore_85 hl (k := 0) rfl (nI_1 iz4) (by decide) rfl (fun ls hl => ?_)
                    refine lv_goto (tgt := 67) hx hb dX3_restore_88 (by decide) ?_
                    refine ih (iz4 + 1) (by omega) _ _ (fun j hj => ?_) he25 he26 he27 he28 he29 he30 he31 he32 he33 he34 he35 he36 he37 he38 he39 he40 (fun j hj => (w_fr hE23 (by omega)).trans (hfrz4 j hj)) _ _ hw ls (lv_sub hl [0, 1] rfl)
                    · by_cases e : j = iz4
                      · rw [e, pk_uLs]
                      · rw [pk_uLn e]; exact hcRz4 j (by omega)
              exact keyz4 20 0 rfl _ _ (fun j h => absurd h (Nat.not_lt_zero j)) gOz3 gHz3 gMz3 gTz3 gRz3 goHz3 goMz3 goTz3 goRz3 gwz3 gsz3 gkz3 gaz3 gfz3 gxz3 gtz3 (fun j hj => hfrz3 j hj) _ _ hw ls (lv_sub hl [0, 1] rfl)
            · exact absurd (Int32.le_refl _) c32
          | succ d ih =>
            intro iz3 hiz3 fMz3 fTz3 enz3 hcMz3 hcTz3 gOz3 gHz3 gMz3 gTz3 gRz3 goHz3 goMz3 goTz3 goRz3 gwz3 gsz3 gkz3 gaz3 gfz3 gxz3 gtz3 hfrz3 H locs hw ls hl
            refine lv_iload_n hx hb dX3_restore_29 rfl (lv_at hl 0 rfl) ?_
            refine lv_bipush (v := 8) hx hb dX3_restore_30 (by decide) ?_
            refine lv_icmp_ge (tgt := 65) hx hb dX3_restore_32 (by decide) (fun c32 => ?_) (fun c32 => ?_)
            · exact absurd ((nI_leI (a := 8) (by omega) (by omega)).mp c32) (by omega)
            · refine lv_aload_n hx hb dX3_restore_35 rfl (lv_at hl 1 rfl) ?_
              refine wr_get (ci := 4) (C := RX3) (T := TX3) (N := 21) hx hb hts iRX3 hown hw 42 (by omega) gOz3 rfl 2 (by decide) (hts (.fieldLink RX3 13 "LibraryDeskModel" "made" "[I") (by decide +kernel)) (fun _ h9 => h9) rfl dX3_restore_36 ?_
              refine lv_iload_n hx hb dX3_restore_39 rfl (lv_at hl 0 rfl) ?_
              refine lv_aload_n hx hb dX3_restore_40 rfl (lv_at hl 1 rfl) ?_
              refine wr_get (ci := 4) (C := RX3) (T := TX3) (N := 21) hx hb hts iRX3 hown hw 42 (by omega) gOz3 rfl 7 (by decide) (hts (.fieldLink RX3 27 "LibraryDeskModel" "oldMade" "[I") (by decide +kernel)) (fun _ h9 => h9) rfl dX3_restore_41 ?_
              refine lv_iload_n hx hb dX3_restore_44 rfl (lv_at hl 0 rfl) ?_
              refine wr_iald (v := omt1 iz3) hx hb hw 48 (by omega) 0 goMz3 rfl (vp_in_nI (by omega) (by decide)) (by rw [(nI_clamp (by omega))]) dX3_restore_45 ?_
              refine wr_iast (j := iz3) hx hb hw 44 (by omega) 0 gMz3 rfl (vp_in_nI (by omega) (by decide)) (nI_clamp (by omega)) dX3_restore_46 (fun en42 H locs hE41 hw => ?_)
              have he43 : en42 42 = .inr (4, [.int th, .ref (ad 43), .ref (ad 44), .ref (ad 45), .ref (ad 46), .int (nI (aCn A)), .ref (ad 47), .ref (ad 48), .ref (ad 49), .ref (ad 50), .int (nI (aCn O)), .ref (ad 51), .ref (ad 52), .ref (ad 53), .ref (ad 54), .ref (ad 55), .ref (ad 56), .ref (ad 57), .long an, .int wy, .int pla]) := w_ne hE41 (by omega) gOz3
              have he44 : en42 43 = .inl (q.2.2.1, 328, .inl fHz2) := w_ne hE41 (by omega) gHz3
              have he45 : en42 44 = .inl (q.1, 8, .inl (upd fMz3 iz3 (omt1 iz3))) := w_self hE41
              have he46 : en42 45 = .inl (q.2.1, 8, .inr (.inl fTz3)) := w_ne hE41 (by omega) gTz3
              have he47 : en42 46 = .inl (q.2.1, 20, .inr (.inl rFt1)) := w_ne hE41 (by omega) gRz3
              have he48 : en42 47 = .inl (q.2.2.1, 328, .inl oht1) := w_ne hE41 (by omega) goHz3
              have he49 : en42 48 = .inl (q.1, 8, .inl omt1) := w_ne hE41 (by omega) goMz3
              have he50 : en42 49 = .inl (q.2.1, 8, .inr (.inl ott1)) := w_ne hE41 (by omega) goTz3
              have he51 : en42 50 = .inl (q.2.1, 20, .inr (.inl orrt1)) := w_ne hE41 (by omega) goRz3
              have he52 : en42 51 = .inl (q.1, 10, .inl wFt1) := w_ne hE41 (by omega) gwz3
              have he53 : en42 52 = .inl (q.1, 60, .inl sFt1) := w_ne hE41 (by omega) gsz3
              have he54 : en42 53 = .inl (q.1, 60, .inl kFt1) := w_ne hE41 (by omega) gkz3
              have he55 : en42 54 = .inl (q.1, 10, .inl aFt1) := w_ne hE41 (by omega) gaz3
              have he56 : en42 55 = .inl (q.1, 10, .inl fFt1) := w_ne hE41 (by omega) gfz3
              have he57 : en42 56 = .inl (q.1, 10, .inl xFt1) := w_ne hE41 (by omega) gxz3
              have he58 : en42 57 = .inl (q.1, 7, .inl gFt1) := w_ne hE41 (by omega) gtz3
              refine lv_aload_n hx hb dX3_restore_47 rfl (lv_at hl 1 rfl) ?_
              refine wr_get (ci := 4) (C := RX3) (T := TX3) (N := 21) hx hb hts iRX3 hown hw 42 (by omega) he43 rfl 3 (by decide) (hts (.fieldLink RX3 17 "LibraryDeskModel" "tallies" "[J") (by decide +kernel)) (fun _ h9 => h9) rfl dX3_restore_48 ?_
              refine lv_iload_n hx hb dX3_restore_51 rfl (lv_at hl 0 rfl) ?_
              refine lv_aload_n hx hb dX3_restore_52 rfl (lv_at hl 1 rfl) ?_
              refine wr_get (ci := 4) (C := RX3) (T := TX3) (N := 21) hx hb hts iRX3 hown hw 42 (by omega) he43 rfl 8 (by decide) (hts (.fieldLink RX3 30 "LibraryDeskModel" "oldTallies" "[J") (by decide +kernel)) (fun _ h9 => h9) rfl dX3_restore_53 ?_
              refine lv_iload_n hx hb dX3_restore_56 rfl (lv_at hl 0 rfl) ?_
              refine wr_lald (v := ott1 iz3) hx hb hw 49 (by omega) 1 he50 rfl (vp_in_nI (by omega) (by decide)) (by rw [(nI_clamp (by omega))]) dX3_restore_57 ?_
              refine wr_last (j := iz3) hx hb hw 45 (by omega) 1 he46 rfl (vp_in_nI (by omega) (by decide)) (nI_clamp (by omega)) dX3_restore_58 (fun en60 H locs hE59 hw => ?_)
              have he61 : en60 42 = .inr (4, [.int th, .ref (ad 43), .ref (ad 44), .ref (ad 45), .ref (ad 46), .int (nI (aCn A)), .ref (ad 47), .ref (ad 48), .ref (ad 49), .ref (ad 50), .int (nI (aCn O)), .ref (ad 51), .ref (ad 52), .ref (ad 53), .ref (ad 54), .ref (ad 55), .ref (ad 56), .ref (ad 57), .long an, .int wy, .int pla]) := w_ne hE59 (by omega) he43
              have he62 : en60 43 = .inl (q.2.2.1, 328, .inl fHz2) := w_ne hE59 (by omega) he44
              have he63 : en60 44 = .inl (q.1, 8, .inl (upd fMz3 iz3 (omt1 iz3))) := w_ne hE59 (by omega) he45
              have he64 : en60 45 = .inl (q.2.1, 8, .inr (.inl (vp_updL fTz3 iz3 (ott1 iz3)))) := w_self hE59
              have he65 : en60 46 = .inl (q.2.1, 20, .inr (.inl rFt1)) := w_ne hE59 (by omega) he47
              have he66 : en60 47 = .inl (q.2.2.1, 328, .inl oht1) := w_ne hE59 (by omega) he48
              have he67 : en60 48 = .inl (q.1, 8, .inl omt1) := w_ne hE59 (by omega) he49
              have he68 : en60 49 = .inl (q.2.1, 8, .inr (.inl ott1)) := w_ne hE59 (by omega) he50
              have he69 : en60 50 = .inl (q.2.1, 20, .inr (.inl orrt1)) := w_ne hE59 (by omega) he51
              have he70 : en60 51 = .inl (q.1, 10, .inl wFt1) := w_ne hE59 (by omega) he52
              have he71 : en60 52 = .inl (q.1, 60, .inl sFt1) := w_ne hE59 (by omega) he53
              have he72 : en60 53 = .inl (q.1, 60, .inl kFt1) := w_ne hE59 (by omega) he54
              have he73 : en60 54 = .inl (q.1, 10, .inl aFt1) := w_ne hE59 (by omega) he55
              have he74 : en60 55 = .inl (q.1, 10, .inl fFt1) := w_ne hE59 (by omega) he56
              have he75 : en60 56 = .inl (q.1, 10, .inl xFt1) := w_ne hE59 (by omega) he57
              have he76 : en60 57 = .inl (q.1, 7, .inl gFt1) := w_ne hE59 (by omega) he58
              refine lv_iinc (v := nI (iz3 + 1)) (lv' := [(1, .int (nI (iz3 + 1))), (0, .ref (ad 42))]) hx hb dX3_restore_59 hl (k := 0) rfl (nI_1 iz3) (by decide) rfl (fun ls hl => ?_)
              refine lv_goto (tgt := 29) hx hb dX3_restore_62 (by decide) ?_
              refine ih (iz3 + 1) (by omega) _ _ _ (fun j hj => ?_) (fun j hj => ?_) he61 he62 he63 he64 he65 he66 he67 he68 he69 he70 he71 he72 he73 he74 he75 he76 (fun j hj => (w_fr hE59 (by omega)).trans ((w_fr hE41 (by omega)).trans (hfrz3 j hj))) _ _ hw ls (lv_sub hl [0, 1] rfl)
              · by_cases e : j = iz3
                · rw [e, pk_us]
                · rw [pk_un e]; exact hcMz3 j (by omega)
              · by_cases e : j = iz3
                · rw [e, pk_uLs]
                · rw [pk_uLn e]; exact hcTz3 j (by omega)
        exact keyz3 8 0 rfl _ _ _ (fun j h => absurd h (Nat.not_lt_zero j)) (fun j h => absurd h (Nat.not_lt_zero j)) gOz2 gHz2 gMz2 gTz2 gRz2 goHz2 goMz2 goTz2 goRz2 gwz2 gsz2 gkz2 gaz2 gfz2 gxz2 gtz2 (fun j hj => hfrz2 j hj) _ _ hw ls (lv_sub hl [0, 1] rfl)
      · exact absurd (Int32.le_refl _) c6
    | succ d ih =>
      intro iz2 hiz2 fHz2 enz2 hcHz2 gOz2 gHz2 gMz2 gTz2 gRz2 goHz2 goMz2 goTz2 goRz2 gwz2 gsz2 gkz2 gaz2 gfz2 gxz2 gtz2 hfrz2 H locs hw ls hl
      refine lv_iload_n hx hb dX3_restore_2 rfl (lv_at hl 0 rfl) ?_
      refine lv_sipush (v := 328) hx hb dX3_restore_3 (by decide) ?_
      refine lv_icmp_ge (tgt := 27) hx hb dX3_restore_6 (by decide) (fun c6 => ?_) (fun c6 => ?_)
      · exact absurd ((nI_leI (a := 328) (by omega) (by omega)).mp c6) (by omega)
      · refine lv_aload_n hx hb dX3_restore_9 rfl (lv_at hl 1 rfl) ?_
        refine wr_get (ci := 4) (C := RX3) (T := TX3) (N := 21) hx hb hts iRX3 hown hw 42 (by omega) gOz2 rfl 1 (by decide) (hts (.fieldLink RX3 7 "LibraryDeskModel" "here" "[Z") (by decide +kernel)) (fun _ h9 => h9) rfl dX3_restore_10 ?_
        refine lv_iload_n hx hb dX3_restore_13 rfl (lv_at hl 0 rfl) ?_
        refine lv_aload_n hx hb dX3_restore_14 rfl (lv_at hl 1 rfl) ?_
        refine wr_get (ci := 4) (C := RX3) (T := TX3) (N := 21) hx hb hts iRX3 hown hw 42 (by omega) gOz2 rfl 6 (by decide) (hts (.fieldLink RX3 24 "LibraryDeskModel" "oldHere" "[Z") (by decide +kernel)) (fun _ h9 => h9) rfl dX3_restore_15 ?_
        refine lv_iload_n hx hb dX3_restore_18 rfl (lv_at hl 0 rfl) ?_
        refine wr_zald (v := oht1 iz2) hx hb hw 47 (by omega) 2 goHz2 rfl (vp_in_nI (by omega) (by decide)) (by rw [(nI_clamp (by omega))]) dX3_restore_19 ?_
        refine wr_zast (j := iz2) (y := (oht1 iz2)) hx hb hw 43 (by omega) 2 gHz2 rfl (vp_in_nI (by omega) (by decide)) (nI_clamp (by omega)) (nar_b (hOt1.1 iz2 (by omega))) dX3_restore_20 (fun en78 H locs hE77 hw => ?_)
        have he79 : en78 42 = .inr (4, [.int th, .ref (ad 43), .ref (ad 44), .ref (ad 45), .ref (ad 46), .int (nI (aCn A)), .ref (ad 47), .ref (ad 48), .ref (ad 49), .ref (ad 50), .int (nI (aCn O)), .ref (ad 51), .ref (ad 52), .ref (ad 53), .ref (ad 54), .ref (ad 55), .ref (ad 56), .ref (ad 57), .long an, .int wy, .int pla]) := w_ne hE77 (by omega) gOz2
        have he80 : en78 43 = .inl (q.2.2.1, 328, .inl (upd fHz2 iz2 (oht1 iz2))) := w_self hE77
        have he81 : en78 44 = .inl (q.1, 8, .inl mFt1) := w_ne hE77 (by omega) gMz2
        have he82 : en78 45 = .inl (q.2.1, 8, .inr (.inl tFt1)) := w_ne hE77 (by omega) gTz2
        have he83 : en78 46 = .inl (q.2.1, 20, .inr (.inl rFt1)) := w_ne hE77 (by omega) gRz2
        have he84 : en78 47 = .inl (q.2.2.1, 328, .inl oht1) := w_ne hE77 (by omega) goHz2
        have he85 : en78 48 = .inl (q.1, 8, .inl omt1) := w_ne hE77 (by omega) goMz2
        have he86 : en78 49 = .inl (q.2.1, 8, .inr (.inl ott1)) := w_ne hE77 (by omega) goTz2
        have he87 : en78 50 = .inl (q.2.1, 20, .inr (.inl orrt1)) := w_ne hE77 (by omega) goRz2
        have he88 : en78 51 = .inl (q.1, 10, .inl wFt1) := w_ne hE77 (by omega) gwz2
        have he89 : en78 52 = .inl (q.1, 60, .inl sFt1) := w_ne hE77 (by omega) gsz2
        have he90 : en78 53 = .inl (q.1, 60, .inl kFt1) := w_ne hE77 (by omega) gkz2
        have he91 : en78 54 = .inl (q.1, 10, .inl aFt1) := w_ne hE77 (by omega) gaz2
        have he92 : en78 55 = .inl (q.1, 10, .inl fFt1) := w_ne hE77 (by omega) gfz2
        have he93 : en78 56 = .inl (q.1, 10, .inl xFt1) := w_ne hE77 (by omega) gxz2
        have he94 : en78 57 = .inl (q.1, 7, .inl gFt1) := w_ne hE77 (by omega) gtz2
        refine lv_iinc (v := nI (iz2 + 1)) (lv' := [(1, .int (nI (iz2 + 1))), (0, .ref (ad 42))]) hx hb dX3_restore_21 hl (k := 0) rfl (nI_1 iz2) (by decide) rfl (fun ls hl => ?_)
        refine lv_goto (tgt := 2) hx hb dX3_restore_24 (by decide) ?_
        refine ih (iz2 + 1) (by omega) _ _ (fun j hj => ?_) he79 he80 he81 he82 he83 he84 he85 he86 he87 he88 he89 he90 he91 he92 he93 he94 (fun j hj => (w_fr hE77 (by omega)).trans (hfrz2 j hj)) _ _ hw ls (lv_sub hl [0, 1] rfl)
        · by_cases e : j = iz2
          · rw [e, pk_us]
          · rw [pk_un e]; exact hcHz2 j (by omega)
  exact keyz2 328 0 rfl _ _ (fun j h => absurd h (Nat.not_lt_zero j)) ot1 a1t1 a2t1 a3t1 a4t1 b1t1 b2t1 b3t1 b4t1 c1t1 c2t1 c3t1 c4t1 c5t1 c6t1 e1t1 (fun j hj => rfl) _ _ hw ls (lv_sub hl [0, 1] rfl)

set_option maxHeartbeats 4000000 in
set_option maxRecDepth 100000 in
theorem kX3_take (l : Launch) (dC : Nat → ClassId) (dI : Nat → Nat → Nat) (q : ClassId × ClassId × ClassId × ClassId) (ad : Nat → Nat) (en : Nat → va_E) (n sz : Nat) (hn58 : 58 ≤ n) (th : Int32) (A O : Ast) (pl : Nat → Pst) (cs : Nat → Int32) (an : Int64) (wy pla : Int32) (hok : Aok A) (hM : ModC q ad en th A O pl cs an wy pla)  (k : Nat) (hk : k < 8) (hc0 : 0 < aCn A) :
    Met l yX3_take wsX3_take ({ frames := 0, cells := 0, slots := 0, locals := 0 }) (wPc (dC, dI) vwCl (wT q) ad en n sz [.ref (ad 42), .int (nI k)]) (va_Qv (fun (en' : Nat → va_E) => ModC q ad en' th (aTake k A) O pl cs an wy pla ∧ ∀ j, (j < 42 ∨ 58 ≤ j) → en' j = en j) (wB (dC, dI) vwCl (wT q) ad n (wA ad n sz)) (wA ad n sz)) 0 0 (wA ad n sz) := by
  refine Met.ofW (cc := cX3_take) (maxL := 3) (ret := none) (by decide) rfl ?_
  intro p e s m args below meth c s₁ B hml hv
  obtain ⟨rfl, hsz, hP, hK, hD0, hE0⟩ := hv
  have hx := B.exec
  have hb := B.bytes
  have hr := B.returns
  have hts := atoms_spec (ws := wsX3_take) B.pre
  have hown : s.vm.findClass RX3 = some m.cls := findClass_of_methodNamed B.named
  have hlocks := B.notSynchronized
  have iRX3 : ∀ w ∈ u_ws RX3 TX3 21, w ∈ wsX3_take := by decide +kernel
  subst hsz
  have hw := wk_of hP hK hD0 hE0
  generalize wA ad n s.heap.size = AA at hw ⊢
  have hl := lv_entry ([.ref (ad 42), .int (nI k)]) (n := 3) (Nat.le_of_ble_eq_true rfl)
  rw [lg_entry_eq]
  generalize (lg_sl ([.ref (ad 42), .int (nI k)]) ++ List.replicate (3 - (lg_sl ([.ref (ad 42), .int (nI k)])).length) Slot.unset).toArray = ls at hl ⊢
  have hl : lv_has ls 3 [(0, .ref (ad 42)), (1, .int (nI k))] := hl
  obtain ⟨ot1, ⟨hFt1, mFt1, tFt1, rFt1, a1t1, a2t1, a3t1, a4t1, hRt1⟩, ⟨oht1, omt1, ott1, orrt1, b1t1, b2t1, b3t1, b4t1, hOt1⟩, ⟨wFt1, sFt1, kFt1, aFt1, fFt1, xFt1, c1t1, c2t1, c3t1, c4t1, c5t1, c6t1, hPlt1⟩, ⟨gFt1, e1t1, hTt1⟩⟩ := id hM
  have hcn := hok.2
  refine lv_aload_n hx hb dX3_take_0 rfl (lv_at hl 0 rfl) ?_
  refine wr_get (ci := 4) (C := RX3) (T := TX3) (N := 21) hx hb hts iRX3 hown hw 42 (by omega) ot1 rfl 3 (by decide) (hts (.fieldLink RX3 17 "LibraryDeskModel" "tallies" "[J") (by decide +kernel)) (fun _ h9 => h9) rfl dX3_take_1 ?_
  refine lv_iload_n hx hb dX3_take_4 rfl (lv_at hl 1 rfl) ?_
  refine lv_dup2_11 hx hb dX3_take_5 rfl rfl ?_
  refine wr_lald (v := tFt1 k) hx hb hw 45 (by omega) 1 a3t1 rfl (vp_in_nI (by omega) (by decide)) (by rw [(nI_clamp (by omega))]) dX3_take_6 ?_
  refine lv_aload_n hx hb dX3_take_7 rfl (lv_at hl 0 rfl) ?_
  refine wr_get (ci := 4) (C := RX3) (T := TX3) (N := 21) hx hb hts iRX3 hown hw 42 (by omega) ot1 rfl 4 (by decide) (hts (.fieldLink RX3 21 "LibraryDeskModel" "row" "[J") (by decide +kernel)) (fun _ h9 => h9) rfl dX3_take_8 ?_
  refine lv_iconst (v := 0) hx hb dX3_take_11 (by decide) ?_
  refine wr_lald (v := rFt1 0) hx hb hw 46 (by omega) 1 a4t1 rfl (vp_in_nI (n := 0) (by decide) (by decide)) (by rw [(show (0 : Int32).toNatClampNeg = 0 by decide)]) dX3_take_12 ?_
  refine lv_ladd hx hb dX3_take_13 ?_
  refine lv_topl (fun x2 ex2 => ?_)
  have ex2n : x2 = tFt1 k + rFt1 0 := ex2.trans (rfl)
  clear ex2
  subst ex2n
  refine wr_last (j := k) hx hb hw 45 (by omega) 1 a3t1 rfl (vp_in_nI (by omega) (by decide)) (nI_clamp (by omega)) dX3_take_14 (fun en4 H locs hE3 hw => ?_)
  have he5 : en4 42 = .inr (4, [.int th, .ref (ad 43), .ref (ad 44), .ref (ad 45), .ref (ad 46), .int (nI (aCn A)), .ref (ad 47), .ref (ad 48), .ref (ad 49), .ref (ad 50), .int (nI (aCn O)), .ref (ad 51), .ref (ad 52), .ref (ad 53), .ref (ad 54), .ref (ad 55), .ref (ad 56), .ref (ad 57), .long an, .int wy, .int pla]) := w_ne hE3 (by omega) ot1
  have he6 : en4 43 = .inl (q.2.2.1, 328, .inl hFt1) := w_ne hE3 (by omega) a1t1
  have he7 : en4 44 = .inl (q.1, 8, .inl mFt1) := w_ne hE3 (by omega) a2t1
  have he8 : en4 45 = .inl (q.2.1, 8, .inr (.inl (vp_updL tFt1 k (tFt1 k + rFt1 0)))) := w_self hE3
  have he9 : en4 46 = .inl (q.2.1, 20, .inr (.inl rFt1)) := w_ne hE3 (by omega) a4t1
  have he10 : en4 47 = .inl (q.2.2.1, 328, .inl oht1) := w_ne hE3 (by omega) b1t1
  have he11 : en4 48 = .inl (q.1, 8, .inl omt1) := w_ne hE3 (by omega) b2t1
  have he12 : en4 49 = .inl (q.2.1, 8, .inr (.inl ott1)) := w_ne hE3 (by omega) b3t1
  have he13 : en4 50 = .inl (q.2.1, 20, .inr (.inl orrt1)) := w_ne hE3 (by omega) b4t1
  have he14 : en4 51 = .inl (q.1, 10, .inl wFt1) := w_ne hE3 (by omega) c1t1
  have he15 : en4 52 = .inl (q.1, 60, .inl sFt1) := w_ne hE3 (by omega) c2t1
  have he16 : en4 53 = .inl (q.1, 60, .inl kFt1) := w_ne hE3 (by omega) c3t1
  have he17 : en4 54 = .inl (q.1, 10, .inl aFt1) := w_ne hE3 (by omega) c4t1
  have he18 : en4 55 = .inl (q.1, 10, .inl fFt1) := w_ne hE3 (by omega) c5t1
  have he19 : en4 56 = .inl (q.1, 10, .inl xFt1) := w_ne hE3 (by omega) c6t1
  have he20 : en4 57 = .inl (q.1, 7, .inl gFt1) := w_ne hE3 (by omega) e1t1
  refine lv_aload_n hx hb dX3_take_15 rfl (lv_at hl 0 rfl) ?_
  refine lv_dup hx hb dX3_take_16 rfl ?_
  refine wr_get (ci := 4) (C := RX3) (T := TX3) (N := 21) hx hb hts iRX3 hown hw 42 (by omega) he5 rfl 5 (by decide) (hts (.fieldLink RX3 61 "LibraryDeskModel" "size" "I") (by decide +kernel)) (fun _ h9 => h9) rfl dX3_take_17 ?_
  refine lv_iconst (v := 1) hx hb dX3_take_20 (by decide) ?_
  refine lv_isub hx hb dX3_take_21 ?_
  refine lv_topi (fun x21 ex21 => ?_)
  have ex21n : x21 = nI (aCn A - 1) := ex21.trans (pk_sub (b := 1) (by omega))
  clear ex21
  subst ex21n
  refine wr_put (ci := 4) (v := .int (nI (aCn A - 1))) (ty := .int) (C := RX3) (T := TX3) (N := 21) hx hb hts iRX3 tyX3 tyX3_ok nmX3 hown hw 42 (by omega) he5 rfl 5 (by decide) (hts (.fieldLink RX3 61 "LibraryDeskModel" "size" "I") (by decide +kernel)) (fun _ h9 => h9) rfl (by decide +kernel) rfl rfl (Nat.le_of_ble_eq_true rfl) dX3_take_22 (fun en23 H locs hE22 hw => ?_)
  have he24 : en23 42 = .inr (4, [.int th, .ref (ad 43), .ref (ad 44), .ref (ad 45), .ref (ad 46), .int (nI (aCn A - 1)), .ref (ad 47), .ref (ad 48), .ref (ad 49), .ref (ad 50), .int (nI (aCn O)), .ref (ad 51), .ref (ad 52), .ref (ad 53), .ref (ad 54), .ref (ad 55), .ref (ad 56), .ref (ad 57), .long an, .int wy, .int pla]) := w_self hE22
  have he25 : en23 43 = .inl (q.2.2.1, 328, .inl hFt1) := w_ne hE22 (by omega) he6
  have he26 : en23 44 = .inl (q.1, 8, .inl mFt1) := w_ne hE22 (by omega) he7
  have he27 : en23 45 = .inl (q.2.1, 8, .inr (.inl (vp_updL tFt1 k (tFt1 k + rFt1 0)))) := w_ne hE22 (by omega) he8
  have he28 : en23 46 = .inl (q.2.1, 20, .inr (.inl rFt1)) := w_ne hE22 (by omega) he9
  have he29 : en23 47 = .inl (q.2.2.1, 328, .inl oht1) := w_ne hE22 (by omega) he10
  have he30 : en23 48 = .inl (q.1, 8, .inl omt1) := w_ne hE22 (by omega) he11
  have he31 : en23 49 = .inl (q.2.1, 8, .inr (.inl ott1)) := w_ne hE22 (by omega) he12
  have he32 : en23 50 = .inl (q.2.1, 20, .inr (.inl orrt1)) := w_ne hE22 (by omega) he13
  have he33 : en23 51 = .inl (q.1, 10, .inl wFt1) := w_ne hE22 (by omega) he14
  have he34 : en23 52 = .inl (q.1, 60, .inl sFt1) := w_ne hE22 (by omega) he15
  have he35 : en23 53 = .inl (q.1, 60, .inl kFt1) := w_ne hE22 (by omega) he16
  have he36 : en23 54 = .inl (q.1, 10, .inl aFt1) := w_ne hE22 (by omega) he17
  have he37 : en23 55 = .inl (q.1, 10, .inl fFt1) := w_ne hE22 (by omega) he18
  have he38 : en23 56 = .inl (q.1, 10, .inl xFt1) := w_ne hE22 (by omega) he19
  have he39 : en23 57 = .inl (q.1, 7, .inl gFt1) := w_ne hE22 (by omega) he20
  refine lv_iconst (v := 0) hx hb dX3_take_25 (by decide) ?_
  refine lv_istore_n (lv' := [(2, .int 0), (0, .ref (ad 42)), (1, .int (nI k))]) hx hb dX3_take_26 rfl hl (by decide) rfl (fun ls hl => ?_)
  have key : ∀ (d i : Nat), i + d = aCn A - 1 → ∀ (wf : Nat → Int64) (en1 : Nat → va_E), (∀ j, j < i → wf j = rFt1 (j + 1)) → (∀ j, i ≤ j → wf j = rFt1 j) → en1 42 = .inr (4, [.int th, .ref (ad 43), .ref (ad 44), .ref (ad 45), .ref (ad 46), .int (nI (aCn A - 1)), .ref (ad 47), .ref (ad 48), .ref (ad 49), .ref (ad 50), .int (nI (aCn O)), .ref (ad 51), .ref (ad 52), .ref (ad 53), .ref (ad 54), .ref (ad 55), .ref (ad 56), .ref (ad 57), .long an, .int wy, .int pla]) → en1 43 = .inl (q.2.2.1, 328, .inl hFt1) → en1 44 = .inl (q.1, 8, .inl mFt1) → en1 45 = .inl (q.2.1, 8, .inr (.inl (vp_updL tFt1 k (tFt1 k + rFt1 0)))) → en1 46 = .inl (q.2.1, 20, .inr (.inl wf)) → en1 47 = .inl (q.2.2.1, 328, .inl oht1) → en1 48 = .inl (q.1, 8, .inl omt1) → en1 49 = .inl (q.2.1, 8, .inr (.inl ott1)) → en1 50 = .inl (q.2.1, 20, .inr (.inl orrt1)) → en1 51 = .inl (q.1, 10, .inl wFt1) → en1 52 = .inl (q.1, 60, .inl sFt1) → en1 53 = .inl (q.1, 60, .inl kFt1) → en1 54 = .inl (q.1, 10, .inl aFt1) → en1 55 = .inl (q.1, 10, .inl fFt1) → en1 56 = .inl (q.1, 10, .inl xFt1) → en1 57 = .inl (q.1, 7, .inl gFt1) → (∀ j, (j < 42 ∨ 58 ≤ j) → en1 j = en j) → ∀ (H : Heap) (locs : List Loc), wk (dC, dI) vwCl (wT q) ad en1 n AA s H locs → ∀ ls : Array Slot, lv_has ls 3 [(2, .int (nI i)), (0, .ref (ad 42)), (1, .int (nI k))] → W p l e (headSpec wsX3_take ({ frames := 0, cells := 0, slots := 0, locals := 0 })).room s m ([.ref (ad 42), .int (nI k)].toArray) below meth c H locs 0 0 (MQ below (va_Qv (fun (en' : Nat → va_E) => ModC q ad en' th (aTake k A) O pl cs an wy pla ∧ ∀ j, (j < 42 ∨ 58 ≤ j) → en' j = en j) (wB (dC, dI) vwCl (wT q) ad n AA) AA) ([.ref (ad 42), .int (nI k)].toArray) s 0 0 AA) (F0 m 27 ls []) := by
    intro d
    induction d with
    | zero =>
      intro i hi wf en1 hw1 hw2 gO gH gM gT gR goH goM goT goR gw gs gk ga gf gx gt hfr H locs hw ls hl
      refine lv_iload_n hx hb dX3_take_27 rfl (lv_at hl 0 rfl) ?_
      refine lv_aload_n hx hb dX3_take_28 rfl (lv_at hl 1 rfl) ?_
      refine wr_get (ci := 4) (C := RX3) (T := TX3) (N := 21) hx hb hts iRX3 hown hw 42 (by omega) gO rfl 5 (by decide) (hts (.fieldLink RX3 61 "LibraryDeskModel" "size" "I") (by decide +kernel)) (fun _ h9 => h9) rfl dX3_take_29 ?_
      refine lv_icmp_ge (tgt := 55) hx hb dX3_take_32 (by decide) (fun c32 => ?_) (fun c32 => ?_)
      · refine we_v hx hb hr hlocks hw ?_ dX3_take_55
        refine ⟨?_, fun j hj => hfr j hj⟩
        exact ⟨(by rw [aCn_take hc0]; exact gO), ⟨_, _, _, _, gH, gM, gT, gR, RM_take hRt1 hc0 hk (fun j hj => hw1 j (by omega))⟩, ⟨_, _, _, _, goH, goM, goT, goR, hOt1⟩, ⟨_, _, _, _, _, _, gw, gs, gk, ga, gf, gx, hPlt1⟩, ⟨_, gt, hTt1⟩⟩
      · exact absurd (nI_le (by omega) (by omega)) c32
    | succ d ih =>
      intro i hi wf en1 hw1 hw2 gO gH gM gT gR goH goM goT goR gw gs gk ga gf gx gt hfr H locs hw ls hl
      refine lv_iload_n hx hb dX3_take_27 rfl (lv_at hl 0 rfl) ?_
      refine lv_aload_n hx hb dX3_take_28 rfl (lv_at hl 1 rfl) ?_
      refine wr_get (ci := 4) (C := RX3) (T := TX3) (N := 21) hx hb hts iRX3 hown hw 42 (by omega) gO rfl 5 (by decide) (hts (.fieldLink RX3 61 "LibraryDeskModel" "size" "I") (by decide +kernel)) (fun _ h9 => h9) rfl dX3_take_29 ?_
      refine lv_icmp_ge (tgt := 55) hx hb dX3_take_32 (by decide) (fun c32 => ?_) (fun c32 => ?_)
      · exact absurd ((nI_leI (by omega) (by omega)).mp c32) (by omega)
      · refine lv_aload_n hx hb dX3_take_35 rfl (lv_at hl 1 rfl) ?_
        refine wr_get (ci := 4) (C := RX3) (T := TX3) (N := 21) hx hb hts iRX3 hown hw 42 (by omega) gO rfl 4 (by decide) (hts (.fieldLink RX3 21 "LibraryDeskModel" "row" "[J") (by decide +kernel)) (fun _ h9 => h9) rfl dX3_take_36 ?_
        refine lv_iload_n hx hb dX3_take_39 rfl (lv_at hl 0 rfl) ?_
        refine lv_aload_n hx hb dX3_take_40 rfl (lv_at hl 1 rfl) ?_
        refine wr_get (ci := 4) (C := RX3) (T := TX3) (N := 21) hx hb hts iRX3 hown hw 42 (by omega) gO rfl 4 (by decide) (hts (.fieldLink RX3 21 "LibraryDeskModel" "row" "[J") (by decide +kernel)) (fun _ h9 => h9) rfl dX3_take_41 ?_
        refine lv_iload_n hx hb dX3_take_44 rfl (lv_at hl 0 rfl) ?_
        refine lv_iconst (v := 1) hx hb dX3_take_45 (by decide) ?_
        refine lv_iadd hx hb dX3_take_46 ?_
        refine lv_topi (fun x40 ex40 => ?_)
        have ex40n : x40 = nI (i + 1) := ex40.trans (nI_1 i)
        clear ex40
        subst ex40n
        refine wr_lald (v := wf ((i + 1))) hx hb hw 46 (by omega) 1 gR rfl (vp_in_nI (by omega) (by decide)) (by rw [(nI_clamp (by omega))]) dX3_take_47 ?_
        refine wr_last (j := i) hx hb hw 46 (by omega) 1 gR rfl (vp_in_nI (by omega) (by decide)) (nI_clamp (by omega)) dX3_take_48 (fun en42 H locs hE41 hw => ?_)
        have he43 : en42 42 = .inr (4, [.int th, .ref (ad 43), .ref (ad 44), .ref (ad 45), .ref (ad 46), .int (nI (aCn A - 1)), .ref (ad 47), .ref (ad 48), .ref (ad 49), .ref (ad 50), .int (nI (aCn O)), .ref (ad 51), .ref (ad 52), .ref (ad 53), .ref (ad 54), .ref (ad 55), .ref (ad 56), .ref (ad 57), .long an, .int wy, .int pla]) := w_ne hE41 (by omega) gO
        have he44 : en42 43 = .inl (q.2.2.1, 328, .inl hFt1) := w_ne hE41 (by omega) gH
        have he45 : en42 44 = .inl (q.1, 8, .inl mFt1) := w_ne hE41 (by omega) gM
        have he46 : en42 45 = .inl (q.2.1, 8, .inr (.inl (vp_updL tFt1 k (tFt1 k + rFt1 0)))) := w_ne hE41 (by omega) gT
        have he47 : en42 46 = .inl (q.2.1, 20, .inr (.inl (vp_updL wf i (wf ((i + 1)))))) := w_self hE41
        have he48 : en42 47 = .inl (q.2.2.1, 328, .inl oht1) := w_ne hE41 (by omega) goH
        have he49 : en42 48 = .inl (q.1, 8, .inl omt1) := w_ne hE41 (by omega) goM
        have he50 : en42 49 = .inl (q.2.1, 8, .inr (.inl ott1)) := w_ne hE41 (by omega) goT
        have he51 : en42 50 = .inl (q.2.1, 20, .inr (.inl orrt1)) := w_ne hE41 (by omega) goR
        have he52 : en42 51 = .inl (q.1, 10, .inl wFt1) := w_ne hE41 (by omega) gw
        have he53 : en42 52 = .inl (q.1, 60, .inl sFt1) := w_ne hE41 (by omega) gs
        have he54 : en42 53 = .inl (q.1, 60, .inl kFt1) := w_ne hE41 (by omega) gk
        have he55 : en42 54 = .inl (q.1, 10, .inl aFt1) := w_ne hE41 (by omega) ga
        have he56 : en42 55 = .inl (q.1, 10, .inl fFt1) := w_ne hE41 (by omega) gf
        have he57 : en42 56 = .inl (q.1, 10, .inl xFt1) := w_ne hE41 (by omega) gx
        have he58 : en42 57 = .inl (q.1, 7, .inl gFt1) := w_ne hE41 (by omega) gt
        refine lv_iinc (v := nI (i + 1)) (lv' := [(2, .int (nI (i + 1))), (0, .ref (ad 42)), (1, .int (nI k))]) hx hb dX3_take_49 hl (k := 0) rfl (nI_1 i) (by decide) rfl (fun ls hl => ?_)
        refine lv_goto (tgt := 27) hx hb dX3_take_52 (by decide) ?_
        refine ih (i + 1) (by omega) _ _ (fun j hj => ?_) (fun j hj => ?_) he43 he44 he45 he46 he47 he48 he49 he50 he51 he52 he53 he54 he55 he56 he57 he58 (fun j hj => (w_fr hE41 (by omega)).trans (hfr j hj)) _ _ hw ls (lv_sub hl [0, 1, 2] rfl)
        · by_cases e : j = i
          · rw [e, pk_uLs]; exact hw2 _ (by omega)
          · rw [pk_uLn e]; exact hw1 j (by omega)
        · rw [pk_uLn (by omega)]; exact hw2 j (by omega)
  exact key (aCn A - 1) 0 (by omega) _ _ (fun j h => absurd h (Nat.not_lt_zero j)) (fun j _ => rfl) he24 he25 he26 he27 he28 he29 he30 he31 he32 he33 he34 he35 he36 he37 he38 he39 (fun j hj => (w_fr hE22 (by omega)).trans (w_fr hE3 (by omega))) _ _ hw ls (lv_sub hl [0, 1, 2] rfl)
end
section
theorem makes_m1 {r : Int32} {m : Nat} (hm : m ≤ 40) (hr : r = (if m < 40 then nI (m + 1) else -1)) : r = -1 ↔ ¬ m < 40 := by
  by_cases h : m < 40
  · rw [if_pos h] at hr
    refine ⟨fun e => ?_, fun e => absurd h e⟩
    rw [hr] at e
    have e2 := congrArg Int32.toInt e
    rw [nI_toInt (by omega)] at e2
    have e3 : (-1 : Int32).toInt = -1 := by decide
    rw [e3] at e2
    omega
  · rw [if_neg h] at hr
    exact ⟨fun _ => h, fun _ => hr⟩
theorem drop_gr2 {k : Nat} {A : Ast} {r : Int32} (hk : k < 8) (hr : r = nI (gr (aHr A k) 40)) : (aIs (nI k) r A = true ↔ ¬ gr (aHr A k) 40 = 0) ∧ (¬ gr (aHr A k) 40 = 0 → aDropI (nI k) r A = aDrop k (gr (aHr A k) 40) A) := by
  have hle := gr_le (aHr A k) 40
  by_cases h : gr (aHr A k) 40 = 0
  · refine ⟨⟨fun w => ?_, fun w => absurd h w⟩, fun w => absurd h w⟩
    rw [hr, h, aIs_z (by decide)] at w
    cases w
  · have hi := gr_is (aHr A k) 40 (by omega)
    have e : aIs (nI k) r A = true := by rw [hr, aIs_nI hk (by omega) hle]; exact hi
    exact ⟨⟨fun _ => h, fun _ => e⟩, fun _ => by rw [hr]; exact aDropI_nI hk (by omega) hle hi⟩
set_option maxHeartbeats 4000000 in
set_option maxRecDepth 100000 in
theorem kX3_does (l : Launch) (dC : Nat → ClassId) (dI : Nat → Nat → Nat) (q : ClassId × ClassId × ClassId × ClassId) (ad : Nat → Nat) (en : Nat → va_E) (n sz : Nat) (hn58 : 58 ≤ n) (th : Int32) (A O : Ast) (pl : Nat → Pst) (cs : Nat → Int32) (an : Int64) (wy pla : Int32) (hok : Aok A) (hM : ModC q ad en th A O pl cs an wy pla) (c1 : Nat) (hc : c1 < 10) (hpk : Pok (pl c1)) (i : Nat) (hi : i < (pl c1).2.1) (z : Int32) (a : Int64) :
    Met l yX3_does wsX3_does ({ frames := 3, cells := 0, slots := 0, locals := 64 }) (wPc (dC, dI) vwCl (wT q) ad en n sz [.ref (ad 42), .int (nI c1), .int (nI i), .int z, .long a]) (va_Qi (fun (r : Int32) (en' : Nat → va_E) => r = (aDo (pl c1) i z a A an).1 ∧ ModC q ad en' th (aDo (pl c1) i z a A an).2.1 O pl cs (aDo (pl c1) i z a A an).2.2 wy pla ∧ ∀ j, (j < 42 ∨ 58 ≤ j) → en' j = en j) (wB (dC, dI) vwCl (wT q) ad n (wA ad n sz)) (wA ad n sz)) 0 0 (wA ad n sz) := by
  refine Met.ofW (cc := cX3_does) (maxL := 7) (ret := (some .int)) (by decide) rfl ?_
  intro p e s m args below meth c s₁ B hml hv
  obtain ⟨rfl, hsz, hP, hK, hD0, hE0⟩ := hv
  have hx := B.exec
  have hb := B.bytes
  have hr := B.returns
  have hts := atoms_spec (ws := wsX3_does) B.pre
  have hown : s.vm.findClass RX3 = some m.cls := findClass_of_methodNamed B.named
  have hlocks := B.notSynchronized
  have iRX3 : ∀ w ∈ u_ws RX3 TX3 21, w ∈ wsX3_does := by decide +kernel
  subst hsz
  have hw := wk_of hP hK hD0 hE0
  generalize wA ad n s.heap.size = AA at hw ⊢
  have hl := lv_entry ([.ref (ad 42), .int (nI c1), .int (nI i), .int z, .long a]) (n := 7) (Nat.le_of_ble_eq_true rfl)
  rw [lg_entry_eq]
  generalize (lg_sl ([.ref (ad 42), .int (nI c1), .int (nI i), .int z, .long a]) ++ List.replicate (7 - (lg_sl ([.ref (ad 42), .int (nI c1), .int (nI i), .int z, .long a])).length) Slot.unset).toArray = ls at hl ⊢
  have hl : lv_has ls 7 [(0, .ref (ad 42)), (1, .int (nI c1)), (2, .int (nI i)), (3, .int z), (4, .long a)] := hl
  obtain ⟨ot1, ⟨hFt1, mFt1, tFt1, rFt1, a1t1, a2t1, a3t1, a4t1, hRt1⟩, ⟨oht1, omt1, ott1, orrt1, b1t1, b2t1, b3t1, b4t1, hOt1⟩, ⟨wFt1, sFt1, kFt1, aFt1, fFt1, xFt1, c1t1, c2t1, c3t1, c4t1, c5t1, c6t1, hPlt1⟩, ⟨gFt1, e1t1, hTt1⟩⟩ := id hM
  have hcn := hok.2
  obtain ⟨k, hk, ekk⟩ := okK_of (hpk.2.1 i hi).2
  obtain ⟨s7, hs7, ess⟩ : ∃ s7, s7 < 7 ∧ (pl c1).2.2.1 i = nI s7 := (kd_cases _ (by decide)).resolve_right (fun h => h ⟨(hpk.2.1 i hi).1.1, Int32.lt_of_le_of_lt (hpk.2.1 i hi).1.2 (by decide)⟩)
  have hi6 : i < 6 := Nat.lt_of_lt_of_le hi hpk.1
  have hm40 := (hok.1 k hk).1
  refine lv_aload_n hx hb dX3_does_0 rfl (lv_at hl 0 rfl) ?_
  refine wr_get (ci := 4) (C := RX3) (T := TX3) (N := 21) hx hb hts iRX3 hown hw 42 (by omega) ot1 rfl 13 (by decide) (hts (.fieldLink RX3 42 "LibraryDeskModel" "kinds" "[I") (by decide +kernel)) (fun _ h9 => h9) rfl dX3_does_1 ?_
  refine lv_bipush (v := 6) hx hb dX3_does_4 (by decide) ?_
  refine lv_iload_n hx hb dX3_does_6 rfl (lv_at hl 1 rfl) ?_
  refine lv_imul hx hb dX3_does_7 ?_
  refine lv_topi (fun x2 ex2 => ?_)
  have ex2n : x2 = nI (6 * c1) := ex2.trans (pk_mul 6 c1)
  clear ex2
  subst ex2n
  refine lv_iload_n hx hb dX3_does_8 rfl (lv_at hl 2 rfl) ?_
  refine lv_iadd hx hb dX3_does_9 ?_
  refine lv_topi (fun x3 ex3 => ?_)
  have ex3n : x3 = nI (6 * c1 + i) := ex3.trans (nI_add _ _)
  clear ex3
  subst ex3n
  refine wr_iald (v := nI k) hx hb hw 53 (by omega) 0 c3t1 rfl (vp_in_nI (by omega) (by decide)) (by rw [(nI_clamp (by omega))]; exact ((hPlt1 c1 hc).2.2.2.2 i hi).2.trans ekk) dX3_does_10 ?_
  refine lv_istore (lv' := [(6, .int (nI k)), (0, .ref (ad 42)), (1, .int (nI c1)), (2, .int (nI i)), (3, .int z), (4, .long a)]) hx hb dX3_does_11 hl (by decide) rfl (fun ls hl => ?_)
  refine lv_aload_n hx hb dX3_does_13 rfl (lv_at hl 1 rfl) ?_
  refine wr_get (ci := 4) (C := RX3) (T := TX3) (N := 21) hx hb hts iRX3 hown hw 42 (by omega) ot1 rfl 12 (by decide) (hts (.fieldLink RX3 39 "LibraryDeskModel" "sorts" "[I") (by decide +kernel)) (fun _ h9 => h9) rfl dX3_does_14 ?_
  refine lv_bipush (v := 6) hx hb dX3_does_17 (by decide) ?_
  refine lv_iload_n hx hb dX3_does_19 rfl (lv_at hl 2 rfl) ?_
  refine lv_imul hx hb dX3_does_20 ?_
  refine lv_topi (fun x4 ex4 => ?_)
  have ex4n : x4 = nI (6 * c1) := ex4.trans (pk_mul 6 c1)
  clear ex4
  subst ex4n
  refine lv_iload_n hx hb dX3_does_21 rfl (lv_at hl 3 rfl) ?_
  refine lv_iadd hx hb dX3_does_22 ?_
  refine lv_topi (fun x5 ex5 => ?_)
  have ex5n : x5 = nI (6 * c1 + i) := ex5.trans (nI_add _ _)
  clear ex5
  subst ex5n
  refine wr_iald (v := nI s7) hx hb hw 52 (by omega) 0 c2t1 rfl (vp_in_nI (by omega) (by decide)) (by rw [(nI_clamp (by omega))]; exact ((hPlt1 c1 hc).2.2.2.2 i hi).1.trans ess) dX3_does_23 ?_
  rcases (show s7 = 0 ∨ s7 = 1 ∨ s7 = 2 ∨ s7 = 3 ∨ s7 = 4 ∨ s7 = 5 ∨ s7 = 6 by omega) with rfl | rfl | rfl | rfl | rfl | rfl | rfl
  · refine lv_tableIn (off := 40) (tgt := 64) hx hb dX3_does_24 (by decide) (by decide) (by decide) (by decide) ?_
    refine lv_aload_n hx hb dX3_does_64 rfl (lv_at hl 1 rfl) ?_
    refine lv_iload hx hb dX3_does_65 (lv_at hl 0 rfl) ?_
    refine wc_i hw (va_runV (As := [.int (nI k)]) (rest := []) ⟨hx, hb, hml, hown, hts⟩ (kX3_makes l dC dI q ad en n _ hn58 th A O pl cs an wy pla hok hM k hk) (cwV 1 hts gX3_does_X3_makes rfl rfl rfl (by decide +kernel) ⟨Nat.le_of_ble_eq_true rfl, Nat.le_of_ble_eq_true rfl⟩) (wk_preV hw (by omega) ot1 rfl) rfl rfl hl.1 rfl (lv_room (Nat.le_of_ble_eq_true rfl)) dX3_does_67 ⟨Nat.le_refl _, Nat.le_refl _⟩) (fun r6 en8 H locs hp7 hw => ?_)
    obtain ⟨hr1, hM1, hfr1⟩ := hp7
    obtain ⟨ot9, ⟨hFt9, mFt9, tFt9, rFt9, a1t9, a2t9, a3t9, a4t9, hRt9⟩, ⟨oht9, omt9, ott9, orrt9, b1t9, b2t9, b3t9, b4t9, hOt9⟩, ⟨wFt9, sFt9, kFt9, aFt9, fFt9, xFt9, c1t9, c2t9, c3t9, c4t9, c5t9, c6t9, hPlt9⟩, ⟨gFt9, e1t9, hTt9⟩⟩ := id hM1
    refine lv_iconst (v := (-1)) hx hb dX3_does_70 (by decide) ?_
    refine lv_icmp_ne (tgt := 79) hx hb dX3_does_71 (by decide) (fun c71 => ?_) (fun c71 => ?_)
    · refine lv_iconst (v := 0) hx hb dX3_does_79 (by decide) ?_
      refine we_i hx hb hr hlocks hw ?_ dX3_does_80
      have hA := aDo_0 (z := z) (a := a) (A := A) (x := an) ess ekk hk
      rw [hA]
      exact ⟨by rw [if_pos (Decidable.of_not_not (fun h => c71 ((makes_m1 hm40 hr1).mpr h)))], hM1, fun j hj => hfr1 j hj⟩
    · refine lv_bipush (v := 6) hx hb dX3_does_74 (by decide) ?_
      refine lv_goto (tgt := 80) hx hb dX3_does_76 (by decide) ?_
      refine we_i hx hb hr hlocks hw ?_ dX3_does_80
      have hA := aDo_0 (z := z) (a := a) (A := A) (x := an) ess ekk hk
      rw [hA]
      exact ⟨by rw [if_neg ((makes_m1 hm40 hr1).mp c71)], hM1, fun j hj => hfr1 j hj⟩
  · refine lv_tableIn (off := 57) (tgt := 81) hx hb dX3_does_24 (by decide) (by decide) (by decide) (by decide) ?_
    refine lv_aload_n hx hb dX3_does_81 rfl (lv_at hl 1 rfl) ?_
    refine lv_iload hx hb dX3_does_82 (lv_at hl 0 rfl) ?_
    refine lv_aload_n hx hb dX3_does_84 rfl (lv_at hl 1 rfl) ?_
    refine lv_iload hx hb dX3_does_85 (lv_at hl 0 rfl) ?_
    refine wc_i hw (va_runV (As := [.int (nI k)]) (rest := [.int (nI k), .ref (ad 42)]) ⟨hx, hb, hml, hown, hts⟩ (kX3_greatest l dC dI q ad en n _ hn58 th A O pl cs an wy pla hok hM k hk) (cwV 1 hts gX3_does_X3_greatest rfl rfl rfl (by decide +kernel) ⟨Nat.le_of_ble_eq_true rfl, Nat.le_of_ble_eq_true rfl⟩) (wk_preV hw (by omega) ot1 rfl) rfl rfl hl.1 rfl (lv_room (Nat.le_of_ble_eq_true rfl)) dX3_does_87 ⟨Nat.le_refl _, Nat.le_refl _⟩) (fun r10 en12 H locs hp11 hw => ?_)
    obtain ⟨hr13, hn14⟩ := hp11
    rw [hn14] at hw
    clear hn14
    have hgr := hr13
    refine wc_i hw (va_runV (As := [.int (nI k), .int r10]) (rest := []) ⟨hx, hb, hml, hown, hts⟩ (kX3_drops l dC dI q ad en n _ hn58 th A O pl cs an wy pla hok hM (nI k) r10) (cwV 2 hts gX3_does_X3_drops rfl rfl rfl (by decide +kernel) ⟨Nat.le_of_ble_eq_true rfl, Nat.le_of_ble_eq_true rfl⟩) (wk_preV hw (by omega) ot1 rfl) rfl rfl hl.1 rfl (lv_room (Nat.le_of_ble_eq_true rfl)) dX3_does_90 ⟨Nat.le_refl _, Nat.le_refl _⟩) (fun r15 en17 H locs hp16 hw => ?_)
    obtain ⟨hr1, hM1, hfr1⟩ := hp16
    obtain ⟨ot18, ⟨hFt18, mFt18, tFt18, rFt18, a1t18, a2t18, a3t18, a4t18, hRt18⟩, ⟨oht18, omt18, ott18, orrt18, b1t18, b2t18, b3t18, b4t18, hOt18⟩, ⟨wFt18, sFt18, kFt18, aFt18, fFt18, xFt18, c1t18, c2t18, c3t18, c4t18, c5t18, c6t18, hPlt18⟩, ⟨gFt18, e1t18, hTt18⟩⟩ := id hM1
    refine lv_if_eq (tgt := 100) hx hb dX3_does_93 (by decide) (fun c93 => ?_) (fun c93 => ?_)
    · refine lv_bipush (v := 7) hx hb dX3_does_100 (by decide) ?_
      refine we_i hx hb hr hlocks hw ?_ dX3_does_102
      have hA := aDo_1 (z := z) (a := a) (A := A) (x := an) ess ekk hk
      have hG := drop_gr2 hk hgr
      have hg0 : gr (aHr A k) 40 = 0 := Decidable.of_not_not (fun h => z01_f hr1 c93 (hG.1.mpr h))
      rw [hA, if_pos hg0]
      rw [aDropI_no (z01_f hr1 c93)] at hM1
      exact ⟨rfl, hM1, fun j hj => hfr1 j hj⟩
    · refine lv_iconst (v := 0) hx hb dX3_does_96 (by decide) ?_
      refine lv_goto (tgt := 102) hx hb dX3_does_97 (by decide) ?_
      refine we_i hx hb hr hlocks hw ?_ dX3_does_102
      have hA := aDo_1 (z := z) (a := a) (A := A) (x := an) ess ekk hk
      have hG := drop_gr2 hk hgr
      have hg0 := hG.1.mp (z01_t hr1 c93)
      rw [hA, if_neg hg0]
      rw [(hG.2 hg0)] at hM1
      exact ⟨rfl, hM1, fun j hj => hfr1 j hj⟩
  · refine lv_tableIn (off := 79) (tgt := 103) hx hb dX3_does_24 (by decide) (by decide) (by decide) (by decide) ?_
    refine lv_aload_n hx hb dX3_does_103 rfl (lv_at hl 1 rfl) ?_
    refine wr_get (ci := 4) (C := RX3) (T := TX3) (N := 21) hx hb hts iRX3 hown hw 42 (by omega) ot1 rfl 3 (by decide) (hts (.fieldLink RX3 17 "LibraryDeskModel" "tallies" "[J") (by decide +kernel)) (fun _ h9 => h9) rfl dX3_does_104 ?_
    refine lv_iload hx hb dX3_does_107 (lv_at hl 0 rfl) ?_
    refine lv_dup2_11 hx hb dX3_does_109 rfl rfl ?_
    refine wr_lald (v := tFt1 k) hx hb hw 45 (by omega) 1 a3t1 rfl (vp_in_nI (by omega) (by decide)) (by rw [(nI_clamp (by omega))]) dX3_does_110 ?_
    refine lv_lload hx hb dX3_does_111 (lv_at hl 5 rfl) ?_
    refine lv_ladd hx hb dX3_does_113 ?_
    refine lv_topl (fun x19 ex19 => ?_)
    have ex19n : x19 = tFt1 k + a := ex19.trans (rfl)
    clear ex19
    subst ex19n
    refine wr_last (j := k) hx hb hw 45 (by omega) 1 a3t1 rfl (vp_in_nI (by omega) (by decide)) (nI_clamp (by omega)) dX3_does_114 (fun en21 H locs hE20 hw => ?_)
    have he22 : en21 42 = .inr (4, [.int th, .ref (ad 43), .ref (ad 44), .ref (ad 45), .ref (ad 46), .int (nI (aCn A)), .ref (ad 47), .ref (ad 48), .ref (ad 49), .ref (ad 50), .int (nI (aCn O)), .ref (ad 51), .ref (ad 52), .ref (ad 53), .ref (ad 54), .ref (ad 55), .ref (ad 56), .ref (ad 57), .long an, .int wy, .int pla]) := w_ne hE20 (by omega) ot1
    have he23 : en21 43 = .inl (q.2.2.1, 328, .inl hFt1) := w_ne hE20 (by omega) a1t1
    have he24 : en21 44 = .inl (q.1, 8, .inl mFt1) := w_ne hE20 (by omega) a2t1
    have he25 : en21 45 = .inl (q.2.1, 8, .inr (.inl (vp_updL tFt1 k (tFt1 k + a)))) := w_self hE20
    have he26 : en21 46 = .inl (q.2.1, 20, .inr (.inl rFt1)) := w_ne hE20 (by omega) a4t1
    have he27 : en21 47 = .inl (q.2.2.1, 328, .inl oht1) := w_ne hE20 (by omega) b1t1
    have he28 : en21 48 = .inl (q.1, 8, .inl omt1) := w_ne hE20 (by omega) b2t1
    have he29 : en21 49 = .inl (q.2.1, 8, .inr (.inl ott1)) := w_ne hE20 (by omega) b3t1
    have he30 : en21 50 = .inl (q.2.1, 20, .inr (.inl orrt1)) := w_ne hE20 (by omega) b4t1
    have he31 : en21 51 = .inl (q.1, 10, .inl wFt1) := w_ne hE20 (by omega) c1t1
    have he32 : en21 52 = .inl (q.1, 60, .inl sFt1) := w_ne hE20 (by omega) c2t1
    have he33 : en21 53 = .inl (q.1, 60, .inl kFt1) := w_ne hE20 (by omega) c3t1
    have he34 : en21 54 = .inl (q.1, 10, .inl aFt1) := w_ne hE20 (by omega) c4t1
    have he35 : en21 55 = .inl (q.1, 10, .inl fFt1) := w_ne hE20 (by omega) c5t1
    have he36 : en21 56 = .inl (q.1, 10, .inl xFt1) := w_ne hE20 (by omega) c6t1
    have he37 : en21 57 = .inl (q.1, 7, .inl gFt1) := w_ne hE20 (by omega) e1t1
    refine lv_iconst (v := 0) hx hb dX3_does_115 (by decide) ?_
    refine we_i hx hb hr hlocks hw ?_ dX3_does_116
    have hA := aDo_2 (z := z) (a := a) (A := A) (x := an) ess ekk hk
    rw [hA]
    exact ⟨rfl, ⟨he22, ⟨_, _, _, _, he23, he24, he25, he26, RM_grow hRt1 hk a⟩, ⟨_, _, _, _, he27, he28, he29, he30, hOt1⟩, ⟨_, _, _, _, _, _, he31, he32, he33, he34, he35, he36, hPlt1⟩, ⟨_, he37, hTt1⟩⟩, fun j hj => w_fr hE20 (by omega)⟩
  · refine lv_tableIn (off := 93) (tgt := 117) hx hb dX3_does_24 (by decide) (by decide) (by decide) (by decide) ?_
    refine lv_aload_n hx hb dX3_does_117 rfl (lv_at hl 1 rfl) ?_
    refine wr_get (ci := 4) (C := RX3) (T := TX3) (N := 21) hx hb hts iRX3 hown hw 42 (by omega) ot1 rfl 5 (by decide) (hts (.fieldLink RX3 61 "LibraryDeskModel" "size" "I") (by decide +kernel)) (fun _ h9 => h9) rfl dX3_does_118 ?_
    refine lv_if_ne (tgt := 127) hx hb dX3_does_121 (by decide) (fun c121 => ?_) (fun c121 => ?_)
    · have hc0 : 0 < aCn A := Nat.pos_of_ne_zero (fun h => c121 (by rw [h]; rfl))
      refine lv_aload_n hx hb dX3_does_127 rfl (lv_at hl 1 rfl) ?_
      refine lv_iload hx hb dX3_does_128 (lv_at hl 0 rfl) ?_
      refine wc_v hw (va_runV (As := [.int (nI k)]) (rest := []) ⟨hx, hb, hml, hown, hts⟩ (kX3_take l dC dI q ad en n _ hn58 th A O pl cs an wy pla hok hM k hk hc0) (cwV 1 hts gX3_does_X3_take rfl rfl rfl (by decide +kernel) ⟨Nat.le_of_ble_eq_true rfl, Nat.le_of_ble_eq_true rfl⟩) (wk_preV hw (by omega) ot1 rfl) rfl rfl hl.1 rfl (lv_room (Nat.le_of_ble_eq_true rfl)) dX3_does_130 ⟨Nat.le_refl _, Nat.le_refl _⟩) (fun en40 H locs hp39 hw => ?_)
      obtain ⟨hM1, hfr1⟩ := hp39
      obtain ⟨ot41, ⟨hFt41, mFt41, tFt41, rFt41, a1t41, a2t41, a3t41, a4t41, hRt41⟩, ⟨oht41, omt41, ott41, orrt41, b1t41, b2t41, b3t41, b4t41, hOt41⟩, ⟨wFt41, sFt41, kFt41, aFt41, fFt41, xFt41, c1t41, c2t41, c3t41, c4t41, c5t41, c6t41, hPlt41⟩, ⟨gFt41, e1t41, hTt41⟩⟩ := id hM1
      refine lv_iconst (v := 0) hx hb dX3_does_133 (by decide) ?_
      refine we_i hx hb hr hlocks hw ?_ dX3_does_134
      have hA := aDo_3 (z := z) (a := a) (A := A) (x := an) ess ekk hk
      rw [hA]
      exact ⟨by rw [if_pos hc0], hM1, fun j hj => hfr1 j hj⟩
    · have hc0 : ¬ 0 < aCn A := fun h => absurd ((nI_eq (b := 0) (by omega) (by omega)).mp c121) (by omega)
      refine lv_bipush (v := 8) hx hb dX3_does_124 (by decide) ?_
      refine we_i hx hb hr hlocks hw ?_ dX3_does_126
      have hA := aDo_3 (z := z) (a := a) (A := A) (x := an) ess ekk hk
      rw [hA, aTake_no hc0]
      exact ⟨by rw [if_neg hc0], hM, fun j hj => rfl⟩
  · refine lv_tableIn (off := 111) (tgt := 135) hx hb dX3_does_24 (by decide) (by decide) (by decide) (by decide) ?_
    refine lv_aload_n hx hb dX3_does_135 rfl (lv_at hl 1 rfl) ?_
    refine lv_ldc2 (v := 31) hx hb hown (hts (.constantLong RX3 92 (31)) (by decide +kernel)) dX3_does_136 ?_
    refine lv_aload_n hx hb dX3_does_139 rfl (lv_at hl 1 rfl) ?_
    refine wr_get (ci := 4) (C := RX3) (T := TX3) (N := 21) hx hb hts iRX3 hown hw 42 (by omega) ot1 rfl 18 (by decide) (hts (.fieldLink RX3 94 "LibraryDeskModel" "answer" "J") (by decide +kernel)) (fun _ h9 => h9) rfl dX3_does_140 ?_
    refine lv_lmul hx hb dX3_does_143 ?_
    refine lv_topl (fun x42 ex42 => ?_)
    have ex42n : x42 = 31 * an := ex42.trans (rfl)
    clear ex42
    subst ex42n
    refine lv_aload_n hx hb dX3_does_144 rfl (lv_at hl 1 rfl) ?_
    refine wr_get (ci := 4) (C := RX3) (T := TX3) (N := 21) hx hb hts iRX3 hown hw 42 (by omega) ot1 rfl 3 (by decide) (hts (.fieldLink RX3 17 "LibraryDeskModel" "tallies" "[J") (by decide +kernel)) (fun _ h9 => h9) rfl dX3_does_145 ?_
    refine lv_iload hx hb dX3_does_148 (lv_at hl 0 rfl) ?_
    refine wr_lald (v := aTl A k) hx hb hw 45 (by omega) 1 a3t1 rfl (vp_in_nI (by omega) (by decide)) (by rw [(nI_clamp (by omega))]; exact (hRt1.2.1 k hk).2) dX3_does_150 ?_
    refine lv_ladd hx hb dX3_does_151 ?_
    refine lv_topl (fun x43 ex43 => ?_)
    have ex43n : x43 = 31 * an + aTl A k := ex43.trans (rfl)
    clear ex43
    subst ex43n
    refine wr_put (ci := 4) (v := .long (31 * an + aTl A k)) (ty := .long) (C := RX3) (T := TX3) (N := 21) hx hb hts iRX3 tyX3 tyX3_ok nmX3 hown hw 42 (by omega) ot1 rfl 18 (by decide) (hts (.fieldLink RX3 94 "LibraryDeskModel" "answer" "J") (by decide +kernel)) (fun _ h9 => h9) rfl (by decide +kernel) rfl rfl (Nat.le_of_ble_eq_true rfl) dX3_does_152 (fun en45 H locs hE44 hw => ?_)
    have he46 : en45 42 = .inr (4, [.int th, .ref (ad 43), .ref (ad 44), .ref (ad 45), .ref (ad 46), .int (nI (aCn A)), .ref (ad 47), .ref (ad 48), .ref (ad 49), .ref (ad 50), .int (nI (aCn O)), .ref (ad 51), .ref (ad 52), .ref (ad 53), .ref (ad 54), .ref (ad 55), .ref (ad 56), .ref (ad 57), .long (31 * an + aTl A k), .int wy, .int pla]) := w_self hE44
    have he47 : en45 43 = .inl (q.2.2.1, 328, .inl hFt1) := w_ne hE44 (by omega) a1t1
    have he48 : en45 44 = .inl (q.1, 8, .inl mFt1) := w_ne hE44 (by omega) a2t1
    have he49 : en45 45 = .inl (q.2.1, 8, .inr (.inl tFt1)) := w_ne hE44 (by omega) a3t1
    have he50 : en45 46 = .inl (q.2.1, 20, .inr (.inl rFt1)) := w_ne hE44 (by omega) a4t1
    have he51 : en45 47 = .inl (q.2.2.1, 328, .inl oht1) := w_ne hE44 (by omega) b1t1
    have he52 : en45 48 = .inl (q.1, 8, .inl omt1) := w_ne hE44 (by omega) b2t1
    have he53 : en45 49 = .inl (q.2.1, 8, .inr (.inl ott1)) := w_ne hE44 (by omega) b3t1
    have he54 : en45 50 = .inl (q.2.1, 20, .inr (.inl orrt1)) := w_ne hE44 (by omega) b4t1
    have he55 : en45 51 = .inl (q.1, 10, .inl wFt1) := w_ne hE44 (by omega) c1t1
    have he56 : en45 52 = .inl (q.1, 60, .inl sFt1) := w_ne hE44 (by omega) c2t1
    have he57 : en45 53 = .inl (q.1, 60, .inl kFt1) := w_ne hE44 (by omega) c3t1
    have he58 : en45 54 = .inl (q.1, 10, .inl aFt1) := w_ne hE44 (by omega) c4t1
    have he59 : en45 55 = .inl (q.1, 10, .inl fFt1) := w_ne hE44 (by omega) c5t1
    have he60 : en45 56 = .inl (q.1, 10, .inl xFt1) := w_ne hE44 (by omega) c6t1
    have he61 : en45 57 = .inl (q.1, 7, .inl gFt1) := w_ne hE44 (by omega) e1t1
    refine lv_iconst (v := 0) hx hb dX3_does_155 (by decide) ?_
    refine we_i hx hb hr hlocks hw ?_ dX3_does_156
    have hA := aDo_4 (z := z) (a := a) (A := A) (x := an) ess ekk hk
    rw [hA]
    exact ⟨rfl, ⟨he46, ⟨_, _, _, _, he47, he48, he49, he50, hRt1⟩, ⟨_, _, _, _, he51, he52, he53, he54, hOt1⟩, ⟨_, _, _, _, _, _, he55, he56, he57, he58, he59, he60, hPlt1⟩, ⟨_, he61, hTt1⟩⟩, fun j hj => w_fr hE44 (by omega)⟩
  · refine lv_tableIn (off := 133) (tgt := 157) hx hb dX3_does_24 (by decide) (by decide) (by decide) (by decide) ?_
    refine lv_aload_n hx hb dX3_does_157 rfl (lv_at hl 1 rfl) ?_
    refine lv_ldc2 (v := 31) hx hb hown (hts (.constantLong RX3 92 (31)) (by decide +kernel)) dX3_does_158 ?_
    refine lv_aload_n hx hb dX3_does_161 rfl (lv_at hl 1 rfl) ?_
    refine wr_get (ci := 4) (C := RX3) (T := TX3) (N := 21) hx hb hts iRX3 hown hw 42 (by omega) ot1 rfl 18 (by decide) (hts (.fieldLink RX3 94 "LibraryDeskModel" "answer" "J") (by decide +kernel)) (fun _ h9 => h9) rfl dX3_does_162 ?_
    refine lv_lmul hx hb dX3_does_165 ?_
    refine lv_topl (fun x62 ex62 => ?_)
    have ex62n : x62 = 31 * an := ex62.trans (rfl)
    clear ex62
    subst ex62n
    refine lv_aload_n hx hb dX3_does_166 rfl (lv_at hl 1 rfl) ?_
    refine lv_iload hx hb dX3_does_167 (lv_at hl 0 rfl) ?_
    refine wc_i hw (va_runV (As := [.int (nI k)]) (rest := [.long (31 * an), .ref (ad 42)]) ⟨hx, hb, hml, hown, hts⟩ (kX3_many l dC dI q ad en n _ hn58 th A O pl cs an wy pla hok hM k hk) (cwV 1 hts gX3_does_X3_many rfl rfl rfl (by decide +kernel) ⟨Nat.le_of_ble_eq_true rfl, Nat.le_of_ble_eq_true rfl⟩) (wk_preV hw (by omega) ot1 rfl) rfl rfl hl.1 rfl (lv_room (Nat.le_of_ble_eq_true rfl)) dX3_does_169 ⟨Nat.le_refl _, Nat.le_refl _⟩) (fun r63 en65 H locs hp64 hw => ?_)
    obtain ⟨hr66, hn67⟩ := hp64
    rw [hn67] at hw
    clear hn67
    have hr1 := hr66
    refine lv_i2l hx hb dX3_does_172 rfl ?_
    refine lv_topl (fun x68 ex68 => ?_)
    have ex68n : x68 = (nI (cn (aHr A k) 40)).toInt64 := ex68.trans (by rw [hr1])
    clear ex68
    subst ex68n
    refine lv_ladd hx hb dX3_does_173 ?_
    refine lv_topl (fun x69 ex69 => ?_)
    have ex69n : x69 = 31 * an + (nI (cn (aHr A k) 40)).toInt64 := ex69.trans (rfl)
    clear ex69
    subst ex69n
    refine wr_put (ci := 4) (v := .long (31 * an + (nI (cn (aHr A k) 40)).toInt64)) (ty := .long) (C := RX3) (T := TX3) (N := 21) hx hb hts iRX3 tyX3 tyX3_ok nmX3 hown hw 42 (by omega) ot1 rfl 18 (by decide) (hts (.fieldLink RX3 94 "LibraryDeskModel" "answer" "J") (by decide +kernel)) (fun _ h9 => h9) rfl (by decide +kernel) rfl rfl (Nat.le_of_ble_eq_true rfl) dX3_does_174 (fun en71 H locs hE70 hw => ?_)
    have he72 : en71 42 = .inr (4, [.int th, .ref (ad 43), .ref (ad 44), .ref (ad 45), .ref (ad 46), .int (nI (aCn A)), .ref (ad 47), .ref (ad 48), .ref (ad 49), .ref (ad 50), .int (nI (aCn O)), .ref (ad 51), .ref (ad 52), .ref (ad 53), .ref (ad 54), .ref (ad 55), .ref (ad 56), .ref (ad 57), .long (31 * an + (nI (cn (aHr A k) 40)).toInt64), .int wy, .int pla]) := w_self hE70
    have he73 : en71 43 = .inl (q.2.2.1, 328, .inl hFt1) := w_ne hE70 (by omega) a1t1
    have he74 : en71 44 = .inl (q.1, 8, .inl mFt1) := w_ne hE70 (by omega) a2t1
    have he75 : en71 45 = .inl (q.2.1, 8, .inr (.inl tFt1)) := w_ne hE70 (by omega) a3t1
    have he76 : en71 46 = .inl (q.2.1, 20, .inr (.inl rFt1)) := w_ne hE70 (by omega) a4t1
    have he77 : en71 47 = .inl (q.2.2.1, 328, .inl oht1) := w_ne hE70 (by omega) b1t1
    have he78 : en71 48 = .inl (q.1, 8, .inl omt1) := w_ne hE70 (by omega) b2t1
    have he79 : en71 49 = .inl (q.2.1, 8, .inr (.inl ott1)) := w_ne hE70 (by omega) b3t1
    have he80 : en71 50 = .inl (q.2.1, 20, .inr (.inl orrt1)) := w_ne hE70 (by omega) b4t1
    have he81 : en71 51 = .inl (q.1, 10, .inl wFt1) := w_ne hE70 (by omega) c1t1
    have he82 : en71 52 = .inl (q.1, 60, .inl sFt1) := w_ne hE70 (by omega) c2t1
    have he83 : en71 53 = .inl (q.1, 60, .inl kFt1) := w_ne hE70 (by omega) c3t1
    have he84 : en71 54 = .inl (q.1, 10, .inl aFt1) := w_ne hE70 (by omega) c4t1
    have he85 : en71 55 = .inl (q.1, 10, .inl fFt1) := w_ne hE70 (by omega) c5t1
    have he86 : en71 56 = .inl (q.1, 10, .inl xFt1) := w_ne hE70 (by omega) c6t1
    have he87 : en71 57 = .inl (q.1, 7, .inl gFt1) := w_ne hE70 (by omega) e1t1
    refine lv_iconst (v := 0) hx hb dX3_does_177 (by decide) ?_
    refine we_i hx hb hr hlocks hw ?_ dX3_does_178
    have hA := aDo_5 (z := z) (a := a) (A := A) (x := an) ess ekk hk
    rw [hA]
    exact ⟨rfl, ⟨he72, ⟨_, _, _, _, he73, he74, he75, he76, hRt1⟩, ⟨_, _, _, _, he77, he78, he79, he80, hOt1⟩, ⟨_, _, _, _, _, _, he81, he82, he83, he84, he85, he86, hPlt1⟩, ⟨_, he87, hTt1⟩⟩, fun j hj => w_fr hE70 (by omega)⟩
  · refine lv_tableOut (tgt := 179) hx hb dX3_does_24 (Or.inr (by decide)) (by decide) ?_
    refine lv_aload_n hx hb dX3_does_179 rfl (lv_at hl 1 rfl) ?_
    refine wr_get (ci := 4) (C := RX3) (T := TX3) (N := 21) hx hb hts iRX3 hown hw 42 (by omega) ot1 rfl 11 (by decide) (hts (.fieldLink RX3 36 "LibraryDeskModel" "wanted" "[I") (by decide +kernel)) (fun _ h9 => h9) rfl dX3_does_180 ?_
    refine lv_iload_n hx hb dX3_does_183 rfl (lv_at hl 2 rfl) ?_
    refine wr_iald (v := (pl c1).1) hx hb hw 51 (by omega) 0 c1t1 rfl (vp_in_nI (by omega) (by decide)) (by rw [(nI_clamp (by omega))]; exact (hPlt1 c1 hc).1) dX3_does_184 ?_
    refine lv_iconst (v := (-1)) hx hb dX3_does_185 (by decide) ?_
    refine lv_icmp_eq (tgt := 207) hx hb dX3_does_186 (by decide) (fun c186 => ?_) (fun c186 => ?_)
    · refine lv_bipush (v := 7) hx hb dX3_does_207 (by decide) ?_
      refine we_i hx hb hr hlocks hw ?_ dX3_does_209
      have hA := aDo_6 (z := z) (a := a) (A := A) (x := an) (k := k) ess
      have hno : ¬ aIs (pl c1).1 z A = true := by rw [c186, aIs_k (by decide)]; decide
      rw [hA, aDropI_no hno]
      exact ⟨by rw [if_neg hno], hM, fun j hj => rfl⟩
    · refine lv_aload_n hx hb dX3_does_189 rfl (lv_at hl 1 rfl) ?_
      refine lv_aload_n hx hb dX3_does_190 rfl (lv_at hl 1 rfl) ?_
      refine wr_get (ci := 4) (C := RX3) (T := TX3) (N := 21) hx hb hts iRX3 hown hw 42 (by omega) ot1 rfl 11 (by decide) (hts (.fieldLink RX3 36 "LibraryDeskModel" "wanted" "[I") (by decide +kernel)) (fun _ h9 => h9) rfl dX3_does_191 ?_
      refine lv_iload_n hx hb dX3_does_194 rfl (lv_at hl 2 rfl) ?_
      refine wr_iald (v := (pl c1).1) hx hb hw 51 (by omega) 0 c1t1 rfl (vp_in_nI (by omega) (by decide)) (by rw [(nI_clamp (by omega))]; exact (hPlt1 c1 hc).1) dX3_does_195 ?_
      refine lv_iload_n hx hb dX3_does_196 rfl (lv_at hl 4 rfl) ?_
      refine wc_i hw (va_runV (As := [.int ((pl c1).1), .int z]) (rest := []) ⟨hx, hb, hml, hown, hts⟩ (kX3_drops l dC dI q ad en n _ hn58 th A O pl cs an wy pla hok hM ((pl c1).1) z) (cwV 2 hts gX3_does_X3_drops rfl rfl rfl (by decide +kernel) ⟨Nat.le_of_ble_eq_true rfl, Nat.le_of_ble_eq_true rfl⟩) (wk_preV hw (by omega) ot1 rfl) rfl rfl hl.1 rfl (lv_room (Nat.le_of_ble_eq_true rfl)) dX3_does_197 ⟨Nat.le_refl _, Nat.le_refl _⟩) (fun r88 en90 H locs hp89 hw => ?_)
      obtain ⟨hr1, hM1, hfr1⟩ := hp89
      obtain ⟨ot91, ⟨hFt91, mFt91, tFt91, rFt91, a1t91, a2t91, a3t91, a4t91, hRt91⟩, ⟨oht91, omt91, ott91, orrt91, b1t91, b2t91, b3t91, b4t91, hOt91⟩, ⟨wFt91, sFt91, kFt91, aFt91, fFt91, xFt91, c1t91, c2t91, c3t91, c4t91, c5t91, c6t91, hPlt91⟩, ⟨gFt91, e1t91, hTt91⟩⟩ := id hM1
      refine lv_if_eq (tgt := 207) hx hb dX3_does_200 (by decide) (fun c200 => ?_) (fun c200 => ?_)
      · refine lv_bipush (v := 7) hx hb dX3_does_207 (by decide) ?_
        refine we_i hx hb hr hlocks hw ?_ dX3_does_209
        have hA := aDo_6 (z := z) (a := a) (A := A) (x := an) (k := k) ess
        rw [hA]
        exact ⟨by rw [if_neg (z01_f hr1 c200)], hM1, fun j hj => hfr1 j hj⟩
      · refine lv_iconst (v := 0) hx hb dX3_does_203 (by decide) ?_
        refine lv_goto (tgt := 209) hx hb dX3_does_204 (by decide) ?_
        refine we_i hx hb hr hlocks hw ?_ dX3_does_209
        have hA := aDo_6 (z := z) (a := a) (A := A) (x := an) (k := k) ess
        rw [hA]
        exact ⟨by rw [if_pos (z01_t hr1 c200)], hM1, fun j hj => hfr1 j hj⟩

set_option maxHeartbeats 4000000 in
set_option maxRecDepth 100000 in
theorem kX3_may (l : Launch) (dC : Nat → ClassId) (dI : Nat → Nat → Nat) (q : ClassId × ClassId × ClassId × ClassId) (ad : Nat → Nat) (en : Nat → va_E) (n sz : Nat) (hn58 : 58 ≤ n) (th : Int32) (A O : Ast) (pl : Nat → Pst) (cs : Nat → Int32) (an : Int64) (wy pla : Int32) (hok : Aok A) (hM : ModC q ad en th A O pl cs an wy pla) (cv z : Int32) :
    Met l yX3_may wsX3_may ({ frames := 2, cells := 0, slots := 0, locals := 42 }) (wPc (dC, dI) vwCl (wT q) ad en n sz [.ref (ad 42), .int cv, .int z]) (va_Qi (fun (r : Int32) (en' : Nat → va_E) => r = (if ¬ sRef cv z A pl then 1 else 0) ∧ en' = en) (wB (dC, dI) vwCl (wT q) ad n (wA ad n sz)) (wA ad n sz)) 0 0 (wA ad n sz) := by
  refine Met.ofW (cc := cX3_may) (maxL := 3) (ret := (some .boolean)) (by decide) rfl ?_
  intro p e s m args below meth c s₁ B hml hv
  obtain ⟨rfl, hsz, hP, hK, hD0, hE0⟩ := hv
  have hx := B.exec
  have hb := B.bytes
  have hr := B.returns
  have hts := atoms_spec (ws := wsX3_may) B.pre
  have hown : s.vm.findClass RX3 = some m.cls := findClass_of_methodNamed B.named
  have hlocks := B.notSynchronized
  have iRX3 : ∀ w ∈ u_ws RX3 TX3 21, w ∈ wsX3_may := by decide +kernel
  subst hsz
  have hw := wk_of hP hK hD0 hE0
  generalize wA ad n s.heap.size = AA at hw ⊢
  have hl := lv_entry ([.ref (ad 42), .int cv, .int z]) (n := 3) (Nat.le_of_ble_eq_true rfl)
  rw [lg_entry_eq]
  generalize (lg_sl ([.ref (ad 42), .int cv, .int z]) ++ List.replicate (3 - (lg_sl ([.ref (ad 42), .int cv, .int z])).length) Slot.unset).toArray = ls at hl ⊢
  have hl : lv_has ls 3 [(0, .ref (ad 42)), (1, .int cv), (2, .int z)] := hl
  obtain ⟨ot1, ⟨hFt1, mFt1, tFt1, rFt1, a1t1, a2t1, a3t1, a4t1, hRt1⟩, ⟨oht1, omt1, ott1, orrt1, b1t1, b2t1, b3t1, b4t1, hOt1⟩, ⟨wFt1, sFt1, kFt1, aFt1, fFt1, xFt1, c1t1, c2t1, c3t1, c4t1, c5t1, c6t1, hPlt1⟩, ⟨gFt1, e1t1, hTt1⟩⟩ := id hM
  have hcn := hok.2
  refine lv_iload_n hx hb dX3_may_0 rfl (lv_at hl 1 rfl) ?_
  refine wc_i hw (va_runS (As := [.int cv]) (rest := []) ⟨hx, hb, hml, hown, hts⟩ (kX3_isCall l dC dI q ad en n _ cv) (va_cwS 1 hts gX3_may_X3_isCall rfl rfl rfl (by decide +kernel) ⟨Nat.le_of_ble_eq_true rfl, Nat.le_of_ble_eq_true rfl⟩) (wk_preS hw) rfl rfl hl.1 rfl (lv_room (Nat.le_of_ble_eq_true rfl)) dX3_may_1 ⟨Nat.le_refl _, Nat.le_refl _⟩) (fun r2 en4 H locs hp3 hw => ?_)
  obtain ⟨hr5, hn6⟩ := hp3
  rw [hn6] at hw
  clear hn6
  refine lv_if_eq (tgt := 35) hx hb dX3_may_4 (by decide) (fun c4 => ?_) (fun c4 => ?_)
  · have hcv := z01_f hr5 c4
    refine lv_iconst (v := 0) hx hb dX3_may_35 (by decide) ?_
    refine we_z hx hb hr hlocks hw (Or.inl rfl) ?_ dX3_may_36
    exact ⟨by rw [if_neg (fun h => h (Or.inl hcv))], rfl⟩
  · have hcv := z01_t hr5 c4
    obtain ⟨c1, hc, ecv⟩ := okC_of hcv
    subst ecv
    refine lv_aload_n hx hb dX3_may_7 rfl (lv_at hl 0 rfl) ?_
    refine wr_get (ci := 4) (C := RX3) (T := TX3) (N := 21) hx hb hts iRX3 hown hw 42 (by omega) ot1 rfl 11 (by decide) (hts (.fieldLink RX3 36 "LibraryDeskModel" "wanted" "[I") (by decide +kernel)) (fun _ h9 => h9) rfl dX3_may_8 ?_
    refine lv_iload_n hx hb dX3_may_11 rfl (lv_at hl 1 rfl) ?_
    refine wr_iald (v := (pl c1).1) hx hb hw 51 (by omega) 0 c1t1 rfl (vp_in_nI (by omega) (by decide)) (by rw [(nI_clamp (by omega))]; exact (hPlt1 c1 hc).1) dX3_may_12 ?_
    refine lv_iconst (v := (-1)) hx hb dX3_may_13 (by decide) ?_
    refine lv_icmp_eq (tgt := 31) hx hb dX3_may_14 (by decide) (fun c14 => ?_) (fun c14 => ?_)
    · refine lv_iconst (v := 1) hx hb dX3_may_31 (by decide) ?_
      refine lv_goto (tgt := 36) hx hb dX3_may_32 (by decide) ?_
      refine we_z hx hb hr hlocks hw (Or.inr rfl) ?_ dX3_may_36
      exact ⟨by rw [if_pos (fun h => ((sRef_ok hc).mp h).1 c14)], rfl⟩
    · refine lv_aload_n hx hb dX3_may_17 rfl (lv_at hl 0 rfl) ?_
      refine lv_aload_n hx hb dX3_may_18 rfl (lv_at hl 0 rfl) ?_
      refine wr_get (ci := 4) (C := RX3) (T := TX3) (N := 21) hx hb hts iRX3 hown hw 42 (by omega) ot1 rfl 11 (by decide) (hts (.fieldLink RX3 36 "LibraryDeskModel" "wanted" "[I") (by decide +kernel)) (fun _ h9 => h9) rfl dX3_may_19 ?_
      refine lv_iload_n hx hb dX3_may_22 rfl (lv_at hl 1 rfl) ?_
      refine wr_iald (v := (pl c1).1) hx hb hw 51 (by omega) 0 c1t1 rfl (vp_in_nI (by omega) (by decide)) (by rw [(nI_clamp (by omega))]; exact (hPlt1 c1 hc).1) dX3_may_23 ?_
      refine lv_iload_n hx hb dX3_may_24 rfl (lv_at hl 2 rfl) ?_
      refine wc_i hw (va_runV (As := [.int ((pl c1).1), .int z]) (rest := []) ⟨hx, hb, hml, hown, hts⟩ (kX3_isHere l dC dI q ad en n _ hn58 th A O pl cs an wy pla hok hM ((pl c1).1) z) (cwV 2 hts gX3_may_X3_isHere rfl rfl rfl (by decide +kernel) ⟨Nat.le_of_ble_eq_true rfl, Nat.le_of_ble_eq_true rfl⟩) (wk_preV hw (by omega) ot1 rfl) rfl rfl hl.1 rfl (lv_room (Nat.le_of_ble_eq_true rfl)) dX3_may_25 ⟨Nat.le_refl _, Nat.le_refl _⟩) (fun r7 en9 H locs hp8 hw => ?_)
      obtain ⟨hr10, hn11⟩ := hp8
      rw [hn11] at hw
      clear hn11
      refine lv_if_eq (tgt := 35) hx hb dX3_may_28 (by decide) (fun c28 => ?_) (fun c28 => ?_)
      · have hh := z01_f hr10 c28
        refine lv_iconst (v := 0) hx hb dX3_may_35 (by decide) ?_
        refine we_z hx hb hr hlocks hw (Or.inl rfl) ?_ dX3_may_36
        exact ⟨by rw [if_neg (fun h => h ((sRef_ok hc).mpr ⟨c14, hh⟩))], rfl⟩
      · have hh := z01_t hr10 c28
        refine lv_iconst (v := 1) hx hb dX3_may_31 (by decide) ?_
        refine lv_goto (tgt := 36) hx hb dX3_may_32 (by decide) ?_
        refine we_z hx hb hr hlocks hw (Or.inr rfl) ?_ dX3_may_36
        exact ⟨by rw [if_pos (fun h => ((sRef_ok hc).mp h).2 hh)], rfl⟩

set_option maxHeartbeats 4000000 in
set_option maxRecDepth 100000 in
theorem kX3_done (l : Launch) (dC : Nat → ClassId) (dI : Nat → Nat → Nat) (q : ClassId × ClassId × ClassId × ClassId) (ad : Nat → Nat) (en : Nat → va_E) (n sz : Nat) (hn58 : 58 ≤ n) (th : Int32) (A O : Ast) (pl : Nat → Pst) (cs : Nat → Int32) (an : Int64) (wy pla : Int32) (hok : Aok A) (hM : ModC q ad en th A O pl cs an wy pla) (hokO : Aok O) (c1 : Nat) (hc : c1 < 10) (hpk : Pok (pl c1)) (z : Int32) (a : Int64) :
    Met l yX3_done wsX3_done ({ frames := 4, cells := 0, slots := 0, locals := 90 }) (wPc (dC, dI) vwCl (wT q) ad en n sz [.ref (ad 42), .int (nI c1), .int z, .long a]) (va_Qi (fun (r : Int32) (en' : Nat → va_E) => r = (if (tR (pl c1) z a A).1 = 0 then 1 else 0) ∧ ∃ pla2 : Int32, ModC q ad en' th (if (tR (pl c1) z a A).1 = 0 then (tR (pl c1) z a A).2.2.1 else A) A pl cs (tR (pl c1) z a A).2.2.2 (tR (pl c1) z a A).1 pla2 ∧ (¬ (tR (pl c1) z a A).1 = 0 → pla2 = nI (tR (pl c1) z a A).2.1) ∧ ∀ j, (j < 42 ∨ 58 ≤ j) → en' j = en j) (wB (dC, dI) vwCl (wT q) ad n (wA ad n sz)) (wA ad n sz)) 0 0 (wA ad n sz) := by
  refine Met.ofW (cc := cX3_done) (maxL := 6) (ret := (some .boolean)) (by decide) rfl ?_
  intro p e s m args below meth c s₁ B hml hv
  obtain ⟨rfl, hsz, hP, hK, hD0, hE0⟩ := hv
  have hx := B.exec
  have hb := B.bytes
  have hr := B.returns
  have hts := atoms_spec (ws := wsX3_done) B.pre
  have hown : s.vm.findClass RX3 = some m.cls := findClass_of_methodNamed B.named
  have hlocks := B.notSynchronized
  have iRX3 : ∀ w ∈ u_ws RX3 TX3 21, w ∈ wsX3_done := by decide +kernel
  subst hsz
  have hw := wk_of hP hK hD0 hE0
  generalize wA ad n s.heap.size = AA at hw ⊢
  have hl := lv_entry ([.ref (ad 42), .int (nI c1), .int z, .long a]) (n := 6) (Nat.le_of_ble_eq_true rfl)
  rw [lg_entry_eq]
  generalize (lg_sl ([.ref (ad 42), .int (nI c1), .int z, .long a]) ++ List.replicate (6 - (lg_sl ([.ref (ad 42), .int (nI c1), .int z, .long a])).length) Slot.unset).toArray = ls at hl ⊢
  have hl : lv_has ls 6 [(0, .ref (ad 42)), (1, .int (nI c1)), (2, .int z), (3, .long a)] := hl
  obtain ⟨ot1, ⟨hFt1, mFt1, tFt1, rFt1, a1t1, a2t1, a3t1, a4t1, hRt1⟩, ⟨oht1, omt1, ott1, orrt1, b1t1, b2t1, b3t1, b4t1, hOt1⟩, ⟨wFt1, sFt1, kFt1, aFt1, fFt1, xFt1, c1t1, c2t1, c3t1, c4t1, c5t1, c6t1, hPlt1⟩, ⟨gFt1, e1t1, hTt1⟩⟩ := id hM
  have hcn := hok.2
  refine lv_aload_n hx hb dX3_done_0 rfl (lv_at hl 0 rfl) ?_
  refine wc_v hw (va_runV (As := []) (rest := []) ⟨hx, hb, hml, hown, hts⟩ (kX3_keep l dC dI q ad en n _ hn58 th A O pl cs an wy pla hok hM hokO) (cwV 0 hts gX3_done_X3_keep rfl rfl rfl (by decide +kernel) ⟨Nat.le_of_ble_eq_true rfl, Nat.le_of_ble_eq_true rfl⟩) (wk_preV hw (by omega) ot1 rfl) rfl rfl hl.1 rfl (lv_room (Nat.le_of_ble_eq_true rfl)) dX3_done_1 ⟨Nat.le_refl _, Nat.le_refl _⟩) (fun en4 H locs hp3 hw => ?_)
  obtain ⟨hM1, hfr1⟩ := hp3
  obtain ⟨ot5, ⟨hFt5, mFt5, tFt5, rFt5, a1t5, a2t5, a3t5, a4t5, hRt5⟩, ⟨oht5, omt5, ott5, orrt5, b1t5, b2t5, b3t5, b4t5, hOt5⟩, ⟨wFt5, sFt5, kFt5, aFt5, fFt5, xFt5, c1t5, c2t5, c3t5, c4t5, c5t5, c6t5, hPlt5⟩, ⟨gFt5, e1t5, hTt5⟩⟩ := id hM1
  refine lv_aload_n hx hb dX3_done_4 rfl (lv_at hl 0 rfl) ?_
  refine lv_lload_n hx hb dX3_done_5 rfl (lv_at hl 3 rfl) ?_
  refine wr_put (ci := 4) (v := .long a) (ty := .long) (C := RX3) (T := TX3) (N := 21) hx hb hts iRX3 tyX3 tyX3_ok nmX3 hown hw 42 (by omega) ot5 rfl 18 (by decide) (hts (.fieldLink RX3 94 "LibraryDeskModel" "answer" "J") (by decide +kernel)) (fun _ h9 => h9) rfl (by decide +kernel) rfl rfl (Nat.le_of_ble_eq_true rfl) dX3_done_6 (fun en7 H locs hE6 hw => ?_)
  have he8 : en7 42 = .inr (4, [.int th, .ref (ad 43), .ref (ad 44), .ref (ad 45), .ref (ad 46), .int (nI (aCn A)), .ref (ad 47), .ref (ad 48), .ref (ad 49), .ref (ad 50), .int (nI (aCn A)), .ref (ad 51), .ref (ad 52), .ref (ad 53), .ref (ad 54), .ref (ad 55), .ref (ad 56), .ref (ad 57), .long a, .int wy, .int pla]) := w_self hE6
  have he9 : en7 43 = .inl (q.2.2.1, 328, .inl hFt5) := w_ne hE6 (by omega) a1t5
  have he10 : en7 44 = .inl (q.1, 8, .inl mFt5) := w_ne hE6 (by omega) a2t5
  have he11 : en7 45 = .inl (q.2.1, 8, .inr (.inl tFt5)) := w_ne hE6 (by omega) a3t5
  have he12 : en7 46 = .inl (q.2.1, 20, .inr (.inl rFt5)) := w_ne hE6 (by omega) a4t5
  have he13 : en7 47 = .inl (q.2.2.1, 328, .inl oht5) := w_ne hE6 (by omega) b1t5
  have he14 : en7 48 = .inl (q.1, 8, .inl omt5) := w_ne hE6 (by omega) b2t5
  have he15 : en7 49 = .inl (q.2.1, 8, .inr (.inl ott5)) := w_ne hE6 (by omega) b3t5
  have he16 : en7 50 = .inl (q.2.1, 20, .inr (.inl orrt5)) := w_ne hE6 (by omega) b4t5
  have he17 : en7 51 = .inl (q.1, 10, .inl wFt5) := w_ne hE6 (by omega) c1t5
  have he18 : en7 52 = .inl (q.1, 60, .inl sFt5) := w_ne hE6 (by omega) c2t5
  have he19 : en7 53 = .inl (q.1, 60, .inl kFt5) := w_ne hE6 (by omega) c3t5
  have he20 : en7 54 = .inl (q.1, 10, .inl aFt5) := w_ne hE6 (by omega) c4t5
  have he21 : en7 55 = .inl (q.1, 10, .inl fFt5) := w_ne hE6 (by omega) c5t5
  have he22 : en7 56 = .inl (q.1, 10, .inl xFt5) := w_ne hE6 (by omega) c6t5
  have he23 : en7 57 = .inl (q.1, 7, .inl gFt5) := w_ne hE6 (by omega) e1t5
  refine lv_aload_n hx hb dX3_done_9 rfl (lv_at hl 0 rfl) ?_
  refine lv_iconst (v := 0) hx hb dX3_done_10 (by decide) ?_
  refine wr_put (ci := 4) (v := .int 0) (ty := .int) (C := RX3) (T := TX3) (N := 21) hx hb hts iRX3 tyX3 tyX3_ok nmX3 hown hw 42 (by omega) he8 rfl 19 (by decide) (hts (.fieldLink RX3 104 "LibraryDeskModel" "why" "I") (by decide +kernel)) (fun _ h9 => h9) rfl (by decide +kernel) rfl rfl (Nat.le_of_ble_eq_true rfl) dX3_done_11 (fun en25 H locs hE24 hw => ?_)
  have he26 : en25 42 = .inr (4, [.int th, .ref (ad 43), .ref (ad 44), .ref (ad 45), .ref (ad 46), .int (nI (aCn A)), .ref (ad 47), .ref (ad 48), .ref (ad 49), .ref (ad 50), .int (nI (aCn A)), .ref (ad 51), .ref (ad 52), .ref (ad 53), .ref (ad 54), .ref (ad 55), .ref (ad 56), .ref (ad 57), .long a, .int 0, .int pla]) := w_self hE24
  have he27 : en25 43 = .inl (q.2.2.1, 328, .inl hFt5) := w_ne hE24 (by omega) he9
  have he28 : en25 44 = .inl (q.1, 8, .inl mFt5) := w_ne hE24 (by omega) he10
  have he29 : en25 45 = .inl (q.2.1, 8, .inr (.inl tFt5)) := w_ne hE24 (by omega) he11
  have he30 : en25 46 = .inl (q.2.1, 20, .inr (.inl rFt5)) := w_ne hE24 (by omega) he12
  have he31 : en25 47 = .inl (q.2.2.1, 328, .inl oht5) := w_ne hE24 (by omega) he13
  have he32 : en25 48 = .inl (q.1, 8, .inl omt5) := w_ne hE24 (by omega) he14
  have he33 : en25 49 = .inl (q.2.1, 8, .inr (.inl ott5)) := w_ne hE24 (by omega) he15
  have he34 : en25 50 = .inl (q.2.1, 20, .inr (.inl orrt5)) := w_ne hE24 (by omega) he16
  have he35 : en25 51 = .inl (q.1, 10, .inl wFt5) := w_ne hE24 (by omega) he17
  have he36 : en25 52 = .inl (q.1, 60, .inl sFt5) := w_ne hE24 (by omega) he18
  have he37 : en25 53 = .inl (q.1, 60, .inl kFt5) := w_ne hE24 (by omega) he19
  have he38 : en25 54 = .inl (q.1, 10, .inl aFt5) := w_ne hE24 (by omega) he20
  have he39 : en25 55 = .inl (q.1, 10, .inl fFt5) := w_ne hE24 (by omega) he21
  have he40 : en25 56 = .inl (q.1, 10, .inl xFt5) := w_ne hE24 (by omega) he22
  have he41 : en25 57 = .inl (q.1, 7, .inl gFt5) := w_ne hE24 (by omega) he23
  refine lv_iconst (v := 0) hx hb dX3_done_14 (by decide) ?_
  refine lv_istore (lv' := [(5, .int 0), (0, .ref (ad 42)), (1, .int (nI c1)), (2, .int z), (3, .long a)]) hx hb dX3_done_15 hl (by decide) rfl (fun ls hl => ?_)
  have hM2 : ModC q ad en25 th A A pl cs a 0 pla := ⟨he26, ⟨_, _, _, _, he27, he28, he29, he30, hRt5⟩, ⟨_, _, _, _, he31, he32, he33, he34, hOt5⟩, ⟨_, _, _, _, _, _, he35, he36, he37, he38, he39, he40, hPlt5⟩, ⟨_, he41, hTt5⟩⟩
  have keyF : ∀ (i : Nat) (en1 : Nat → va_E) (Zi : Ast) (xi : Int64) (w1 : Int32) (pp : Nat), Aok Zi → ModC q ad en1 th Zi A pl cs xi w1 (nI pp) → ¬ w1 = 0 → (tR (pl c1) z a A) = (w1, pp, Zi, xi) → (∀ j, (j < 42 ∨ 58 ≤ j) → en1 j = en j) → ∀ (H : Heap) (locs : List Loc), wk (dC, dI) vwCl (wT q) ad en1 n AA s H locs → ∀ ls : Array Slot, lv_has ls 6 [(5, .int (nI i)), (0, .ref (ad 42)), (1, .int (nI c1)), (2, .int z), (3, .long a)] → W p l e (headSpec wsX3_done ({ frames := 4, cells := 0, slots := 0, locals := 90 })).room s m ([.ref (ad 42), .int (nI c1), .int z, .long a].toArray) below meth c H locs 0 0 (MQ below (va_Qi (fun (r : Int32) (en' : Nat → va_E) => r = (if (tR (pl c1) z a A).1 = 0 then 1 else 0) ∧ ∃ pla2 : Int32, ModC q ad en' th (if (tR (pl c1) z a A).1 = 0 then (tR (pl c1) z a A).2.2.1 else A) A pl cs (tR (pl c1) z a A).2.2.2 (tR (pl c1) z a A).1 pla2 ∧ (¬ (tR (pl c1) z a A).1 = 0 → pla2 = nI (tR (pl c1) z a A).2.1) ∧ ∀ j, (j < 42 ∨ 58 ≤ j) → en' j = en j) (wB (dC, dI) vwCl (wT q) ad n AA) AA) ([.ref (ad 42), .int (nI c1), .int z, .long a].toArray) s 0 0 AA) (F0 m 17 ls []) := by
    intro i en1 Zi xi w1 pp hokZ hMf hw1 hres hfr H locs hw ls hl
    have hpk6 := hpk.1
    obtain ⟨ot42, ⟨hFt42, mFt42, tFt42, rFt42, a1t42, a2t42, a3t42, a4t42, hRt42⟩, ⟨oht42, omt42, ott42, orrt42, b1t42, b2t42, b3t42, b4t42, hOt42⟩, ⟨wFt42, sFt42, kFt42, aFt42, fFt42, xFt42, c1t42, c2t42, c3t42, c4t42, c5t42, c6t42, hPlt42⟩, ⟨gFt42, e1t42, hTt42⟩⟩ := id hMf
    refine lv_iload hx hb dX3_done_17 (lv_at hl 0 rfl) ?_
    refine lv_aload_n hx hb dX3_done_19 rfl (lv_at hl 1 rfl) ?_
    refine wr_get (ci := 4) (C := RX3) (T := TX3) (N := 21) hx hb hts iRX3 hown hw 42 (by omega) ot42 rfl 14 (by decide) (hts (.fieldLink RX3 45 "LibraryDeskModel" "acts" "[I") (by decide +kernel)) (fun _ h9 => h9) rfl dX3_done_20 ?_
    refine lv_iload_n hx hb dX3_done_23 rfl (lv_at hl 2 rfl) ?_
    refine wr_iald (v := nI (pl c1).2.1) hx hb hw 54 (by omega) 0 c4t42 rfl (vp_in_nI (by omega) (by decide)) (by rw [(nI_clamp (by omega))]; exact (hPlt42 c1 hc).2.1) dX3_done_24 ?_
    refine lv_icmp_ge (tgt := 80) hx hb dX3_done_25 (by decide) (fun c25 => ?_) (fun c25 => ?_)
    · refine lv_aload_n hx hb dX3_done_80 rfl (lv_at hl 1 rfl) ?_
      refine wr_get (ci := 4) (C := RX3) (T := TX3) (N := 21) hx hb hts iRX3 hown hw 42 (by omega) ot42 rfl 19 (by decide) (hts (.fieldLink RX3 104 "LibraryDeskModel" "why" "I") (by decide +kernel)) (fun _ h9 => h9) rfl dX3_done_81 ?_
      refine lv_if_eq (tgt := 91) hx hb dX3_done_84 (by decide) (fun c84 => ?_) (fun c84 => ?_)
      · exact absurd c84 hw1
      · refine lv_aload_n hx hb dX3_done_87 rfl (lv_at hl 1 rfl) ?_
        refine wc_v hw (va_runV (As := []) (rest := []) ⟨hx, hb, hml, hown, hts⟩ (kX3_restore l dC dI q ad en1 n _ hn58 th Zi A pl cs xi w1 (nI pp) hokZ hMf hok) (cwV 0 hts gX3_done_X3_restore rfl rfl rfl (by decide +kernel) ⟨Nat.le_of_ble_eq_true rfl, Nat.le_of_ble_eq_true rfl⟩) (wk_preV hw (by omega) ot42 rfl) rfl rfl hl.1 rfl (lv_room (Nat.le_of_ble_eq_true rfl)) dX3_done_88 ⟨Nat.le_refl _, Nat.le_refl _⟩) (fun en45 H locs hp44 hw => ?_)
        obtain ⟨hM6, hfr6⟩ := hp44
        obtain ⟨ot46, ⟨hFt46, mFt46, tFt46, rFt46, a1t46, a2t46, a3t46, a4t46, hRt46⟩, ⟨oht46, omt46, ott46, orrt46, b1t46, b2t46, b3t46, b4t46, hOt46⟩, ⟨wFt46, sFt46, kFt46, aFt46, fFt46, xFt46, c1t46, c2t46, c3t46, c4t46, c5t46, c6t46, hPlt46⟩, ⟨gFt46, e1t46, hTt46⟩⟩ := id hM6
        refine lv_aload_n hx hb dX3_done_91 rfl (lv_at hl 1 rfl) ?_
        refine wr_get (ci := 4) (C := RX3) (T := TX3) (N := 21) hx hb hts iRX3 hown hw 42 (by omega) ot46 rfl 19 (by decide) (hts (.fieldLink RX3 104 "LibraryDeskModel" "why" "I") (by decide +kernel)) (fun _ h9 => h9) rfl dX3_done_92 ?_
        refine lv_if_ne (tgt := 102) hx hb dX3_done_95 (by decide) (fun c95 => ?_) (fun c95 => ?_)
        · refine lv_iconst (v := 0) hx hb dX3_done_102 (by decide) ?_
          refine we_z hx hb hr hlocks hw (Or.inl rfl) ?_ dX3_done_103
          rw [hres, if_neg (show ¬ (w1, pp, Zi, xi).1 = 0 from hw1), if_neg (show ¬ (w1, pp, Zi, xi).1 = 0 from hw1)]
          exact ⟨rfl, nI pp, hM6, fun _ => rfl, fun j hj => (hfr6 j hj).trans (hfr j hj)⟩
        · exact absurd c95 hw1
    · refine lv_aload_n hx hb dX3_done_28 rfl (lv_at hl 1 rfl) ?_
      refine wr_get (ci := 4) (C := RX3) (T := TX3) (N := 21) hx hb hts iRX3 hown hw 42 (by omega) ot42 rfl 19 (by decide) (hts (.fieldLink RX3 104 "LibraryDeskModel" "why" "I") (by decide +kernel)) (fun _ h9 => h9) rfl dX3_done_29 ?_
      refine lv_if_ne (tgt := 80) hx hb dX3_done_32 (by decide) (fun c32 => ?_) (fun c32 => ?_)
      · refine lv_aload_n hx hb dX3_done_80 rfl (lv_at hl 1 rfl) ?_
        refine wr_get (ci := 4) (C := RX3) (T := TX3) (N := 21) hx hb hts iRX3 hown hw 42 (by omega) ot42 rfl 19 (by decide) (hts (.fieldLink RX3 104 "LibraryDeskModel" "why" "I") (by decide +kernel)) (fun _ h9 => h9) rfl dX3_done_81 ?_
        refine lv_if_eq (tgt := 91) hx hb dX3_done_84 (by decide) (fun c84 => ?_) (fun c84 => ?_)
        · exact absurd c84 hw1
        · refine lv_aload_n hx hb dX3_done_87 rfl (lv_at hl 1 rfl) ?_
          refine wc_v hw (va_runV (As := []) (rest := []) ⟨hx, hb, hml, hown, hts⟩ (kX3_restore l dC dI q ad en1 n _ hn58 th Zi A pl cs xi w1 (nI pp) hokZ hMf hok) (cwV 0 hts gX3_done_X3_restore rfl rfl rfl (by decide +kernel) ⟨Nat.le_of_ble_eq_true rfl, Nat.le_of_ble_eq_true rfl⟩) (wk_preV hw (by omega) ot42 rfl) rfl rfl hl.1 rfl (lv_room (Nat.le_of_ble_eq_true rfl)) dX3_done_88 ⟨Nat.le_refl _, Nat.le_refl _⟩) (fun en49 H locs hp48 hw => ?_)
          obtain ⟨hM6, hfr6⟩ := hp48
          obtain ⟨ot50, ⟨hFt50, mFt50, tFt50, rFt50, a1t50, a2t50, a3t50, a4t50, hRt50⟩, ⟨oht50, omt50, ott50, orrt50, b1t50, b2t50, b3t50, b4t50, hOt50⟩, ⟨wFt50, sFt50, kFt50, aFt50, fFt50, xFt50, c1t50, c2t50, c3t50, c4t50, c5t50, c6t50, hPlt50⟩, ⟨gFt50, e1t50, hTt50⟩⟩ := id hM6
          refine lv_aload_n hx hb dX3_done_91 rfl (lv_at hl 1 rfl) ?_
          refine wr_get (ci := 4) (C := RX3) (T := TX3) (N := 21) hx hb hts iRX3 hown hw 42 (by omega) ot50 rfl 19 (by decide) (hts (.fieldLink RX3 104 "LibraryDeskModel" "why" "I") (by decide +kernel)) (fun _ h9 => h9) rfl dX3_done_92 ?_
          refine lv_if_ne (tgt := 102) hx hb dX3_done_95 (by decide) (fun c95 => ?_) (fun c95 => ?_)
          · refine lv_iconst (v := 0) hx hb dX3_done_102 (by decide) ?_
            refine we_z hx hb hr hlocks hw (Or.inl rfl) ?_ dX3_done_103
            rw [hres, if_neg (show ¬ (w1, pp, Zi, xi).1 = 0 from hw1), if_neg (show ¬ (w1, pp, Zi, xi).1 = 0 from hw1)]
            exact ⟨rfl, nI pp, hM6, fun _ => rfl, fun j hj => (hfr6 j hj).trans (hfr j hj)⟩
          · exact absurd c95 hw1
      · exact absurd c32 hw1
  have key : ∀ (f i : Nat), i + f = (pl c1).2.1 → ∀ (en1 : Nat → va_E) (Zi : Ast) (xi : Int64) (pla1 : Int32), Aok Zi → ModC q ad en1 th Zi A pl cs xi 0 pla1 → aRun (pl c1) z a f i Zi xi = (tR (pl c1) z a A) → (∀ j, (j < 42 ∨ 58 ≤ j) → en1 j = en j) → ∀ (H : Heap) (locs : List Loc), wk (dC, dI) vwCl (wT q) ad en1 n AA s H locs → ∀ ls : Array Slot, lv_has ls 6 [(5, .int (nI i)), (0, .ref (ad 42)), (1, .int (nI c1)), (2, .int z), (3, .long a)] → W p l e (headSpec wsX3_done ({ frames := 4, cells := 0, slots := 0, locals := 90 })).room s m ([.ref (ad 42), .int (nI c1), .int z, .long a].toArray) below meth c H locs 0 0 (MQ below (va_Qi (fun (r : Int32) (en' : Nat → va_E) => r = (if (tR (pl c1) z a A).1 = 0 then 1 else 0) ∧ ∃ pla2 : Int32, ModC q ad en' th (if (tR (pl c1) z a A).1 = 0 then (tR (pl c1) z a A).2.2.1 else A) A pl cs (tR (pl c1) z a A).2.2.2 (tR (pl c1) z a A).1 pla2 ∧ (¬ (tR (pl c1) z a A).1 = 0 → pla2 = nI (tR (pl c1) z a A).2.1) ∧ ∀ j, (j < 42 ∨ 58 ≤ j) → en' j = en j) (wB (dC, dI) vwCl (wT q) ad n AA) AA) ([.ref (ad 42), .int (nI c1), .int z, .long a].toArray) s 0 0 AA) (F0 m 17 ls []) := by
    intro f
    induction f with
    | zero =>
      intro i hif en1 Zi xi pla1 hokZ hMf hres hfr H locs hw ls hl
      have hpk6 := hpk.1
      have hi6 : i ≤ 6 := by omega
      obtain ⟨ot51, ⟨hFt51, mFt51, tFt51, rFt51, a1t51, a2t51, a3t51, a4t51, hRt51⟩, ⟨oht51, omt51, ott51, orrt51, b1t51, b2t51, b3t51, b4t51, hOt51⟩, ⟨wFt51, sFt51, kFt51, aFt51, fFt51, xFt51, c1t51, c2t51, c3t51, c4t51, c5t51, c6t51, hPlt51⟩, ⟨gFt51, e1t51, hTt51⟩⟩ := id hMf
      refine lv_iload hx hb dX3_done_17 (lv_at hl 0 rfl) ?_
      refine lv_aload_n hx hb dX3_done_19 rfl (lv_at hl 1 rfl) ?_
      refine wr_get (ci := 4) (C := RX3) (T := TX3) (N := 21) hx hb hts iRX3 hown hw 42 (by omega) ot51 rfl 14 (by decide) (hts (.fieldLink RX3 45 "LibraryDeskModel" "acts" "[I") (by decide +kernel)) (fun _ h9 => h9) rfl dX3_done_20 ?_
      refine lv_iload_n hx hb dX3_done_23 rfl (lv_at hl 2 rfl) ?_
      refine wr_iald (v := nI (pl c1).2.1) hx hb hw 54 (by omega) 0 c4t51 rfl (vp_in_nI (by omega) (by decide)) (by rw [(nI_clamp (by omega))]; exact (hPlt51 c1 hc).2.1) dX3_done_24 ?_
      refine lv_icmp_ge (tgt := 80) hx hb dX3_done_25 (by decide) (fun c25 => ?_) (fun c25 => ?_)
      · refine lv_aload_n hx hb dX3_done_80 rfl (lv_at hl 1 rfl) ?_
        refine wr_get (ci := 4) (C := RX3) (T := TX3) (N := 21) hx hb hts iRX3 hown hw 42 (by omega) ot51 rfl 19 (by decide) (hts (.fieldLink RX3 104 "LibraryDeskModel" "why" "I") (by decide +kernel)) (fun _ h9 => h9) rfl dX3_done_81 ?_
        refine lv_if_eq (tgt := 91) hx hb dX3_done_84 (by decide) (fun c84 => ?_) (fun c84 => ?_)
        · refine lv_aload_n hx hb dX3_done_91 rfl (lv_at hl 1 rfl) ?_
          refine wr_get (ci := 4) (C := RX3) (T := TX3) (N := 21) hx hb hts iRX3 hown hw 42 (by omega) ot51 rfl 19 (by decide) (hts (.fieldLink RX3 104 "LibraryDeskModel" "why" "I") (by decide +kernel)) (fun _ h9 => h9) rfl dX3_done_92 ?_
          refine lv_if_ne (tgt := 102) hx hb dX3_done_95 (by decide) (fun c95 => ?_) (fun c95 => ?_)
          · exact absurd rfl c95
          · refine lv_iconst (v := 1) hx hb dX3_done_98 (by decide) ?_
            refine lv_goto (tgt := 103) hx hb dX3_done_99 (by decide) ?_
            refine we_z hx hb hr hlocks hw (Or.inr rfl) ?_ dX3_done_103
            have hres : (0, i, Zi, xi) = (tR (pl c1) z a A) := hres
            rw [← hres]
            exact ⟨rfl, pla1, hMf, fun h => absurd rfl h, fun j hj => hfr j hj⟩
        · exact absurd rfl c84
      · exact absurd (nI_le (by omega) (by omega)) c25
    | succ f ih =>
      intro i hif en1 Zi xi pla1 hokZ hMf hres hfr H locs hw ls hl
      have hpk6 := hpk.1
      have hi6 : i ≤ 6 := by omega
      obtain ⟨ot52, ⟨hFt52, mFt52, tFt52, rFt52, a1t52, a2t52, a3t52, a4t52, hRt52⟩, ⟨oht52, omt52, ott52, orrt52, b1t52, b2t52, b3t52, b4t52, hOt52⟩, ⟨wFt52, sFt52, kFt52, aFt52, fFt52, xFt52, c1t52, c2t52, c3t52, c4t52, c5t52, c6t52, hPlt52⟩, ⟨gFt52, e1t52, hTt52⟩⟩ := id hMf
      refine lv_iload hx hb dX3_done_17 (lv_at hl 0 rfl) ?_
      refine lv_aload_n hx hb dX3_done_19 rfl (lv_at hl 1 rfl) ?_
      refine wr_get (ci := 4) (C := RX3) (T := TX3) (N := 21) hx hb hts iRX3 hown hw 42 (by omega) ot52 rfl 14 (by decide) (hts (.fieldLink RX3 45 "LibraryDeskModel" "acts" "[I") (by decide +kernel)) (fun _ h9 => h9) rfl dX3_done_20 ?_
      refine lv_iload_n hx hb dX3_done_23 rfl (lv_at hl 2 rfl) ?_
      refine wr_iald (v := nI (pl c1).2.1) hx hb hw 54 (by omega) 0 c4t52 rfl (vp_in_nI (by omega) (by decide)) (by rw [(nI_clamp (by omega))]; exact (hPlt52 c1 hc).2.1) dX3_done_24 ?_
      refine lv_icmp_ge (tgt := 80) hx hb dX3_done_25 (by decide) (fun c25 => ?_) (fun c25 => ?_)
      · exact absurd ((nI_leI (by omega) (by omega)).mp c25) (by omega)
      · refine lv_aload_n hx hb dX3_done_28 rfl (lv_at hl 1 rfl) ?_
        refine wr_get (ci := 4) (C := RX3) (T := TX3) (N := 21) hx hb hts iRX3 hown hw 42 (by omega) ot52 rfl 19 (by decide) (hts (.fieldLink RX3 104 "LibraryDeskModel" "why" "I") (by decide +kernel)) (fun _ h9 => h9) rfl dX3_done_29 ?_
        refine lv_if_ne (tgt := 80) hx hb dX3_done_32 (by decide) (fun c32 => ?_) (fun c32 => ?_)
        · exact absurd rfl c32
        · refine lv_aload_n hx hb dX3_done_35 rfl (lv_at hl 1 rfl) ?_
          refine lv_iload hx hb dX3_done_36 (lv_at hl 0 rfl) ?_
          refine wr_put (ci := 4) (v := .int (nI i)) (ty := .int) (C := RX3) (T := TX3) (N := 21) hx hb hts iRX3 tyX3 tyX3_ok nmX3 hown hw 42 (by omega) ot52 rfl 20 (by decide) (hts (.fieldLink RX3 107 "LibraryDeskModel" "place" "I") (by decide +kernel)) (fun _ h9 => h9) rfl (by decide +kernel) rfl rfl (Nat.le_of_ble_eq_true rfl) dX3_done_38 (fun en54 H locs hE53 hw => ?_)
          have he55 : en54 42 = .inr (4, [.int th, .ref (ad 43), .ref (ad 44), .ref (ad 45), .ref (ad 46), .int (nI (aCn Zi)), .ref (ad 47), .ref (ad 48), .ref (ad 49), .ref (ad 50), .int (nI (aCn A)), .ref (ad 51), .ref (ad 52), .ref (ad 53), .ref (ad 54), .ref (ad 55), .ref (ad 56), .ref (ad 57), .long xi, .int 0, .int (nI i)]) := w_self hE53
          have he56 : en54 43 = .inl (q.2.2.1, 328, .inl hFt52) := w_ne hE53 (by omega) a1t52
          have he57 : en54 44 = .inl (q.1, 8, .inl mFt52) := w_ne hE53 (by omega) a2t52
          have he58 : en54 45 = .inl (q.2.1, 8, .inr (.inl tFt52)) := w_ne hE53 (by omega) a3t52
          have he59 : en54 46 = .inl (q.2.1, 20, .inr (.inl rFt52)) := w_ne hE53 (by omega) a4t52
          have he60 : en54 47 = .inl (q.2.2.1, 328, .inl oht52) := w_ne hE53 (by omega) b1t52
          have he61 : en54 48 = .inl (q.1, 8, .inl omt52) := w_ne hE53 (by omega) b2t52
          have he62 : en54 49 = .inl (q.2.1, 8, .inr (.inl ott52)) := w_ne hE53 (by omega) b3t52
          have he63 : en54 50 = .inl (q.2.1, 20, .inr (.inl orrt52)) := w_ne hE53 (by omega) b4t52
          have he64 : en54 51 = .inl (q.1, 10, .inl wFt52) := w_ne hE53 (by omega) c1t52
          have he65 : en54 52 = .inl (q.1, 60, .inl sFt52) := w_ne hE53 (by omega) c2t52
          have he66 : en54 53 = .inl (q.1, 60, .inl kFt52) := w_ne hE53 (by omega) c3t52
          have he67 : en54 54 = .inl (q.1, 10, .inl aFt52) := w_ne hE53 (by omega) c4t52
          have he68 : en54 55 = .inl (q.1, 10, .inl fFt52) := w_ne hE53 (by omega) c5t52
          have he69 : en54 56 = .inl (q.1, 10, .inl xFt52) := w_ne hE53 (by omega) c6t52
          have he70 : en54 57 = .inl (q.1, 7, .inl gFt52) := w_ne hE53 (by omega) e1t52
          have hM3 : ModC q ad en54 th Zi A pl cs xi 0 (nI i) := ⟨he55, ⟨_, _, _, _, he56, he57, he58, he59, hRt52⟩, ⟨_, _, _, _, he60, he61, he62, he63, hOt52⟩, ⟨_, _, _, _, _, _, he64, he65, he66, he67, he68, he69, hPlt52⟩, ⟨_, he70, hTt52⟩⟩
          obtain ⟨ot71, ⟨hFt71, mFt71, tFt71, rFt71, a1t71, a2t71, a3t71, a4t71, hRt71⟩, ⟨oht71, omt71, ott71, orrt71, b1t71, b2t71, b3t71, b4t71, hOt71⟩, ⟨wFt71, sFt71, kFt71, aFt71, fFt71, xFt71, c1t71, c2t71, c3t71, c4t71, c5t71, c6t71, hPlt71⟩, ⟨gFt71, e1t71, hTt71⟩⟩ := id hM3
          refine lv_aload_n hx hb dX3_done_41 rfl (lv_at hl 1 rfl) ?_
          refine lv_aload_n hx hb dX3_done_42 rfl (lv_at hl 1 rfl) ?_
          refine wr_get (ci := 4) (C := RX3) (T := TX3) (N := 21) hx hb hts iRX3 hown hw 42 (by omega) ot71 rfl 15 (by decide) (hts (.fieldLink RX3 48 "LibraryDeskModel" "failsAt" "[I") (by decide +kernel)) (fun _ h9 => h9) rfl dX3_done_43 ?_
          refine lv_iload_n hx hb dX3_done_46 rfl (lv_at hl 2 rfl) ?_
          refine wr_iald (v := (pl c1).2.2.2.2.1) hx hb hw 55 (by omega) 0 c5t71 rfl (vp_in_nI (by omega) (by decide)) (by rw [(nI_clamp (by omega))]; exact (hPlt71 c1 hc).2.2.1) dX3_done_47 ?_
          refine lv_iload hx hb dX3_done_48 (lv_at hl 0 rfl) ?_
          refine lv_icmp_ne (tgt := 62) hx hb dX3_done_50 (by decide) (fun c50 => ?_) (fun c50 => ?_)
          · have htold := c50
            refine lv_aload_n hx hb dX3_done_62 rfl (lv_at hl 1 rfl) ?_
            refine lv_iload_n hx hb dX3_done_63 rfl (lv_at hl 2 rfl) ?_
            refine lv_iload hx hb dX3_done_64 (lv_at hl 0 rfl) ?_
            refine lv_iload_n hx hb dX3_done_66 rfl (lv_at hl 3 rfl) ?_
            refine lv_lload_n hx hb dX3_done_67 rfl (lv_at hl 4 rfl) ?_
            refine wc_i hw (va_runV (As := [.int (nI c1), .int (nI i), .int z, .long a]) (rest := [.ref (ad 42)]) ⟨hx, hb, hml, hown, hts⟩ (kX3_does l dC dI q ad en54 n _ hn58 th Zi A pl cs xi 0 (nI i) hokZ hM3 c1 hc hpk i (by omega) z a) (cwV 4 hts gX3_done_X3_does rfl rfl rfl (by decide +kernel) ⟨Nat.le_of_ble_eq_true rfl, Nat.le_of_ble_eq_true rfl⟩) (wk_preV hw (by omega) ot71 rfl) rfl rfl hl.1 rfl (lv_room (Nat.le_of_ble_eq_true rfl)) dX3_done_68 ⟨Nat.le_refl _, Nat.le_refl _⟩) (fun r72 en74 H locs hp73 hw => ?_)
            obtain ⟨hr1, hM4, hfr4⟩ := hp73
            obtain ⟨ot75, ⟨hFt75, mFt75, tFt75, rFt75, a1t75, a2t75, a3t75, a4t75, hRt75⟩, ⟨oht75, omt75, ott75, orrt75, b1t75, b2t75, b3t75, b4t75, hOt75⟩, ⟨wFt75, sFt75, kFt75, aFt75, fFt75, xFt75, c1t75, c2t75, c3t75, c4t75, c5t75, c6t75, hPlt75⟩, ⟨gFt75, e1t75, hTt75⟩⟩ := id hM4
            refine wr_put (ci := 4) (v := .int r72) (ty := .int) (C := RX3) (T := TX3) (N := 21) hx hb hts iRX3 tyX3 tyX3_ok nmX3 hown hw 42 (by omega) ot75 rfl 19 (by decide) (hts (.fieldLink RX3 104 "LibraryDeskModel" "why" "I") (by decide +kernel)) (fun _ h9 => h9) rfl (by decide +kernel) rfl rfl (Nat.le_of_ble_eq_true rfl) dX3_done_71 (fun en77 H locs hE76 hw => ?_)
            have he78 : en77 42 = .inr (4, [.int th, .ref (ad 43), .ref (ad 44), .ref (ad 45), .ref (ad 46), .int (nI (aCn ((aDo (pl c1) i z a Zi xi).2.1))), .ref (ad 47), .ref (ad 48), .ref (ad 49), .ref (ad 50), .int (nI (aCn A)), .ref (ad 51), .ref (ad 52), .ref (ad 53), .ref (ad 54), .ref (ad 55), .ref (ad 56), .ref (ad 57), .long ((aDo (pl c1) i z a Zi xi).2.2), .int r72, .int (nI i)]) := w_self hE76
            have he79 : en77 43 = .inl (q.2.2.1, 328, .inl hFt75) := w_ne hE76 (by omega) a1t75
            have he80 : en77 44 = .inl (q.1, 8, .inl mFt75) := w_ne hE76 (by omega) a2t75
            have he81 : en77 45 = .inl (q.2.1, 8, .inr (.inl tFt75)) := w_ne hE76 (by omega) a3t75
            have he82 : en77 46 = .inl (q.2.1, 20, .inr (.inl rFt75)) := w_ne hE76 (by omega) a4t75
            have he83 : en77 47 = .inl (q.2.2.1, 328, .inl oht75) := w_ne hE76 (by omega) b1t75
            have he84 : en77 48 = .inl (q.1, 8, .inl omt75) := w_ne hE76 (by omega) b2t75
            have he85 : en77 49 = .inl (q.2.1, 8, .inr (.inl ott75)) := w_ne hE76 (by omega) b3t75
            have he86 : en77 50 = .inl (q.2.1, 20, .inr (.inl orrt75)) := w_ne hE76 (by omega) b4t75
            have he87 : en77 51 = .inl (q.1, 10, .inl wFt75) := w_ne hE76 (by omega) c1t75
            have he88 : en77 52 = .inl (q.1, 60, .inl sFt75) := w_ne hE76 (by omega) c2t75
            have he89 : en77 53 = .inl (q.1, 60, .inl kFt75) := w_ne hE76 (by omega) c3t75
            have he90 : en77 54 = .inl (q.1, 10, .inl aFt75) := w_ne hE76 (by omega) c4t75
            have he91 : en77 55 = .inl (q.1, 10, .inl fFt75) := w_ne hE76 (by omega) c5t75
            have he92 : en77 56 = .inl (q.1, 10, .inl xFt75) := w_ne hE76 (by omega) c6t75
            have he93 : en77 57 = .inl (q.1, 7, .inl gFt75) := w_ne hE76 (by omega) e1t75
            refine lv_iinc (v := nI (i + 1)) (lv' := [(5, .int (nI (i + 1))), (0, .ref (ad 42)), (1, .int (nI c1)), (2, .int z), (3, .long a)]) hx hb dX3_done_74 hl (k := 0) rfl (nI_1 i) (by decide) rfl (fun ls hl => ?_)
            refine lv_goto (tgt := 17) hx hb dX3_done_77 (by decide) ?_
            have hM5 : ModC q ad en77 th (aDo (pl c1) i z a Zi xi).2.1 A pl cs (aDo (pl c1) i z a Zi xi).2.2 r72 (nI i) := ⟨he78, ⟨_, _, _, _, he79, he80, he81, he82, hRt75⟩, ⟨_, _, _, _, he83, he84, he85, he86, hOt75⟩, ⟨_, _, _, _, _, _, he87, he88, he89, he90, he91, he92, hPlt75⟩, ⟨_, he93, hTt75⟩⟩
            by_cases hz : r72 = 0
            · have hz2 : (aDo (pl c1) i z a Zi xi).1 = 0 := hr1.symm.trans hz
              rw [aRun_s (by exact htold) hz2] at hres
              rw [hz] at hM5
              exact ih (i + 1) (by omega) _ _ _ _ (Aok_do hokZ) hM5 hres (fun j hj => (w_fr hE76 (by omega)).trans ((hfr4 j hj).trans ((w_fr hE53 (by omega)).trans (hfr j hj)))) _ _ hw ls (lv_sub hl [0, 1, 2, 3, 4] rfl)
            · have hz2 : ¬ (aDo (pl c1) i z a Zi xi).1 = 0 := fun h => hz (hr1.trans h)
              rw [aRun_f (by exact htold) hz2, ← hr1] at hres
              exact keyF (i + 1) _ _ _ _ i (Aok_do hokZ) hM5 hz hres.symm (fun j hj => (w_fr hE76 (by omega)).trans ((hfr4 j hj).trans ((w_fr hE53 (by omega)).trans (hfr j hj)))) _ _ hw ls (lv_sub hl [0, 1, 2, 3, 4] rfl)
          · have htold := c50
            have htw : ¬ (pl c1).2.2.2.2.2 = 0 := told_ne hpk htold (by omega)
            have hres2 : (tR (pl c1) z a A) = ((pl c1).2.2.2.2.2, i, Zi, xi) := by rw [← hres]; exact aRun_t htold
            refine lv_aload_n hx hb dX3_done_53 rfl (lv_at hl 1 rfl) ?_
            refine wr_get (ci := 4) (C := RX3) (T := TX3) (N := 21) hx hb hts iRX3 hown hw 42 (by omega) ot71 rfl 16 (by decide) (hts (.fieldLink RX3 51 "LibraryDeskModel" "failsWith" "[I") (by decide +kernel)) (fun _ h9 => h9) rfl dX3_done_54 ?_
            refine lv_iload_n hx hb dX3_done_57 rfl (lv_at hl 2 rfl) ?_
            refine wr_iald (v := (pl c1).2.2.2.2.2) hx hb hw 56 (by omega) 0 c6t71 rfl (vp_in_nI (by omega) (by decide)) (by rw [(nI_clamp (by omega))]; exact (hPlt71 c1 hc).2.2.2.1) dX3_done_58 ?_
            refine lv_goto (tgt := 71) hx hb dX3_done_59 (by decide) ?_
            refine wr_put (ci := 4) (v := .int ((pl c1).2.2.2.2.2)) (ty := .int) (C := RX3) (T := TX3) (N := 21) hx hb hts iRX3 tyX3 tyX3_ok nmX3 hown hw 42 (by omega) ot71 rfl 19 (by decide) (hts (.fieldLink RX3 104 "LibraryDeskModel" "why" "I") (by decide +kernel)) (fun _ h9 => h9) rfl (by decide +kernel) rfl rfl (Nat.le_of_ble_eq_true rfl) dX3_done_71 (fun en95 H locs hE94 hw => ?_)
            have he96 : en95 42 = .inr (4, [.int th, .ref (ad 43), .ref (ad 44), .ref (ad 45), .ref (ad 46), .int (nI (aCn Zi)), .ref (ad 47), .ref (ad 48), .ref (ad 49), .ref (ad 50), .int (nI (aCn A)), .ref (ad 51), .ref (ad 52), .ref (ad 53), .ref (ad 54), .ref (ad 55), .ref (ad 56), .ref (ad 57), .long xi, .int ((pl c1).2.2.2.2.2), .int (nI i)]) := w_self hE94
            have he97 : en95 43 = .inl (q.2.2.1, 328, .inl hFt71) := w_ne hE94 (by omega) a1t71
            have he98 : en95 44 = .inl (q.1, 8, .inl mFt71) := w_ne hE94 (by omega) a2t71
            have he99 : en95 45 = .inl (q.2.1, 8, .inr (.inl tFt71)) := w_ne hE94 (by omega) a3t71
            have he100 : en95 46 = .inl (q.2.1, 20, .inr (.inl rFt71)) := w_ne hE94 (by omega) a4t71
            have he101 : en95 47 = .inl (q.2.2.1, 328, .inl oht71) := w_ne hE94 (by omega) b1t71
            have he102 : en95 48 = .inl (q.1, 8, .inl omt71) := w_ne hE94 (by omega) b2t71
            have he103 : en95 49 = .inl (q.2.1, 8, .inr (.inl ott71)) := w_ne hE94 (by omega) b3t71
            have he104 : en95 50 = .inl (q.2.1, 20, .inr (.inl orrt71)) := w_ne hE94 (by omega) b4t71
            have he105 : en95 51 = .inl (q.1, 10, .inl wFt71) := w_ne hE94 (by omega) c1t71
            have he106 : en95 52 = .inl (q.1, 60, .inl sFt71) := w_ne hE94 (by omega) c2t71
            have he107 : en95 53 = .inl (q.1, 60, .inl kFt71) := w_ne hE94 (by omega) c3t71
            have he108 : en95 54 = .inl (q.1, 10, .inl aFt71) := w_ne hE94 (by omega) c4t71
            have he109 : en95 55 = .inl (q.1, 10, .inl fFt71) := w_ne hE94 (by omega) c5t71
            have he110 : en95 56 = .inl (q.1, 10, .inl xFt71) := w_ne hE94 (by omega) c6t71
            have he111 : en95 57 = .inl (q.1, 7, .inl gFt71) := w_ne hE94 (by omega) e1t71
            refine lv_iinc (v := nI (i + 1)) (lv' := [(5, .int (nI (i + 1))), (0, .ref (ad 42)), (1, .int (nI c1)), (2, .int z), (3, .long a)]) hx hb dX3_done_74 hl (k := 0) rfl (nI_1 i) (by decide) rfl (fun ls hl => ?_)
            refine lv_goto (tgt := 17) hx hb dX3_done_77 (by decide) ?_
            exact keyF (i + 1) _ Zi xi _ i hokZ ⟨he96, ⟨_, _, _, _, he97, he98, he99, he100, hRt71⟩, ⟨_, _, _, _, he101, he102, he103, he104, hOt71⟩, ⟨_, _, _, _, _, _, he105, he106, he107, he108, he109, he110, hPlt71⟩, ⟨_, he111, hTt71⟩⟩ htw hres2 (fun j hj => (w_fr hE94 (by omega)).trans ((w_fr hE53 (by omega)).trans (hfr j hj))) _ _ hw ls (lv_sub hl [0, 1, 2, 3, 4] rfl)
  exact key _ 0 (by omega) _ A a _ hok hM2 rfl (fun j hj => (w_fr hE24 (by omega)).trans ((w_fr hE6 (by omega)).trans (hfr1 j hj))) _ _ hw ls (lv_sub hl [0, 1, 2, 3, 4] rfl)
end
section
def sRowR (i : Int32) (A : Ast) : Int64 := if 0 ≤ i ∧ i < nI (aCn A) then aRw A i.toNatClampNeg else 0
def sRowT (i : Int32) (A : Ast) : Int32 := if 0 ≤ i ∧ i < nI (aCn A) then 0 else 1
theorem upd_congr7 {gF cs : Nat → Int32} (h : ∀ i, i < 7 → gF i = cs i) (k : Nat) (x : Int32) : ∀ i, i < 7 → upd gF k x i = upd cs k x i := fun i hi => by
  by_cases e : i = k
  · rw [e, pk_us, pk_us]
  · rw [pk_un e, pk_un e]; exact h i hi
theorem told_fail {gF cs : Nat → Int32} (h : ∀ i, i < 7 → gF i = cs i) (wy pa c z : Int32) : ∀ i, i < 7 → upd (upd (upd (upd (upd gF 2 (cs 2 + 1)) 3 wy) 4 pa) 5 c) 6 z i = nfC cs wy pa c z i := fun i hi => by
  have h0 := h i hi
  unfold nfC
  by_cases e6 : i = 6
  · rw [e6, pk_us]; rfl
  · rw [pk_un e6]
    by_cases e5 : i = 5
    · rw [e5, pk_us]; rfl
    · rw [pk_un e5]
      by_cases e4 : i = 4
      · rw [e4, pk_us]; rfl
      · rw [pk_un e4]
        by_cases e3 : i = 3
        · rw [e3, pk_us]; rfl
        · rw [pk_un e3]
          by_cases e2 : i = 2
          · rw [e2, pk_us]; rfl
          · rw [pk_un e2, h0, if_neg e2, if_neg e3, if_neg e4, if_neg e5, if_neg e6]
theorem aDo_why (P : Pst) (i : Nat) (z : Int32) (a : Int64) (A : Ast) (x : Int64) : (aDo P i z a A x).1 = 0 ∨ ¬ (aDo P i z a A x).1 < 6 := by
  unfold aDo
  split
  · show (if _ then (0 : Int32) else 6) = 0 ∨ ¬ (if _ then (0 : Int32) else 6) < 6
    split
    · exact Or.inl rfl
    · exact Or.inr (by decide)
  · split
    · split
      · exact Or.inr (show ¬ (7 : Int32) < 6 by decide)
      · exact Or.inl rfl
    · split
      · exact Or.inl rfl
      · split
        · show (if _ then (0 : Int32) else 8) = 0 ∨ ¬ (if _ then (0 : Int32) else 8) < 6
          split
          · exact Or.inl rfl
          · exact Or.inr (by decide)
        · split
          · exact Or.inl rfl
          · split
            · exact Or.inl rfl
            · show (if _ then (0 : Int32) else 7) = 0 ∨ ¬ (if _ then (0 : Int32) else 7) < 6
              split
              · exact Or.inl rfl
              · exact Or.inr (by decide)
theorem run_told {P : Pst} (hp : Pok P) {z : Int32} {a : Int64} : ∀ (f i : Nat) (A : Ast) (x : Int64), i + f < 2 ^ 31 → ¬ (aRun P z a f i A x).1 = 0 → ((aRun P z a f i A x).1 < 6 ↔ P.2.2.2.2.1 = nI (aRun P z a f i A x).2.1)
  | 0, i, A, x, _, h => absurd rfl h
  | f + 1, i, A, x, hb, h => by
    by_cases ht : P.2.2.2.2.1 = nI i
    · rw [aRun_t ht]
      refine ⟨fun _ => ht, fun _ => ?_⟩
      rcases hp.2.2 with h1 | h1
      · exfalso
        rw [ht] at h1
        have e2 := congrArg Int32.toInt h1
        rw [nI_toInt (by omega)] at e2
        have e3 : (-1 : Int32).toInt = -1 := by decide
        rw [e3] at e2
        omega
      · exact Int32.lt_of_le_of_lt h1.2.2 (by decide)
    · by_cases hd : (aDo P i z a A x).1 = 0
      · rw [aRun_s ht hd] at h ⊢
        exact run_told hp f (i + 1) _ _ (by omega) h
      · rw [aRun_f ht hd]
        exact ⟨fun w => absurd w ((aDo_why P i z a A x).resolve_left hd), fun w => absurd w ht⟩
theorem tR_told {P : Pst} (hp : Pok P) {z : Int32} {a : Int64} {A : Ast} (h : ¬ (tR P z a A).1 = 0) : (tR P z a A).1 < 6 ↔ P.2.2.2.2.1 = nI (tR P z a A).2.1 := run_told hp P.2.1 0 A a (by have := hp.1; omega) h
theorem Aok_tR {P : Pst} {z : Int32} {a : Int64} {A : Ast} (h : Aok A) : Aok (tR P z a A).2.2.1 := Aok_run _ _ _ _ h
theorem le5_6 {i : Int32} (h : 5 < i) : 6 ≤ i := by
  have h2 := Int32.lt_iff_toInt_lt.mp h
  refine Int32.le_iff_toInt_le.mpr ?_
  have e5 : (5 : Int32).toInt = 5 := by decide
  have e6 : (6 : Int32).toInt = 6 := by decide
  rw [e5] at h2
  rw [e6]
  omega
theorem lt7_6 {i : Int32} (h : i < 7) : i ≤ 6 := by
  have h2 := Int32.lt_iff_toInt_lt.mp h
  refine Int32.le_iff_toInt_le.mpr ?_
  have e5 : (7 : Int32).toInt = 7 := by decide
  have e6 : (6 : Int32).toInt = 6 := by decide
  rw [e5] at h2
  rw [e6]
  omega
set_option maxHeartbeats 4000000 in
set_option maxRecDepth 100000 in
theorem kX3_thrown (l : Launch) (dC : Nat → ClassId) (dI : Nat → Nat → Nat) (q : ClassId × ClassId × ClassId × ClassId) (ad : Nat → Nat) (en : Nat → va_E) (n sz : Nat) (hn58 : 58 ≤ n) (th : Int32) (A : Ast) (pl : Nat → Pst) (cs : Nat → Int32) (hok : Aok A) (hpok : ∀ i, i < 10 → Pok (pl i)) (hM0 : ModAt q ad en th A pl cs)  :
    Met l yX3_thrown wsX3_thrown ({ frames := 0, cells := 0, slots := 0, locals := 0 }) (wPc (dC, dI) vwCl (wT q) ad en n sz [.ref (ad 42)]) (va_Qi (fun (r : Int32) (en' : Nat → va_E) => r = th ∧ en' = en) (wB (dC, dI) vwCl (wT q) ad n (wA ad n sz)) (wA ad n sz)) 0 0 (wA ad n sz) := by
  refine Met.ofW (cc := cX3_thrown) (maxL := 1) (ret := (some .int)) (by decide) rfl ?_
  intro p e s m args below meth c s₁ B hml hv
  obtain ⟨rfl, hsz, hP, hK, hD0, hE0⟩ := hv
  have hx := B.exec
  have hb := B.bytes
  have hr := B.returns
  have hts := atoms_spec (ws := wsX3_thrown) B.pre
  have hown : s.vm.findClass RX3 = some m.cls := findClass_of_methodNamed B.named
  have hlocks := B.notSynchronized
  have iRX3 : ∀ w ∈ u_ws RX3 TX3 21, w ∈ wsX3_thrown := by decide +kernel
  subst hsz
  have hw := wk_of hP hK hD0 hE0
  generalize wA ad n s.heap.size = AA at hw ⊢
  have hl := lv_entry ([.ref (ad 42)]) (n := 1) (Nat.le_of_ble_eq_true rfl)
  rw [lg_entry_eq]
  generalize (lg_sl ([.ref (ad 42)]) ++ List.replicate (1 - (lg_sl ([.ref (ad 42)])).length) Slot.unset).toArray = ls at hl ⊢
  have hl : lv_has ls 1 [(0, .ref (ad 42))] := hl
  obtain ⟨O, an, wy, pla, hokO, hM⟩ := hM0
  have hcn := hok.2
  obtain ⟨ot1, ⟨hFt1, mFt1, tFt1, rFt1, a1t1, a2t1, a3t1, a4t1, hRt1⟩, ⟨oht1, omt1, ott1, orrt1, b1t1, b2t1, b3t1, b4t1, hOt1⟩, ⟨wFt1, sFt1, kFt1, aFt1, fFt1, xFt1, c1t1, c2t1, c3t1, c4t1, c5t1, c6t1, hPlt1⟩, ⟨gFt1, e1t1, hTt1⟩⟩ := id hM
  refine lv_aload_n hx hb dX3_thrown_0 rfl (lv_at hl 0 rfl) ?_
  refine wr_get (ci := 4) (C := RX3) (T := TX3) (N := 21) hx hb hts iRX3 hown hw 42 (by omega) ot1 rfl 0 (by decide) (hts (.fieldLink RX3 57 "LibraryDeskModel" "thrown" "I") (by decide +kernel)) (fun _ h9 => h9) rfl dX3_thrown_1 ?_
  refine we_i hx hb hr hlocks hw ?_ dX3_thrown_4
  exact ⟨rfl, rfl⟩

set_option maxHeartbeats 4000000 in
set_option maxRecDepth 100000 in
theorem kX3_collect (l : Launch) (dC : Nat → ClassId) (dI : Nat → Nat → Nat) (q : ClassId × ClassId × ClassId × ClassId) (ad : Nat → Nat) (en : Nat → va_E) (n sz : Nat) (hn58 : 58 ≤ n) (th : Int32) (A : Ast) (pl : Nat → Pst) (cs : Nat → Int32) (hok : Aok A) (hpok : ∀ i, i < 10 → Pok (pl i)) (hM0 : ModAt q ad en th A pl cs) (v : Int64) :
    Met l yX3_collect wsX3_collect ({ frames := 0, cells := 0, slots := 0, locals := 0 }) (wPc (dC, dI) vwCl (wT q) ad en n sz [.ref (ad 42), .long v]) (va_Qi (fun (r : Int32) (en' : Nat → va_E) => r = (if aCn A < 20 then nI (aCn A + 1) else -1) ∧ ModAt q ad en' 0 (aAdd v A) pl cs ∧ ∀ j, (j < 42 ∨ 58 ≤ j) → en' j = en j) (wB (dC, dI) vwCl (wT q) ad n (wA ad n sz)) (wA ad n sz)) 0 0 (wA ad n sz) := by
  refine Met.ofW (cc := cX3_collect) (maxL := 3) (ret := (some .int)) (by decide) rfl ?_
  intro p e s m args below meth c s₁ B hml hv
  obtain ⟨rfl, hsz, hP, hK, hD0, hE0⟩ := hv
  have hx := B.exec
  have hb := B.bytes
  have hr := B.returns
  have hts := atoms_spec (ws := wsX3_collect) B.pre
  have hown : s.vm.findClass RX3 = some m.cls := findClass_of_methodNamed B.named
  have hlocks := B.notSynchronized
  have iRX3 : ∀ w ∈ u_ws RX3 TX3 21, w ∈ wsX3_collect := by decide +kernel
  subst hsz
  have hw := wk_of hP hK hD0 hE0
  generalize wA ad n s.heap.size = AA at hw ⊢
  have hl := lv_entry ([.ref (ad 42), .long v]) (n := 3) (Nat.le_of_ble_eq_true rfl)
  rw [lg_entry_eq]
  generalize (lg_sl ([.ref (ad 42), .long v]) ++ List.replicate (3 - (lg_sl ([.ref (ad 42), .long v])).length) Slot.unset).toArray = ls at hl ⊢
  have hl : lv_has ls 3 [(0, .ref (ad 42)), (1, .long v)] := hl
  obtain ⟨O, an, wy, pla, hokO, hM⟩ := hM0
  have hcn := hok.2
  obtain ⟨ot1, ⟨hFt1, mFt1, tFt1, rFt1, a1t1, a2t1, a3t1, a4t1, hRt1⟩, ⟨oht1, omt1, ott1, orrt1, b1t1, b2t1, b3t1, b4t1, hOt1⟩, ⟨wFt1, sFt1, kFt1, aFt1, fFt1, xFt1, c1t1, c2t1, c3t1, c4t1, c5t1, c6t1, hPlt1⟩, ⟨gFt1, e1t1, hTt1⟩⟩ := id hM
  refine lv_aload_n hx hb dX3_collect_0 rfl (lv_at hl 0 rfl) ?_
  refine lv_iconst (v := 0) hx hb dX3_collect_1 (by decide) ?_
  refine wr_put (ci := 4) (v := .int 0) (ty := .int) (C := RX3) (T := TX3) (N := 21) hx hb hts iRX3 tyX3 tyX3_ok nmX3 hown hw 42 (by omega) ot1 rfl 0 (by decide) (hts (.fieldLink RX3 57 "LibraryDeskModel" "thrown" "I") (by decide +kernel)) (fun _ h9 => h9) rfl (by decide +kernel) rfl rfl (Nat.le_of_ble_eq_true rfl) dX3_collect_2 (fun en3 H locs hE2 hw => ?_)
  have he4 : en3 42 = .inr (4, [.int 0, .ref (ad 43), .ref (ad 44), .ref (ad 45), .ref (ad 46), .int (nI (aCn A)), .ref (ad 47), .ref (ad 48), .ref (ad 49), .ref (ad 50), .int (nI (aCn O)), .ref (ad 51), .ref (ad 52), .ref (ad 53), .ref (ad 54), .ref (ad 55), .ref (ad 56), .ref (ad 57), .long an, .int wy, .int pla]) := w_self hE2
  have he5 : en3 43 = .inl (q.2.2.1, 328, .inl hFt1) := w_ne hE2 (by omega) a1t1
  have he6 : en3 44 = .inl (q.1, 8, .inl mFt1) := w_ne hE2 (by omega) a2t1
  have he7 : en3 45 = .inl (q.2.1, 8, .inr (.inl tFt1)) := w_ne hE2 (by omega) a3t1
  have he8 : en3 46 = .inl (q.2.1, 20, .inr (.inl rFt1)) := w_ne hE2 (by omega) a4t1
  have he9 : en3 47 = .inl (q.2.2.1, 328, .inl oht1) := w_ne hE2 (by omega) b1t1
  have he10 : en3 48 = .inl (q.1, 8, .inl omt1) := w_ne hE2 (by omega) b2t1
  have he11 : en3 49 = .inl (q.2.1, 8, .inr (.inl ott1)) := w_ne hE2 (by omega) b3t1
  have he12 : en3 50 = .inl (q.2.1, 20, .inr (.inl orrt1)) := w_ne hE2 (by omega) b4t1
  have he13 : en3 51 = .inl (q.1, 10, .inl wFt1) := w_ne hE2 (by omega) c1t1
  have he14 : en3 52 = .inl (q.1, 60, .inl sFt1) := w_ne hE2 (by omega) c2t1
  have he15 : en3 53 = .inl (q.1, 60, .inl kFt1) := w_ne hE2 (by omega) c3t1
  have he16 : en3 54 = .inl (q.1, 10, .inl aFt1) := w_ne hE2 (by omega) c4t1
  have he17 : en3 55 = .inl (q.1, 10, .inl fFt1) := w_ne hE2 (by omega) c5t1
  have he18 : en3 56 = .inl (q.1, 10, .inl xFt1) := w_ne hE2 (by omega) c6t1
  have he19 : en3 57 = .inl (q.1, 7, .inl gFt1) := w_ne hE2 (by omega) e1t1
  have hMz : ModC q ad en3 0 A O pl cs an wy pla := ⟨he4, ⟨_, _, _, _, he5, he6, he7, he8, hRt1⟩, ⟨_, _, _, _, he9, he10, he11, he12, hOt1⟩, ⟨_, _, _, _, _, _, he13, he14, he15, he16, he17, he18, hPlt1⟩, ⟨_, he19, hTt1⟩⟩
  obtain ⟨ot20, ⟨hFt20, mFt20, tFt20, rFt20, a1t20, a2t20, a3t20, a4t20, hRt20⟩, ⟨oht20, omt20, ott20, orrt20, b1t20, b2t20, b3t20, b4t20, hOt20⟩, ⟨wFt20, sFt20, kFt20, aFt20, fFt20, xFt20, c1t20, c2t20, c3t20, c4t20, c5t20, c6t20, hPlt20⟩, ⟨gFt20, e1t20, hTt20⟩⟩ := id hMz
  refine lv_aload_n hx hb dX3_collect_5 rfl (lv_at hl 0 rfl) ?_
  refine wr_get (ci := 4) (C := RX3) (T := TX3) (N := 21) hx hb hts iRX3 hown hw 42 (by omega) ot20 rfl 5 (by decide) (hts (.fieldLink RX3 61 "LibraryDeskModel" "size" "I") (by decide +kernel)) (fun _ h9 => h9) rfl dX3_collect_6 ?_
  refine lv_bipush (v := 20) hx hb dX3_collect_9 (by decide) ?_
  refine lv_icmp_ne (tgt := 16) hx hb dX3_collect_11 (by decide) (fun c11 => ?_) (fun c11 => ?_)
  · have hc : aCn A < 20 := by
      have : ¬ aCn A = 20 := fun h => c11 (by rw [h]; rfl)
      omega
    refine lv_aload_n hx hb dX3_collect_16 rfl (lv_at hl 0 rfl) ?_
    refine wr_get (ci := 4) (C := RX3) (T := TX3) (N := 21) hx hb hts iRX3 hown hw 42 (by omega) ot20 rfl 4 (by decide) (hts (.fieldLink RX3 21 "LibraryDeskModel" "row" "[J") (by decide +kernel)) (fun _ h9 => h9) rfl dX3_collect_17 ?_
    refine lv_aload_n hx hb dX3_collect_20 rfl (lv_at hl 0 rfl) ?_
    refine wr_get (ci := 4) (C := RX3) (T := TX3) (N := 21) hx hb hts iRX3 hown hw 42 (by omega) ot20 rfl 5 (by decide) (hts (.fieldLink RX3 61 "LibraryDeskModel" "size" "I") (by decide +kernel)) (fun _ h9 => h9) rfl dX3_collect_21 ?_
    refine lv_lload_n hx hb dX3_collect_24 rfl (lv_at hl 1 rfl) ?_
    refine wr_last (j := (aCn A)) hx hb hw 46 (by omega) 1 a4t20 rfl (vp_in_nI (by omega) (by decide)) (nI_clamp (by omega)) dX3_collect_25 (fun en22 H locs hE21 hw => ?_)
    have he23 : en22 42 = .inr (4, [.int 0, .ref (ad 43), .ref (ad 44), .ref (ad 45), .ref (ad 46), .int (nI (aCn A)), .ref (ad 47), .ref (ad 48), .ref (ad 49), .ref (ad 50), .int (nI (aCn O)), .ref (ad 51), .ref (ad 52), .ref (ad 53), .ref (ad 54), .ref (ad 55), .ref (ad 56), .ref (ad 57), .long an, .int wy, .int pla]) := w_ne hE21 (by omega) ot20
    have he24 : en22 43 = .inl (q.2.2.1, 328, .inl hFt20) := w_ne hE21 (by omega) a1t20
    have he25 : en22 44 = .inl (q.1, 8, .inl mFt20) := w_ne hE21 (by omega) a2t20
    have he26 : en22 45 = .inl (q.2.1, 8, .inr (.inl tFt20)) := w_ne hE21 (by omega) a3t20
    have he27 : en22 46 = .inl (q.2.1, 20, .inr (.inl (vp_updL rFt20 ((aCn A)) v))) := w_self hE21
    have he28 : en22 47 = .inl (q.2.2.1, 328, .inl oht20) := w_ne hE21 (by omega) b1t20
    have he29 : en22 48 = .inl (q.1, 8, .inl omt20) := w_ne hE21 (by omega) b2t20
    have he30 : en22 49 = .inl (q.2.1, 8, .inr (.inl ott20)) := w_ne hE21 (by omega) b3t20
    have he31 : en22 50 = .inl (q.2.1, 20, .inr (.inl orrt20)) := w_ne hE21 (by omega) b4t20
    have he32 : en22 51 = .inl (q.1, 10, .inl wFt20) := w_ne hE21 (by omega) c1t20
    have he33 : en22 52 = .inl (q.1, 60, .inl sFt20) := w_ne hE21 (by omega) c2t20
    have he34 : en22 53 = .inl (q.1, 60, .inl kFt20) := w_ne hE21 (by omega) c3t20
    have he35 : en22 54 = .inl (q.1, 10, .inl aFt20) := w_ne hE21 (by omega) c4t20
    have he36 : en22 55 = .inl (q.1, 10, .inl fFt20) := w_ne hE21 (by omega) c5t20
    have he37 : en22 56 = .inl (q.1, 10, .inl xFt20) := w_ne hE21 (by omega) c6t20
    have he38 : en22 57 = .inl (q.1, 7, .inl gFt20) := w_ne hE21 (by omega) e1t20
    refine lv_aload_n hx hb dX3_collect_26 rfl (lv_at hl 0 rfl) ?_
    refine lv_dup hx hb dX3_collect_27 rfl ?_
    refine wr_get (ci := 4) (C := RX3) (T := TX3) (N := 21) hx hb hts iRX3 hown hw 42 (by omega) he23 rfl 5 (by decide) (hts (.fieldLink RX3 61 "LibraryDeskModel" "size" "I") (by decide +kernel)) (fun _ h9 => h9) rfl dX3_collect_28 ?_
    refine lv_iconst (v := 1) hx hb dX3_collect_31 (by decide) ?_
    refine lv_iadd hx hb dX3_collect_32 ?_
    refine lv_topi (fun x39 ex39 => ?_)
    have ex39n : x39 = nI (aCn A + 1) := ex39.trans (nI_1 _)
    clear ex39
    subst ex39n
    refine wr_put (ci := 4) (v := .int (nI (aCn A + 1))) (ty := .int) (C := RX3) (T := TX3) (N := 21) hx hb hts iRX3 tyX3 tyX3_ok nmX3 hown hw 42 (by omega) he23 rfl 5 (by decide) (hts (.fieldLink RX3 61 "LibraryDeskModel" "size" "I") (by decide +kernel)) (fun _ h9 => h9) rfl (by decide +kernel) rfl rfl (Nat.le_of_ble_eq_true rfl) dX3_collect_33 (fun en41 H locs hE40 hw => ?_)
    have he42 : en41 42 = .inr (4, [.int 0, .ref (ad 43), .ref (ad 44), .ref (ad 45), .ref (ad 46), .int (nI (aCn A + 1)), .ref (ad 47), .ref (ad 48), .ref (ad 49), .ref (ad 50), .int (nI (aCn O)), .ref (ad 51), .ref (ad 52), .ref (ad 53), .ref (ad 54), .ref (ad 55), .ref (ad 56), .ref (ad 57), .long an, .int wy, .int pla]) := w_self hE40
    have he43 : en41 43 = .inl (q.2.2.1, 328, .inl hFt20) := w_ne hE40 (by omega) he24
    have he44 : en41 44 = .inl (q.1, 8, .inl mFt20) := w_ne hE40 (by omega) he25
    have he45 : en41 45 = .inl (q.2.1, 8, .inr (.inl tFt20)) := w_ne hE40 (by omega) he26
    have he46 : en41 46 = .inl (q.2.1, 20, .inr (.inl (vp_updL rFt20 ((aCn A)) v))) := w_ne hE40 (by omega) he27
    have he47 : en41 47 = .inl (q.2.2.1, 328, .inl oht20) := w_ne hE40 (by omega) he28
    have he48 : en41 48 = .inl (q.1, 8, .inl omt20) := w_ne hE40 (by omega) he29
    have he49 : en41 49 = .inl (q.2.1, 8, .inr (.inl ott20)) := w_ne hE40 (by omega) he30
    have he50 : en41 50 = .inl (q.2.1, 20, .inr (.inl orrt20)) := w_ne hE40 (by omega) he31
    have he51 : en41 51 = .inl (q.1, 10, .inl wFt20) := w_ne hE40 (by omega) he32
    have he52 : en41 52 = .inl (q.1, 60, .inl sFt20) := w_ne hE40 (by omega) he33
    have he53 : en41 53 = .inl (q.1, 60, .inl kFt20) := w_ne hE40 (by omega) he34
    have he54 : en41 54 = .inl (q.1, 10, .inl aFt20) := w_ne hE40 (by omega) he35
    have he55 : en41 55 = .inl (q.1, 10, .inl fFt20) := w_ne hE40 (by omega) he36
    have he56 : en41 56 = .inl (q.1, 10, .inl xFt20) := w_ne hE40 (by omega) he37
    have he57 : en41 57 = .inl (q.1, 7, .inl gFt20) := w_ne hE40 (by omega) he38
    refine lv_aload_n hx hb dX3_collect_36 rfl (lv_at hl 0 rfl) ?_
    refine wr_get (ci := 4) (C := RX3) (T := TX3) (N := 21) hx hb hts iRX3 hown hw 42 (by omega) he42 rfl 5 (by decide) (hts (.fieldLink RX3 61 "LibraryDeskModel" "size" "I") (by decide +kernel)) (fun _ h9 => h9) rfl dX3_collect_37 ?_
    refine we_i hx hb hr hlocks hw ?_ dX3_collect_40
    refine ⟨by rw [if_pos hc], ⟨O, an, wy, pla, hokO, ?_⟩, fun j hj => (w_fr hE40 (by omega)).trans ((w_fr hE21 (by omega)).trans (w_fr hE2 (by omega)))⟩
    exact ⟨(by rw [aCn_add hc]; exact he42), ⟨_, _, _, _, he43, he44, he45, he46, RM_add hRt20 hc v⟩, ⟨_, _, _, _, he47, he48, he49, he50, hOt20⟩, ⟨_, _, _, _, _, _, he51, he52, he53, he54, he55, he56, hPlt20⟩, ⟨_, he57, hTt20⟩⟩
  · have hc : ¬ aCn A < 20 := fun h => absurd ((nI_eq (b := 20) (by omega) (by omega)).mp c11) (by omega)
    refine lv_iconst (v := (-1)) hx hb dX3_collect_14 (by decide) ?_
    refine we_i hx hb hr hlocks hw ?_ dX3_collect_15
    exact ⟨by rw [if_neg hc], by rw [aAdd_no hc]; exact ⟨O, an, wy, pla, hokO, hMz⟩, fun j hj => w_fr hE2 (by omega)⟩

set_option maxHeartbeats 4000000 in
set_option maxRecDepth 100000 in
theorem kX3_wants (l : Launch) (dC : Nat → ClassId) (dI : Nat → Nat → Nat) (q : ClassId × ClassId × ClassId × ClassId) (ad : Nat → Nat) (en : Nat → va_E) (n sz : Nat) (hn58 : 58 ≤ n) (th : Int32) (A : Ast) (pl : Nat → Pst) (cs : Nat → Int32) (hok : Aok A) (hpok : ∀ i, i < 10 → Pok (pl i)) (hM0 : ModAt q ad en th A pl cs) (cv kd : Int32) :
    Met l yX3_wants wsX3_wants ({ frames := 1, cells := 0, slots := 0, locals := 20 }) (wPc (dC, dI) vwCl (wT q) ad en n sz [.ref (ad 42), .int cv, .int kd]) (va_Qi (fun (r : Int32) (en' : Nat → va_E) => r = sWantsR cv kd pl ∧ ModAt q ad en' 0 A (sWants cv kd pl) cs ∧ ∀ j, (j < 42 ∨ 58 ≤ j) → en' j = en j) (wB (dC, dI) vwCl (wT q) ad n (wA ad n sz)) (wA ad n sz)) 0 0 (wA ad n sz) := by
  refine Met.ofW (cc := cX3_wants) (maxL := 4) (ret := (some .int)) (by decide) rfl ?_
  intro p e s m args below meth c s₁ B hml hv
  obtain ⟨rfl, hsz, hP, hK, hD0, hE0⟩ := hv
  have hx := B.exec
  have hb := B.bytes
  have hr := B.returns
  have hts := atoms_spec (ws := wsX3_wants) B.pre
  have hown : s.vm.findClass RX3 = some m.cls := findClass_of_methodNamed B.named
  have hlocks := B.notSynchronized
  have iRX3 : ∀ w ∈ u_ws RX3 TX3 21, w ∈ wsX3_wants := by decide +kernel
  subst hsz
  have hw := wk_of hP hK hD0 hE0
  generalize wA ad n s.heap.size = AA at hw ⊢
  have hl := lv_entry ([.ref (ad 42), .int cv, .int kd]) (n := 4) (Nat.le_of_ble_eq_true rfl)
  rw [lg_entry_eq]
  generalize (lg_sl ([.ref (ad 42), .int cv, .int kd]) ++ List.replicate (4 - (lg_sl ([.ref (ad 42), .int cv, .int kd])).length) Slot.unset).toArray = ls at hl ⊢
  have hl : lv_has ls 4 [(0, .ref (ad 42)), (1, .int cv), (2, .int kd)] := hl
  obtain ⟨O, an, wy, pla, hokO, hM⟩ := hM0
  have hcn := hok.2
  obtain ⟨ot1, ⟨hFt1, mFt1, tFt1, rFt1, a1t1, a2t1, a3t1, a4t1, hRt1⟩, ⟨oht1, omt1, ott1, orrt1, b1t1, b2t1, b3t1, b4t1, hOt1⟩, ⟨wFt1, sFt1, kFt1, aFt1, fFt1, xFt1, c1t1, c2t1, c3t1, c4t1, c5t1, c6t1, hPlt1⟩, ⟨gFt1, e1t1, hTt1⟩⟩ := id hM
  refine lv_aload_n hx hb dX3_wants_0 rfl (lv_at hl 0 rfl) ?_
  refine lv_iconst (v := 0) hx hb dX3_wants_1 (by decide) ?_
  refine wr_put (ci := 4) (v := .int 0) (ty := .int) (C := RX3) (T := TX3) (N := 21) hx hb hts iRX3 tyX3 tyX3_ok nmX3 hown hw 42 (by omega) ot1 rfl 0 (by decide) (hts (.fieldLink RX3 57 "LibraryDeskModel" "thrown" "I") (by decide +kernel)) (fun _ h9 => h9) rfl (by decide +kernel) rfl rfl (Nat.le_of_ble_eq_true rfl) dX3_wants_2 (fun en3 H locs hE2 hw => ?_)
  have he4 : en3 42 = .inr (4, [.int 0, .ref (ad 43), .ref (ad 44), .ref (ad 45), .ref (ad 46), .int (nI (aCn A)), .ref (ad 47), .ref (ad 48), .ref (ad 49), .ref (ad 50), .int (nI (aCn O)), .ref (ad 51), .ref (ad 52), .ref (ad 53), .ref (ad 54), .ref (ad 55), .ref (ad 56), .ref (ad 57), .long an, .int wy, .int pla]) := w_self hE2
  have he5 : en3 43 = .inl (q.2.2.1, 328, .inl hFt1) := w_ne hE2 (by omega) a1t1
  have he6 : en3 44 = .inl (q.1, 8, .inl mFt1) := w_ne hE2 (by omega) a2t1
  have he7 : en3 45 = .inl (q.2.1, 8, .inr (.inl tFt1)) := w_ne hE2 (by omega) a3t1
  have he8 : en3 46 = .inl (q.2.1, 20, .inr (.inl rFt1)) := w_ne hE2 (by omega) a4t1
  have he9 : en3 47 = .inl (q.2.2.1, 328, .inl oht1) := w_ne hE2 (by omega) b1t1
  have he10 : en3 48 = .inl (q.1, 8, .inl omt1) := w_ne hE2 (by omega) b2t1
  have he11 : en3 49 = .inl (q.2.1, 8, .inr (.inl ott1)) := w_ne hE2 (by omega) b3t1
  have he12 : en3 50 = .inl (q.2.1, 20, .inr (.inl orrt1)) := w_ne hE2 (by omega) b4t1
  have he13 : en3 51 = .inl (q.1, 10, .inl wFt1) := w_ne hE2 (by omega) c1t1
  have he14 : en3 52 = .inl (q.1, 60, .inl sFt1) := w_ne hE2 (by omega) c2t1
  have he15 : en3 53 = .inl (q.1, 60, .inl kFt1) := w_ne hE2 (by omega) c3t1
  have he16 : en3 54 = .inl (q.1, 10, .inl aFt1) := w_ne hE2 (by omega) c4t1
  have he17 : en3 55 = .inl (q.1, 10, .inl fFt1) := w_ne hE2 (by omega) c5t1
  have he18 : en3 56 = .inl (q.1, 10, .inl xFt1) := w_ne hE2 (by omega) c6t1
  have he19 : en3 57 = .inl (q.1, 7, .inl gFt1) := w_ne hE2 (by omega) e1t1
  have hMz : ModC q ad en3 0 A O pl cs an wy pla := ⟨he4, ⟨_, _, _, _, he5, he6, he7, he8, hRt1⟩, ⟨_, _, _, _, he9, he10, he11, he12, hOt1⟩, ⟨_, _, _, _, _, _, he13, he14, he15, he16, he17, he18, hPlt1⟩, ⟨_, he19, hTt1⟩⟩
  obtain ⟨ot20, ⟨hFt20, mFt20, tFt20, rFt20, a1t20, a2t20, a3t20, a4t20, hRt20⟩, ⟨oht20, omt20, ott20, orrt20, b1t20, b2t20, b3t20, b4t20, hOt20⟩, ⟨wFt20, sFt20, kFt20, aFt20, fFt20, xFt20, c1t20, c2t20, c3t20, c4t20, c5t20, c6t20, hPlt20⟩, ⟨gFt20, e1t20, hTt20⟩⟩ := id hMz
  refine lv_iload_n hx hb dX3_wants_5 rfl (lv_at hl 1 rfl) ?_
  refine wc_i hw (va_runS (As := [.int cv]) (rest := []) ⟨hx, hb, hml, hown, hts⟩ (kX3_isCall l dC dI q ad en3 n _ cv) (va_cwS 1 hts gX3_wants_X3_isCall rfl rfl rfl (by decide +kernel) ⟨Nat.le_of_ble_eq_true rfl, Nat.le_of_ble_eq_true rfl⟩) (wk_preS hw) rfl rfl hl.1 rfl (lv_room (Nat.le_of_ble_eq_true rfl)) dX3_wants_6 ⟨Nat.le_refl _, Nat.le_refl _⟩) (fun r21 en23 H locs hp22 hw => ?_)
  obtain ⟨hr24, hn25⟩ := hp22
  rw [hn25] at hw
  clear hn25
  refine lv_if_eq (tgt := 24) hx hb dX3_wants_9 (by decide) (fun c9 => ?_) (fun c9 => ?_)
  · have hcv := z01_f hr24 c9
    refine lv_bipush (v := (-2)) hx hb dX3_wants_24 (by decide) ?_
    refine we_i hx hb hr hlocks hw ?_ dX3_wants_26
    have hS := sWants_no (pl := pl) (c := cv) (kd := kd) (fun h => hcv h.1)
    exact ⟨hS.1.symm, by rw [hS.2]; exact ⟨O, an, wy, pla, hokO, hMz⟩, fun j hj => w_fr hE2 (by omega)⟩
  · have hcv := z01_t hr24 c9
    obtain ⟨c1, hc, ecv⟩ := okC_of hcv
    subst ecv
    refine lv_iload_n hx hb dX3_wants_12 rfl (lv_at hl 2 rfl) ?_
    refine lv_iconst (v := (-1)) hx hb dX3_wants_13 (by decide) ?_
    refine lv_icmp_eq (tgt := 27) hx hb dX3_wants_14 (by decide) (fun c14 => ?_) (fun c14 => ?_)
    · have hkd : kd = -1 ∨ okK kd := Or.inl c14
      refine lv_aload_n hx hb dX3_wants_27 rfl (lv_at hl 0 rfl) ?_
      refine wr_get (ci := 4) (C := RX3) (T := TX3) (N := 21) hx hb hts iRX3 hown hw 42 (by omega) ot20 rfl 11 (by decide) (hts (.fieldLink RX3 36 "LibraryDeskModel" "wanted" "[I") (by decide +kernel)) (fun _ h9 => h9) rfl dX3_wants_28 ?_
      refine lv_iload_n hx hb dX3_wants_31 rfl (lv_at hl 1 rfl) ?_
      refine wr_iald (v := (pl c1).1) hx hb hw 51 (by omega) 0 c1t20 rfl (vp_in_nI (by omega) (by decide)) (by rw [(nI_clamp (by omega))]; exact (hPlt20 c1 hc).1) dX3_wants_32 ?_
      refine lv_istore_n (lv' := [(3, .int ((pl c1).1)), (0, .ref (ad 42)), (1, .int (nI c1)), (2, .int kd)]) hx hb dX3_wants_33 rfl hl (by decide) rfl (fun ls hl => ?_)
      refine lv_aload_n hx hb dX3_wants_34 rfl (lv_at hl 1 rfl) ?_
      refine wr_get (ci := 4) (C := RX3) (T := TX3) (N := 21) hx hb hts iRX3 hown hw 42 (by omega) ot20 rfl 11 (by decide) (hts (.fieldLink RX3 36 "LibraryDeskModel" "wanted" "[I") (by decide +kernel)) (fun _ h9 => h9) rfl dX3_wants_35 ?_
      refine lv_iload_n hx hb dX3_wants_38 rfl (lv_at hl 2 rfl) ?_
      refine lv_iload_n hx hb dX3_wants_39 rfl (lv_at hl 3 rfl) ?_
      refine wr_iast (j := c1) hx hb hw 51 (by omega) 0 c1t20 rfl (vp_in_nI (by omega) (by decide)) (nI_clamp (by omega)) dX3_wants_40 (fun en27 H locs hE26 hw => ?_)
      have he28 : en27 42 = .inr (4, [.int 0, .ref (ad 43), .ref (ad 44), .ref (ad 45), .ref (ad 46), .int (nI (aCn A)), .ref (ad 47), .ref (ad 48), .ref (ad 49), .ref (ad 50), .int (nI (aCn O)), .ref (ad 51), .ref (ad 52), .ref (ad 53), .ref (ad 54), .ref (ad 55), .ref (ad 56), .ref (ad 57), .long an, .int wy, .int pla]) := w_ne hE26 (by omega) ot20
      have he29 : en27 43 = .inl (q.2.2.1, 328, .inl hFt20) := w_ne hE26 (by omega) a1t20
      have he30 : en27 44 = .inl (q.1, 8, .inl mFt20) := w_ne hE26 (by omega) a2t20
      have he31 : en27 45 = .inl (q.2.1, 8, .inr (.inl tFt20)) := w_ne hE26 (by omega) a3t20
      have he32 : en27 46 = .inl (q.2.1, 20, .inr (.inl rFt20)) := w_ne hE26 (by omega) a4t20
      have he33 : en27 47 = .inl (q.2.2.1, 328, .inl oht20) := w_ne hE26 (by omega) b1t20
      have he34 : en27 48 = .inl (q.1, 8, .inl omt20) := w_ne hE26 (by omega) b2t20
      have he35 : en27 49 = .inl (q.2.1, 8, .inr (.inl ott20)) := w_ne hE26 (by omega) b3t20
      have he36 : en27 50 = .inl (q.2.1, 20, .inr (.inl orrt20)) := w_ne hE26 (by omega) b4t20
      have he37 : en27 51 = .inl (q.1, 10, .inl (upd wFt20 c1 kd)) := w_self hE26
      have he38 : en27 52 = .inl (q.1, 60, .inl sFt20) := w_ne hE26 (by omega) c2t20
      have he39 : en27 53 = .inl (q.1, 60, .inl kFt20) := w_ne hE26 (by omega) c3t20
      have he40 : en27 54 = .inl (q.1, 10, .inl aFt20) := w_ne hE26 (by omega) c4t20
      have he41 : en27 55 = .inl (q.1, 10, .inl fFt20) := w_ne hE26 (by omega) c5t20
      have he42 : en27 56 = .inl (q.1, 10, .inl xFt20) := w_ne hE26 (by omega) c6t20
      have he43 : en27 57 = .inl (q.1, 7, .inl gFt20) := w_ne hE26 (by omega) e1t20
      refine lv_iload_n hx hb dX3_wants_41 rfl (lv_at hl 0 rfl) ?_
      refine we_i hx hb hr hlocks hw ?_ dX3_wants_42
      have hS := sWants_ok (pl := pl) hc hkd
      refine ⟨hS.1.symm, ?_, fun j hj => (w_fr hE26 (by omega)).trans (w_fr hE2 (by omega))⟩
      rw [hS.2]
      obtain ⟨k1, k2, k3, k4, k5⟩ := hPlt20 c1 hc
      exact ⟨O, _, _, _, hokO, ⟨he28, ⟨_, _, _, _, he29, he30, he31, he32, hRt20⟩, ⟨_, _, _, _, he33, he34, he35, he36, hOt20⟩, ⟨_, _, _, _, _, _, he37, he38, he39, he40, he41, he42, MPl_up hPlt20 hc (fun j e => ⟨pk_un e, rfl, rfl, rfl⟩) ⟨pk_us, k2, k3, k4, k5⟩⟩, ⟨_, he43, hTt20⟩⟩⟩
    · refine lv_iload_n hx hb dX3_wants_17 rfl (lv_at hl 2 rfl) ?_
      refine wc_i hw (va_runS (As := [.int kd]) (rest := []) ⟨hx, hb, hml, hown, hts⟩ (kX3_isKind l dC dI q ad en3 n _ kd) (va_cwS 1 hts gX3_wants_X3_isKind rfl rfl rfl (by decide +kernel) ⟨Nat.le_of_ble_eq_true rfl, Nat.le_of_ble_eq_true rfl⟩) (wk_preS hw) rfl rfl hl.1 rfl (lv_room (Nat.le_of_ble_eq_true rfl)) dX3_wants_18 ⟨Nat.le_refl _, Nat.le_refl _⟩) (fun r44 en46 H locs hp45 hw => ?_)
      obtain ⟨hr47, hn48⟩ := hp45
      rw [hn48] at hw
      clear hn48
      refine lv_if_ne (tgt := 27) hx hb dX3_wants_21 (by decide) (fun c21 => ?_) (fun c21 => ?_)
      · have hkd : kd = -1 ∨ okK kd := Or.inr (z01_t hr47 c21)
        refine lv_aload_n hx hb dX3_wants_27 rfl (lv_at hl 0 rfl) ?_
        refine wr_get (ci := 4) (C := RX3) (T := TX3) (N := 21) hx hb hts iRX3 hown hw 42 (by omega) ot20 rfl 11 (by decide) (hts (.fieldLink RX3 36 "LibraryDeskModel" "wanted" "[I") (by decide +kernel)) (fun _ h9 => h9) rfl dX3_wants_28 ?_
        refine lv_iload_n hx hb dX3_wants_31 rfl (lv_at hl 1 rfl) ?_
        refine wr_iald (v := (pl c1).1) hx hb hw 51 (by omega) 0 c1t20 rfl (vp_in_nI (by omega) (by decide)) (by rw [(nI_clamp (by omega))]; exact (hPlt20 c1 hc).1) dX3_wants_32 ?_
        refine lv_istore_n (lv' := [(3, .int ((pl c1).1)), (0, .ref (ad 42)), (1, .int (nI c1)), (2, .int kd)]) hx hb dX3_wants_33 rfl hl (by decide) rfl (fun ls hl => ?_)
        refine lv_aload_n hx hb dX3_wants_34 rfl (lv_at hl 1 rfl) ?_
        refine wr_get (ci := 4) (C := RX3) (T := TX3) (N := 21) hx hb hts iRX3 hown hw 42 (by omega) ot20 rfl 11 (by decide) (hts (.fieldLink RX3 36 "LibraryDeskModel" "wanted" "[I") (by decide +kernel)) (fun _ h9 => h9) rfl dX3_wants_35 ?_
        refine lv_iload_n hx hb dX3_wants_38 rfl (lv_at hl 2 rfl) ?_
        refine lv_iload_n hx hb dX3_wants_39 rfl (lv_at hl 3 rfl) ?_
        refine wr_iast (j := c1) hx hb hw 51 (by omega) 0 c1t20 rfl (vp_in_nI (by omega) (by decide)) (nI_clamp (by omega)) dX3_wants_40 (fun en50 H locs hE49 hw => ?_)
        have he51 : en50 42 = .inr (4, [.int 0, .ref (ad 43), .ref (ad 44), .ref (ad 45), .ref (ad 46), .int (nI (aCn A)), .ref (ad 47), .ref (ad 48), .ref (ad 49), .ref (ad 50), .int (nI (aCn O)), .ref (ad 51), .ref (ad 52), .ref (ad 53), .ref (ad 54), .ref (ad 55), .ref (ad 56), .ref (ad 57), .long an, .int wy, .int pla]) := w_ne hE49 (by omega) ot20
        have he52 : en50 43 = .inl (q.2.2.1, 328, .inl hFt20) := w_ne hE49 (by omega) a1t20
        have he53 : en50 44 = .inl (q.1, 8, .inl mFt20) := w_ne hE49 (by omega) a2t20
        have he54 : en50 45 = .inl (q.2.1, 8, .inr (.inl tFt20)) := w_ne hE49 (by omega) a3t20
        have he55 : en50 46 = .inl (q.2.1, 20, .inr (.inl rFt20)) := w_ne hE49 (by omega) a4t20
        have he56 : en50 47 = .inl (q.2.2.1, 328, .inl oht20) := w_ne hE49 (by omega) b1t20
        have he57 : en50 48 = .inl (q.1, 8, .inl omt20) := w_ne hE49 (by omega) b2t20
        have he58 : en50 49 = .inl (q.2.1, 8, .inr (.inl ott20)) := w_ne hE49 (by omega) b3t20
        have he59 : en50 50 = .inl (q.2.1, 20, .inr (.inl orrt20)) := w_ne hE49 (by omega) b4t20
        have he60 : en50 51 = .inl (q.1, 10, .inl (upd wFt20 c1 kd)) := w_self hE49
        have he61 : en50 52 = .inl (q.1, 60, .inl sFt20) := w_ne hE49 (by omega) c2t20
        have he62 : en50 53 = .inl (q.1, 60, .inl kFt20) := w_ne hE49 (by omega) c3t20
        have he63 : en50 54 = .inl (q.1, 10, .inl aFt20) := w_ne hE49 (by omega) c4t20
        have he64 : en50 55 = .inl (q.1, 10, .inl fFt20) := w_ne hE49 (by omega) c5t20
        have he65 : en50 56 = .inl (q.1, 10, .inl xFt20) := w_ne hE49 (by omega) c6t20
        have he66 : en50 57 = .inl (q.1, 7, .inl gFt20) := w_ne hE49 (by omega) e1t20
        refine lv_iload_n hx hb dX3_wants_41 rfl (lv_at hl 0 rfl) ?_
        refine we_i hx hb hr hlocks hw ?_ dX3_wants_42
        have hS := sWants_ok (pl := pl) hc hkd
        refine ⟨hS.1.symm, ?_, fun j hj => (w_fr hE49 (by omega)).trans (w_fr hE2 (by omega))⟩
        rw [hS.2]
        obtain ⟨k1, k2, k3, k4, k5⟩ := hPlt20 c1 hc
        exact ⟨O, _, _, _, hokO, ⟨he51, ⟨_, _, _, _, he52, he53, he54, he55, hRt20⟩, ⟨_, _, _, _, he56, he57, he58, he59, hOt20⟩, ⟨_, _, _, _, _, _, he60, he61, he62, he63, he64, he65, MPl_up hPlt20 hc (fun j e => ⟨pk_un e, rfl, rfl, rfl⟩) ⟨pk_us, k2, k3, k4, k5⟩⟩, ⟨_, he66, hTt20⟩⟩⟩
      · have hkd : ¬ (kd = -1 ∨ okK kd) := fun h => h.elim c14 (z01_f hr47 c21)
        refine lv_bipush (v := (-2)) hx hb dX3_wants_24 (by decide) ?_
        refine we_i hx hb hr hlocks hw ?_ dX3_wants_26
        have hS := sWants_no (pl := pl) (c := nI c1) (kd := kd) (fun h => hkd h.2)
        exact ⟨hS.1.symm, by rw [hS.2]; exact ⟨O, an, wy, pla, hokO, hMz⟩, fun j hj => w_fr hE2 (by omega)⟩

set_option maxHeartbeats 4000000 in
set_option maxRecDepth 100000 in
theorem kX3_act (l : Launch) (dC : Nat → ClassId) (dI : Nat → Nat → Nat) (q : ClassId × ClassId × ClassId × ClassId) (ad : Nat → Nat) (en : Nat → va_E) (n sz : Nat) (hn58 : 58 ≤ n) (th : Int32) (A : Ast) (pl : Nat → Pst) (cs : Nat → Int32) (hok : Aok A) (hpok : ∀ i, i < 10 → Pok (pl i)) (hM0 : ModAt q ad en th A pl cs) (cv so kd : Int32) :
    Met l yX3_act wsX3_act ({ frames := 1, cells := 0, slots := 0, locals := 20 }) (wPc (dC, dI) vwCl (wT q) ad en n sz [.ref (ad 42), .int cv, .int so, .int kd]) (va_Qi (fun (r : Int32) (en' : Nat → va_E) => r = sActR cv so kd pl ∧ ModAt q ad en' 0 A (sAct cv so kd pl) cs ∧ ∀ j, (j < 42 ∨ 58 ≤ j) → en' j = en j) (wB (dC, dI) vwCl (wT q) ad n (wA ad n sz)) (wA ad n sz)) 0 0 (wA ad n sz) := by
  refine Met.ofW (cc := cX3_act) (maxL := 5) (ret := (some .int)) (by decide) rfl ?_
  intro p e s m args below meth c s₁ B hml hv
  obtain ⟨rfl, hsz, hP, hK, hD0, hE0⟩ := hv
  have hx := B.exec
  have hb := B.bytes
  have hr := B.returns
  have hts := atoms_spec (ws := wsX3_act) B.pre
  have hown : s.vm.findClass RX3 = some m.cls := findClass_of_methodNamed B.named
  have hlocks := B.notSynchronized
  have iRX3 : ∀ w ∈ u_ws RX3 TX3 21, w ∈ wsX3_act := by decide +kernel
  subst hsz
  have hw := wk_of hP hK hD0 hE0
  generalize wA ad n s.heap.size = AA at hw ⊢
  have hl := lv_entry ([.ref (ad 42), .int cv, .int so, .int kd]) (n := 5) (Nat.le_of_ble_eq_true rfl)
  rw [lg_entry_eq]
  generalize (lg_sl ([.ref (ad 42), .int cv, .int so, .int kd]) ++ List.replicate (5 - (lg_sl ([.ref (ad 42), .int cv, .int so, .int kd])).length) Slot.unset).toArray = ls at hl ⊢
  have hl : lv_has ls 5 [(0, .ref (ad 42)), (1, .int cv), (2, .int so), (3, .int kd)] := hl
  obtain ⟨O, an, wy, pla, hokO, hM⟩ := hM0
  have hcn := hok.2
  obtain ⟨ot1, ⟨hFt1, mFt1, tFt1, rFt1, a1t1, a2t1, a3t1, a4t1, hRt1⟩, ⟨oht1, omt1, ott1, orrt1, b1t1, b2t1, b3t1, b4t1, hOt1⟩, ⟨wFt1, sFt1, kFt1, aFt1, fFt1, xFt1, c1t1, c2t1, c3t1, c4t1, c5t1, c6t1, hPlt1⟩, ⟨gFt1, e1t1, hTt1⟩⟩ := id hM
  refine lv_aload_n hx hb dX3_act_0 rfl (lv_at hl 0 rfl) ?_
  refine lv_iconst (v := 0) hx hb dX3_act_1 (by decide) ?_
  refine wr_put (ci := 4) (v := .int 0) (ty := .int) (C := RX3) (T := TX3) (N := 21) hx hb hts iRX3 tyX3 tyX3_ok nmX3 hown hw 42 (by omega) ot1 rfl 0 (by decide) (hts (.fieldLink RX3 57 "LibraryDeskModel" "thrown" "I") (by decide +kernel)) (fun _ h9 => h9) rfl (by decide +kernel) rfl rfl (Nat.le_of_ble_eq_true rfl) dX3_act_2 (fun en3 H locs hE2 hw => ?_)
  have he4 : en3 42 = .inr (4, [.int 0, .ref (ad 43), .ref (ad 44), .ref (ad 45), .ref (ad 46), .int (nI (aCn A)), .ref (ad 47), .ref (ad 48), .ref (ad 49), .ref (ad 50), .int (nI (aCn O)), .ref (ad 51), .ref (ad 52), .ref (ad 53), .ref (ad 54), .ref (ad 55), .ref (ad 56), .ref (ad 57), .long an, .int wy, .int pla]) := w_self hE2
  have he5 : en3 43 = .inl (q.2.2.1, 328, .inl hFt1) := w_ne hE2 (by omega) a1t1
  have he6 : en3 44 = .inl (q.1, 8, .inl mFt1) := w_ne hE2 (by omega) a2t1
  have he7 : en3 45 = .inl (q.2.1, 8, .inr (.inl tFt1)) := w_ne hE2 (by omega) a3t1
  have he8 : en3 46 = .inl (q.2.1, 20, .inr (.inl rFt1)) := w_ne hE2 (by omega) a4t1
  have he9 : en3 47 = .inl (q.2.2.1, 328, .inl oht1) := w_ne hE2 (by omega) b1t1
  have he10 : en3 48 = .inl (q.1, 8, .inl omt1) := w_ne hE2 (by omega) b2t1
  have he11 : en3 49 = .inl (q.2.1, 8, .inr (.inl ott1)) := w_ne hE2 (by omega) b3t1
  have he12 : en3 50 = .inl (q.2.1, 20, .inr (.inl orrt1)) := w_ne hE2 (by omega) b4t1
  have he13 : en3 51 = .inl (q.1, 10, .inl wFt1) := w_ne hE2 (by omega) c1t1
  have he14 : en3 52 = .inl (q.1, 60, .inl sFt1) := w_ne hE2 (by omega) c2t1
  have he15 : en3 53 = .inl (q.1, 60, .inl kFt1) := w_ne hE2 (by omega) c3t1
  have he16 : en3 54 = .inl (q.1, 10, .inl aFt1) := w_ne hE2 (by omega) c4t1
  have he17 : en3 55 = .inl (q.1, 10, .inl fFt1) := w_ne hE2 (by omega) c5t1
  have he18 : en3 56 = .inl (q.1, 10, .inl xFt1) := w_ne hE2 (by omega) c6t1
  have he19 : en3 57 = .inl (q.1, 7, .inl gFt1) := w_ne hE2 (by omega) e1t1
  have hMz : ModC q ad en3 0 A O pl cs an wy pla := ⟨he4, ⟨_, _, _, _, he5, he6, he7, he8, hRt1⟩, ⟨_, _, _, _, he9, he10, he11, he12, hOt1⟩, ⟨_, _, _, _, _, _, he13, he14, he15, he16, he17, he18, hPlt1⟩, ⟨_, he19, hTt1⟩⟩
  obtain ⟨ot20, ⟨hFt20, mFt20, tFt20, rFt20, a1t20, a2t20, a3t20, a4t20, hRt20⟩, ⟨oht20, omt20, ott20, orrt20, b1t20, b2t20, b3t20, b4t20, hOt20⟩, ⟨wFt20, sFt20, kFt20, aFt20, fFt20, xFt20, c1t20, c2t20, c3t20, c4t20, c5t20, c6t20, hPlt20⟩, ⟨gFt20, e1t20, hTt20⟩⟩ := id hMz
  refine lv_iload_n hx hb dX3_act_5 rfl (lv_at hl 1 rfl) ?_
  refine wc_i hw (va_runS (As := [.int cv]) (rest := []) ⟨hx, hb, hml, hown, hts⟩ (kX3_isCall l dC dI q ad en3 n _ cv) (va_cwS 1 hts gX3_act_X3_isCall rfl rfl rfl (by decide +kernel) ⟨Nat.le_of_ble_eq_true rfl, Nat.le_of_ble_eq_true rfl⟩) (wk_preS hw) rfl rfl hl.1 rfl (lv_room (Nat.le_of_ble_eq_true rfl)) dX3_act_6 ⟨Nat.le_refl _, Nat.le_refl _⟩) (fun r21 en23 H locs hp22 hw => ?_)
  obtain ⟨hr24, hn25⟩ := hp22
  rw [hn25] at hw
  clear hn25
  refine lv_if_eq (tgt := 40) hx hb dX3_act_9 (by decide) (fun c9 => ?_) (fun c9 => ?_)
  · have hcv := z01_f hr24 c9
    refine lv_iconst (v := (-1)) hx hb dX3_act_40 (by decide) ?_
    refine we_i hx hb hr hlocks hw ?_ dX3_act_41
    have hS := sAct_no (pl := pl) (c := cv) (so := so) (kd := kd) (fun h => hcv h.1)
    exact ⟨hS.1.symm, by rw [hS.2]; exact ⟨O, an, wy, pla, hokO, hMz⟩, fun j hj => w_fr hE2 (by omega)⟩
  · have hcv := z01_t hr24 c9
    obtain ⟨c1, hc, ecv⟩ := okC_of hcv
    subst ecv
    have hp6 := (hpok c1 hc).1
    refine lv_iload_n hx hb dX3_act_12 rfl (lv_at hl 2 rfl) ?_
    refine lv_if_lt (tgt := 40) hx hb dX3_act_13 (by decide) (fun c13 => ?_) (fun c13 => ?_)
    · refine lv_iconst (v := (-1)) hx hb dX3_act_40 (by decide) ?_
      refine we_i hx hb hr hlocks hw ?_ dX3_act_41
      have hS := sAct_no (pl := pl) (c := nI c1) (so := so) (kd := kd) (fun h => absurd c13 (Int32.not_lt.mpr h.2.1.1))
      exact ⟨hS.1.symm, by rw [hS.2]; exact ⟨O, an, wy, pla, hokO, hMz⟩, fun j hj => w_fr hE2 (by omega)⟩
    · refine lv_iload_n hx hb dX3_act_16 rfl (lv_at hl 2 rfl) ?_
      refine lv_bipush (v := 6) hx hb dX3_act_17 (by decide) ?_
      refine lv_icmp_gt (tgt := 40) hx hb dX3_act_19 (by decide) (fun c19 => ?_) (fun c19 => ?_)
      · refine lv_iconst (v := (-1)) hx hb dX3_act_40 (by decide) ?_
        refine we_i hx hb hr hlocks hw ?_ dX3_act_41
        have hS := sAct_no (pl := pl) (c := nI c1) (so := so) (kd := kd) (fun h => absurd c19 (Int32.not_lt.mpr h.2.1.2))
        exact ⟨hS.1.symm, by rw [hS.2]; exact ⟨O, an, wy, pla, hokO, hMz⟩, fun j hj => w_fr hE2 (by omega)⟩
      · refine lv_iload_n hx hb dX3_act_22 rfl (lv_at hl 3 rfl) ?_
        refine wc_i hw (va_runS (As := [.int kd]) (rest := []) ⟨hx, hb, hml, hown, hts⟩ (kX3_isKind l dC dI q ad en3 n _ kd) (va_cwS 1 hts gX3_act_X3_isKind rfl rfl rfl (by decide +kernel) ⟨Nat.le_of_ble_eq_true rfl, Nat.le_of_ble_eq_true rfl⟩) (wk_preS hw) rfl rfl hl.1 rfl (lv_room (Nat.le_of_ble_eq_true rfl)) dX3_act_23 ⟨Nat.le_refl _, Nat.le_refl _⟩) (fun r26 en28 H locs hp27 hw => ?_)
        obtain ⟨hr29, hn30⟩ := hp27
        rw [hn30] at hw
        clear hn30
        refine lv_if_eq (tgt := 40) hx hb dX3_act_26 (by decide) (fun c26 => ?_) (fun c26 => ?_)
        · have hkd := z01_f hr29 c26
          refine lv_iconst (v := (-1)) hx hb dX3_act_40 (by decide) ?_
          refine we_i hx hb hr hlocks hw ?_ dX3_act_41
          have hS := sAct_no (pl := pl) (c := nI c1) (so := so) (kd := kd) (fun h => hkd h.2.2)
          exact ⟨hS.1.symm, by rw [hS.2]; exact ⟨O, an, wy, pla, hokO, hMz⟩, fun j hj => w_fr hE2 (by omega)⟩
        · have hkd := z01_t hr29 c26
          refine lv_aload_n hx hb dX3_act_29 rfl (lv_at hl 0 rfl) ?_
          refine wr_get (ci := 4) (C := RX3) (T := TX3) (N := 21) hx hb hts iRX3 hown hw 42 (by omega) ot20 rfl 14 (by decide) (hts (.fieldLink RX3 45 "LibraryDeskModel" "acts" "[I") (by decide +kernel)) (fun _ h9 => h9) rfl dX3_act_30 ?_
          refine lv_iload_n hx hb dX3_act_33 rfl (lv_at hl 1 rfl) ?_
          refine wr_iald (v := nI (pl c1).2.1) hx hb hw 54 (by omega) 0 c4t20 rfl (vp_in_nI (by omega) (by decide)) (by rw [(nI_clamp (by omega))]; exact (hPlt20 c1 hc).2.1) dX3_act_34 ?_
          refine lv_bipush (v := 6) hx hb dX3_act_35 (by decide) ?_
          refine lv_icmp_ne (tgt := 42) hx hb dX3_act_37 (by decide) (fun c37 => ?_) (fun c37 => ?_)
          · have h6 : (pl c1).2.1 < 6 := by
              have : ¬ (pl c1).2.1 = 6 := fun h => c37 (by rw [h]; rfl)
              omega
            refine lv_bipush (v := 6) hx hb dX3_act_42 (by decide) ?_
            refine lv_iload_n hx hb dX3_act_44 rfl (lv_at hl 1 rfl) ?_
            refine lv_imul hx hb dX3_act_45 ?_
            refine lv_topi (fun x31 ex31 => ?_)
            have ex31n : x31 = nI (6 * c1) := ex31.trans (pk_mul 6 c1)
            clear ex31
            subst ex31n
            refine lv_aload_n hx hb dX3_act_46 rfl (lv_at hl 0 rfl) ?_
            refine wr_get (ci := 4) (C := RX3) (T := TX3) (N := 21) hx hb hts iRX3 hown hw 42 (by omega) ot20 rfl 14 (by decide) (hts (.fieldLink RX3 45 "LibraryDeskModel" "acts" "[I") (by decide +kernel)) (fun _ h9 => h9) rfl dX3_act_47 ?_
            refine lv_iload_n hx hb dX3_act_50 rfl (lv_at hl 1 rfl) ?_
            refine wr_iald (v := nI (pl c1).2.1) hx hb hw 54 (by omega) 0 c4t20 rfl (vp_in_nI (by omega) (by decide)) (by rw [(nI_clamp (by omega))]; exact (hPlt20 c1 hc).2.1) dX3_act_51 ?_
            refine lv_iadd hx hb dX3_act_52 ?_
            refine lv_topi (fun x32 ex32 => ?_)
            have ex32n : x32 = nI (6 * c1 + (pl c1).2.1) := ex32.trans (nI_add _ _)
            clear ex32
            subst ex32n
            refine lv_istore (lv' := [(4, .int (nI (6 * c1 + (pl c1).2.1))), (0, .ref (ad 42)), (1, .int (nI c1)), (2, .int so), (3, .int kd)]) hx hb dX3_act_53 hl (by decide) rfl (fun ls hl => ?_)
            refine lv_aload_n hx hb dX3_act_55 rfl (lv_at hl 1 rfl) ?_
            refine wr_get (ci := 4) (C := RX3) (T := TX3) (N := 21) hx hb hts iRX3 hown hw 42 (by omega) ot20 rfl 12 (by decide) (hts (.fieldLink RX3 39 "LibraryDeskModel" "sorts" "[I") (by decide +kernel)) (fun _ h9 => h9) rfl dX3_act_56 ?_
            refine lv_iload hx hb dX3_act_59 (lv_at hl 0 rfl) ?_
            refine lv_iload_n hx hb dX3_act_61 rfl (lv_at hl 3 rfl) ?_
            refine wr_iast (j := (6 * c1 + (pl c1).2.1)) hx hb hw 52 (by omega) 0 c2t20 rfl (vp_in_nI (by omega) (by decide)) (nI_clamp (by omega)) dX3_act_62 (fun en34 H locs hE33 hw => ?_)
            have he35 : en34 42 = .inr (4, [.int 0, .ref (ad 43), .ref (ad 44), .ref (ad 45), .ref (ad 46), .int (nI (aCn A)), .ref (ad 47), .ref (ad 48), .ref (ad 49), .ref (ad 50), .int (nI (aCn O)), .ref (ad 51), .ref (ad 52), .ref (ad 53), .ref (ad 54), .ref (ad 55), .ref (ad 56), .ref (ad 57), .long an, .int wy, .int pla]) := w_ne hE33 (by omega) ot20
            have he36 : en34 43 = .inl (q.2.2.1, 328, .inl hFt20) := w_ne hE33 (by omega) a1t20
            have he37 : en34 44 = .inl (q.1, 8, .inl mFt20) := w_ne hE33 (by omega) a2t20
            have he38 : en34 45 = .inl (q.2.1, 8, .inr (.inl tFt20)) := w_ne hE33 (by omega) a3t20
            have he39 : en34 46 = .inl (q.2.1, 20, .inr (.inl rFt20)) := w_ne hE33 (by omega) a4t20
            have he40 : en34 47 = .inl (q.2.2.1, 328, .inl oht20) := w_ne hE33 (by omega) b1t20
            have he41 : en34 48 = .inl (q.1, 8, .inl omt20) := w_ne hE33 (by omega) b2t20
            have he42 : en34 49 = .inl (q.2.1, 8, .inr (.inl ott20)) := w_ne hE33 (by omega) b3t20
            have he43 : en34 50 = .inl (q.2.1, 20, .inr (.inl orrt20)) := w_ne hE33 (by omega) b4t20
            have he44 : en34 51 = .inl (q.1, 10, .inl wFt20) := w_ne hE33 (by omega) c1t20
            have he45 : en34 52 = .inl (q.1, 60, .inl (upd sFt20 ((6 * c1 + (pl c1).2.1)) so)) := w_self hE33
            have he46 : en34 53 = .inl (q.1, 60, .inl kFt20) := w_ne hE33 (by omega) c3t20
            have he47 : en34 54 = .inl (q.1, 10, .inl aFt20) := w_ne hE33 (by omega) c4t20
            have he48 : en34 55 = .inl (q.1, 10, .inl fFt20) := w_ne hE33 (by omega) c5t20
            have he49 : en34 56 = .inl (q.1, 10, .inl xFt20) := w_ne hE33 (by omega) c6t20
            have he50 : en34 57 = .inl (q.1, 7, .inl gFt20) := w_ne hE33 (by omega) e1t20
            refine lv_aload_n hx hb dX3_act_63 rfl (lv_at hl 1 rfl) ?_
            refine wr_get (ci := 4) (C := RX3) (T := TX3) (N := 21) hx hb hts iRX3 hown hw 42 (by omega) he35 rfl 13 (by decide) (hts (.fieldLink RX3 42 "LibraryDeskModel" "kinds" "[I") (by decide +kernel)) (fun _ h9 => h9) rfl dX3_act_64 ?_
            refine lv_iload hx hb dX3_act_67 (lv_at hl 0 rfl) ?_
            refine lv_iload_n hx hb dX3_act_69 rfl (lv_at hl 4 rfl) ?_
            refine wr_iast (j := (6 * c1 + (pl c1).2.1)) hx hb hw 53 (by omega) 0 he46 rfl (vp_in_nI (by omega) (by decide)) (nI_clamp (by omega)) dX3_act_70 (fun en52 H locs hE51 hw => ?_)
            have he53 : en52 42 = .inr (4, [.int 0, .ref (ad 43), .ref (ad 44), .ref (ad 45), .ref (ad 46), .int (nI (aCn A)), .ref (ad 47), .ref (ad 48), .ref (ad 49), .ref (ad 50), .int (nI (aCn O)), .ref (ad 51), .ref (ad 52), .ref (ad 53), .ref (ad 54), .ref (ad 55), .ref (ad 56), .ref (ad 57), .long an, .int wy, .int pla]) := w_ne hE51 (by omega) he35
            have he54 : en52 43 = .inl (q.2.2.1, 328, .inl hFt20) := w_ne hE51 (by omega) he36
            have he55 : en52 44 = .inl (q.1, 8, .inl mFt20) := w_ne hE51 (by omega) he37
            have he56 : en52 45 = .inl (q.2.1, 8, .inr (.inl tFt20)) := w_ne hE51 (by omega) he38
            have he57 : en52 46 = .inl (q.2.1, 20, .inr (.inl rFt20)) := w_ne hE51 (by omega) he39
            have he58 : en52 47 = .inl (q.2.2.1, 328, .inl oht20) := w_ne hE51 (by omega) he40
            have he59 : en52 48 = .inl (q.1, 8, .inl omt20) := w_ne hE51 (by omega) he41
            have he60 : en52 49 = .inl (q.2.1, 8, .inr (.inl ott20)) := w_ne hE51 (by omega) he42
            have he61 : en52 50 = .inl (q.2.1, 20, .inr (.inl orrt20)) := w_ne hE51 (by omega) he43
            have he62 : en52 51 = .inl (q.1, 10, .inl wFt20) := w_ne hE51 (by omega) he44
            have he63 : en52 52 = .inl (q.1, 60, .inl (upd sFt20 ((6 * c1 + (pl c1).2.1)) so)) := w_ne hE51 (by omega) he45
            have he64 : en52 53 = .inl (q.1, 60, .inl (upd kFt20 ((6 * c1 + (pl c1).2.1)) kd)) := w_self hE51
            have he65 : en52 54 = .inl (q.1, 10, .inl aFt20) := w_ne hE51 (by omega) he47
            have he66 : en52 55 = .inl (q.1, 10, .inl fFt20) := w_ne hE51 (by omega) he48
            have he67 : en52 56 = .inl (q.1, 10, .inl xFt20) := w_ne hE51 (by omega) he49
            have he68 : en52 57 = .inl (q.1, 7, .inl gFt20) := w_ne hE51 (by omega) he50
            refine lv_aload_n hx hb dX3_act_71 rfl (lv_at hl 1 rfl) ?_
            refine wr_get (ci := 4) (C := RX3) (T := TX3) (N := 21) hx hb hts iRX3 hown hw 42 (by omega) he53 rfl 14 (by decide) (hts (.fieldLink RX3 45 "LibraryDeskModel" "acts" "[I") (by decide +kernel)) (fun _ h9 => h9) rfl dX3_act_72 ?_
            refine lv_iload_n hx hb dX3_act_75 rfl (lv_at hl 2 rfl) ?_
            refine lv_dup2_11 hx hb dX3_act_76 rfl rfl ?_
            refine wr_iald (v := nI (pl c1).2.1) hx hb hw 54 (by omega) 0 he65 rfl (vp_in_nI (by omega) (by decide)) (by rw [(nI_clamp (by omega))]; exact (hPlt20 c1 hc).2.1) dX3_act_77 ?_
            refine lv_iconst (v := 1) hx hb dX3_act_78 (by decide) ?_
            refine lv_iadd hx hb dX3_act_79 ?_
            refine lv_topi (fun x69 ex69 => ?_)
            have ex69n : x69 = nI ((pl c1).2.1 + 1) := ex69.trans (nI_1 _)
            clear ex69
            subst ex69n
            refine wr_iast (j := c1) hx hb hw 54 (by omega) 0 he65 rfl (vp_in_nI (by omega) (by decide)) (nI_clamp (by omega)) dX3_act_80 (fun en71 H locs hE70 hw => ?_)
            have he72 : en71 42 = .inr (4, [.int 0, .ref (ad 43), .ref (ad 44), .ref (ad 45), .ref (ad 46), .int (nI (aCn A)), .ref (ad 47), .ref (ad 48), .ref (ad 49), .ref (ad 50), .int (nI (aCn O)), .ref (ad 51), .ref (ad 52), .ref (ad 53), .ref (ad 54), .ref (ad 55), .ref (ad 56), .ref (ad 57), .long an, .int wy, .int pla]) := w_ne hE70 (by omega) he53
            have he73 : en71 43 = .inl (q.2.2.1, 328, .inl hFt20) := w_ne hE70 (by omega) he54
            have he74 : en71 44 = .inl (q.1, 8, .inl mFt20) := w_ne hE70 (by omega) he55
            have he75 : en71 45 = .inl (q.2.1, 8, .inr (.inl tFt20)) := w_ne hE70 (by omega) he56
            have he76 : en71 46 = .inl (q.2.1, 20, .inr (.inl rFt20)) := w_ne hE70 (by omega) he57
            have he77 : en71 47 = .inl (q.2.2.1, 328, .inl oht20) := w_ne hE70 (by omega) he58
            have he78 : en71 48 = .inl (q.1, 8, .inl omt20) := w_ne hE70 (by omega) he59
            have he79 : en71 49 = .inl (q.2.1, 8, .inr (.inl ott20)) := w_ne hE70 (by omega) he60
            have he80 : en71 50 = .inl (q.2.1, 20, .inr (.inl orrt20)) := w_ne hE70 (by omega) he61
            have he81 : en71 51 = .inl (q.1, 10, .inl wFt20) := w_ne hE70 (by omega) he62
            have he82 : en71 52 = .inl (q.1, 60, .inl (upd sFt20 ((6 * c1 + (pl c1).2.1)) so)) := w_ne hE70 (by omega) he63
            have he83 : en71 53 = .inl (q.1, 60, .inl (upd kFt20 ((6 * c1 + (pl c1).2.1)) kd)) := w_ne hE70 (by omega) he64
            have he84 : en71 54 = .inl (q.1, 10, .inl (upd aFt20 c1 (nI ((pl c1).2.1 + 1)))) := w_self hE70
            have he85 : en71 55 = .inl (q.1, 10, .inl fFt20) := w_ne hE70 (by omega) he66
            have he86 : en71 56 = .inl (q.1, 10, .inl xFt20) := w_ne hE70 (by omega) he67
            have he87 : en71 57 = .inl (q.1, 7, .inl gFt20) := w_ne hE70 (by omega) he68
            refine lv_aload_n hx hb dX3_act_81 rfl (lv_at hl 1 rfl) ?_
            refine wr_get (ci := 4) (C := RX3) (T := TX3) (N := 21) hx hb hts iRX3 hown hw 42 (by omega) he72 rfl 14 (by decide) (hts (.fieldLink RX3 45 "LibraryDeskModel" "acts" "[I") (by decide +kernel)) (fun _ h9 => h9) rfl dX3_act_82 ?_
            refine lv_iload_n hx hb dX3_act_85 rfl (lv_at hl 2 rfl) ?_
            refine wr_iald (v := nI ((pl c1).2.1 + 1)) hx hb hw 54 (by omega) 0 he84 rfl (vp_in_nI (by omega) (by decide)) (by rw [(nI_clamp (by omega))]; exact pk_us) dX3_act_86 ?_
            refine we_i hx hb hr hlocks hw ?_ dX3_act_87
            have hS := sAct_ok (pl := pl) (so := so) (kd := kd) hc ⟨⟨Int32.not_lt.mp c13, Int32.not_lt.mp c19⟩, hkd⟩
            refine ⟨by rw [hS.1, if_pos h6], ?_, fun j hj => (w_fr hE70 (by omega)).trans ((w_fr hE51 (by omega)).trans ((w_fr hE33 (by omega)).trans (w_fr hE2 (by omega))))⟩
            rw [hS.2]
            exact ⟨O, _, _, _, hokO, ⟨he72, ⟨_, _, _, _, he73, he74, he75, he76, hRt20⟩, ⟨_, _, _, _, he77, he78, he79, he80, hOt20⟩, ⟨_, _, _, _, _, _, he81, he82, he83, he84, he85, he86, MPl_act hPlt20 hpok hc h6 so kd⟩, ⟨_, he87, hTt20⟩⟩⟩
          · have h6 : ¬ (pl c1).2.1 < 6 := fun h => absurd ((nI_eq (b := 6) (by omega) (by omega)).mp c37) (by omega)
            refine lv_iconst (v := (-1)) hx hb dX3_act_40 (by decide) ?_
            refine we_i hx hb hr hlocks hw ?_ dX3_act_41
            have hS := sAct_ok (pl := pl) (so := so) (kd := kd) hc ⟨⟨Int32.not_lt.mp c13, Int32.not_lt.mp c19⟩, hkd⟩
            have hpn : pAdd so kd (pl c1) = pl c1 := by
              unfold pAdd
              rw [if_neg h6]
            exact ⟨by rw [hS.1, if_neg h6], by rw [hS.2, hpn, va_up_id]; exact ⟨O, an, wy, pla, hokO, hMz⟩, fun j hj => w_fr hE2 (by omega)⟩

set_option maxHeartbeats 4000000 in
set_option maxRecDepth 100000 in
theorem kX3_fails (l : Launch) (dC : Nat → ClassId) (dI : Nat → Nat → Nat) (q : ClassId × ClassId × ClassId × ClassId) (ad : Nat → Nat) (en : Nat → va_E) (n sz : Nat) (hn58 : 58 ≤ n) (th : Int32) (A : Ast) (pl : Nat → Pst) (cs : Nat → Int32) (hok : Aok A) (hpok : ∀ i, i < 10 → Pok (pl i)) (hM0 : ModAt q ad en th A pl cs) (cv i x : Int32) :
    Met l yX3_fails wsX3_fails ({ frames := 1, cells := 0, slots := 0, locals := 20 }) (wPc (dC, dI) vwCl (wT q) ad en n sz [.ref (ad 42), .int cv, .int i, .int x]) (va_Qi (fun (r : Int32) (en' : Nat → va_E) => r = sFailsR cv i x ∧ ModAt q ad en' 0 A (sFails cv i x pl) cs ∧ ∀ j, (j < 42 ∨ 58 ≤ j) → en' j = en j) (wB (dC, dI) vwCl (wT q) ad n (wA ad n sz)) (wA ad n sz)) 0 0 (wA ad n sz) := by
  refine Met.ofW (cc := cX3_fails) (maxL := 4) (ret := (some .int)) (by decide) rfl ?_
  intro p e s m args below meth c s₁ B hml hv
  obtain ⟨rfl, hsz, hP, hK, hD0, hE0⟩ := hv
  have hx := B.exec
  have hb := B.bytes
  have hr := B.returns
  have hts := atoms_spec (ws := wsX3_fails) B.pre
  have hown : s.vm.findClass RX3 = some m.cls := findClass_of_methodNamed B.named
  have hlocks := B.notSynchronized
  have iRX3 : ∀ w ∈ u_ws RX3 TX3 21, w ∈ wsX3_fails := by decide +kernel
  subst hsz
  have hw := wk_of hP hK hD0 hE0
  generalize wA ad n s.heap.size = AA at hw ⊢
  have hl := lv_entry ([.ref (ad 42), .int cv, .int i, .int x]) (n := 4) (Nat.le_of_ble_eq_true rfl)
  rw [lg_entry_eq]
  generalize (lg_sl ([.ref (ad 42), .int cv, .int i, .int x]) ++ List.replicate (4 - (lg_sl ([.ref (ad 42), .int cv, .int i, .int x])).length) Slot.unset).toArray = ls at hl ⊢
  have hl : lv_has ls 4 [(0, .ref (ad 42)), (1, .int cv), (2, .int i), (3, .int x)] := hl
  obtain ⟨O, an, wy, pla, hokO, hM⟩ := hM0
  have hcn := hok.2
  obtain ⟨ot1, ⟨hFt1, mFt1, tFt1, rFt1, a1t1, a2t1, a3t1, a4t1, hRt1⟩, ⟨oht1, omt1, ott1, orrt1, b1t1, b2t1, b3t1, b4t1, hOt1⟩, ⟨wFt1, sFt1, kFt1, aFt1, fFt1, xFt1, c1t1, c2t1, c3t1, c4t1, c5t1, c6t1, hPlt1⟩, ⟨gFt1, e1t1, hTt1⟩⟩ := id hM
  refine lv_aload_n hx hb dX3_fails_0 rfl (lv_at hl 0 rfl) ?_
  refine lv_iconst (v := 0) hx hb dX3_fails_1 (by decide) ?_
  refine wr_put (ci := 4) (v := .int 0) (ty := .int) (C := RX3) (T := TX3) (N := 21) hx hb hts iRX3 tyX3 tyX3_ok nmX3 hown hw 42 (by omega) ot1 rfl 0 (by decide) (hts (.fieldLink RX3 57 "LibraryDeskModel" "thrown" "I") (by decide +kernel)) (fun _ h9 => h9) rfl (by decide +kernel) rfl rfl (Nat.le_of_ble_eq_true rfl) dX3_fails_2 (fun en3 H locs hE2 hw => ?_)
  have he4 : en3 42 = .inr (4, [.int 0, .ref (ad 43), .ref (ad 44), .ref (ad 45), .ref (ad 46), .int (nI (aCn A)), .ref (ad 47), .ref (ad 48), .ref (ad 49), .ref (ad 50), .int (nI (aCn O)), .ref (ad 51), .ref (ad 52), .ref (ad 53), .ref (ad 54), .ref (ad 55), .ref (ad 56), .ref (ad 57), .long an, .int wy, .int pla]) := w_self hE2
  have he5 : en3 43 = .inl (q.2.2.1, 328, .inl hFt1) := w_ne hE2 (by omega) a1t1
  have he6 : en3 44 = .inl (q.1, 8, .inl mFt1) := w_ne hE2 (by omega) a2t1
  have he7 : en3 45 = .inl (q.2.1, 8, .inr (.inl tFt1)) := w_ne hE2 (by omega) a3t1
  have he8 : en3 46 = .inl (q.2.1, 20, .inr (.inl rFt1)) := w_ne hE2 (by omega) a4t1
  have he9 : en3 47 = .inl (q.2.2.1, 328, .inl oht1) := w_ne hE2 (by omega) b1t1
  have he10 : en3 48 = .inl (q.1, 8, .inl omt1) := w_ne hE2 (by omega) b2t1
  have he11 : en3 49 = .inl (q.2.1, 8, .inr (.inl ott1)) := w_ne hE2 (by omega) b3t1
  have he12 : en3 50 = .inl (q.2.1, 20, .inr (.inl orrt1)) := w_ne hE2 (by omega) b4t1
  have he13 : en3 51 = .inl (q.1, 10, .inl wFt1) := w_ne hE2 (by omega) c1t1
  have he14 : en3 52 = .inl (q.1, 60, .inl sFt1) := w_ne hE2 (by omega) c2t1
  have he15 : en3 53 = .inl (q.1, 60, .inl kFt1) := w_ne hE2 (by omega) c3t1
  have he16 : en3 54 = .inl (q.1, 10, .inl aFt1) := w_ne hE2 (by omega) c4t1
  have he17 : en3 55 = .inl (q.1, 10, .inl fFt1) := w_ne hE2 (by omega) c5t1
  have he18 : en3 56 = .inl (q.1, 10, .inl xFt1) := w_ne hE2 (by omega) c6t1
  have he19 : en3 57 = .inl (q.1, 7, .inl gFt1) := w_ne hE2 (by omega) e1t1
  have hMz : ModC q ad en3 0 A O pl cs an wy pla := ⟨he4, ⟨_, _, _, _, he5, he6, he7, he8, hRt1⟩, ⟨_, _, _, _, he9, he10, he11, he12, hOt1⟩, ⟨_, _, _, _, _, _, he13, he14, he15, he16, he17, he18, hPlt1⟩, ⟨_, he19, hTt1⟩⟩
  obtain ⟨ot20, ⟨hFt20, mFt20, tFt20, rFt20, a1t20, a2t20, a3t20, a4t20, hRt20⟩, ⟨oht20, omt20, ott20, orrt20, b1t20, b2t20, b3t20, b4t20, hOt20⟩, ⟨wFt20, sFt20, kFt20, aFt20, fFt20, xFt20, c1t20, c2t20, c3t20, c4t20, c5t20, c6t20, hPlt20⟩, ⟨gFt20, e1t20, hTt20⟩⟩ := id hMz
  refine lv_iload_n hx hb dX3_fails_5 rfl (lv_at hl 1 rfl) ?_
  refine wc_i hw (va_runS (As := [.int cv]) (rest := []) ⟨hx, hb, hml, hown, hts⟩ (kX3_isCall l dC dI q ad en3 n _ cv) (va_cwS 1 hts gX3_fails_X3_isCall rfl rfl rfl (by decide +kernel) ⟨Nat.le_of_ble_eq_true rfl, Nat.le_of_ble_eq_true rfl⟩) (wk_preS hw) rfl rfl hl.1 rfl (lv_room (Nat.le_of_ble_eq_true rfl)) dX3_fails_6 ⟨Nat.le_refl _, Nat.le_refl _⟩) (fun r21 en23 H locs hp22 hw => ?_)
  obtain ⟨hr24, hn25⟩ := hp22
  rw [hn25] at hw
  clear hn25
  refine lv_if_eq (tgt := 31) hx hb dX3_fails_9 (by decide) (fun c9 => ?_) (fun c9 => ?_)
  · have hcv := z01_f hr24 c9
    refine lv_iconst (v := 0) hx hb dX3_fails_31 (by decide) ?_
    refine we_i hx hb hr hlocks hw ?_ dX3_fails_32
    have hS := sFails_no (pl := pl) (c := cv) (i := i) (x := x) (fun h => hcv h.1)
    exact ⟨hS.1.symm, by rw [hS.2]; exact ⟨O, an, wy, pla, hokO, hMz⟩, fun j hj => w_fr hE2 (by omega)⟩
  · have hcv := z01_t hr24 c9
    obtain ⟨c1, hc, ecv⟩ := okC_of hcv
    subst ecv
    refine lv_iload_n hx hb dX3_fails_12 rfl (lv_at hl 2 rfl) ?_
    refine lv_if_lt (tgt := 31) hx hb dX3_fails_13 (by decide) (fun c13 => ?_) (fun c13 => ?_)
    · refine lv_iconst (v := 0) hx hb dX3_fails_31 (by decide) ?_
      refine we_i hx hb hr hlocks hw ?_ dX3_fails_32
      have hS := sFails_no (pl := pl) (c := nI c1) (i := i) (x := x) (fun h => absurd c13 (Int32.not_lt.mpr h.2.1.1))
      exact ⟨hS.1.symm, by rw [hS.2]; exact ⟨O, an, wy, pla, hokO, hMz⟩, fun j hj => w_fr hE2 (by omega)⟩
    · refine lv_iload_n hx hb dX3_fails_16 rfl (lv_at hl 2 rfl) ?_
      refine lv_iconst (v := 5) hx hb dX3_fails_17 (by decide) ?_
      refine lv_icmp_gt (tgt := 31) hx hb dX3_fails_18 (by decide) (fun c18 => ?_) (fun c18 => ?_)
      · refine lv_iconst (v := 0) hx hb dX3_fails_31 (by decide) ?_
        refine we_i hx hb hr hlocks hw ?_ dX3_fails_32
        have hS := sFails_no (pl := pl) (c := nI c1) (i := i) (x := x) (fun h => absurd h.2.1.2 (Int32.not_lt.mpr (le5_6 c18)))
        exact ⟨hS.1.symm, by rw [hS.2]; exact ⟨O, an, wy, pla, hokO, hMz⟩, fun j hj => w_fr hE2 (by omega)⟩
      · refine lv_iload_n hx hb dX3_fails_21 rfl (lv_at hl 3 rfl) ?_
        refine lv_iconst (v := 1) hx hb dX3_fails_22 (by decide) ?_
        refine lv_icmp_lt (tgt := 31) hx hb dX3_fails_23 (by decide) (fun c23 => ?_) (fun c23 => ?_)
        · refine lv_iconst (v := 0) hx hb dX3_fails_31 (by decide) ?_
          refine we_i hx hb hr hlocks hw ?_ dX3_fails_32
          have hS := sFails_no (pl := pl) (c := nI c1) (i := i) (x := x) (fun h => absurd c23 (Int32.not_lt.mpr h.2.2.1))
          exact ⟨hS.1.symm, by rw [hS.2]; exact ⟨O, an, wy, pla, hokO, hMz⟩, fun j hj => w_fr hE2 (by omega)⟩
        · refine lv_iload_n hx hb dX3_fails_26 rfl (lv_at hl 3 rfl) ?_
          refine lv_iconst (v := 5) hx hb dX3_fails_27 (by decide) ?_
          refine lv_icmp_le (tgt := 33) hx hb dX3_fails_28 (by decide) (fun c28 => ?_) (fun c28 => ?_)
          · refine lv_aload_n hx hb dX3_fails_33 rfl (lv_at hl 0 rfl) ?_
            refine wr_get (ci := 4) (C := RX3) (T := TX3) (N := 21) hx hb hts iRX3 hown hw 42 (by omega) ot20 rfl 15 (by decide) (hts (.fieldLink RX3 48 "LibraryDeskModel" "failsAt" "[I") (by decide +kernel)) (fun _ h9 => h9) rfl dX3_fails_34 ?_
            refine lv_iload_n hx hb dX3_fails_37 rfl (lv_at hl 1 rfl) ?_
            refine lv_iload_n hx hb dX3_fails_38 rfl (lv_at hl 2 rfl) ?_
            refine wr_iast (j := c1) hx hb hw 55 (by omega) 0 c5t20 rfl (vp_in_nI (by omega) (by decide)) (nI_clamp (by omega)) dX3_fails_39 (fun en27 H locs hE26 hw => ?_)
            have he28 : en27 42 = .inr (4, [.int 0, .ref (ad 43), .ref (ad 44), .ref (ad 45), .ref (ad 46), .int (nI (aCn A)), .ref (ad 47), .ref (ad 48), .ref (ad 49), .ref (ad 50), .int (nI (aCn O)), .ref (ad 51), .ref (ad 52), .ref (ad 53), .ref (ad 54), .ref (ad 55), .ref (ad 56), .ref (ad 57), .long an, .int wy, .int pla]) := w_ne hE26 (by omega) ot20
            have he29 : en27 43 = .inl (q.2.2.1, 328, .inl hFt20) := w_ne hE26 (by omega) a1t20
            have he30 : en27 44 = .inl (q.1, 8, .inl mFt20) := w_ne hE26 (by omega) a2t20
            have he31 : en27 45 = .inl (q.2.1, 8, .inr (.inl tFt20)) := w_ne hE26 (by omega) a3t20
            have he32 : en27 46 = .inl (q.2.1, 20, .inr (.inl rFt20)) := w_ne hE26 (by omega) a4t20
            have he33 : en27 47 = .inl (q.2.2.1, 328, .inl oht20) := w_ne hE26 (by omega) b1t20
            have he34 : en27 48 = .inl (q.1, 8, .inl omt20) := w_ne hE26 (by omega) b2t20
            have he35 : en27 49 = .inl (q.2.1, 8, .inr (.inl ott20)) := w_ne hE26 (by omega) b3t20
            have he36 : en27 50 = .inl (q.2.1, 20, .inr (.inl orrt20)) := w_ne hE26 (by omega) b4t20
            have he37 : en27 51 = .inl (q.1, 10, .inl wFt20) := w_ne hE26 (by omega) c1t20
            have he38 : en27 52 = .inl (q.1, 60, .inl sFt20) := w_ne hE26 (by omega) c2t20
            have he39 : en27 53 = .inl (q.1, 60, .inl kFt20) := w_ne hE26 (by omega) c3t20
            have he40 : en27 54 = .inl (q.1, 10, .inl aFt20) := w_ne hE26 (by omega) c4t20
            have he41 : en27 55 = .inl (q.1, 10, .inl (upd fFt20 c1 i)) := w_self hE26
            have he42 : en27 56 = .inl (q.1, 10, .inl xFt20) := w_ne hE26 (by omega) c6t20
            have he43 : en27 57 = .inl (q.1, 7, .inl gFt20) := w_ne hE26 (by omega) e1t20
            refine lv_aload_n hx hb dX3_fails_40 rfl (lv_at hl 0 rfl) ?_
            refine wr_get (ci := 4) (C := RX3) (T := TX3) (N := 21) hx hb hts iRX3 hown hw 42 (by omega) he28 rfl 16 (by decide) (hts (.fieldLink RX3 51 "LibraryDeskModel" "failsWith" "[I") (by decide +kernel)) (fun _ h9 => h9) rfl dX3_fails_41 ?_
            refine lv_iload_n hx hb dX3_fails_44 rfl (lv_at hl 1 rfl) ?_
            refine lv_iload_n hx hb dX3_fails_45 rfl (lv_at hl 3 rfl) ?_
            refine wr_iast (j := c1) hx hb hw 56 (by omega) 0 he42 rfl (vp_in_nI (by omega) (by decide)) (nI_clamp (by omega)) dX3_fails_46 (fun en45 H locs hE44 hw => ?_)
            have he46 : en45 42 = .inr (4, [.int 0, .ref (ad 43), .ref (ad 44), .ref (ad 45), .ref (ad 46), .int (nI (aCn A)), .ref (ad 47), .ref (ad 48), .ref (ad 49), .ref (ad 50), .int (nI (aCn O)), .ref (ad 51), .ref (ad 52), .ref (ad 53), .ref (ad 54), .ref (ad 55), .ref (ad 56), .ref (ad 57), .long an, .int wy, .int pla]) := w_ne hE44 (by omega) he28
            have he47 : en45 43 = .inl (q.2.2.1, 328, .inl hFt20) := w_ne hE44 (by omega) he29
            have he48 : en45 44 = .inl (q.1, 8, .inl mFt20) := w_ne hE44 (by omega) he30
            have he49 : en45 45 = .inl (q.2.1, 8, .inr (.inl tFt20)) := w_ne hE44 (by omega) he31
            have he50 : en45 46 = .inl (q.2.1, 20, .inr (.inl rFt20)) := w_ne hE44 (by omega) he32
            have he51 : en45 47 = .inl (q.2.2.1, 328, .inl oht20) := w_ne hE44 (by omega) he33
            have he52 : en45 48 = .inl (q.1, 8, .inl omt20) := w_ne hE44 (by omega) he34
            have he53 : en45 49 = .inl (q.2.1, 8, .inr (.inl ott20)) := w_ne hE44 (by omega) he35
            have he54 : en45 50 = .inl (q.2.1, 20, .inr (.inl orrt20)) := w_ne hE44 (by omega) he36
            have he55 : en45 51 = .inl (q.1, 10, .inl wFt20) := w_ne hE44 (by omega) he37
            have he56 : en45 52 = .inl (q.1, 60, .inl sFt20) := w_ne hE44 (by omega) he38
            have he57 : en45 53 = .inl (q.1, 60, .inl kFt20) := w_ne hE44 (by omega) he39
            have he58 : en45 54 = .inl (q.1, 10, .inl aFt20) := w_ne hE44 (by omega) he40
            have he59 : en45 55 = .inl (q.1, 10, .inl (upd fFt20 c1 i)) := w_ne hE44 (by omega) he41
            have he60 : en45 56 = .inl (q.1, 10, .inl (upd xFt20 c1 x)) := w_self hE44
            have he61 : en45 57 = .inl (q.1, 7, .inl gFt20) := w_ne hE44 (by omega) he43
            refine lv_iconst (v := 1) hx hb dX3_fails_47 (by decide) ?_
            refine we_i hx hb hr hlocks hw ?_ dX3_fails_48
            have hS := sFails_ok (pl := pl) hc ⟨⟨Int32.not_lt.mp c13, Int32.lt_of_le_of_lt (Int32.not_lt.mp c18) (by decide)⟩, Int32.not_lt.mp c23, c28⟩
            refine ⟨hS.1.symm, ?_, fun j hj => (w_fr hE44 (by omega)).trans ((w_fr hE26 (by omega)).trans (w_fr hE2 (by omega)))⟩
            rw [hS.2]
            obtain ⟨k1, k2, k3, k4, k5⟩ := hPlt20 c1 hc
            exact ⟨O, _, _, _, hokO, ⟨he46, ⟨_, _, _, _, he47, he48, he49, he50, hRt20⟩, ⟨_, _, _, _, he51, he52, he53, he54, hOt20⟩, ⟨_, _, _, _, _, _, he55, he56, he57, he58, he59, he60, MPl_up hPlt20 hc (fun j e => ⟨rfl, rfl, pk_un e, pk_un e⟩) ⟨k1, k2, pk_us, pk_us, k5⟩⟩, ⟨_, he61, hTt20⟩⟩⟩
          · refine lv_iconst (v := 0) hx hb dX3_fails_31 (by decide) ?_
            refine we_i hx hb hr hlocks hw ?_ dX3_fails_32
            have hS := sFails_no (pl := pl) (c := nI c1) (i := i) (x := x) (fun h => c28 h.2.2.2)
            exact ⟨hS.1.symm, by rw [hS.2]; exact ⟨O, an, wy, pla, hokO, hMz⟩, fun j hj => w_fr hE2 (by omega)⟩

set_option maxHeartbeats 4000000 in
set_option maxRecDepth 100000 in
theorem kX3_make (l : Launch) (dC : Nat → ClassId) (dI : Nat → Nat → Nat) (q : ClassId × ClassId × ClassId × ClassId) (ad : Nat → Nat) (en : Nat → va_E) (n sz : Nat) (hn58 : 58 ≤ n) (th : Int32) (A : Ast) (pl : Nat → Pst) (cs : Nat → Int32) (hok : Aok A) (hpok : ∀ i, i < 10 → Pok (pl i)) (hM0 : ModAt q ad en th A pl cs) (kd : Int32) :
    Met l yX3_make wsX3_make ({ frames := 1, cells := 0, slots := 0, locals := 21 }) (wPc (dC, dI) vwCl (wT q) ad en n sz [.ref (ad 42), .int kd]) (va_Qi (fun (r : Int32) (en' : Nat → va_E) => r = sMakeR kd A ∧ ModAt q ad en' 0 (sMake kd A) pl cs ∧ ∀ j, (j < 42 ∨ 58 ≤ j) → en' j = en j) (wB (dC, dI) vwCl (wT q) ad n (wA ad n sz)) (wA ad n sz)) 0 0 (wA ad n sz) := by
  refine Met.ofW (cc := cX3_make) (maxL := 2) (ret := (some .int)) (by decide) rfl ?_
  intro p e s m args below meth c s₁ B hml hv
  obtain ⟨rfl, hsz, hP, hK, hD0, hE0⟩ := hv
  have hx := B.exec
  have hb := B.bytes
  have hr := B.returns
  have hts := atoms_spec (ws := wsX3_make) B.pre
  have hown : s.vm.findClass RX3 = some m.cls := findClass_of_methodNamed B.named
  have hlocks := B.notSynchronized
  have iRX3 : ∀ w ∈ u_ws RX3 TX3 21, w ∈ wsX3_make := by decide +kernel
  subst hsz
  have hw := wk_of hP hK hD0 hE0
  generalize wA ad n s.heap.size = AA at hw ⊢
  have hl := lv_entry ([.ref (ad 42), .int kd]) (n := 2) (Nat.le_of_ble_eq_true rfl)
  rw [lg_entry_eq]
  generalize (lg_sl ([.ref (ad 42), .int kd]) ++ List.replicate (2 - (lg_sl ([.ref (ad 42), .int kd])).length) Slot.unset).toArray = ls at hl ⊢
  have hl : lv_has ls 2 [(0, .ref (ad 42)), (1, .int kd)] := hl
  obtain ⟨O, an, wy, pla, hokO, hM⟩ := hM0
  have hcn := hok.2
  obtain ⟨ot1, ⟨hFt1, mFt1, tFt1, rFt1, a1t1, a2t1, a3t1, a4t1, hRt1⟩, ⟨oht1, omt1, ott1, orrt1, b1t1, b2t1, b3t1, b4t1, hOt1⟩, ⟨wFt1, sFt1, kFt1, aFt1, fFt1, xFt1, c1t1, c2t1, c3t1, c4t1, c5t1, c6t1, hPlt1⟩, ⟨gFt1, e1t1, hTt1⟩⟩ := id hM
  refine lv_aload_n hx hb dX3_make_0 rfl (lv_at hl 0 rfl) ?_
  refine lv_iconst (v := 0) hx hb dX3_make_1 (by decide) ?_
  refine wr_put (ci := 4) (v := .int 0) (ty := .int) (C := RX3) (T := TX3) (N := 21) hx hb hts iRX3 tyX3 tyX3_ok nmX3 hown hw 42 (by omega) ot1 rfl 0 (by decide) (hts (.fieldLink RX3 57 "LibraryDeskModel" "thrown" "I") (by decide +kernel)) (fun _ h9 => h9) rfl (by decide +kernel) rfl rfl (Nat.le_of_ble_eq_true rfl) dX3_make_2 (fun en3 H locs hE2 hw => ?_)
  have he4 : en3 42 = .inr (4, [.int 0, .ref (ad 43), .ref (ad 44), .ref (ad 45), .ref (ad 46), .int (nI (aCn A)), .ref (ad 47), .ref (ad 48), .ref (ad 49), .ref (ad 50), .int (nI (aCn O)), .ref (ad 51), .ref (ad 52), .ref (ad 53), .ref (ad 54), .ref (ad 55), .ref (ad 56), .ref (ad 57), .long an, .int wy, .int pla]) := w_self hE2
  have he5 : en3 43 = .inl (q.2.2.1, 328, .inl hFt1) := w_ne hE2 (by omega) a1t1
  have he6 : en3 44 = .inl (q.1, 8, .inl mFt1) := w_ne hE2 (by omega) a2t1
  have he7 : en3 45 = .inl (q.2.1, 8, .inr (.inl tFt1)) := w_ne hE2 (by omega) a3t1
  have he8 : en3 46 = .inl (q.2.1, 20, .inr (.inl rFt1)) := w_ne hE2 (by omega) a4t1
  have he9 : en3 47 = .inl (q.2.2.1, 328, .inl oht1) := w_ne hE2 (by omega) b1t1
  have he10 : en3 48 = .inl (q.1, 8, .inl omt1) := w_ne hE2 (by omega) b2t1
  have he11 : en3 49 = .inl (q.2.1, 8, .inr (.inl ott1)) := w_ne hE2 (by omega) b3t1
  have he12 : en3 50 = .inl (q.2.1, 20, .inr (.inl orrt1)) := w_ne hE2 (by omega) b4t1
  have he13 : en3 51 = .inl (q.1, 10, .inl wFt1) := w_ne hE2 (by omega) c1t1
  have he14 : en3 52 = .inl (q.1, 60, .inl sFt1) := w_ne hE2 (by omega) c2t1
  have he15 : en3 53 = .inl (q.1, 60, .inl kFt1) := w_ne hE2 (by omega) c3t1
  have he16 : en3 54 = .inl (q.1, 10, .inl aFt1) := w_ne hE2 (by omega) c4t1
  have he17 : en3 55 = .inl (q.1, 10, .inl fFt1) := w_ne hE2 (by omega) c5t1
  have he18 : en3 56 = .inl (q.1, 10, .inl xFt1) := w_ne hE2 (by omega) c6t1
  have he19 : en3 57 = .inl (q.1, 7, .inl gFt1) := w_ne hE2 (by omega) e1t1
  have hMz : ModC q ad en3 0 A O pl cs an wy pla := ⟨he4, ⟨_, _, _, _, he5, he6, he7, he8, hRt1⟩, ⟨_, _, _, _, he9, he10, he11, he12, hOt1⟩, ⟨_, _, _, _, _, _, he13, he14, he15, he16, he17, he18, hPlt1⟩, ⟨_, he19, hTt1⟩⟩
  obtain ⟨ot20, ⟨hFt20, mFt20, tFt20, rFt20, a1t20, a2t20, a3t20, a4t20, hRt20⟩, ⟨oht20, omt20, ott20, orrt20, b1t20, b2t20, b3t20, b4t20, hOt20⟩, ⟨wFt20, sFt20, kFt20, aFt20, fFt20, xFt20, c1t20, c2t20, c3t20, c4t20, c5t20, c6t20, hPlt20⟩, ⟨gFt20, e1t20, hTt20⟩⟩ := id hMz
  refine lv_iload_n hx hb dX3_make_5 rfl (lv_at hl 1 rfl) ?_
  refine wc_i hw (va_runS (As := [.int kd]) (rest := []) ⟨hx, hb, hml, hown, hts⟩ (kX3_isKind l dC dI q ad en3 n _ kd) (va_cwS 1 hts gX3_make_X3_isKind rfl rfl rfl (by decide +kernel) ⟨Nat.le_of_ble_eq_true rfl, Nat.le_of_ble_eq_true rfl⟩) (wk_preS hw) rfl rfl hl.1 rfl (lv_room (Nat.le_of_ble_eq_true rfl)) dX3_make_6 ⟨Nat.le_refl _, Nat.le_refl _⟩) (fun r21 en23 H locs hp22 hw => ?_)
  obtain ⟨hr24, hn25⟩ := hp22
  rw [hn25] at hw
  clear hn25
  refine lv_if_eq (tgt := 20) hx hb dX3_make_9 (by decide) (fun c9 => ?_) (fun c9 => ?_)
  · have hkd := z01_f hr24 c9
    refine lv_iconst (v := (-1)) hx hb dX3_make_20 (by decide) ?_
    refine we_i hx hb hr hlocks hw ?_ dX3_make_21
    have hS := sMake_no (A := A) hkd
    exact ⟨hS.1.symm, by rw [hS.2]; exact ⟨O, an, wy, pla, hokO, hMz⟩, fun j hj => w_fr hE2 (by omega)⟩
  · have hkd := z01_t hr24 c9
    obtain ⟨k, hk, ekd⟩ := okK_of hkd
    subst ekd
    refine lv_aload_n hx hb dX3_make_12 rfl (lv_at hl 0 rfl) ?_
    refine lv_iload_n hx hb dX3_make_13 rfl (lv_at hl 1 rfl) ?_
    refine wc_i hw (va_runV (As := [.int (nI k)]) (rest := []) ⟨hx, hb, hml, hown, hts⟩ (kX3_makes l dC dI q ad en3 n _ hn58 0 A O pl cs an wy pla hok hMz k hk) (cwV 1 hts gX3_make_X3_makes rfl rfl rfl (by decide +kernel) ⟨Nat.le_of_ble_eq_true rfl, Nat.le_of_ble_eq_true rfl⟩) (wk_preV hw (by omega) ot20 rfl) rfl rfl hl.1 rfl (lv_room (Nat.le_of_ble_eq_true rfl)) dX3_make_14 ⟨Nat.le_refl _, Nat.le_refl _⟩) (fun r26 en28 H locs hp27 hw => ?_)
    obtain ⟨hr1, hM1, hfr1⟩ := hp27
    refine lv_goto (tgt := 21) hx hb dX3_make_17 (by decide) ?_
    refine we_i hx hb hr hlocks hw ?_ dX3_make_21
    have hS := sMake_ok (A := A) hk
    exact ⟨by rw [hS.1]; exact hr1, by rw [hS.2]; exact ⟨O, an, wy, pla, hokO, hM1⟩, fun j hj => (hfr1 j hj).trans (w_fr hE2 (by omega))⟩

set_option maxHeartbeats 4000000 in
set_option maxRecDepth 100000 in
theorem kX3_drop (l : Launch) (dC : Nat → ClassId) (dI : Nat → Nat → Nat) (q : ClassId × ClassId × ClassId × ClassId) (ad : Nat → Nat) (en : Nat → va_E) (n sz : Nat) (hn58 : 58 ≤ n) (th : Int32) (A : Ast) (pl : Nat → Pst) (cs : Nat → Int32) (hok : Aok A) (hpok : ∀ i, i < 10 → Pok (pl i)) (hM0 : ModAt q ad en th A pl cs) (kd z : Int32) :
    Met l yX3_drop wsX3_drop ({ frames := 3, cells := 0, slots := 0, locals := 64 }) (wPc (dC, dI) vwCl (wT q) ad en n sz [.ref (ad 42), .int kd, .int z]) (va_Qi (fun (r : Int32) (en' : Nat → va_E) => r = (if aIs kd z A = true then 1 else 0) ∧ ModAt q ad en' 0 (aDropI kd z A) pl cs ∧ ∀ j, (j < 42 ∨ 58 ≤ j) → en' j = en j) (wB (dC, dI) vwCl (wT q) ad n (wA ad n sz)) (wA ad n sz)) 0 0 (wA ad n sz) := by
  refine Met.ofW (cc := cX3_drop) (maxL := 3) (ret := (some .boolean)) (by decide) rfl ?_
  intro p e s m args below meth c s₁ B hml hv
  obtain ⟨rfl, hsz, hP, hK, hD0, hE0⟩ := hv
  have hx := B.exec
  have hb := B.bytes
  have hr := B.returns
  have hts := atoms_spec (ws := wsX3_drop) B.pre
  have hown : s.vm.findClass RX3 = some m.cls := findClass_of_methodNamed B.named
  have hlocks := B.notSynchronized
  have iRX3 : ∀ w ∈ u_ws RX3 TX3 21, w ∈ wsX3_drop := by decide +kernel
  subst hsz
  have hw := wk_of hP hK hD0 hE0
  generalize wA ad n s.heap.size = AA at hw ⊢
  have hl := lv_entry ([.ref (ad 42), .int kd, .int z]) (n := 3) (Nat.le_of_ble_eq_true rfl)
  rw [lg_entry_eq]
  generalize (lg_sl ([.ref (ad 42), .int kd, .int z]) ++ List.replicate (3 - (lg_sl ([.ref (ad 42), .int kd, .int z])).length) Slot.unset).toArray = ls at hl ⊢
  have hl : lv_has ls 3 [(0, .ref (ad 42)), (1, .int kd), (2, .int z)] := hl
  obtain ⟨O, an, wy, pla, hokO, hM⟩ := hM0
  have hcn := hok.2
  obtain ⟨ot1, ⟨hFt1, mFt1, tFt1, rFt1, a1t1, a2t1, a3t1, a4t1, hRt1⟩, ⟨oht1, omt1, ott1, orrt1, b1t1, b2t1, b3t1, b4t1, hOt1⟩, ⟨wFt1, sFt1, kFt1, aFt1, fFt1, xFt1, c1t1, c2t1, c3t1, c4t1, c5t1, c6t1, hPlt1⟩, ⟨gFt1, e1t1, hTt1⟩⟩ := id hM
  refine lv_aload_n hx hb dX3_drop_0 rfl (lv_at hl 0 rfl) ?_
  refine lv_iconst (v := 0) hx hb dX3_drop_1 (by decide) ?_
  refine wr_put (ci := 4) (v := .int 0) (ty := .int) (C := RX3) (T := TX3) (N := 21) hx hb hts iRX3 tyX3 tyX3_ok nmX3 hown hw 42 (by omega) ot1 rfl 0 (by decide) (hts (.fieldLink RX3 57 "LibraryDeskModel" "thrown" "I") (by decide +kernel)) (fun _ h9 => h9) rfl (by decide +kernel) rfl rfl (Nat.le_of_ble_eq_true rfl) dX3_drop_2 (fun en3 H locs hE2 hw => ?_)
  have he4 : en3 42 = .inr (4, [.int 0, .ref (ad 43), .ref (ad 44), .ref (ad 45), .ref (ad 46), .int (nI (aCn A)), .ref (ad 47), .ref (ad 48), .ref (ad 49), .ref (ad 50), .int (nI (aCn O)), .ref (ad 51), .ref (ad 52), .ref (ad 53), .ref (ad 54), .ref (ad 55), .ref (ad 56), .ref (ad 57), .long an, .int wy, .int pla]) := w_self hE2
  have he5 : en3 43 = .inl (q.2.2.1, 328, .inl hFt1) := w_ne hE2 (by omega) a1t1
  have he6 : en3 44 = .inl (q.1, 8, .inl mFt1) := w_ne hE2 (by omega) a2t1
  have he7 : en3 45 = .inl (q.2.1, 8, .inr (.inl tFt1)) := w_ne hE2 (by omega) a3t1
  have he8 : en3 46 = .inl (q.2.1, 20, .inr (.inl rFt1)) := w_ne hE2 (by omega) a4t1
  have he9 : en3 47 = .inl (q.2.2.1, 328, .inl oht1) := w_ne hE2 (by omega) b1t1
  have he10 : en3 48 = .inl (q.1, 8, .inl omt1) := w_ne hE2 (by omega) b2t1
  have he11 : en3 49 = .inl (q.2.1, 8, .inr (.inl ott1)) := w_ne hE2 (by omega) b3t1
  have he12 : en3 50 = .inl (q.2.1, 20, .inr (.inl orrt1)) := w_ne hE2 (by omega) b4t1
  have he13 : en3 51 = .inl (q.1, 10, .inl wFt1) := w_ne hE2 (by omega) c1t1
  have he14 : en3 52 = .inl (q.1, 60, .inl sFt1) := w_ne hE2 (by omega) c2t1
  have he15 : en3 53 = .inl (q.1, 60, .inl kFt1) := w_ne hE2 (by omega) c3t1
  have he16 : en3 54 = .inl (q.1, 10, .inl aFt1) := w_ne hE2 (by omega) c4t1
  have he17 : en3 55 = .inl (q.1, 10, .inl fFt1) := w_ne hE2 (by omega) c5t1
  have he18 : en3 56 = .inl (q.1, 10, .inl xFt1) := w_ne hE2 (by omega) c6t1
  have he19 : en3 57 = .inl (q.1, 7, .inl gFt1) := w_ne hE2 (by omega) e1t1
  have hMz : ModC q ad en3 0 A O pl cs an wy pla := ⟨he4, ⟨_, _, _, _, he5, he6, he7, he8, hRt1⟩, ⟨_, _, _, _, he9, he10, he11, he12, hOt1⟩, ⟨_, _, _, _, _, _, he13, he14, he15, he16, he17, he18, hPlt1⟩, ⟨_, he19, hTt1⟩⟩
  obtain ⟨ot20, ⟨hFt20, mFt20, tFt20, rFt20, a1t20, a2t20, a3t20, a4t20, hRt20⟩, ⟨oht20, omt20, ott20, orrt20, b1t20, b2t20, b3t20, b4t20, hOt20⟩, ⟨wFt20, sFt20, kFt20, aFt20, fFt20, xFt20, c1t20, c2t20, c3t20, c4t20, c5t20, c6t20, hPlt20⟩, ⟨gFt20, e1t20, hTt20⟩⟩ := id hMz
  refine lv_aload_n hx hb dX3_drop_5 rfl (lv_at hl 0 rfl) ?_
  refine lv_iload_n hx hb dX3_drop_6 rfl (lv_at hl 1 rfl) ?_
  refine lv_iload_n hx hb dX3_drop_7 rfl (lv_at hl 2 rfl) ?_
  refine wc_i hw (va_runV (As := [.int kd, .int z]) (rest := []) ⟨hx, hb, hml, hown, hts⟩ (kX3_drops l dC dI q ad en3 n _ hn58 0 A O pl cs an wy pla hok hMz kd z) (cwV 2 hts gX3_drop_X3_drops rfl rfl rfl (by decide +kernel) ⟨Nat.le_of_ble_eq_true rfl, Nat.le_of_ble_eq_true rfl⟩) (wk_preV hw (by omega) ot20 rfl) rfl rfl hl.1 rfl (lv_room (Nat.le_of_ble_eq_true rfl)) dX3_drop_8 ⟨Nat.le_refl _, Nat.le_refl _⟩) (fun r21 en23 H locs hp22 hw => ?_)
  obtain ⟨hr1, hM1, hfr1⟩ := hp22
  refine we_z hx hb hr hlocks hw (z01_r hr1) ?_ dX3_drop_11
  exact ⟨hr1, ⟨O, an, wy, pla, hokO, hM1⟩, fun j hj => (hfr1 j hj).trans (w_fr hE2 (by omega))⟩

set_option maxHeartbeats 4000000 in
set_option maxRecDepth 100000 in
theorem kX3_here (l : Launch) (dC : Nat → ClassId) (dI : Nat → Nat → Nat) (q : ClassId × ClassId × ClassId × ClassId) (ad : Nat → Nat) (en : Nat → va_E) (n sz : Nat) (hn58 : 58 ≤ n) (th : Int32) (A : Ast) (pl : Nat → Pst) (cs : Nat → Int32) (hok : Aok A) (hpok : ∀ i, i < 10 → Pok (pl i)) (hM0 : ModAt q ad en th A pl cs) (kd z : Int32) :
    Met l yX3_here wsX3_here ({ frames := 2, cells := 0, slots := 0, locals := 42 }) (wPc (dC, dI) vwCl (wT q) ad en n sz [.ref (ad 42), .int kd, .int z]) (va_Qi (fun (r : Int32) (en' : Nat → va_E) => r = (if aIs kd z A = true then 1 else 0) ∧ ModAt q ad en' 0 A pl cs ∧ ∀ j, (j < 42 ∨ 58 ≤ j) → en' j = en j) (wB (dC, dI) vwCl (wT q) ad n (wA ad n sz)) (wA ad n sz)) 0 0 (wA ad n sz) := by
  refine Met.ofW (cc := cX3_here) (maxL := 3) (ret := (some .boolean)) (by decide) rfl ?_
  intro p e s m args below meth c s₁ B hml hv
  obtain ⟨rfl, hsz, hP, hK, hD0, hE0⟩ := hv
  have hx := B.exec
  have hb := B.bytes
  have hr := B.returns
  have hts := atoms_spec (ws := wsX3_here) B.pre
  have hown : s.vm.findClass RX3 = some m.cls := findClass_of_methodNamed B.named
  have hlocks := B.notSynchronized
  have iRX3 : ∀ w ∈ u_ws RX3 TX3 21, w ∈ wsX3_here := by decide +kernel
  subst hsz
  have hw := wk_of hP hK hD0 hE0
  generalize wA ad n s.heap.size = AA at hw ⊢
  have hl := lv_entry ([.ref (ad 42), .int kd, .int z]) (n := 3) (Nat.le_of_ble_eq_true rfl)
  rw [lg_entry_eq]
  generalize (lg_sl ([.ref (ad 42), .int kd, .int z]) ++ List.replicate (3 - (lg_sl ([.ref (ad 42), .int kd, .int z])).length) Slot.unset).toArray = ls at hl ⊢
  have hl : lv_has ls 3 [(0, .ref (ad 42)), (1, .int kd), (2, .int z)] := hl
  obtain ⟨O, an, wy, pla, hokO, hM⟩ := hM0
  have hcn := hok.2
  obtain ⟨ot1, ⟨hFt1, mFt1, tFt1, rFt1, a1t1, a2t1, a3t1, a4t1, hRt1⟩, ⟨oht1, omt1, ott1, orrt1, b1t1, b2t1, b3t1, b4t1, hOt1⟩, ⟨wFt1, sFt1, kFt1, aFt1, fFt1, xFt1, c1t1, c2t1, c3t1, c4t1, c5t1, c6t1, hPlt1⟩, ⟨gFt1, e1t1, hTt1⟩⟩ := id hM
  refine lv_aload_n hx hb dX3_here_0 rfl (lv_at hl 0 rfl) ?_
  refine lv_iconst (v := 0) hx hb dX3_here_1 (by decide) ?_
  refine wr_put (ci := 4) (v := .int 0) (ty := .int) (C := RX3) (T := TX3) (N := 21) hx hb hts iRX3 tyX3 tyX3_ok nmX3 hown hw 42 (by omega) ot1 rfl 0 (by decide) (hts (.fieldLink RX3 57 "LibraryDeskModel" "thrown" "I") (by decide +kernel)) (fun _ h9 => h9) rfl (by decide +kernel) rfl rfl (Nat.le_of_ble_eq_true rfl) dX3_here_2 (fun en3 H locs hE2 hw => ?_)
  have he4 : en3 42 = .inr (4, [.int 0, .ref (ad 43), .ref (ad 44), .ref (ad 45), .ref (ad 46), .int (nI (aCn A)), .ref (ad 47), .ref (ad 48), .ref (ad 49), .ref (ad 50), .int (nI (aCn O)), .ref (ad 51), .ref (ad 52), .ref (ad 53), .ref (ad 54), .ref (ad 55), .ref (ad 56), .ref (ad 57), .long an, .int wy, .int pla]) := w_self hE2
  have he5 : en3 43 = .inl (q.2.2.1, 328, .inl hFt1) := w_ne hE2 (by omega) a1t1
  have he6 : en3 44 = .inl (q.1, 8, .inl mFt1) := w_ne hE2 (by omega) a2t1
  have he7 : en3 45 = .inl (q.2.1, 8, .inr (.inl tFt1)) := w_ne hE2 (by omega) a3t1
  have he8 : en3 46 = .inl (q.2.1, 20, .inr (.inl rFt1)) := w_ne hE2 (by omega) a4t1
  have he9 : en3 47 = .inl (q.2.2.1, 328, .inl oht1) := w_ne hE2 (by omega) b1t1
  have he10 : en3 48 = .inl (q.1, 8, .inl omt1) := w_ne hE2 (by omega) b2t1
  have he11 : en3 49 = .inl (q.2.1, 8, .inr (.inl ott1)) := w_ne hE2 (by omega) b3t1
  have he12 : en3 50 = .inl (q.2.1, 20, .inr (.inl orrt1)) := w_ne hE2 (by omega) b4t1
  have he13 : en3 51 = .inl (q.1, 10, .inl wFt1) := w_ne hE2 (by omega) c1t1
  have he14 : en3 52 = .inl (q.1, 60, .inl sFt1) := w_ne hE2 (by omega) c2t1
  have he15 : en3 53 = .inl (q.1, 60, .inl kFt1) := w_ne hE2 (by omega) c3t1
  have he16 : en3 54 = .inl (q.1, 10, .inl aFt1) := w_ne hE2 (by omega) c4t1
  have he17 : en3 55 = .inl (q.1, 10, .inl fFt1) := w_ne hE2 (by omega) c5t1
  have he18 : en3 56 = .inl (q.1, 10, .inl xFt1) := w_ne hE2 (by omega) c6t1
  have he19 : en3 57 = .inl (q.1, 7, .inl gFt1) := w_ne hE2 (by omega) e1t1
  have hMz : ModC q ad en3 0 A O pl cs an wy pla := ⟨he4, ⟨_, _, _, _, he5, he6, he7, he8, hRt1⟩, ⟨_, _, _, _, he9, he10, he11, he12, hOt1⟩, ⟨_, _, _, _, _, _, he13, he14, he15, he16, he17, he18, hPlt1⟩, ⟨_, he19, hTt1⟩⟩
  obtain ⟨ot20, ⟨hFt20, mFt20, tFt20, rFt20, a1t20, a2t20, a3t20, a4t20, hRt20⟩, ⟨oht20, omt20, ott20, orrt20, b1t20, b2t20, b3t20, b4t20, hOt20⟩, ⟨wFt20, sFt20, kFt20, aFt20, fFt20, xFt20, c1t20, c2t20, c3t20, c4t20, c5t20, c6t20, hPlt20⟩, ⟨gFt20, e1t20, hTt20⟩⟩ := id hMz
  refine lv_aload_n hx hb dX3_here_5 rfl (lv_at hl 0 rfl) ?_
  refine lv_iload_n hx hb dX3_here_6 rfl (lv_at hl 1 rfl) ?_
  refine lv_iload_n hx hb dX3_here_7 rfl (lv_at hl 2 rfl) ?_
  refine wc_i hw (va_runV (As := [.int kd, .int z]) (rest := []) ⟨hx, hb, hml, hown, hts⟩ (kX3_isHere l dC dI q ad en3 n _ hn58 0 A O pl cs an wy pla hok hMz kd z) (cwV 2 hts gX3_here_X3_isHere rfl rfl rfl (by decide +kernel) ⟨Nat.le_of_ble_eq_true rfl, Nat.le_of_ble_eq_true rfl⟩) (wk_preV hw (by omega) ot20 rfl) rfl rfl hl.1 rfl (lv_room (Nat.le_of_ble_eq_true rfl)) dX3_here_8 ⟨Nat.le_refl _, Nat.le_refl _⟩) (fun r21 en23 H locs hp22 hw => ?_)
  obtain ⟨hr24, hn25⟩ := hp22
  rw [hn25] at hw
  clear hn25
  have hr1 := hr24
  refine we_z hx hb hr hlocks hw (z01_r hr1) ?_ dX3_here_11
  exact ⟨hr1, ⟨O, an, wy, pla, hokO, hMz⟩, fun j hj => w_fr hE2 (by omega)⟩

set_option maxHeartbeats 4000000 in
set_option maxRecDepth 100000 in
theorem kX3_numbers (l : Launch) (dC : Nat → ClassId) (dI : Nat → Nat → Nat) (q : ClassId × ClassId × ClassId × ClassId) (ad : Nat → Nat) (en : Nat → va_E) (n sz : Nat) (hn58 : 58 ≤ n) (th : Int32) (A : Ast) (pl : Nat → Pst) (cs : Nat → Int32) (hok : Aok A) (hpok : ∀ i, i < 10 → Pok (pl i)) (hM0 : ModAt q ad en th A pl cs) (kd : Int32) :
    Met l yX3_numbers wsX3_numbers ({ frames := 1, cells := 0, slots := 0, locals := 23 }) (wPc (dC, dI) vwCl (wT q) ad en n sz [.ref (ad 42), .int kd]) (va_Qi (fun (r : Int32) (en' : Nat → va_E) => r = sNumR kd A ∧ ModAt q ad en' 0 A pl cs ∧ ∀ j, (j < 42 ∨ 58 ≤ j) → en' j = en j) (wB (dC, dI) vwCl (wT q) ad n (wA ad n sz)) (wA ad n sz)) 0 0 (wA ad n sz) := by
  refine Met.ofW (cc := cX3_numbers) (maxL := 2) (ret := (some .int)) (by decide) rfl ?_
  intro p e s m args below meth c s₁ B hml hv
  obtain ⟨rfl, hsz, hP, hK, hD0, hE0⟩ := hv
  have hx := B.exec
  have hb := B.bytes
  have hr := B.returns
  have hts := atoms_spec (ws := wsX3_numbers) B.pre
  have hown : s.vm.findClass RX3 = some m.cls := findClass_of_methodNamed B.named
  have hlocks := B.notSynchronized
  have iRX3 : ∀ w ∈ u_ws RX3 TX3 21, w ∈ wsX3_numbers := by decide +kernel
  subst hsz
  have hw := wk_of hP hK hD0 hE0
  generalize wA ad n s.heap.size = AA at hw ⊢
  have hl := lv_entry ([.ref (ad 42), .int kd]) (n := 2) (Nat.le_of_ble_eq_true rfl)
  rw [lg_entry_eq]
  generalize (lg_sl ([.ref (ad 42), .int kd]) ++ List.replicate (2 - (lg_sl ([.ref (ad 42), .int kd])).length) Slot.unset).toArray = ls at hl ⊢
  have hl : lv_has ls 2 [(0, .ref (ad 42)), (1, .int kd)] := hl
  obtain ⟨O, an, wy, pla, hokO, hM⟩ := hM0
  have hcn := hok.2
  obtain ⟨ot1, ⟨hFt1, mFt1, tFt1, rFt1, a1t1, a2t1, a3t1, a4t1, hRt1⟩, ⟨oht1, omt1, ott1, orrt1, b1t1, b2t1, b3t1, b4t1, hOt1⟩, ⟨wFt1, sFt1, kFt1, aFt1, fFt1, xFt1, c1t1, c2t1, c3t1, c4t1, c5t1, c6t1, hPlt1⟩, ⟨gFt1, e1t1, hTt1⟩⟩ := id hM
  refine lv_aload_n hx hb dX3_numbers_0 rfl (lv_at hl 0 rfl) ?_
  refine lv_iconst (v := 0) hx hb dX3_numbers_1 (by decide) ?_
  refine wr_put (ci := 4) (v := .int 0) (ty := .int) (C := RX3) (T := TX3) (N := 21) hx hb hts iRX3 tyX3 tyX3_ok nmX3 hown hw 42 (by omega) ot1 rfl 0 (by decide) (hts (.fieldLink RX3 57 "LibraryDeskModel" "thrown" "I") (by decide +kernel)) (fun _ h9 => h9) rfl (by decide +kernel) rfl rfl (Nat.le_of_ble_eq_true rfl) dX3_numbers_2 (fun en3 H locs hE2 hw => ?_)
  have he4 : en3 42 = .inr (4, [.int 0, .ref (ad 43), .ref (ad 44), .ref (ad 45), .ref (ad 46), .int (nI (aCn A)), .ref (ad 47), .ref (ad 48), .ref (ad 49), .ref (ad 50), .int (nI (aCn O)), .ref (ad 51), .ref (ad 52), .ref (ad 53), .ref (ad 54), .ref (ad 55), .ref (ad 56), .ref (ad 57), .long an, .int wy, .int pla]) := w_self hE2
  have he5 : en3 43 = .inl (q.2.2.1, 328, .inl hFt1) := w_ne hE2 (by omega) a1t1
  have he6 : en3 44 = .inl (q.1, 8, .inl mFt1) := w_ne hE2 (by omega) a2t1
  have he7 : en3 45 = .inl (q.2.1, 8, .inr (.inl tFt1)) := w_ne hE2 (by omega) a3t1
  have he8 : en3 46 = .inl (q.2.1, 20, .inr (.inl rFt1)) := w_ne hE2 (by omega) a4t1
  have he9 : en3 47 = .inl (q.2.2.1, 328, .inl oht1) := w_ne hE2 (by omega) b1t1
  have he10 : en3 48 = .inl (q.1, 8, .inl omt1) := w_ne hE2 (by omega) b2t1
  have he11 : en3 49 = .inl (q.2.1, 8, .inr (.inl ott1)) := w_ne hE2 (by omega) b3t1
  have he12 : en3 50 = .inl (q.2.1, 20, .inr (.inl orrt1)) := w_ne hE2 (by omega) b4t1
  have he13 : en3 51 = .inl (q.1, 10, .inl wFt1) := w_ne hE2 (by omega) c1t1
  have he14 : en3 52 = .inl (q.1, 60, .inl sFt1) := w_ne hE2 (by omega) c2t1
  have he15 : en3 53 = .inl (q.1, 60, .inl kFt1) := w_ne hE2 (by omega) c3t1
  have he16 : en3 54 = .inl (q.1, 10, .inl aFt1) := w_ne hE2 (by omega) c4t1
  have he17 : en3 55 = .inl (q.1, 10, .inl fFt1) := w_ne hE2 (by omega) c5t1
  have he18 : en3 56 = .inl (q.1, 10, .inl xFt1) := w_ne hE2 (by omega) c6t1
  have he19 : en3 57 = .inl (q.1, 7, .inl gFt1) := w_ne hE2 (by omega) e1t1
  have hMz : ModC q ad en3 0 A O pl cs an wy pla := ⟨he4, ⟨_, _, _, _, he5, he6, he7, he8, hRt1⟩, ⟨_, _, _, _, he9, he10, he11, he12, hOt1⟩, ⟨_, _, _, _, _, _, he13, he14, he15, he16, he17, he18, hPlt1⟩, ⟨_, he19, hTt1⟩⟩
  obtain ⟨ot20, ⟨hFt20, mFt20, tFt20, rFt20, a1t20, a2t20, a3t20, a4t20, hRt20⟩, ⟨oht20, omt20, ott20, orrt20, b1t20, b2t20, b3t20, b4t20, hOt20⟩, ⟨wFt20, sFt20, kFt20, aFt20, fFt20, xFt20, c1t20, c2t20, c3t20, c4t20, c5t20, c6t20, hPlt20⟩, ⟨gFt20, e1t20, hTt20⟩⟩ := id hMz
  refine lv_iload_n hx hb dX3_numbers_5 rfl (lv_at hl 1 rfl) ?_
  refine wc_i hw (va_runS (As := [.int kd]) (rest := []) ⟨hx, hb, hml, hown, hts⟩ (kX3_isKind l dC dI q ad en3 n _ kd) (va_cwS 1 hts gX3_numbers_X3_isKind rfl rfl rfl (by decide +kernel) ⟨Nat.le_of_ble_eq_true rfl, Nat.le_of_ble_eq_true rfl⟩) (wk_preS hw) rfl rfl hl.1 rfl (lv_room (Nat.le_of_ble_eq_true rfl)) dX3_numbers_6 ⟨Nat.le_refl _, Nat.le_refl _⟩) (fun r21 en23 H locs hp22 hw => ?_)
  obtain ⟨hr24, hn25⟩ := hp22
  rw [hn25] at hw
  clear hn25
  refine lv_if_eq (tgt := 20) hx hb dX3_numbers_9 (by decide) (fun c9 => ?_) (fun c9 => ?_)
  · have hkd := z01_f hr24 c9
    refine lv_iconst (v := (-1)) hx hb dX3_numbers_20 (by decide) ?_
    refine we_i hx hb hr hlocks hw ?_ dX3_numbers_21
    exact ⟨by unfold sNumR; rw [if_neg hkd], ⟨O, an, wy, pla, hokO, hMz⟩, fun j hj => w_fr hE2 (by omega)⟩
  · have hkd := z01_t hr24 c9
    obtain ⟨k, hk, ekd⟩ := okK_of hkd
    subst ekd
    refine lv_aload_n hx hb dX3_numbers_12 rfl (lv_at hl 0 rfl) ?_
    refine lv_iload_n hx hb dX3_numbers_13 rfl (lv_at hl 1 rfl) ?_
    refine wc_i hw (va_runV (As := [.int (nI k)]) (rest := []) ⟨hx, hb, hml, hown, hts⟩ (kX3_many l dC dI q ad en3 n _ hn58 0 A O pl cs an wy pla hok hMz k hk) (cwV 1 hts gX3_numbers_X3_many rfl rfl rfl (by decide +kernel) ⟨Nat.le_of_ble_eq_true rfl, Nat.le_of_ble_eq_true rfl⟩) (wk_preV hw (by omega) ot20 rfl) rfl rfl hl.1 rfl (lv_room (Nat.le_of_ble_eq_true rfl)) dX3_numbers_14 ⟨Nat.le_refl _, Nat.le_refl _⟩) (fun r26 en28 H locs hp27 hw => ?_)
    obtain ⟨hr29, hn30⟩ := hp27
    rw [hn30] at hw
    clear hn30
    have hr1 := hr29
    refine lv_goto (tgt := 21) hx hb dX3_numbers_17 (by decide) ?_
    refine we_i hx hb hr hlocks hw ?_ dX3_numbers_21
    exact ⟨by rw [sNum_ok hk, hr1], ⟨O, an, wy, pla, hokO, hMz⟩, fun j hj => w_fr hE2 (by omega)⟩

set_option maxHeartbeats 4000000 in
set_option maxRecDepth 100000 in
theorem kX3_tally (l : Launch) (dC : Nat → ClassId) (dI : Nat → Nat → Nat) (q : ClassId × ClassId × ClassId × ClassId) (ad : Nat → Nat) (en : Nat → va_E) (n sz : Nat) (hn58 : 58 ≤ n) (th : Int32) (A : Ast) (pl : Nat → Pst) (cs : Nat → Int32) (hok : Aok A) (hpok : ∀ i, i < 10 → Pok (pl i)) (hM0 : ModAt q ad en th A pl cs) (kd : Int32) :
    Met l yX3_tally wsX3_tally ({ frames := 1, cells := 0, slots := 0, locals := 20 }) (wPc (dC, dI) vwCl (wT q) ad en n sz [.ref (ad 42), .int kd]) (va_Ql (fun (r : Int64) (en' : Nat → va_E) => r = sTalR kd A ∧ ModAt q ad en' 0 A pl cs ∧ ∀ j, (j < 42 ∨ 58 ≤ j) → en' j = en j) (wB (dC, dI) vwCl (wT q) ad n (wA ad n sz)) (wA ad n sz)) 0 0 (wA ad n sz) := by
  refine Met.ofW (cc := cX3_tally) (maxL := 2) (ret := (some .long)) (by decide) rfl ?_
  intro p e s m args below meth c s₁ B hml hv
  obtain ⟨rfl, hsz, hP, hK, hD0, hE0⟩ := hv
  have hx := B.exec
  have hb := B.bytes
  have hr := B.returns
  have hts := atoms_spec (ws := wsX3_tally) B.pre
  have hown : s.vm.findClass RX3 = some m.cls := findClass_of_methodNamed B.named
  have hlocks := B.notSynchronized
  have iRX3 : ∀ w ∈ u_ws RX3 TX3 21, w ∈ wsX3_tally := by decide +kernel
  subst hsz
  have hw := wk_of hP hK hD0 hE0
  generalize wA ad n s.heap.size = AA at hw ⊢
  have hl := lv_entry ([.ref (ad 42), .int kd]) (n := 2) (Nat.le_of_ble_eq_true rfl)
  rw [lg_entry_eq]
  generalize (lg_sl ([.ref (ad 42), .int kd]) ++ List.replicate (2 - (lg_sl ([.ref (ad 42), .int kd])).length) Slot.unset).toArray = ls at hl ⊢
  have hl : lv_has ls 2 [(0, .ref (ad 42)), (1, .int kd)] := hl
  obtain ⟨O, an, wy, pla, hokO, hM⟩ := hM0
  have hcn := hok.2
  obtain ⟨ot1, ⟨hFt1, mFt1, tFt1, rFt1, a1t1, a2t1, a3t1, a4t1, hRt1⟩, ⟨oht1, omt1, ott1, orrt1, b1t1, b2t1, b3t1, b4t1, hOt1⟩, ⟨wFt1, sFt1, kFt1, aFt1, fFt1, xFt1, c1t1, c2t1, c3t1, c4t1, c5t1, c6t1, hPlt1⟩, ⟨gFt1, e1t1, hTt1⟩⟩ := id hM
  refine lv_aload_n hx hb dX3_tally_0 rfl (lv_at hl 0 rfl) ?_
  refine lv_iconst (v := 0) hx hb dX3_tally_1 (by decide) ?_
  refine wr_put (ci := 4) (v := .int 0) (ty := .int) (C := RX3) (T := TX3) (N := 21) hx hb hts iRX3 tyX3 tyX3_ok nmX3 hown hw 42 (by omega) ot1 rfl 0 (by decide) (hts (.fieldLink RX3 57 "LibraryDeskModel" "thrown" "I") (by decide +kernel)) (fun _ h9 => h9) rfl (by decide +kernel) rfl rfl (Nat.le_of_ble_eq_true rfl) dX3_tally_2 (fun en3 H locs hE2 hw => ?_)
  have he4 : en3 42 = .inr (4, [.int 0, .ref (ad 43), .ref (ad 44), .ref (ad 45), .ref (ad 46), .int (nI (aCn A)), .ref (ad 47), .ref (ad 48), .ref (ad 49), .ref (ad 50), .int (nI (aCn O)), .ref (ad 51), .ref (ad 52), .ref (ad 53), .ref (ad 54), .ref (ad 55), .ref (ad 56), .ref (ad 57), .long an, .int wy, .int pla]) := w_self hE2
  have he5 : en3 43 = .inl (q.2.2.1, 328, .inl hFt1) := w_ne hE2 (by omega) a1t1
  have he6 : en3 44 = .inl (q.1, 8, .inl mFt1) := w_ne hE2 (by omega) a2t1
  have he7 : en3 45 = .inl (q.2.1, 8, .inr (.inl tFt1)) := w_ne hE2 (by omega) a3t1
  have he8 : en3 46 = .inl (q.2.1, 20, .inr (.inl rFt1)) := w_ne hE2 (by omega) a4t1
  have he9 : en3 47 = .inl (q.2.2.1, 328, .inl oht1) := w_ne hE2 (by omega) b1t1
  have he10 : en3 48 = .inl (q.1, 8, .inl omt1) := w_ne hE2 (by omega) b2t1
  have he11 : en3 49 = .inl (q.2.1, 8, .inr (.inl ott1)) := w_ne hE2 (by omega) b3t1
  have he12 : en3 50 = .inl (q.2.1, 20, .inr (.inl orrt1)) := w_ne hE2 (by omega) b4t1
  have he13 : en3 51 = .inl (q.1, 10, .inl wFt1) := w_ne hE2 (by omega) c1t1
  have he14 : en3 52 = .inl (q.1, 60, .inl sFt1) := w_ne hE2 (by omega) c2t1
  have he15 : en3 53 = .inl (q.1, 60, .inl kFt1) := w_ne hE2 (by omega) c3t1
  have he16 : en3 54 = .inl (q.1, 10, .inl aFt1) := w_ne hE2 (by omega) c4t1
  have he17 : en3 55 = .inl (q.1, 10, .inl fFt1) := w_ne hE2 (by omega) c5t1
  have he18 : en3 56 = .inl (q.1, 10, .inl xFt1) := w_ne hE2 (by omega) c6t1
  have he19 : en3 57 = .inl (q.1, 7, .inl gFt1) := w_ne hE2 (by omega) e1t1
  have hMz : ModC q ad en3 0 A O pl cs an wy pla := ⟨he4, ⟨_, _, _, _, he5, he6, he7, he8, hRt1⟩, ⟨_, _, _, _, he9, he10, he11, he12, hOt1⟩, ⟨_, _, _, _, _, _, he13, he14, he15, he16, he17, he18, hPlt1⟩, ⟨_, he19, hTt1⟩⟩
  obtain ⟨ot20, ⟨hFt20, mFt20, tFt20, rFt20, a1t20, a2t20, a3t20, a4t20, hRt20⟩, ⟨oht20, omt20, ott20, orrt20, b1t20, b2t20, b3t20, b4t20, hOt20⟩, ⟨wFt20, sFt20, kFt20, aFt20, fFt20, xFt20, c1t20, c2t20, c3t20, c4t20, c5t20, c6t20, hPlt20⟩, ⟨gFt20, e1t20, hTt20⟩⟩ := id hMz
  refine lv_iload_n hx hb dX3_tally_5 rfl (lv_at hl 1 rfl) ?_
  refine wc_i hw (va_runS (As := [.int kd]) (rest := []) ⟨hx, hb, hml, hown, hts⟩ (kX3_isKind l dC dI q ad en3 n _ kd) (va_cwS 1 hts gX3_tally_X3_isKind rfl rfl rfl (by decide +kernel) ⟨Nat.le_of_ble_eq_true rfl, Nat.le_of_ble_eq_true rfl⟩) (wk_preS hw) rfl rfl hl.1 rfl (lv_room (Nat.le_of_ble_eq_true rfl)) dX3_tally_6 ⟨Nat.le_refl _, Nat.le_refl _⟩) (fun r21 en23 H locs hp22 hw => ?_)
  obtain ⟨hr24, hn25⟩ := hp22
  rw [hn25] at hw
  clear hn25
  refine lv_if_eq (tgt := 21) hx hb dX3_tally_9 (by decide) (fun c9 => ?_) (fun c9 => ?_)
  · have hkd := z01_f hr24 c9
    refine lv_lconst (v := 0) hx hb dX3_tally_21 (by decide) ?_
    refine we_l hx hb hr hlocks hw ?_ dX3_tally_22
    exact ⟨by unfold sTalR; rw [if_neg hkd], ⟨O, an, wy, pla, hokO, hMz⟩, fun j hj => w_fr hE2 (by omega)⟩
  · have hkd := z01_t hr24 c9
    obtain ⟨k, hk, ekd⟩ := okK_of hkd
    subst ekd
    refine lv_aload_n hx hb dX3_tally_12 rfl (lv_at hl 0 rfl) ?_
    refine wr_get (ci := 4) (C := RX3) (T := TX3) (N := 21) hx hb hts iRX3 hown hw 42 (by omega) ot20 rfl 3 (by decide) (hts (.fieldLink RX3 17 "LibraryDeskModel" "tallies" "[J") (by decide +kernel)) (fun _ h9 => h9) rfl dX3_tally_13 ?_
    refine lv_iload_n hx hb dX3_tally_16 rfl (lv_at hl 1 rfl) ?_
    refine wr_lald (v := aTl A k) hx hb hw 45 (by omega) 1 a3t20 rfl (vp_in_nI (by omega) (by decide)) (by rw [(nI_clamp (by omega))]; exact (hRt20.2.1 k hk).2) dX3_tally_17 ?_
    refine lv_goto (tgt := 22) hx hb dX3_tally_18 (by decide) ?_
    refine we_l hx hb hr hlocks hw ?_ dX3_tally_22
    exact ⟨(sTal_ok hk).symm, ⟨O, an, wy, pla, hokO, hMz⟩, fun j hj => w_fr hE2 (by omega)⟩

set_option maxHeartbeats 4000000 in
set_option maxRecDepth 100000 in
theorem kX3_told (l : Launch) (dC : Nat → ClassId) (dI : Nat → Nat → Nat) (q : ClassId × ClassId × ClassId × ClassId) (ad : Nat → Nat) (en : Nat → va_E) (n sz : Nat) (hn58 : 58 ≤ n) (th : Int32) (A : Ast) (pl : Nat → Pst) (cs : Nat → Int32) (hok : Aok A) (hpok : ∀ i, i < 10 → Pok (pl i)) (hM0 : ModAt q ad en th A pl cs) (x : Int32) :
    Met l yX3_told wsX3_told ({ frames := 0, cells := 0, slots := 0, locals := 0 }) (wPc (dC, dI) vwCl (wT q) ad en n sz [.ref (ad 42), .int x]) (va_Qi (fun (r : Int32) (en' : Nat → va_E) => r = sToldR x cs ∧ ModAt q ad en' 0 A pl cs ∧ ∀ j, (j < 42 ∨ 58 ≤ j) → en' j = en j) (wB (dC, dI) vwCl (wT q) ad n (wA ad n sz)) (wA ad n sz)) 0 0 (wA ad n sz) := by
  refine Met.ofW (cc := cX3_told) (maxL := 2) (ret := (some .int)) (by decide) rfl ?_
  intro p e s m args below meth c s₁ B hml hv
  obtain ⟨rfl, hsz, hP, hK, hD0, hE0⟩ := hv
  have hx := B.exec
  have hb := B.bytes
  have hr := B.returns
  have hts := atoms_spec (ws := wsX3_told) B.pre
  have hown : s.vm.findClass RX3 = some m.cls := findClass_of_methodNamed B.named
  have hlocks := B.notSynchronized
  have iRX3 : ∀ w ∈ u_ws RX3 TX3 21, w ∈ wsX3_told := by decide +kernel
  subst hsz
  have hw := wk_of hP hK hD0 hE0
  generalize wA ad n s.heap.size = AA at hw ⊢
  have hl := lv_entry ([.ref (ad 42), .int x]) (n := 2) (Nat.le_of_ble_eq_true rfl)
  rw [lg_entry_eq]
  generalize (lg_sl ([.ref (ad 42), .int x]) ++ List.replicate (2 - (lg_sl ([.ref (ad 42), .int x])).length) Slot.unset).toArray = ls at hl ⊢
  have hl : lv_has ls 2 [(0, .ref (ad 42)), (1, .int x)] := hl
  obtain ⟨O, an, wy, pla, hokO, hM⟩ := hM0
  have hcn := hok.2
  obtain ⟨ot1, ⟨hFt1, mFt1, tFt1, rFt1, a1t1, a2t1, a3t1, a4t1, hRt1⟩, ⟨oht1, omt1, ott1, orrt1, b1t1, b2t1, b3t1, b4t1, hOt1⟩, ⟨wFt1, sFt1, kFt1, aFt1, fFt1, xFt1, c1t1, c2t1, c3t1, c4t1, c5t1, c6t1, hPlt1⟩, ⟨gFt1, e1t1, hTt1⟩⟩ := id hM
  refine lv_aload_n hx hb dX3_told_0 rfl (lv_at hl 0 rfl) ?_
  refine lv_iconst (v := 0) hx hb dX3_told_1 (by decide) ?_
  refine wr_put (ci := 4) (v := .int 0) (ty := .int) (C := RX3) (T := TX3) (N := 21) hx hb hts iRX3 tyX3 tyX3_ok nmX3 hown hw 42 (by omega) ot1 rfl 0 (by decide) (hts (.fieldLink RX3 57 "LibraryDeskModel" "thrown" "I") (by decide +kernel)) (fun _ h9 => h9) rfl (by decide +kernel) rfl rfl (Nat.le_of_ble_eq_true rfl) dX3_told_2 (fun en3 H locs hE2 hw => ?_)
  have he4 : en3 42 = .inr (4, [.int 0, .ref (ad 43), .ref (ad 44), .ref (ad 45), .ref (ad 46), .int (nI (aCn A)), .ref (ad 47), .ref (ad 48), .ref (ad 49), .ref (ad 50), .int (nI (aCn O)), .ref (ad 51), .ref (ad 52), .ref (ad 53), .ref (ad 54), .ref (ad 55), .ref (ad 56), .ref (ad 57), .long an, .int wy, .int pla]) := w_self hE2
  have he5 : en3 43 = .inl (q.2.2.1, 328, .inl hFt1) := w_ne hE2 (by omega) a1t1
  have he6 : en3 44 = .inl (q.1, 8, .inl mFt1) := w_ne hE2 (by omega) a2t1
  have he7 : en3 45 = .inl (q.2.1, 8, .inr (.inl tFt1)) := w_ne hE2 (by omega) a3t1
  have he8 : en3 46 = .inl (q.2.1, 20, .inr (.inl rFt1)) := w_ne hE2 (by omega) a4t1
  have he9 : en3 47 = .inl (q.2.2.1, 328, .inl oht1) := w_ne hE2 (by omega) b1t1
  have he10 : en3 48 = .inl (q.1, 8, .inl omt1) := w_ne hE2 (by omega) b2t1
  have he11 : en3 49 = .inl (q.2.1, 8, .inr (.inl ott1)) := w_ne hE2 (by omega) b3t1
  have he12 : en3 50 = .inl (q.2.1, 20, .inr (.inl orrt1)) := w_ne hE2 (by omega) b4t1
  have he13 : en3 51 = .inl (q.1, 10, .inl wFt1) := w_ne hE2 (by omega) c1t1
  have he14 : en3 52 = .inl (q.1, 60, .inl sFt1) := w_ne hE2 (by omega) c2t1
  have he15 : en3 53 = .inl (q.1, 60, .inl kFt1) := w_ne hE2 (by omega) c3t1
  have he16 : en3 54 = .inl (q.1, 10, .inl aFt1) := w_ne hE2 (by omega) c4t1
  have he17 : en3 55 = .inl (q.1, 10, .inl fFt1) := w_ne hE2 (by omega) c5t1
  have he18 : en3 56 = .inl (q.1, 10, .inl xFt1) := w_ne hE2 (by omega) c6t1
  have he19 : en3 57 = .inl (q.1, 7, .inl gFt1) := w_ne hE2 (by omega) e1t1
  have hMz : ModC q ad en3 0 A O pl cs an wy pla := ⟨he4, ⟨_, _, _, _, he5, he6, he7, he8, hRt1⟩, ⟨_, _, _, _, he9, he10, he11, he12, hOt1⟩, ⟨_, _, _, _, _, _, he13, he14, he15, he16, he17, he18, hPlt1⟩, ⟨_, he19, hTt1⟩⟩
  obtain ⟨ot20, ⟨hFt20, mFt20, tFt20, rFt20, a1t20, a2t20, a3t20, a4t20, hRt20⟩, ⟨oht20, omt20, ott20, orrt20, b1t20, b2t20, b3t20, b4t20, hOt20⟩, ⟨wFt20, sFt20, kFt20, aFt20, fFt20, xFt20, c1t20, c2t20, c3t20, c4t20, c5t20, c6t20, hPlt20⟩, ⟨gFt20, e1t20, hTt20⟩⟩ := id hMz
  refine lv_iload_n hx hb dX3_told_5 rfl (lv_at hl 1 rfl) ?_
  refine lv_if_lt (tgt := 15) hx hb dX3_told_6 (by decide) (fun c6 => ?_) (fun c6 => ?_)
  · refine lv_iconst (v := (-1)) hx hb dX3_told_15 (by decide) ?_
    refine lv_goto (tgt := 25) hx hb dX3_told_16 (by decide) ?_
    refine we_i hx hb hr hlocks hw ?_ dX3_told_25
    exact ⟨by unfold sToldR; rw [if_neg (fun h => absurd c6 (Int32.not_lt.mpr h.1))], ⟨O, an, wy, pla, hokO, hMz⟩, fun j hj => w_fr hE2 (by omega)⟩
  · refine lv_iload_n hx hb dX3_told_9 rfl (lv_at hl 1 rfl) ?_
    refine lv_bipush (v := 6) hx hb dX3_told_10 (by decide) ?_
    refine lv_icmp_le (tgt := 19) hx hb dX3_told_12 (by decide) (fun c12 => ?_) (fun c12 => ?_)
    · obtain ⟨k, hk, ex⟩ : ∃ k, k < 7 ∧ x = nI k := (kd_cases x (by decide)).resolve_right (fun h => h ⟨Int32.not_lt.mp c6, Int32.lt_of_le_of_lt c12 (by decide)⟩)
      subst ex
      refine lv_aload_n hx hb dX3_told_19 rfl (lv_at hl 0 rfl) ?_
      refine wr_get (ci := 4) (C := RX3) (T := TX3) (N := 21) hx hb hts iRX3 hown hw 42 (by omega) ot20 rfl 17 (by decide) (hts (.fieldLink RX3 54 "LibraryDeskModel" "told" "[I") (by decide +kernel)) (fun _ h9 => h9) rfl dX3_told_20 ?_
      refine lv_iload_n hx hb dX3_told_23 rfl (lv_at hl 1 rfl) ?_
      refine wr_iald (v := cs k) hx hb hw 57 (by omega) 0 e1t20 rfl (vp_in_nI (by omega) (by decide)) (by rw [(nI_clamp (by omega))]; exact hTt20 k hk) dX3_told_24 ?_
      refine we_i hx hb hr hlocks hw ?_ dX3_told_25
      exact ⟨(sTold_ok hk).symm, ⟨O, an, wy, pla, hokO, hMz⟩, fun j hj => w_fr hE2 (by omega)⟩
    · refine lv_iconst (v := (-1)) hx hb dX3_told_15 (by decide) ?_
      refine lv_goto (tgt := 25) hx hb dX3_told_16 (by decide) ?_
      refine we_i hx hb hr hlocks hw ?_ dX3_told_25
      exact ⟨by unfold sToldR; rw [if_neg (fun h => c12 (lt7_6 h.2))], ⟨O, an, wy, pla, hokO, hMz⟩, fun j hj => w_fr hE2 (by omega)⟩

set_option maxHeartbeats 4000000 in
set_option maxRecDepth 100000 in
theorem kX3_row (l : Launch) (dC : Nat → ClassId) (dI : Nat → Nat → Nat) (q : ClassId × ClassId × ClassId × ClassId) (ad : Nat → Nat) (en : Nat → va_E) (n sz : Nat) (hn58 : 58 ≤ n) (th : Int32) (A : Ast) (pl : Nat → Pst) (cs : Nat → Int32) (hok : Aok A) (hpok : ∀ i, i < 10 → Pok (pl i)) (hM0 : ModAt q ad en th A pl cs) (i : Int32) :
    Met l yX3_row wsX3_row ({ frames := 0, cells := 0, slots := 0, locals := 0 }) (wPc (dC, dI) vwCl (wT q) ad en n sz [.ref (ad 42), .int i]) (va_Ql (fun (r : Int64) (en' : Nat → va_E) => r = sRowR i A ∧ ModAt q ad en' (sRowT i A) A pl cs ∧ ∀ j, (j < 42 ∨ 58 ≤ j) → en' j = en j) (wB (dC, dI) vwCl (wT q) ad n (wA ad n sz)) (wA ad n sz)) 0 0 (wA ad n sz) := by
  refine Met.ofW (cc := cX3_row) (maxL := 2) (ret := (some .long)) (by decide) rfl ?_
  intro p e s m args below meth c s₁ B hml hv
  obtain ⟨rfl, hsz, hP, hK, hD0, hE0⟩ := hv
  have hx := B.exec
  have hb := B.bytes
  have hr := B.returns
  have hts := atoms_spec (ws := wsX3_row) B.pre
  have hown : s.vm.findClass RX3 = some m.cls := findClass_of_methodNamed B.named
  have hlocks := B.notSynchronized
  have iRX3 : ∀ w ∈ u_ws RX3 TX3 21, w ∈ wsX3_row := by decide +kernel
  subst hsz
  have hw := wk_of hP hK hD0 hE0
  generalize wA ad n s.heap.size = AA at hw ⊢
  have hl := lv_entry ([.ref (ad 42), .int i]) (n := 2) (Nat.le_of_ble_eq_true rfl)
  rw [lg_entry_eq]
  generalize (lg_sl ([.ref (ad 42), .int i]) ++ List.replicate (2 - (lg_sl ([.ref (ad 42), .int i])).length) Slot.unset).toArray = ls at hl ⊢
  have hl : lv_has ls 2 [(0, .ref (ad 42)), (1, .int i)] := hl
  obtain ⟨O, an, wy, pla, hokO, hM⟩ := hM0
  have hcn := hok.2
  obtain ⟨ot1, ⟨hFt1, mFt1, tFt1, rFt1, a1t1, a2t1, a3t1, a4t1, hRt1⟩, ⟨oht1, omt1, ott1, orrt1, b1t1, b2t1, b3t1, b4t1, hOt1⟩, ⟨wFt1, sFt1, kFt1, aFt1, fFt1, xFt1, c1t1, c2t1, c3t1, c4t1, c5t1, c6t1, hPlt1⟩, ⟨gFt1, e1t1, hTt1⟩⟩ := id hM
  refine lv_aload_n hx hb dX3_row_0 rfl (lv_at hl 0 rfl) ?_
  refine lv_iconst (v := 0) hx hb dX3_row_1 (by decide) ?_
  refine wr_put (ci := 4) (v := .int 0) (ty := .int) (C := RX3) (T := TX3) (N := 21) hx hb hts iRX3 tyX3 tyX3_ok nmX3 hown hw 42 (by omega) ot1 rfl 0 (by decide) (hts (.fieldLink RX3 57 "LibraryDeskModel" "thrown" "I") (by decide +kernel)) (fun _ h9 => h9) rfl (by decide +kernel) rfl rfl (Nat.le_of_ble_eq_true rfl) dX3_row_2 (fun en3 H locs hE2 hw => ?_)
  have he4 : en3 42 = .inr (4, [.int 0, .ref (ad 43), .ref (ad 44), .ref (ad 45), .ref (ad 46), .int (nI (aCn A)), .ref (ad 47), .ref (ad 48), .ref (ad 49), .ref (ad 50), .int (nI (aCn O)), .ref (ad 51), .ref (ad 52), .ref (ad 53), .ref (ad 54), .ref (ad 55), .ref (ad 56), .ref (ad 57), .long an, .int wy, .int pla]) := w_self hE2
  have he5 : en3 43 = .inl (q.2.2.1, 328, .inl hFt1) := w_ne hE2 (by omega) a1t1
  have he6 : en3 44 = .inl (q.1, 8, .inl mFt1) := w_ne hE2 (by omega) a2t1
  have he7 : en3 45 = .inl (q.2.1, 8, .inr (.inl tFt1)) := w_ne hE2 (by omega) a3t1
  have he8 : en3 46 = .inl (q.2.1, 20, .inr (.inl rFt1)) := w_ne hE2 (by omega) a4t1
  have he9 : en3 47 = .inl (q.2.2.1, 328, .inl oht1) := w_ne hE2 (by omega) b1t1
  have he10 : en3 48 = .inl (q.1, 8, .inl omt1) := w_ne hE2 (by omega) b2t1
  have he11 : en3 49 = .inl (q.2.1, 8, .inr (.inl ott1)) := w_ne hE2 (by omega) b3t1
  have he12 : en3 50 = .inl (q.2.1, 20, .inr (.inl orrt1)) := w_ne hE2 (by omega) b4t1
  have he13 : en3 51 = .inl (q.1, 10, .inl wFt1) := w_ne hE2 (by omega) c1t1
  have he14 : en3 52 = .inl (q.1, 60, .inl sFt1) := w_ne hE2 (by omega) c2t1
  have he15 : en3 53 = .inl (q.1, 60, .inl kFt1) := w_ne hE2 (by omega) c3t1
  have he16 : en3 54 = .inl (q.1, 10, .inl aFt1) := w_ne hE2 (by omega) c4t1
  have he17 : en3 55 = .inl (q.1, 10, .inl fFt1) := w_ne hE2 (by omega) c5t1
  have he18 : en3 56 = .inl (q.1, 10, .inl xFt1) := w_ne hE2 (by omega) c6t1
  have he19 : en3 57 = .inl (q.1, 7, .inl gFt1) := w_ne hE2 (by omega) e1t1
  have hMz : ModC q ad en3 0 A O pl cs an wy pla := ⟨he4, ⟨_, _, _, _, he5, he6, he7, he8, hRt1⟩, ⟨_, _, _, _, he9, he10, he11, he12, hOt1⟩, ⟨_, _, _, _, _, _, he13, he14, he15, he16, he17, he18, hPlt1⟩, ⟨_, he19, hTt1⟩⟩
  obtain ⟨ot20, ⟨hFt20, mFt20, tFt20, rFt20, a1t20, a2t20, a3t20, a4t20, hRt20⟩, ⟨oht20, omt20, ott20, orrt20, b1t20, b2t20, b3t20, b4t20, hOt20⟩, ⟨wFt20, sFt20, kFt20, aFt20, fFt20, xFt20, c1t20, c2t20, c3t20, c4t20, c5t20, c6t20, hPlt20⟩, ⟨gFt20, e1t20, hTt20⟩⟩ := id hMz
  refine lv_iload_n hx hb dX3_row_5 rfl (lv_at hl 1 rfl) ?_
  refine lv_if_lt (tgt := 17) hx hb dX3_row_6 (by decide) (fun c6 => ?_) (fun c6 => ?_)
  · refine lv_aload_n hx hb dX3_row_17 rfl (lv_at hl 0 rfl) ?_
    refine lv_iconst (v := 1) hx hb dX3_row_18 (by decide) ?_
    refine wr_put (ci := 4) (v := .int 1) (ty := .int) (C := RX3) (T := TX3) (N := 21) hx hb hts iRX3 tyX3 tyX3_ok nmX3 hown hw 42 (by omega) ot20 rfl 0 (by decide) (hts (.fieldLink RX3 57 "LibraryDeskModel" "thrown" "I") (by decide +kernel)) (fun _ h9 => h9) rfl (by decide +kernel) rfl rfl (Nat.le_of_ble_eq_true rfl) dX3_row_19 (fun en22 H locs hE21 hw => ?_)
    have he23 : en22 42 = .inr (4, [.int 1, .ref (ad 43), .ref (ad 44), .ref (ad 45), .ref (ad 46), .int (nI (aCn A)), .ref (ad 47), .ref (ad 48), .ref (ad 49), .ref (ad 50), .int (nI (aCn O)), .ref (ad 51), .ref (ad 52), .ref (ad 53), .ref (ad 54), .ref (ad 55), .ref (ad 56), .ref (ad 57), .long an, .int wy, .int pla]) := w_self hE21
    have he24 : en22 43 = .inl (q.2.2.1, 328, .inl hFt20) := w_ne hE21 (by omega) a1t20
    have he25 : en22 44 = .inl (q.1, 8, .inl mFt20) := w_ne hE21 (by omega) a2t20
    have he26 : en22 45 = .inl (q.2.1, 8, .inr (.inl tFt20)) := w_ne hE21 (by omega) a3t20
    have he27 : en22 46 = .inl (q.2.1, 20, .inr (.inl rFt20)) := w_ne hE21 (by omega) a4t20
    have he28 : en22 47 = .inl (q.2.2.1, 328, .inl oht20) := w_ne hE21 (by omega) b1t20
    have he29 : en22 48 = .inl (q.1, 8, .inl omt20) := w_ne hE21 (by omega) b2t20
    have he30 : en22 49 = .inl (q.2.1, 8, .inr (.inl ott20)) := w_ne hE21 (by omega) b3t20
    have he31 : en22 50 = .inl (q.2.1, 20, .inr (.inl orrt20)) := w_ne hE21 (by omega) b4t20
    have he32 : en22 51 = .inl (q.1, 10, .inl wFt20) := w_ne hE21 (by omega) c1t20
    have he33 : en22 52 = .inl (q.1, 60, .inl sFt20) := w_ne hE21 (by omega) c2t20
    have he34 : en22 53 = .inl (q.1, 60, .inl kFt20) := w_ne hE21 (by omega) c3t20
    have he35 : en22 54 = .inl (q.1, 10, .inl aFt20) := w_ne hE21 (by omega) c4t20
    have he36 : en22 55 = .inl (q.1, 10, .inl fFt20) := w_ne hE21 (by omega) c5t20
    have he37 : en22 56 = .inl (q.1, 10, .inl xFt20) := w_ne hE21 (by omega) c6t20
    have he38 : en22 57 = .inl (q.1, 7, .inl gFt20) := w_ne hE21 (by omega) e1t20
    refine lv_lconst (v := 0) hx hb dX3_row_22 (by decide) ?_
    refine we_l hx hb hr hlocks hw ?_ dX3_row_23
    have hno : ¬ (0 ≤ i ∧ i < nI (aCn A)) := fun h => absurd c6 (Int32.not_lt.mpr h.1)
    exact ⟨by unfold sRowR; rw [if_neg hno], by unfold sRowT; rw [if_neg hno]; exact ⟨O, _, _, _, hokO, ⟨he23, ⟨_, _, _, _, he24, he25, he26, he27, hRt20⟩, ⟨_, _, _, _, he28, he29, he30, he31, hOt20⟩, ⟨_, _, _, _, _, _, he32, he33, he34, he35, he36, he37, hPlt20⟩, ⟨_, he38, hTt20⟩⟩⟩, fun j hj => (w_fr hE21 (by omega)).trans (w_fr hE2 (by omega))⟩
  · refine lv_iload_n hx hb dX3_row_9 rfl (lv_at hl 1 rfl) ?_
    refine lv_aload_n hx hb dX3_row_10 rfl (lv_at hl 0 rfl) ?_
    refine wr_get (ci := 4) (C := RX3) (T := TX3) (N := 21) hx hb hts iRX3 hown hw 42 (by omega) ot20 rfl 5 (by decide) (hts (.fieldLink RX3 61 "LibraryDeskModel" "size" "I") (by decide +kernel)) (fun _ h9 => h9) rfl dX3_row_11 ?_
    refine lv_icmp_lt (tgt := 24) hx hb dX3_row_14 (by decide) (fun c14 => ?_) (fun c14 => ?_)
    · have hin : 0 ≤ i ∧ i < nI (aCn A) := ⟨Int32.not_lt.mp c6, c14⟩
      obtain ⟨k, hk, ei⟩ : ∃ k, k < aCn A ∧ i = nI k := (kd_cases i (by omega)).resolve_right (fun h => h hin)
      subst ei
      refine lv_aload_n hx hb dX3_row_24 rfl (lv_at hl 0 rfl) ?_
      refine wr_get (ci := 4) (C := RX3) (T := TX3) (N := 21) hx hb hts iRX3 hown hw 42 (by omega) ot20 rfl 4 (by decide) (hts (.fieldLink RX3 21 "LibraryDeskModel" "row" "[J") (by decide +kernel)) (fun _ h9 => h9) rfl dX3_row_25 ?_
      refine lv_iload_n hx hb dX3_row_28 rfl (lv_at hl 1 rfl) ?_
      refine wr_lald (v := aRw A k) hx hb hw 46 (by omega) 1 a4t20 rfl (vp_in_nI (by omega) (by decide)) (by rw [(nI_clamp (by omega))]; exact hRt20.2.2 k hk) dX3_row_29 ?_
      refine we_l hx hb hr hlocks hw ?_ dX3_row_30
      exact ⟨by unfold sRowR; rw [if_pos hin, nI_clamp (by omega)], by unfold sRowT; rw [if_pos hin]; exact ⟨O, an, wy, pla, hokO, hMz⟩, fun j hj => w_fr hE2 (by omega)⟩
    · refine lv_aload_n hx hb dX3_row_17 rfl (lv_at hl 0 rfl) ?_
      refine lv_iconst (v := 1) hx hb dX3_row_18 (by decide) ?_
      refine wr_put (ci := 4) (v := .int 1) (ty := .int) (C := RX3) (T := TX3) (N := 21) hx hb hts iRX3 tyX3 tyX3_ok nmX3 hown hw 42 (by omega) ot20 rfl 0 (by decide) (hts (.fieldLink RX3 57 "LibraryDeskModel" "thrown" "I") (by decide +kernel)) (fun _ h9 => h9) rfl (by decide +kernel) rfl rfl (Nat.le_of_ble_eq_true rfl) dX3_row_19 (fun en40 H locs hE39 hw => ?_)
      have he41 : en40 42 = .inr (4, [.int 1, .ref (ad 43), .ref (ad 44), .ref (ad 45), .ref (ad 46), .int (nI (aCn A)), .ref (ad 47), .ref (ad 48), .ref (ad 49), .ref (ad 50), .int (nI (aCn O)), .ref (ad 51), .ref (ad 52), .ref (ad 53), .ref (ad 54), .ref (ad 55), .ref (ad 56), .ref (ad 57), .long an, .int wy, .int pla]) := w_self hE39
      have he42 : en40 43 = .inl (q.2.2.1, 328, .inl hFt20) := w_ne hE39 (by omega) a1t20
      have he43 : en40 44 = .inl (q.1, 8, .inl mFt20) := w_ne hE39 (by omega) a2t20
      have he44 : en40 45 = .inl (q.2.1, 8, .inr (.inl tFt20)) := w_ne hE39 (by omega) a3t20
      have he45 : en40 46 = .inl (q.2.1, 20, .inr (.inl rFt20)) := w_ne hE39 (by omega) a4t20
      have he46 : en40 47 = .inl (q.2.2.1, 328, .inl oht20) := w_ne hE39 (by omega) b1t20
      have he47 : en40 48 = .inl (q.1, 8, .inl omt20) := w_ne hE39 (by omega) b2t20
      have he48 : en40 49 = .inl (q.2.1, 8, .inr (.inl ott20)) := w_ne hE39 (by omega) b3t20
      have he49 : en40 50 = .inl (q.2.1, 20, .inr (.inl orrt20)) := w_ne hE39 (by omega) b4t20
      have he50 : en40 51 = .inl (q.1, 10, .inl wFt20) := w_ne hE39 (by omega) c1t20
      have he51 : en40 52 = .inl (q.1, 60, .inl sFt20) := w_ne hE39 (by omega) c2t20
      have he52 : en40 53 = .inl (q.1, 60, .inl kFt20) := w_ne hE39 (by omega) c3t20
      have he53 : en40 54 = .inl (q.1, 10, .inl aFt20) := w_ne hE39 (by omega) c4t20
      have he54 : en40 55 = .inl (q.1, 10, .inl fFt20) := w_ne hE39 (by omega) c5t20
      have he55 : en40 56 = .inl (q.1, 10, .inl xFt20) := w_ne hE39 (by omega) c6t20
      have he56 : en40 57 = .inl (q.1, 7, .inl gFt20) := w_ne hE39 (by omega) e1t20
      refine lv_lconst (v := 0) hx hb dX3_row_22 (by decide) ?_
      refine we_l hx hb hr hlocks hw ?_ dX3_row_23
      have hno : ¬ (0 ≤ i ∧ i < nI (aCn A)) := fun h => c14 h.2
      exact ⟨by unfold sRowR; rw [if_neg hno], by unfold sRowT; rw [if_neg hno]; exact ⟨O, _, _, _, hokO, ⟨he41, ⟨_, _, _, _, he42, he43, he44, he45, hRt20⟩, ⟨_, _, _, _, he46, he47, he48, he49, hOt20⟩, ⟨_, _, _, _, _, _, he50, he51, he52, he53, he54, he55, hPlt20⟩, ⟨_, he56, hTt20⟩⟩⟩, fun j hj => (w_fr hE39 (by omega)).trans (w_fr hE2 (by omega))⟩

set_option maxHeartbeats 4000000 in
set_option maxRecDepth 100000 in
theorem kX3_call (l : Launch) (dC : Nat → ClassId) (dI : Nat → Nat → Nat) (q : ClassId × ClassId × ClassId × ClassId) (ad : Nat → Nat) (en : Nat → va_E) (n sz : Nat) (hn58 : 58 ≤ n) (th : Int32) (A : Ast) (pl : Nat → Pst) (cs : Nat → Int32) (hok : Aok A) (hpok : ∀ i, i < 10 → Pok (pl i)) (hM0 : ModAt q ad en th A pl cs) (cv z : Int32) (a : Int64) :
    Met l yX3_call wsX3_call ({ frames := 5, cells := 0, slots := 0, locals := 115 }) (wPc (dC, dI) vwCl (wT q) ad en n sz [.ref (ad 42), .int cv, .int z, .long a]) (va_Ql (fun (r : Int64) (en' : Nat → va_E) => r = sCallR cv z a A pl ∧ ModAt q ad en' 0 (sCallA cv z a A pl) (sCallP cv z a A pl) (sCallC cv z a A pl cs) ∧ ∀ j, (j < 42 ∨ 58 ≤ j) → en' j = en j) (wB (dC, dI) vwCl (wT q) ad n (wA ad n sz)) (wA ad n sz)) 0 0 (wA ad n sz) := by
  refine Met.ofW (cc := cX3_call) (maxL := 5) (ret := (some .long)) (by decide) rfl ?_
  intro p e s m args below meth c s₁ B hml hv
  obtain ⟨rfl, hsz, hP, hK, hD0, hE0⟩ := hv
  have hx := B.exec
  have hb := B.bytes
  have hr := B.returns
  have hts := atoms_spec (ws := wsX3_call) B.pre
  have hown : s.vm.findClass RX3 = some m.cls := findClass_of_methodNamed B.named
  have hlocks := B.notSynchronized
  have iRX3 : ∀ w ∈ u_ws RX3 TX3 21, w ∈ wsX3_call := by decide +kernel
  subst hsz
  have hw := wk_of hP hK hD0 hE0
  generalize wA ad n s.heap.size = AA at hw ⊢
  have hl := lv_entry ([.ref (ad 42), .int cv, .int z, .long a]) (n := 5) (Nat.le_of_ble_eq_true rfl)
  rw [lg_entry_eq]
  generalize (lg_sl ([.ref (ad 42), .int cv, .int z, .long a]) ++ List.replicate (5 - (lg_sl ([.ref (ad 42), .int cv, .int z, .long a])).length) Slot.unset).toArray = ls at hl ⊢
  have hl : lv_has ls 5 [(0, .ref (ad 42)), (1, .int cv), (2, .int z), (3, .long a)] := hl
  obtain ⟨O, an, wy, pla, hokO, hM⟩ := hM0
  have hcn := hok.2
  obtain ⟨ot1, ⟨hFt1, mFt1, tFt1, rFt1, a1t1, a2t1, a3t1, a4t1, hRt1⟩, ⟨oht1, omt1, ott1, orrt1, b1t1, b2t1, b3t1, b4t1, hOt1⟩, ⟨wFt1, sFt1, kFt1, aFt1, fFt1, xFt1, c1t1, c2t1, c3t1, c4t1, c5t1, c6t1, hPlt1⟩, ⟨gFt1, e1t1, hTt1⟩⟩ := id hM
  refine lv_aload_n hx hb dX3_call_0 rfl (lv_at hl 0 rfl) ?_
  refine lv_iconst (v := 0) hx hb dX3_call_1 (by decide) ?_
  refine wr_put (ci := 4) (v := .int 0) (ty := .int) (C := RX3) (T := TX3) (N := 21) hx hb hts iRX3 tyX3 tyX3_ok nmX3 hown hw 42 (by omega) ot1 rfl 0 (by decide) (hts (.fieldLink RX3 57 "LibraryDeskModel" "thrown" "I") (by decide +kernel)) (fun _ h9 => h9) rfl (by decide +kernel) rfl rfl (Nat.le_of_ble_eq_true rfl) dX3_call_2 (fun en3 H locs hE2 hw => ?_)
  have he4 : en3 42 = .inr (4, [.int 0, .ref (ad 43), .ref (ad 44), .ref (ad 45), .ref (ad 46), .int (nI (aCn A)), .ref (ad 47), .ref (ad 48), .ref (ad 49), .ref (ad 50), .int (nI (aCn O)), .ref (ad 51), .ref (ad 52), .ref (ad 53), .ref (ad 54), .ref (ad 55), .ref (ad 56), .ref (ad 57), .long an, .int wy, .int pla]) := w_self hE2
  have he5 : en3 43 = .inl (q.2.2.1, 328, .inl hFt1) := w_ne hE2 (by omega) a1t1
  have he6 : en3 44 = .inl (q.1, 8, .inl mFt1) := w_ne hE2 (by omega) a2t1
  have he7 : en3 45 = .inl (q.2.1, 8, .inr (.inl tFt1)) := w_ne hE2 (by omega) a3t1
  have he8 : en3 46 = .inl (q.2.1, 20, .inr (.inl rFt1)) := w_ne hE2 (by omega) a4t1
  have he9 : en3 47 = .inl (q.2.2.1, 328, .inl oht1) := w_ne hE2 (by omega) b1t1
  have he10 : en3 48 = .inl (q.1, 8, .inl omt1) := w_ne hE2 (by omega) b2t1
  have he11 : en3 49 = .inl (q.2.1, 8, .inr (.inl ott1)) := w_ne hE2 (by omega) b3t1
  have he12 : en3 50 = .inl (q.2.1, 20, .inr (.inl orrt1)) := w_ne hE2 (by omega) b4t1
  have he13 : en3 51 = .inl (q.1, 10, .inl wFt1) := w_ne hE2 (by omega) c1t1
  have he14 : en3 52 = .inl (q.1, 60, .inl sFt1) := w_ne hE2 (by omega) c2t1
  have he15 : en3 53 = .inl (q.1, 60, .inl kFt1) := w_ne hE2 (by omega) c3t1
  have he16 : en3 54 = .inl (q.1, 10, .inl aFt1) := w_ne hE2 (by omega) c4t1
  have he17 : en3 55 = .inl (q.1, 10, .inl fFt1) := w_ne hE2 (by omega) c5t1
  have he18 : en3 56 = .inl (q.1, 10, .inl xFt1) := w_ne hE2 (by omega) c6t1
  have he19 : en3 57 = .inl (q.1, 7, .inl gFt1) := w_ne hE2 (by omega) e1t1
  have hMz : ModC q ad en3 0 A O pl cs an wy pla := ⟨he4, ⟨_, _, _, _, he5, he6, he7, he8, hRt1⟩, ⟨_, _, _, _, he9, he10, he11, he12, hOt1⟩, ⟨_, _, _, _, _, _, he13, he14, he15, he16, he17, he18, hPlt1⟩, ⟨_, he19, hTt1⟩⟩
  obtain ⟨ot20, ⟨hFt20, mFt20, tFt20, rFt20, a1t20, a2t20, a3t20, a4t20, hRt20⟩, ⟨oht20, omt20, ott20, orrt20, b1t20, b2t20, b3t20, b4t20, hOt20⟩, ⟨wFt20, sFt20, kFt20, aFt20, fFt20, xFt20, c1t20, c2t20, c3t20, c4t20, c5t20, c6t20, hPlt20⟩, ⟨gFt20, e1t20, hTt20⟩⟩ := id hMz
  refine lv_aload_n hx hb dX3_call_5 rfl (lv_at hl 0 rfl) ?_
  refine lv_iload_n hx hb dX3_call_6 rfl (lv_at hl 1 rfl) ?_
  refine lv_iload_n hx hb dX3_call_7 rfl (lv_at hl 2 rfl) ?_
  refine wc_i hw (va_runV (As := [.int cv, .int z]) (rest := []) ⟨hx, hb, hml, hown, hts⟩ (kX3_may l dC dI q ad en3 n _ hn58 0 A O pl cs an wy pla hok hMz cv z) (cwV 2 hts gX3_call_X3_may rfl rfl rfl (by decide +kernel) ⟨Nat.le_of_ble_eq_true rfl, Nat.le_of_ble_eq_true rfl⟩) (wk_preV hw (by omega) ot20 rfl) rfl rfl hl.1 rfl (lv_room (Nat.le_of_ble_eq_true rfl)) dX3_call_8 ⟨Nat.le_refl _, Nat.le_refl _⟩) (fun r21 en23 H locs hp22 hw => ?_)
  obtain ⟨hr24, hn25⟩ := hp22
  rw [hn25] at hw
  clear hn25
  refine lv_if_ne (tgt := 28) hx hb dX3_call_11 (by decide) (fun c11 => ?_) (fun c11 => ?_)
  · have hnr := z01_t hr24 c11
    have hcv : okC cv := Decidable.of_not_not (fun h => hnr (Or.inl h))
    obtain ⟨c1, hc, ecv⟩ := okC_of hcv
    subst ecv
    refine lv_aload_n hx hb dX3_call_28 rfl (lv_at hl 0 rfl) ?_
    refine lv_iload_n hx hb dX3_call_29 rfl (lv_at hl 1 rfl) ?_
    refine lv_iload_n hx hb dX3_call_30 rfl (lv_at hl 2 rfl) ?_
    refine lv_lload_n hx hb dX3_call_31 rfl (lv_at hl 3 rfl) ?_
    refine wc_i hw (va_runV (As := [.int (nI c1), .int z, .long a]) (rest := []) ⟨hx, hb, hml, hown, hts⟩ (kX3_done l dC dI q ad en3 n _ hn58 0 A O pl cs an wy pla hok hMz hokO c1 hc (hpok c1 hc) z a) (cwV 3 hts gX3_call_X3_done rfl rfl rfl (by decide +kernel) ⟨Nat.le_of_ble_eq_true rfl, Nat.le_of_ble_eq_true rfl⟩) (wk_preV hw (by omega) ot20 rfl) rfl rfl hl.1 rfl (lv_room (Nat.le_of_ble_eq_true rfl)) dX3_call_32 ⟨Nat.le_refl _, Nat.le_refl _⟩) (fun r26 en28 H locs hp27 hw => ?_)
    obtain ⟨hr1, pla2, hM1, hpl2, hfr1⟩ := hp27
    obtain ⟨ot29, ⟨hFt29, mFt29, tFt29, rFt29, a1t29, a2t29, a3t29, a4t29, hRt29⟩, ⟨oht29, omt29, ott29, orrt29, b1t29, b2t29, b3t29, b4t29, hOt29⟩, ⟨wFt29, sFt29, kFt29, aFt29, fFt29, xFt29, c1t29, c2t29, c3t29, c4t29, c5t29, c6t29, hPlt29⟩, ⟨gFt29, e1t29, hTt29⟩⟩ := id hM1
    refine lv_if_eq (tgt := 53) hx hb dX3_call_35 (by decide) (fun c35 => ?_) (fun c35 => ?_)
    · have h0 : ¬ (tR (pl c1) z a A).1 = 0 := z01_f hr1 c35
      refine lv_aload_n hx hb dX3_call_53 rfl (lv_at hl 0 rfl) ?_
      refine wr_get (ci := 4) (C := RX3) (T := TX3) (N := 21) hx hb hts iRX3 hown hw 42 (by omega) ot29 rfl 17 (by decide) (hts (.fieldLink RX3 54 "LibraryDeskModel" "told" "[I") (by decide +kernel)) (fun _ h9 => h9) rfl dX3_call_54 ?_
      refine lv_iconst (v := 2) hx hb dX3_call_57 (by decide) ?_
      refine lv_dup2_11 hx hb dX3_call_58 rfl rfl ?_
      refine wr_iald (v := cs 2) hx hb hw 57 (by omega) 0 e1t29 rfl (vp_in_nI (n := 2) (by decide) (by decide)) (by rw [(show (2 : Int32).toNatClampNeg = 2 by decide)]; exact hTt29 2 (by decide)) dX3_call_59 ?_
      refine lv_iconst (v := 1) hx hb dX3_call_60 (by decide) ?_
      refine lv_iadd hx hb dX3_call_61 ?_
      refine lv_topi (fun x30 ex30 => ?_)
      have ex30n : x30 = cs 2 + 1 := ex30.trans (rfl)
      clear ex30
      subst ex30n
      refine wr_iast (j := 2) hx hb hw 57 (by omega) 0 e1t29 rfl (vp_in_nI (n := 2) (by decide) (by decide)) (show (2 : Int32).toNatClampNeg = 2 by decide) dX3_call_62 (fun en32 H locs hE31 hw => ?_)
      have he33 : en32 42 = .inr (4, [.int 0, .ref (ad 43), .ref (ad 44), .ref (ad 45), .ref (ad 46), .int (nI (aCn ((if (tR (pl c1) z a A).1 = 0 then (tR (pl c1) z a A).2.2.1 else A)))), .ref (ad 47), .ref (ad 48), .ref (ad 49), .ref (ad 50), .int (nI (aCn A)), .ref (ad 51), .ref (ad 52), .ref (ad 53), .ref (ad 54), .ref (ad 55), .ref (ad 56), .ref (ad 57), .long ((tR (pl c1) z a A).2.2.2), .int ((tR (pl c1) z a A).1), .int pla2]) := w_ne hE31 (by omega) ot29
      have he34 : en32 43 = .inl (q.2.2.1, 328, .inl hFt29) := w_ne hE31 (by omega) a1t29
      have he35 : en32 44 = .inl (q.1, 8, .inl mFt29) := w_ne hE31 (by omega) a2t29
      have he36 : en32 45 = .inl (q.2.1, 8, .inr (.inl tFt29)) := w_ne hE31 (by omega) a3t29
      have he37 : en32 46 = .inl (q.2.1, 20, .inr (.inl rFt29)) := w_ne hE31 (by omega) a4t29
      have he38 : en32 47 = .inl (q.2.2.1, 328, .inl oht29) := w_ne hE31 (by omega) b1t29
      have he39 : en32 48 = .inl (q.1, 8, .inl omt29) := w_ne hE31 (by omega) b2t29
      have he40 : en32 49 = .inl (q.2.1, 8, .inr (.inl ott29)) := w_ne hE31 (by omega) b3t29
      have he41 : en32 50 = .inl (q.2.1, 20, .inr (.inl orrt29)) := w_ne hE31 (by omega) b4t29
      have he42 : en32 51 = .inl (q.1, 10, .inl wFt29) := w_ne hE31 (by omega) c1t29
      have he43 : en32 52 = .inl (q.1, 60, .inl sFt29) := w_ne hE31 (by omega) c2t29
      have he44 : en32 53 = .inl (q.1, 60, .inl kFt29) := w_ne hE31 (by omega) c3t29
      have he45 : en32 54 = .inl (q.1, 10, .inl aFt29) := w_ne hE31 (by omega) c4t29
      have he46 : en32 55 = .inl (q.1, 10, .inl fFt29) := w_ne hE31 (by omega) c5t29
      have he47 : en32 56 = .inl (q.1, 10, .inl xFt29) := w_ne hE31 (by omega) c6t29
      have he48 : en32 57 = .inl (q.1, 7, .inl (upd gFt29 2 (cs 2 + 1))) := w_self hE31
      refine lv_aload_n hx hb dX3_call_63 rfl (lv_at hl 0 rfl) ?_
      refine wr_get (ci := 4) (C := RX3) (T := TX3) (N := 21) hx hb hts iRX3 hown hw 42 (by omega) he33 rfl 17 (by decide) (hts (.fieldLink RX3 54 "LibraryDeskModel" "told" "[I") (by decide +kernel)) (fun _ h9 => h9) rfl dX3_call_64 ?_
      refine lv_iconst (v := 3) hx hb dX3_call_67 (by decide) ?_
      refine lv_aload_n hx hb dX3_call_68 rfl (lv_at hl 0 rfl) ?_
      refine wr_get (ci := 4) (C := RX3) (T := TX3) (N := 21) hx hb hts iRX3 hown hw 42 (by omega) he33 rfl 19 (by decide) (hts (.fieldLink RX3 104 "LibraryDeskModel" "why" "I") (by decide +kernel)) (fun _ h9 => h9) rfl dX3_call_69 ?_
      refine wr_iast (j := 3) hx hb hw 57 (by omega) 0 he48 rfl (vp_in_nI (n := 3) (by decide) (by decide)) (show (3 : Int32).toNatClampNeg = 3 by decide) dX3_call_72 (fun en50 H locs hE49 hw => ?_)
      have he51 : en50 42 = .inr (4, [.int 0, .ref (ad 43), .ref (ad 44), .ref (ad 45), .ref (ad 46), .int (nI (aCn ((if (tR (pl c1) z a A).1 = 0 then (tR (pl c1) z a A).2.2.1 else A)))), .ref (ad 47), .ref (ad 48), .ref (ad 49), .ref (ad 50), .int (nI (aCn A)), .ref (ad 51), .ref (ad 52), .ref (ad 53), .ref (ad 54), .ref (ad 55), .ref (ad 56), .ref (ad 57), .long ((tR (pl c1) z a A).2.2.2), .int ((tR (pl c1) z a A).1), .int pla2]) := w_ne hE49 (by omega) he33
      have he52 : en50 43 = .inl (q.2.2.1, 328, .inl hFt29) := w_ne hE49 (by omega) he34
      have he53 : en50 44 = .inl (q.1, 8, .inl mFt29) := w_ne hE49 (by omega) he35
      have he54 : en50 45 = .inl (q.2.1, 8, .inr (.inl tFt29)) := w_ne hE49 (by omega) he36
      have he55 : en50 46 = .inl (q.2.1, 20, .inr (.inl rFt29)) := w_ne hE49 (by omega) he37
      have he56 : en50 47 = .inl (q.2.2.1, 328, .inl oht29) := w_ne hE49 (by omega) he38
      have he57 : en50 48 = .inl (q.1, 8, .inl omt29) := w_ne hE49 (by omega) he39
      have he58 : en50 49 = .inl (q.2.1, 8, .inr (.inl ott29)) := w_ne hE49 (by omega) he40
      have he59 : en50 50 = .inl (q.2.1, 20, .inr (.inl orrt29)) := w_ne hE49 (by omega) he41
      have he60 : en50 51 = .inl (q.1, 10, .inl wFt29) := w_ne hE49 (by omega) he42
      have he61 : en50 52 = .inl (q.1, 60, .inl sFt29) := w_ne hE49 (by omega) he43
      have he62 : en50 53 = .inl (q.1, 60, .inl kFt29) := w_ne hE49 (by omega) he44
      have he63 : en50 54 = .inl (q.1, 10, .inl aFt29) := w_ne hE49 (by omega) he45
      have he64 : en50 55 = .inl (q.1, 10, .inl fFt29) := w_ne hE49 (by omega) he46
      have he65 : en50 56 = .inl (q.1, 10, .inl xFt29) := w_ne hE49 (by omega) he47
      have he66 : en50 57 = .inl (q.1, 7, .inl (upd (upd gFt29 2 (cs 2 + 1)) 3 ((tR (pl c1) z a A).1))) := w_self hE49
      refine lv_aload_n hx hb dX3_call_73 rfl (lv_at hl 0 rfl) ?_
      refine wr_get (ci := 4) (C := RX3) (T := TX3) (N := 21) hx hb hts iRX3 hown hw 42 (by omega) he51 rfl 17 (by decide) (hts (.fieldLink RX3 54 "LibraryDeskModel" "told" "[I") (by decide +kernel)) (fun _ h9 => h9) rfl dX3_call_74 ?_
      refine lv_iconst (v := 4) hx hb dX3_call_77 (by decide) ?_
      refine lv_aload_n hx hb dX3_call_78 rfl (lv_at hl 0 rfl) ?_
      refine wr_get (ci := 4) (C := RX3) (T := TX3) (N := 21) hx hb hts iRX3 hown hw 42 (by omega) he51 rfl 20 (by decide) (hts (.fieldLink RX3 107 "LibraryDeskModel" "place" "I") (by decide +kernel)) (fun _ h9 => h9) rfl dX3_call_79 ?_
      refine wr_iast (j := 4) hx hb hw 57 (by omega) 0 he66 rfl (vp_in_nI (n := 4) (by decide) (by decide)) (show (4 : Int32).toNatClampNeg = 4 by decide) dX3_call_82 (fun en68 H locs hE67 hw => ?_)
      have he69 : en68 42 = .inr (4, [.int 0, .ref (ad 43), .ref (ad 44), .ref (ad 45), .ref (ad 46), .int (nI (aCn ((if (tR (pl c1) z a A).1 = 0 then (tR (pl c1) z a A).2.2.1 else A)))), .ref (ad 47), .ref (ad 48), .ref (ad 49), .ref (ad 50), .int (nI (aCn A)), .ref (ad 51), .ref (ad 52), .ref (ad 53), .ref (ad 54), .ref (ad 55), .ref (ad 56), .ref (ad 57), .long ((tR (pl c1) z a A).2.2.2), .int ((tR (pl c1) z a A).1), .int pla2]) := w_ne hE67 (by omega) he51
      have he70 : en68 43 = .inl (q.2.2.1, 328, .inl hFt29) := w_ne hE67 (by omega) he52
      have he71 : en68 44 = .inl (q.1, 8, .inl mFt29) := w_ne hE67 (by omega) he53
      have he72 : en68 45 = .inl (q.2.1, 8, .inr (.inl tFt29)) := w_ne hE67 (by omega) he54
      have he73 : en68 46 = .inl (q.2.1, 20, .inr (.inl rFt29)) := w_ne hE67 (by omega) he55
      have he74 : en68 47 = .inl (q.2.2.1, 328, .inl oht29) := w_ne hE67 (by omega) he56
      have he75 : en68 48 = .inl (q.1, 8, .inl omt29) := w_ne hE67 (by omega) he57
      have he76 : en68 49 = .inl (q.2.1, 8, .inr (.inl ott29)) := w_ne hE67 (by omega) he58
      have he77 : en68 50 = .inl (q.2.1, 20, .inr (.inl orrt29)) := w_ne hE67 (by omega) he59
      have he78 : en68 51 = .inl (q.1, 10, .inl wFt29) := w_ne hE67 (by omega) he60
      have he79 : en68 52 = .inl (q.1, 60, .inl sFt29) := w_ne hE67 (by omega) he61
      have he80 : en68 53 = .inl (q.1, 60, .inl kFt29) := w_ne hE67 (by omega) he62
      have he81 : en68 54 = .inl (q.1, 10, .inl aFt29) := w_ne hE67 (by omega) he63
      have he82 : en68 55 = .inl (q.1, 10, .inl fFt29) := w_ne hE67 (by omega) he64
      have he83 : en68 56 = .inl (q.1, 10, .inl xFt29) := w_ne hE67 (by omega) he65
      have he84 : en68 57 = .inl (q.1, 7, .inl (upd (upd (upd gFt29 2 (cs 2 + 1)) 3 ((tR (pl c1) z a A).1)) 4 pla2)) := w_self hE67
      refine lv_aload_n hx hb dX3_call_83 rfl (lv_at hl 0 rfl) ?_
      refine wr_get (ci := 4) (C := RX3) (T := TX3) (N := 21) hx hb hts iRX3 hown hw 42 (by omega) he69 rfl 17 (by decide) (hts (.fieldLink RX3 54 "LibraryDeskModel" "told" "[I") (by decide +kernel)) (fun _ h9 => h9) rfl dX3_call_84 ?_
      refine lv_iconst (v := 5) hx hb dX3_call_87 (by decide) ?_
      refine lv_iload_n hx hb dX3_call_88 rfl (lv_at hl 1 rfl) ?_
      refine wr_iast (j := 5) hx hb hw 57 (by omega) 0 he84 rfl (vp_in_nI (n := 5) (by decide) (by decide)) (show (5 : Int32).toNatClampNeg = 5 by decide) dX3_call_89 (fun en86 H locs hE85 hw => ?_)
      have he87 : en86 42 = .inr (4, [.int 0, .ref (ad 43), .ref (ad 44), .ref (ad 45), .ref (ad 46), .int (nI (aCn ((if (tR (pl c1) z a A).1 = 0 then (tR (pl c1) z a A).2.2.1 else A)))), .ref (ad 47), .ref (ad 48), .ref (ad 49), .ref (ad 50), .int (nI (aCn A)), .ref (ad 51), .ref (ad 52), .ref (ad 53), .ref (ad 54), .ref (ad 55), .ref (ad 56), .ref (ad 57), .long ((tR (pl c1) z a A).2.2.2), .int ((tR (pl c1) z a A).1), .int pla2]) := w_ne hE85 (by omega) he69
      have he88 : en86 43 = .inl (q.2.2.1, 328, .inl hFt29) := w_ne hE85 (by omega) he70
      have he89 : en86 44 = .inl (q.1, 8, .inl mFt29) := w_ne hE85 (by omega) he71
      have he90 : en86 45 = .inl (q.2.1, 8, .inr (.inl tFt29)) := w_ne hE85 (by omega) he72
      have he91 : en86 46 = .inl (q.2.1, 20, .inr (.inl rFt29)) := w_ne hE85 (by omega) he73
      have he92 : en86 47 = .inl (q.2.2.1, 328, .inl oht29) := w_ne hE85 (by omega) he74
      have he93 : en86 48 = .inl (q.1, 8, .inl omt29) := w_ne hE85 (by omega) he75
      have he94 : en86 49 = .inl (q.2.1, 8, .inr (.inl ott29)) := w_ne hE85 (by omega) he76
      have he95 : en86 50 = .inl (q.2.1, 20, .inr (.inl orrt29)) := w_ne hE85 (by omega) he77
      have he96 : en86 51 = .inl (q.1, 10, .inl wFt29) := w_ne hE85 (by omega) he78
      have he97 : en86 52 = .inl (q.1, 60, .inl sFt29) := w_ne hE85 (by omega) he79
      have he98 : en86 53 = .inl (q.1, 60, .inl kFt29) := w_ne hE85 (by omega) he80
      have he99 : en86 54 = .inl (q.1, 10, .inl aFt29) := w_ne hE85 (by omega) he81
      have he100 : en86 55 = .inl (q.1, 10, .inl fFt29) := w_ne hE85 (by omega) he82
      have he101 : en86 56 = .inl (q.1, 10, .inl xFt29) := w_ne hE85 (by omega) he83
      have he102 : en86 57 = .inl (q.1, 7, .inl (upd (upd (upd (upd gFt29 2 (cs 2 + 1)) 3 ((tR (pl c1) z a A).1)) 4 pla2) 5 (nI c1))) := w_self hE85
      refine lv_aload_n hx hb dX3_call_90 rfl (lv_at hl 0 rfl) ?_
      refine wr_get (ci := 4) (C := RX3) (T := TX3) (N := 21) hx hb hts iRX3 hown hw 42 (by omega) he87 rfl 17 (by decide) (hts (.fieldLink RX3 54 "LibraryDeskModel" "told" "[I") (by decide +kernel)) (fun _ h9 => h9) rfl dX3_call_91 ?_
      refine lv_bipush (v := 6) hx hb dX3_call_94 (by decide) ?_
      refine lv_iload_n hx hb dX3_call_96 rfl (lv_at hl 2 rfl) ?_
      refine wr_iast (j := 6) hx hb hw 57 (by omega) 0 he102 rfl (vp_in_nI (n := 6) (by decide) (by decide)) (show (6 : Int32).toNatClampNeg = 6 by decide) dX3_call_97 (fun en104 H locs hE103 hw => ?_)
      have he105 : en104 42 = .inr (4, [.int 0, .ref (ad 43), .ref (ad 44), .ref (ad 45), .ref (ad 46), .int (nI (aCn ((if (tR (pl c1) z a A).1 = 0 then (tR (pl c1) z a A).2.2.1 else A)))), .ref (ad 47), .ref (ad 48), .ref (ad 49), .ref (ad 50), .int (nI (aCn A)), .ref (ad 51), .ref (ad 52), .ref (ad 53), .ref (ad 54), .ref (ad 55), .ref (ad 56), .ref (ad 57), .long ((tR (pl c1) z a A).2.2.2), .int ((tR (pl c1) z a A).1), .int pla2]) := w_ne hE103 (by omega) he87
      have he106 : en104 43 = .inl (q.2.2.1, 328, .inl hFt29) := w_ne hE103 (by omega) he88
      have he107 : en104 44 = .inl (q.1, 8, .inl mFt29) := w_ne hE103 (by omega) he89
      have he108 : en104 45 = .inl (q.2.1, 8, .inr (.inl tFt29)) := w_ne hE103 (by omega) he90
      have he109 : en104 46 = .inl (q.2.1, 20, .inr (.inl rFt29)) := w_ne hE103 (by omega) he91
      have he110 : en104 47 = .inl (q.2.2.1, 328, .inl oht29) := w_ne hE103 (by omega) he92
      have he111 : en104 48 = .inl (q.1, 8, .inl omt29) := w_ne hE103 (by omega) he93
      have he112 : en104 49 = .inl (q.2.1, 8, .inr (.inl ott29)) := w_ne hE103 (by omega) he94
      have he113 : en104 50 = .inl (q.2.1, 20, .inr (.inl orrt29)) := w_ne hE103 (by omega) he95
      have he114 : en104 51 = .inl (q.1, 10, .inl wFt29) := w_ne hE103 (by omega) he96
      have he115 : en104 52 = .inl (q.1, 60, .inl sFt29) := w_ne hE103 (by omega) he97
      have he116 : en104 53 = .inl (q.1, 60, .inl kFt29) := w_ne hE103 (by omega) he98
      have he117 : en104 54 = .inl (q.1, 10, .inl aFt29) := w_ne hE103 (by omega) he99
      have he118 : en104 55 = .inl (q.1, 10, .inl fFt29) := w_ne hE103 (by omega) he100
      have he119 : en104 56 = .inl (q.1, 10, .inl xFt29) := w_ne hE103 (by omega) he101
      have he120 : en104 57 = .inl (q.1, 7, .inl (upd (upd (upd (upd (upd gFt29 2 (cs 2 + 1)) 3 ((tR (pl c1) z a A).1)) 4 pla2) 5 (nI c1)) 6 z)) := w_self hE103
      refine lv_aload_n hx hb dX3_call_98 rfl (lv_at hl 0 rfl) ?_
      refine wr_get (ci := 4) (C := RX3) (T := TX3) (N := 21) hx hb hts iRX3 hown hw 42 (by omega) he105 rfl 15 (by decide) (hts (.fieldLink RX3 48 "LibraryDeskModel" "failsAt" "[I") (by decide +kernel)) (fun _ h9 => h9) rfl dX3_call_99 ?_
      refine lv_iload_n hx hb dX3_call_102 rfl (lv_at hl 1 rfl) ?_
      refine lv_aload_n hx hb dX3_call_103 rfl (lv_at hl 0 rfl) ?_
      refine wr_get (ci := 4) (C := RX3) (T := TX3) (N := 21) hx hb hts iRX3 hown hw 42 (by omega) he105 rfl 19 (by decide) (hts (.fieldLink RX3 104 "LibraryDeskModel" "why" "I") (by decide +kernel)) (fun _ h9 => h9) rfl dX3_call_104 ?_
      refine lv_bipush (v := 6) hx hb dX3_call_107 (by decide) ?_
      refine lv_icmp_ge (tgt := 116) hx hb dX3_call_109 (by decide) (fun c109 => ?_) (fun c109 => ?_)
      · skip
        refine lv_aload_n hx hb dX3_call_116 rfl (lv_at hl 0 rfl) ?_
        refine wr_get (ci := 4) (C := RX3) (T := TX3) (N := 21) hx hb hts iRX3 hown hw 42 (by omega) he105 rfl 15 (by decide) (hts (.fieldLink RX3 48 "LibraryDeskModel" "failsAt" "[I") (by decide +kernel)) (fun _ h9 => h9) rfl dX3_call_117 ?_
        refine lv_iload_n hx hb dX3_call_120 rfl (lv_at hl 1 rfl) ?_
        refine wr_iald (v := (pl c1).2.2.2.2.1) hx hb hw 55 (by omega) 0 he118 rfl (vp_in_nI (by omega) (by decide)) (by rw [(nI_clamp (by omega))]; exact (hPlt29 c1 hc).2.2.1) dX3_call_121 ?_
        refine wr_iast (j := c1) hx hb hw 55 (by omega) 0 he118 rfl (vp_in_nI (by omega) (by decide)) (nI_clamp (by omega)) dX3_call_122 (fun en122 H locs hE121 hw => ?_)
        have he123 : en122 42 = .inr (4, [.int 0, .ref (ad 43), .ref (ad 44), .ref (ad 45), .ref (ad 46), .int (nI (aCn ((if (tR (pl c1) z a A).1 = 0 then (tR (pl c1) z a A).2.2.1 else A)))), .ref (ad 47), .ref (ad 48), .ref (ad 49), .ref (ad 50), .int (nI (aCn A)), .ref (ad 51), .ref (ad 52), .ref (ad 53), .ref (ad 54), .ref (ad 55), .ref (ad 56), .ref (ad 57), .long ((tR (pl c1) z a A).2.2.2), .int ((tR (pl c1) z a A).1), .int pla2]) := w_ne hE121 (by omega) he105
        have he124 : en122 43 = .inl (q.2.2.1, 328, .inl hFt29) := w_ne hE121 (by omega) he106
        have he125 : en122 44 = .inl (q.1, 8, .inl mFt29) := w_ne hE121 (by omega) he107
        have he126 : en122 45 = .inl (q.2.1, 8, .inr (.inl tFt29)) := w_ne hE121 (by omega) he108
        have he127 : en122 46 = .inl (q.2.1, 20, .inr (.inl rFt29)) := w_ne hE121 (by omega) he109
        have he128 : en122 47 = .inl (q.2.2.1, 328, .inl oht29) := w_ne hE121 (by omega) he110
        have he129 : en122 48 = .inl (q.1, 8, .inl omt29) := w_ne hE121 (by omega) he111
        have he130 : en122 49 = .inl (q.2.1, 8, .inr (.inl ott29)) := w_ne hE121 (by omega) he112
        have he131 : en122 50 = .inl (q.2.1, 20, .inr (.inl orrt29)) := w_ne hE121 (by omega) he113
        have he132 : en122 51 = .inl (q.1, 10, .inl wFt29) := w_ne hE121 (by omega) he114
        have he133 : en122 52 = .inl (q.1, 60, .inl sFt29) := w_ne hE121 (by omega) he115
        have he134 : en122 53 = .inl (q.1, 60, .inl kFt29) := w_ne hE121 (by omega) he116
        have he135 : en122 54 = .inl (q.1, 10, .inl aFt29) := w_ne hE121 (by omega) he117
        have he136 : en122 55 = .inl (q.1, 10, .inl (upd fFt29 c1 ((pl c1).2.2.2.2.1))) := w_self hE121
        have he137 : en122 56 = .inl (q.1, 10, .inl xFt29) := w_ne hE121 (by omega) he119
        have he138 : en122 57 = .inl (q.1, 7, .inl (upd (upd (upd (upd (upd gFt29 2 (cs 2 + 1)) 3 ((tR (pl c1) z a A).1)) 4 pla2) 5 (nI c1)) 6 z)) := w_ne hE121 (by omega) he120
        refine lv_ldc2 (v := (-9223372036854775806)) hx hb hown (hts (.constantLong RX3 126 (-9223372036854775806)) (by decide +kernel)) dX3_call_123 ?_
        refine we_l hx hb hr hlocks hw ?_ dX3_call_126
        have hS := sCall_fail (a := a) hc hnr h0
        have ht := tR_told (hpok c1 hc) h0
        refine ⟨hS.1.symm, ?_, fun j hj => (w_fr hE121 (by omega)).trans ((w_fr hE103 (by omega)).trans ((w_fr hE85 (by omega)).trans ((w_fr hE67 (by omega)).trans ((w_fr hE49 (by omega)).trans ((w_fr hE31 (by omega)).trans ((hfr1 j hj).trans (w_fr hE2 (by omega))))))))⟩
        rw [hS.2.1, hS.2.2.1, hS.2.2.2 cs, ← hpl2 h0]
        rw [← hpl2 h0] at ht
        rw [if_neg h0] at he123 hRt29
        obtain ⟨k1, k2, k3, k4, k5⟩ := hPlt29 c1 hc
        have hF : pForgetI pla2 (pl c1) = pl c1 := by
          unfold pForgetI
          rw [if_neg (fun h => absurd (ht.mpr h) (Int32.not_lt.mpr c109))]
        rw [hF]
        exact ⟨A, _, _, _, hok, ⟨he123, ⟨_, _, _, _, he124, he125, he126, he127, hRt29⟩, ⟨_, _, _, _, he128, he129, he130, he131, hOt29⟩, ⟨_, _, _, _, _, _, he132, he133, he134, he135, he136, he137, MPl_up hPlt29 hc (fun j e => ⟨rfl, rfl, pk_un e, rfl⟩) ⟨k1, k2, pk_us, k4, k5⟩⟩, ⟨_, he138, told_fail hTt29 _ _ _ _⟩⟩⟩
      · skip
        refine lv_iconst (v := (-1)) hx hb dX3_call_112 (by decide) ?_
        refine lv_goto (tgt := 122) hx hb dX3_call_113 (by decide) ?_
        refine wr_iast (j := c1) hx hb hw 55 (by omega) 0 he118 rfl (vp_in_nI (by omega) (by decide)) (nI_clamp (by omega)) dX3_call_122 (fun en140 H locs hE139 hw => ?_)
        have he141 : en140 42 = .inr (4, [.int 0, .ref (ad 43), .ref (ad 44), .ref (ad 45), .ref (ad 46), .int (nI (aCn ((if (tR (pl c1) z a A).1 = 0 then (tR (pl c1) z a A).2.2.1 else A)))), .ref (ad 47), .ref (ad 48), .ref (ad 49), .ref (ad 50), .int (nI (aCn A)), .ref (ad 51), .ref (ad 52), .ref (ad 53), .ref (ad 54), .ref (ad 55), .ref (ad 56), .ref (ad 57), .long ((tR (pl c1) z a A).2.2.2), .int ((tR (pl c1) z a A).1), .int pla2]) := w_ne hE139 (by omega) he105
        have he142 : en140 43 = .inl (q.2.2.1, 328, .inl hFt29) := w_ne hE139 (by omega) he106
        have he143 : en140 44 = .inl (q.1, 8, .inl mFt29) := w_ne hE139 (by omega) he107
        have he144 : en140 45 = .inl (q.2.1, 8, .inr (.inl tFt29)) := w_ne hE139 (by omega) he108
        have he145 : en140 46 = .inl (q.2.1, 20, .inr (.inl rFt29)) := w_ne hE139 (by omega) he109
        have he146 : en140 47 = .inl (q.2.2.1, 328, .inl oht29) := w_ne hE139 (by omega) he110
        have he147 : en140 48 = .inl (q.1, 8, .inl omt29) := w_ne hE139 (by omega) he111
        have he148 : en140 49 = .inl (q.2.1, 8, .inr (.inl ott29)) := w_ne hE139 (by omega) he112
        have he149 : en140 50 = .inl (q.2.1, 20, .inr (.inl orrt29)) := w_ne hE139 (by omega) he113
        have he150 : en140 51 = .inl (q.1, 10, .inl wFt29) := w_ne hE139 (by omega) he114
        have he151 : en140 52 = .inl (q.1, 60, .inl sFt29) := w_ne hE139 (by omega) he115
        have he152 : en140 53 = .inl (q.1, 60, .inl kFt29) := w_ne hE139 (by omega) he116
        have he153 : en140 54 = .inl (q.1, 10, .inl aFt29) := w_ne hE139 (by omega) he117
        have he154 : en140 55 = .inl (q.1, 10, .inl (upd fFt29 c1 ((-1)))) := w_self hE139
        have he155 : en140 56 = .inl (q.1, 10, .inl xFt29) := w_ne hE139 (by omega) he119
        have he156 : en140 57 = .inl (q.1, 7, .inl (upd (upd (upd (upd (upd gFt29 2 (cs 2 + 1)) 3 ((tR (pl c1) z a A).1)) 4 pla2) 5 (nI c1)) 6 z)) := w_ne hE139 (by omega) he120
        refine lv_ldc2 (v := (-9223372036854775806)) hx hb hown (hts (.constantLong RX3 126 (-9223372036854775806)) (by decide +kernel)) dX3_call_123 ?_
        refine we_l hx hb hr hlocks hw ?_ dX3_call_126
        have hS := sCall_fail (a := a) hc hnr h0
        have ht := tR_told (hpok c1 hc) h0
        refine ⟨hS.1.symm, ?_, fun j hj => (w_fr hE139 (by omega)).trans ((w_fr hE103 (by omega)).trans ((w_fr hE85 (by omega)).trans ((w_fr hE67 (by omega)).trans ((w_fr hE49 (by omega)).trans ((w_fr hE31 (by omega)).trans ((hfr1 j hj).trans (w_fr hE2 (by omega))))))))⟩
        rw [hS.2.1, hS.2.2.1, hS.2.2.2 cs, ← hpl2 h0]
        rw [← hpl2 h0] at ht
        rw [if_neg h0] at he141 hRt29
        obtain ⟨k1, k2, k3, k4, k5⟩ := hPlt29 c1 hc
        have hF : pForgetI pla2 (pl c1) = ((pl c1).1, (pl c1).2.1, (pl c1).2.2.1, (pl c1).2.2.2.1, -1, (pl c1).2.2.2.2.2) := by
          unfold pForgetI
          rw [if_pos (ht.mp (Int32.not_le.mp c109))]
        rw [hF]
        exact ⟨A, _, _, _, hok, ⟨he141, ⟨_, _, _, _, he142, he143, he144, he145, hRt29⟩, ⟨_, _, _, _, he146, he147, he148, he149, hOt29⟩, ⟨_, _, _, _, _, _, he150, he151, he152, he153, he154, he155, MPl_up hPlt29 hc (fun j e => ⟨rfl, rfl, pk_un e, rfl⟩) ⟨k1, k2, pk_us, k4, k5⟩⟩, ⟨_, he156, told_fail hTt29 _ _ _ _⟩⟩⟩
    · have h0 : (tR (pl c1) z a A).1 = 0 := z01_t hr1 c35
      refine lv_aload_n hx hb dX3_call_38 rfl (lv_at hl 0 rfl) ?_
      refine wr_get (ci := 4) (C := RX3) (T := TX3) (N := 21) hx hb hts iRX3 hown hw 42 (by omega) ot29 rfl 17 (by decide) (hts (.fieldLink RX3 54 "LibraryDeskModel" "told" "[I") (by decide +kernel)) (fun _ h9 => h9) rfl dX3_call_39 ?_
      refine lv_iconst (v := 0) hx hb dX3_call_42 (by decide) ?_
      refine lv_dup2_11 hx hb dX3_call_43 rfl rfl ?_
      refine wr_iald (v := cs 0) hx hb hw 57 (by omega) 0 e1t29 rfl (vp_in_nI (n := 0) (by decide) (by decide)) (by rw [(show (0 : Int32).toNatClampNeg = 0 by decide)]; exact hTt29 0 (by decide)) dX3_call_44 ?_
      refine lv_iconst (v := 1) hx hb dX3_call_45 (by decide) ?_
      refine lv_iadd hx hb dX3_call_46 ?_
      refine lv_topi (fun x157 ex157 => ?_)
      have ex157n : x157 = cs 0 + 1 := ex157.trans (rfl)
      clear ex157
      subst ex157n
      refine wr_iast (j := 0) hx hb hw 57 (by omega) 0 e1t29 rfl (vp_in_nI (n := 0) (by decide) (by decide)) (show (0 : Int32).toNatClampNeg = 0 by decide) dX3_call_47 (fun en159 H locs hE158 hw => ?_)
      have he160 : en159 42 = .inr (4, [.int 0, .ref (ad 43), .ref (ad 44), .ref (ad 45), .ref (ad 46), .int (nI (aCn ((if (tR (pl c1) z a A).1 = 0 then (tR (pl c1) z a A).2.2.1 else A)))), .ref (ad 47), .ref (ad 48), .ref (ad 49), .ref (ad 50), .int (nI (aCn A)), .ref (ad 51), .ref (ad 52), .ref (ad 53), .ref (ad 54), .ref (ad 55), .ref (ad 56), .ref (ad 57), .long ((tR (pl c1) z a A).2.2.2), .int ((tR (pl c1) z a A).1), .int pla2]) := w_ne hE158 (by omega) ot29
      have he161 : en159 43 = .inl (q.2.2.1, 328, .inl hFt29) := w_ne hE158 (by omega) a1t29
      have he162 : en159 44 = .inl (q.1, 8, .inl mFt29) := w_ne hE158 (by omega) a2t29
      have he163 : en159 45 = .inl (q.2.1, 8, .inr (.inl tFt29)) := w_ne hE158 (by omega) a3t29
      have he164 : en159 46 = .inl (q.2.1, 20, .inr (.inl rFt29)) := w_ne hE158 (by omega) a4t29
      have he165 : en159 47 = .inl (q.2.2.1, 328, .inl oht29) := w_ne hE158 (by omega) b1t29
      have he166 : en159 48 = .inl (q.1, 8, .inl omt29) := w_ne hE158 (by omega) b2t29
      have he167 : en159 49 = .inl (q.2.1, 8, .inr (.inl ott29)) := w_ne hE158 (by omega) b3t29
      have he168 : en159 50 = .inl (q.2.1, 20, .inr (.inl orrt29)) := w_ne hE158 (by omega) b4t29
      have he169 : en159 51 = .inl (q.1, 10, .inl wFt29) := w_ne hE158 (by omega) c1t29
      have he170 : en159 52 = .inl (q.1, 60, .inl sFt29) := w_ne hE158 (by omega) c2t29
      have he171 : en159 53 = .inl (q.1, 60, .inl kFt29) := w_ne hE158 (by omega) c3t29
      have he172 : en159 54 = .inl (q.1, 10, .inl aFt29) := w_ne hE158 (by omega) c4t29
      have he173 : en159 55 = .inl (q.1, 10, .inl fFt29) := w_ne hE158 (by omega) c5t29
      have he174 : en159 56 = .inl (q.1, 10, .inl xFt29) := w_ne hE158 (by omega) c6t29
      have he175 : en159 57 = .inl (q.1, 7, .inl (upd gFt29 0 (cs 0 + 1))) := w_self hE158
      refine lv_aload_n hx hb dX3_call_48 rfl (lv_at hl 0 rfl) ?_
      refine wr_get (ci := 4) (C := RX3) (T := TX3) (N := 21) hx hb hts iRX3 hown hw 42 (by omega) he160 rfl 18 (by decide) (hts (.fieldLink RX3 94 "LibraryDeskModel" "answer" "J") (by decide +kernel)) (fun _ h9 => h9) rfl dX3_call_49 ?_
      refine we_l hx hb hr hlocks hw ?_ dX3_call_52
      have hS := sCall_ok (a := a) hc hnr h0
      refine ⟨hS.1.symm, ?_, fun j hj => (w_fr hE158 (by omega)).trans ((hfr1 j hj).trans (w_fr hE2 (by omega)))⟩
      rw [hS.2.1, hS.2.2.1, hS.2.2.2 cs]
      rw [if_pos h0] at he160 hRt29
      exact ⟨A, _, _, _, hok, ⟨he160, ⟨_, _, _, _, he161, he162, he163, he164, hRt29⟩, ⟨_, _, _, _, he165, he166, he167, he168, hOt29⟩, ⟨_, _, _, _, _, _, he169, he170, he171, he172, he173, he174, hPlt29⟩, ⟨_, he175, upd_congr7 hTt29 0 (cs 0 + 1)⟩⟩⟩
  · have href := Decidable.of_not_not (z01_f hr24 c11)
    refine lv_aload_n hx hb dX3_call_14 rfl (lv_at hl 0 rfl) ?_
    refine wr_get (ci := 4) (C := RX3) (T := TX3) (N := 21) hx hb hts iRX3 hown hw 42 (by omega) ot20 rfl 17 (by decide) (hts (.fieldLink RX3 54 "LibraryDeskModel" "told" "[I") (by decide +kernel)) (fun _ h9 => h9) rfl dX3_call_15 ?_
    refine lv_iconst (v := 1) hx hb dX3_call_18 (by decide) ?_
    refine lv_dup2_11 hx hb dX3_call_19 rfl rfl ?_
    refine wr_iald (v := cs 1) hx hb hw 57 (by omega) 0 e1t20 rfl (vp_in_nI (n := 1) (by decide) (by decide)) (by rw [(show (1 : Int32).toNatClampNeg = 1 by decide)]; exact hTt20 1 (by decide)) dX3_call_20 ?_
    refine lv_iconst (v := 1) hx hb dX3_call_21 (by decide) ?_
    refine lv_iadd hx hb dX3_call_22 ?_
    refine lv_topi (fun x176 ex176 => ?_)
    have ex176n : x176 = cs 1 + 1 := ex176.trans (rfl)
    clear ex176
    subst ex176n
    refine wr_iast (j := 1) hx hb hw 57 (by omega) 0 e1t20 rfl (vp_in_nI (n := 1) (by decide) (by decide)) (show (1 : Int32).toNatClampNeg = 1 by decide) dX3_call_23 (fun en178 H locs hE177 hw => ?_)
    have he179 : en178 42 = .inr (4, [.int 0, .ref (ad 43), .ref (ad 44), .ref (ad 45), .ref (ad 46), .int (nI (aCn A)), .ref (ad 47), .ref (ad 48), .ref (ad 49), .ref (ad 50), .int (nI (aCn O)), .ref (ad 51), .ref (ad 52), .ref (ad 53), .ref (ad 54), .ref (ad 55), .ref (ad 56), .ref (ad 57), .long an, .int wy, .int pla]) := w_ne hE177 (by omega) ot20
    have he180 : en178 43 = .inl (q.2.2.1, 328, .inl hFt20) := w_ne hE177 (by omega) a1t20
    have he181 : en178 44 = .inl (q.1, 8, .inl mFt20) := w_ne hE177 (by omega) a2t20
    have he182 : en178 45 = .inl (q.2.1, 8, .inr (.inl tFt20)) := w_ne hE177 (by omega) a3t20
    have he183 : en178 46 = .inl (q.2.1, 20, .inr (.inl rFt20)) := w_ne hE177 (by omega) a4t20
    have he184 : en178 47 = .inl (q.2.2.1, 328, .inl oht20) := w_ne hE177 (by omega) b1t20
    have he185 : en178 48 = .inl (q.1, 8, .inl omt20) := w_ne hE177 (by omega) b2t20
    have he186 : en178 49 = .inl (q.2.1, 8, .inr (.inl ott20)) := w_ne hE177 (by omega) b3t20
    have he187 : en178 50 = .inl (q.2.1, 20, .inr (.inl orrt20)) := w_ne hE177 (by omega) b4t20
    have he188 : en178 51 = .inl (q.1, 10, .inl wFt20) := w_ne hE177 (by omega) c1t20
    have he189 : en178 52 = .inl (q.1, 60, .inl sFt20) := w_ne hE177 (by omega) c2t20
    have he190 : en178 53 = .inl (q.1, 60, .inl kFt20) := w_ne hE177 (by omega) c3t20
    have he191 : en178 54 = .inl (q.1, 10, .inl aFt20) := w_ne hE177 (by omega) c4t20
    have he192 : en178 55 = .inl (q.1, 10, .inl fFt20) := w_ne hE177 (by omega) c5t20
    have he193 : en178 56 = .inl (q.1, 10, .inl xFt20) := w_ne hE177 (by omega) c6t20
    have he194 : en178 57 = .inl (q.1, 7, .inl (upd gFt20 1 (cs 1 + 1))) := w_self hE177
    refine lv_ldc2 (v := (-9223372036854775807)) hx hb hown (hts (.constantLong RX3 120 (-9223372036854775807)) (by decide +kernel)) dX3_call_24 ?_
    refine we_l hx hb hr hlocks hw ?_ dX3_call_27
    have hS := sCall_ref (a := a) href
    refine ⟨hS.1.symm, ?_, fun j hj => (w_fr hE177 (by omega)).trans (w_fr hE2 (by omega))⟩
    rw [hS.2.1, hS.2.2.1, hS.2.2.2 cs]
    exact ⟨O, _, _, _, hokO, ⟨he179, ⟨_, _, _, _, he180, he181, he182, he183, hRt20⟩, ⟨_, _, _, _, he184, he185, he186, he187, hOt20⟩, ⟨_, _, _, _, _, _, he188, he189, he190, he191, he192, he193, hPlt20⟩, ⟨_, he194, upd_congr7 hTt20 1 (cs 1 + 1)⟩⟩⟩

set_option maxHeartbeats 4000000 in
set_option maxRecDepth 100000 in
theorem kX3_again (l : Launch) (dC : Nat → ClassId) (dI : Nat → Nat → Nat) (q : ClassId × ClassId × ClassId × ClassId) (ad : Nat → Nat) (en : Nat → va_E) (n sz : Nat) (hn58 : 58 ≤ n) (th : Int32) (A : Ast) (pl : Nat → Pst) (cs : Nat → Int32) (hok : Aok A) (hpok : ∀ i, i < 10 → Pok (pl i)) (hM0 : ModAt q ad en th A pl cs) (cv z : Int32) (a : Int64) :
    Met l yX3_again wsX3_again ({ frames := 5, cells := 0, slots := 0, locals := 115 }) (wPc (dC, dI) vwCl (wT q) ad en n sz [.ref (ad 42), .int cv, .int z, .long a]) (va_Ql (fun (r : Int64) (en' : Nat → va_E) => r = sCallR cv z a A pl ∧ ModAt q ad en' 0 A pl cs ∧ ∀ j, (j < 42 ∨ 58 ≤ j) → en' j = en j) (wB (dC, dI) vwCl (wT q) ad n (wA ad n sz)) (wA ad n sz)) 0 0 (wA ad n sz) := by
  refine Met.ofW (cc := cX3_again) (maxL := 6) (ret := (some .long)) (by decide) rfl ?_
  intro p e s m args below meth c s₁ B hml hv
  obtain ⟨rfl, hsz, hP, hK, hD0, hE0⟩ := hv
  have hx := B.exec
  have hb := B.bytes
  have hr := B.returns
  have hts := atoms_spec (ws := wsX3_again) B.pre
  have hown : s.vm.findClass RX3 = some m.cls := findClass_of_methodNamed B.named
  have hlocks := B.notSynchronized
  have iRX3 : ∀ w ∈ u_ws RX3 TX3 21, w ∈ wsX3_again := by decide +kernel
  subst hsz
  have hw := wk_of hP hK hD0 hE0
  generalize wA ad n s.heap.size = AA at hw ⊢
  have hl := lv_entry ([.ref (ad 42), .int cv, .int z, .long a]) (n := 6) (Nat.le_of_ble_eq_true rfl)
  rw [lg_entry_eq]
  generalize (lg_sl ([.ref (ad 42), .int cv, .int z, .long a]) ++ List.replicate (6 - (lg_sl ([.ref (ad 42), .int cv, .int z, .long a])).length) Slot.unset).toArray = ls at hl ⊢
  have hl : lv_has ls 6 [(0, .ref (ad 42)), (1, .int cv), (2, .int z), (3, .long a)] := hl
  obtain ⟨O, an, wy, pla, hokO, hM⟩ := hM0
  have hcn := hok.2
  obtain ⟨ot1, ⟨hFt1, mFt1, tFt1, rFt1, a1t1, a2t1, a3t1, a4t1, hRt1⟩, ⟨oht1, omt1, ott1, orrt1, b1t1, b2t1, b3t1, b4t1, hOt1⟩, ⟨wFt1, sFt1, kFt1, aFt1, fFt1, xFt1, c1t1, c2t1, c3t1, c4t1, c5t1, c6t1, hPlt1⟩, ⟨gFt1, e1t1, hTt1⟩⟩ := id hM
  refine lv_aload_n hx hb dX3_again_0 rfl (lv_at hl 0 rfl) ?_
  refine lv_iconst (v := 0) hx hb dX3_again_1 (by decide) ?_
  refine wr_put (ci := 4) (v := .int 0) (ty := .int) (C := RX3) (T := TX3) (N := 21) hx hb hts iRX3 tyX3 tyX3_ok nmX3 hown hw 42 (by omega) ot1 rfl 0 (by decide) (hts (.fieldLink RX3 57 "LibraryDeskModel" "thrown" "I") (by decide +kernel)) (fun _ h9 => h9) rfl (by decide +kernel) rfl rfl (Nat.le_of_ble_eq_true rfl) dX3_again_2 (fun en3 H locs hE2 hw => ?_)
  have he4 : en3 42 = .inr (4, [.int 0, .ref (ad 43), .ref (ad 44), .ref (ad 45), .ref (ad 46), .int (nI (aCn A)), .ref (ad 47), .ref (ad 48), .ref (ad 49), .ref (ad 50), .int (nI (aCn O)), .ref (ad 51), .ref (ad 52), .ref (ad 53), .ref (ad 54), .ref (ad 55), .ref (ad 56), .ref (ad 57), .long an, .int wy, .int pla]) := w_self hE2
  have he5 : en3 43 = .inl (q.2.2.1, 328, .inl hFt1) := w_ne hE2 (by omega) a1t1
  have he6 : en3 44 = .inl (q.1, 8, .inl mFt1) := w_ne hE2 (by omega) a2t1
  have he7 : en3 45 = .inl (q.2.1, 8, .inr (.inl tFt1)) := w_ne hE2 (by omega) a3t1
  have he8 : en3 46 = .inl (q.2.1, 20, .inr (.inl rFt1)) := w_ne hE2 (by omega) a4t1
  have he9 : en3 47 = .inl (q.2.2.1, 328, .inl oht1) := w_ne hE2 (by omega) b1t1
  have he10 : en3 48 = .inl (q.1, 8, .inl omt1) := w_ne hE2 (by omega) b2t1
  have he11 : en3 49 = .inl (q.2.1, 8, .inr (.inl ott1)) := w_ne hE2 (by omega) b3t1
  have he12 : en3 50 = .inl (q.2.1, 20, .inr (.inl orrt1)) := w_ne hE2 (by omega) b4t1
  have he13 : en3 51 = .inl (q.1, 10, .inl wFt1) := w_ne hE2 (by omega) c1t1
  have he14 : en3 52 = .inl (q.1, 60, .inl sFt1) := w_ne hE2 (by omega) c2t1
  have he15 : en3 53 = .inl (q.1, 60, .inl kFt1) := w_ne hE2 (by omega) c3t1
  have he16 : en3 54 = .inl (q.1, 10, .inl aFt1) := w_ne hE2 (by omega) c4t1
  have he17 : en3 55 = .inl (q.1, 10, .inl fFt1) := w_ne hE2 (by omega) c5t1
  have he18 : en3 56 = .inl (q.1, 10, .inl xFt1) := w_ne hE2 (by omega) c6t1
  have he19 : en3 57 = .inl (q.1, 7, .inl gFt1) := w_ne hE2 (by omega) e1t1
  have hMz : ModC q ad en3 0 A O pl cs an wy pla := ⟨he4, ⟨_, _, _, _, he5, he6, he7, he8, hRt1⟩, ⟨_, _, _, _, he9, he10, he11, he12, hOt1⟩, ⟨_, _, _, _, _, _, he13, he14, he15, he16, he17, he18, hPlt1⟩, ⟨_, he19, hTt1⟩⟩
  obtain ⟨ot20, ⟨hFt20, mFt20, tFt20, rFt20, a1t20, a2t20, a3t20, a4t20, hRt20⟩, ⟨oht20, omt20, ott20, orrt20, b1t20, b2t20, b3t20, b4t20, hOt20⟩, ⟨wFt20, sFt20, kFt20, aFt20, fFt20, xFt20, c1t20, c2t20, c3t20, c4t20, c5t20, c6t20, hPlt20⟩, ⟨gFt20, e1t20, hTt20⟩⟩ := id hMz
  refine lv_aload_n hx hb dX3_again_5 rfl (lv_at hl 0 rfl) ?_
  refine lv_iload_n hx hb dX3_again_6 rfl (lv_at hl 1 rfl) ?_
  refine lv_iload_n hx hb dX3_again_7 rfl (lv_at hl 2 rfl) ?_
  refine wc_i hw (va_runV (As := [.int cv, .int z]) (rest := []) ⟨hx, hb, hml, hown, hts⟩ (kX3_may l dC dI q ad en3 n _ hn58 0 A O pl cs an wy pla hok hMz cv z) (cwV 2 hts gX3_again_X3_may rfl rfl rfl (by decide +kernel) ⟨Nat.le_of_ble_eq_true rfl, Nat.le_of_ble_eq_true rfl⟩) (wk_preV hw (by omega) ot20 rfl) rfl rfl hl.1 rfl (lv_room (Nat.le_of_ble_eq_true rfl)) dX3_again_8 ⟨Nat.le_refl _, Nat.le_refl _⟩) (fun r21 en23 H locs hp22 hw => ?_)
  obtain ⟨hr24, hn25⟩ := hp22
  rw [hn25] at hw
  clear hn25
  refine lv_if_ne (tgt := 18) hx hb dX3_again_11 (by decide) (fun c11 => ?_) (fun c11 => ?_)
  · have hnr := z01_t hr24 c11
    have hcv : okC cv := Decidable.of_not_not (fun h => hnr (Or.inl h))
    obtain ⟨c1, hc, ecv⟩ := okC_of hcv
    subst ecv
    refine lv_aload_n hx hb dX3_again_18 rfl (lv_at hl 0 rfl) ?_
    refine lv_iload_n hx hb dX3_again_19 rfl (lv_at hl 1 rfl) ?_
    refine lv_iload_n hx hb dX3_again_20 rfl (lv_at hl 2 rfl) ?_
    refine lv_lload_n hx hb dX3_again_21 rfl (lv_at hl 3 rfl) ?_
    refine wc_i hw (va_runV (As := [.int (nI c1), .int z, .long a]) (rest := []) ⟨hx, hb, hml, hown, hts⟩ (kX3_done l dC dI q ad en3 n _ hn58 0 A O pl cs an wy pla hok hMz hokO c1 hc (hpok c1 hc) z a) (cwV 3 hts gX3_again_X3_done rfl rfl rfl (by decide +kernel) ⟨Nat.le_of_ble_eq_true rfl, Nat.le_of_ble_eq_true rfl⟩) (wk_preV hw (by omega) ot20 rfl) rfl rfl hl.1 rfl (lv_room (Nat.le_of_ble_eq_true rfl)) dX3_again_22 ⟨Nat.le_refl _, Nat.le_refl _⟩) (fun r26 en28 H locs hp27 hw => ?_)
    obtain ⟨hr1, pla2, hM1, hpl2, hfr1⟩ := hp27
    obtain ⟨ot29, ⟨hFt29, mFt29, tFt29, rFt29, a1t29, a2t29, a3t29, a4t29, hRt29⟩, ⟨oht29, omt29, ott29, orrt29, b1t29, b2t29, b3t29, b4t29, hOt29⟩, ⟨wFt29, sFt29, kFt29, aFt29, fFt29, xFt29, c1t29, c2t29, c3t29, c4t29, c5t29, c6t29, hPlt29⟩, ⟨gFt29, e1t29, hTt29⟩⟩ := id hM1
    refine lv_istore (lv' := [(5, .int r26), (0, .ref (ad 42)), (1, .int (nI c1)), (2, .int z), (3, .long a)]) hx hb dX3_again_25 hl (by decide) rfl (fun ls hl => ?_)
    refine lv_aload_n hx hb dX3_again_27 rfl (lv_at hl 1 rfl) ?_
    refine wc_v hw (va_runV (As := []) (rest := []) ⟨hx, hb, hml, hown, hts⟩ (kX3_restore l dC dI q ad en28 n _ hn58 0 (if (tR (pl c1) z a A).1 = 0 then (tR (pl c1) z a A).2.2.1 else A) A pl cs (tR (pl c1) z a A).2.2.2 (tR (pl c1) z a A).1 pla2 (by split <;> first | exact Aok_tR hok | exact hok) hM1 hok) (cwV 0 hts gX3_again_X3_restore rfl rfl rfl (by decide +kernel) ⟨Nat.le_of_ble_eq_true rfl, Nat.le_of_ble_eq_true rfl⟩) (wk_preV hw (by omega) ot29 rfl) rfl rfl hl.1 rfl (lv_room (Nat.le_of_ble_eq_true rfl)) dX3_again_28 ⟨Nat.le_refl _, Nat.le_refl _⟩) (fun en32 H locs hp31 hw => ?_)
    obtain ⟨hM6, hfr6⟩ := hp31
    obtain ⟨ot33, ⟨hFt33, mFt33, tFt33, rFt33, a1t33, a2t33, a3t33, a4t33, hRt33⟩, ⟨oht33, omt33, ott33, orrt33, b1t33, b2t33, b3t33, b4t33, hOt33⟩, ⟨wFt33, sFt33, kFt33, aFt33, fFt33, xFt33, c1t33, c2t33, c3t33, c4t33, c5t33, c6t33, hPlt33⟩, ⟨gFt33, e1t33, hTt33⟩⟩ := id hM6
    refine lv_iload hx hb dX3_again_31 (lv_at hl 0 rfl) ?_
    refine lv_if_eq (tgt := 43) hx hb dX3_again_33 (by decide) (fun c33 => ?_) (fun c33 => ?_)
    · have h0 : ¬ (tR (pl c1) z a A).1 = 0 := z01_f hr1 c33
      refine lv_ldc2 (v := (-9223372036854775806)) hx hb hown (hts (.constantLong RX3 126 (-9223372036854775806)) (by decide +kernel)) dX3_again_43 ?_
      refine we_l hx hb hr hlocks hw ?_ dX3_again_46
      have hS := sCall_fail (a := a) hc hnr h0
      exact ⟨hS.1.symm, ⟨A, _, _, _, hok, hM6⟩, fun j hj => (hfr6 j hj).trans ((hfr1 j hj).trans (w_fr hE2 (by omega)))⟩
    · have h0 : (tR (pl c1) z a A).1 = 0 := z01_t hr1 c33
      refine lv_aload_n hx hb dX3_again_36 rfl (lv_at hl 1 rfl) ?_
      refine wr_get (ci := 4) (C := RX3) (T := TX3) (N := 21) hx hb hts iRX3 hown hw 42 (by omega) ot33 rfl 18 (by decide) (hts (.fieldLink RX3 94 "LibraryDeskModel" "answer" "J") (by decide +kernel)) (fun _ h9 => h9) rfl dX3_again_37 ?_
      refine lv_goto (tgt := 46) hx hb dX3_again_40 (by decide) ?_
      refine we_l hx hb hr hlocks hw ?_ dX3_again_46
      have hS := sCall_ok (a := a) hc hnr h0
      exact ⟨hS.1.symm, ⟨A, _, _, _, hok, hM6⟩, fun j hj => (hfr6 j hj).trans ((hfr1 j hj).trans (w_fr hE2 (by omega)))⟩
  · have href := Decidable.of_not_not (z01_f hr24 c11)
    refine lv_ldc2 (v := (-9223372036854775807)) hx hb hown (hts (.constantLong RX3 120 (-9223372036854775807)) (by decide +kernel)) dX3_again_14 ?_
    refine we_l hx hb hr hlocks hw ?_ dX3_again_17
    have hS := sCall_ref (a := a) href
    exact ⟨hS.1.symm, ⟨O, an, wy, pla, hokO, hMz⟩, fun j hj => w_fr hE2 (by omega)⟩
end
